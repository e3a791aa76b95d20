theorem dX8_arise_0 : decode cX8_arise 0 = .ok (.aload_n 0, 1) := by decide +kernel
theorem dX8_arise_1 : decode cX8_arise 1 = .ok (.iload_n 1, 1) := by decide +kernel
theorem dX8_arise_2 : decode cX8_arise 2 = .ok (.putfield 66, 3) := by decide +kernel
theorem dX8_arise_5 : decode cX8_arise 5 = .ok (.aload_n 0, 1) := by decide +kernel
theorem dX8_arise_6 : decode cX8_arise 6 = .ok (.iload_n 2, 1) := by decide +kernel
theorem dX8_arise_7 : decode cX8_arise 7 = .ok (.putfield 69, 3) := by decide +kernel
theorem dX8_arise_10 : decode cX8_arise 10 = .ok (.aload_n 0, 1) := by decide +kernel
theorem dX8_arise_11 : decode cX8_arise 11 = .ok (.iconst 1, 1) := by decide +kernel
theorem dX8_arise_12 : decode cX8_arise 12 = .ok (.putfield 72, 3) := by decide +kernel
theorem dX8_arise_15 : decode cX8_arise 15 = .ok (.aload_n 0, 1) := by decide +kernel
theorem dX8_arise_16 : decode cX8_arise 16 = .ok (.iconst 0, 1) := by decide +kernel
theorem dX8_arise_17 : decode cX8_arise 17 = .ok (.putfield 76, 3) := by decide +kernel
theorem dX8_arise_20 : decode cX8_arise 20 = .ok (.aload_n 0, 1) := by decide +kernel
theorem dX8_arise_21 : decode cX8_arise 21 = .ok (.dup, 1) := by decide +kernel
theorem dX8_arise_22 : decode cX8_arise 22 = .ok (.getfield 82, 3) := by decide +kernel
theorem dX8_arise_25 : decode cX8_arise 25 = .ok (.iconst 1, 1) := by decide +kernel
theorem dX8_arise_26 : decode cX8_arise 26 = .ok (.iadd, 1) := by decide +kernel
theorem dX8_arise_27 : decode cX8_arise 27 = .ok (.putfield 82, 3) := by decide +kernel
theorem dX8_arise_30 : decode cX8_arise 30 = .ok (.aload_n 0, 1) := by decide +kernel
theorem dX8_arise_31 : decode cX8_arise 31 = .ok (.aload_n 0, 1) := by decide +kernel
theorem dX8_arise_32 : decode cX8_arise 32 = .ok (.getfield 96, 3) := by decide +kernel
theorem dX8_arise_35 : decode cX8_arise 35 = .ok (.putfield 79, 3) := by decide +kernel
theorem dX8_arise_38 : decode cX8_arise 38 = .ok (.iconst 0, 1) := by decide +kernel
theorem dX8_arise_39 : decode cX8_arise 39 = .ok (.istore_n 3, 1) := by decide +kernel
theorem dX8_arise_40 : decode cX8_arise 40 = .ok (.iload_n 3, 1) := by decide +kernel
theorem dX8_arise_41 : decode cX8_arise 41 = .ok (.aload_n 0, 1) := by decide +kernel
theorem dX8_arise_42 : decode cX8_arise 42 = .ok (.getfield 96, 3) := by decide +kernel
theorem dX8_arise_45 : decode cX8_arise 45 = .ok (.if_icmp .ge 33, 3) := by decide +kernel
theorem dX8_arise_48 : decode cX8_arise 48 = .ok (.aload_n 0, 1) := by decide +kernel
theorem dX8_arise_49 : decode cX8_arise 49 = .ok (.getfield 34, 3) := by decide +kernel
theorem dX8_arise_52 : decode cX8_arise 52 = .ok (.iload_n 3, 1) := by decide +kernel
theorem dX8_arise_53 : decode cX8_arise 53 = .ok (.aload_n 0, 1) := by decide +kernel
theorem dX8_arise_54 : decode cX8_arise 54 = .ok (.getfield 19, 3) := by decide +kernel
theorem dX8_arise_57 : decode cX8_arise 57 = .ok (.iload_n 3, 1) := by decide +kernel
theorem dX8_arise_58 : decode cX8_arise 58 = .ok (.iaload, 1) := by decide +kernel
theorem dX8_arise_59 : decode cX8_arise 59 = .ok (.iastore, 1) := by decide +kernel
theorem dX8_arise_60 : decode cX8_arise 60 = .ok (.aload_n 0, 1) := by decide +kernel
theorem dX8_arise_61 : decode cX8_arise 61 = .ok (.getfield 37, 3) := by decide +kernel
theorem dX8_arise_64 : decode cX8_arise 64 = .ok (.iload_n 3, 1) := by decide +kernel
theorem dX8_arise_65 : decode cX8_arise 65 = .ok (.aload_n 0, 1) := by decide +kernel
theorem dX8_arise_66 : decode cX8_arise 66 = .ok (.getfield 22, 3) := by decide +kernel
theorem dX8_arise_69 : decode cX8_arise 69 = .ok (.iload_n 3, 1) := by decide +kernel
theorem dX8_arise_70 : decode cX8_arise 70 = .ok (.iaload, 1) := by decide +kernel
theorem dX8_arise_71 : decode cX8_arise 71 = .ok (.iastore, 1) := by decide +kernel
theorem dX8_arise_72 : decode cX8_arise 72 = .ok (.iinc 3 1, 3) := by decide +kernel
theorem dX8_arise_75 : decode cX8_arise 75 = .ok (.goto (-35), 3) := by decide +kernel
theorem dX8_arise_78 : decode cX8_arise 78 = .ok (.aload_n 0, 1) := by decide +kernel
theorem dX8_arise_79 : decode cX8_arise 79 = .ok (.getfield 103, 3) := by decide +kernel
theorem dX8_arise_82 : decode cX8_arise 82 = .ok (.iconst 1, 1) := by decide +kernel
theorem dX8_arise_83 : decode cX8_arise 83 = .ok (.isub, 1) := by decide +kernel
theorem dX8_arise_84 : decode cX8_arise 84 = .ok (.istore_n 3, 1) := by decide +kernel
theorem dX8_arise_85 : decode cX8_arise 85 = .ok (.iload_n 3, 1) := by decide +kernel
theorem dX8_arise_86 : decode cX8_arise 86 = .ok (.ifCond .lt 29, 3) := by decide +kernel
theorem dX8_arise_89 : decode cX8_arise 89 = .ok (.aload_n 0, 1) := by decide +kernel
theorem dX8_arise_90 : decode cX8_arise 90 = .ok (.getfield 40, 3) := by decide +kernel
theorem dX8_arise_93 : decode cX8_arise 93 = .ok (.iload_n 3, 1) := by decide +kernel
theorem dX8_arise_94 : decode cX8_arise 94 = .ok (.iaload, 1) := by decide +kernel
theorem dX8_arise_95 : decode cX8_arise 95 = .ok (.iconst 4, 1) := by decide +kernel
theorem dX8_arise_96 : decode cX8_arise 96 = .ok (.if_icmp .eq 19, 3) := by decide +kernel
theorem dX8_arise_99 : decode cX8_arise 99 = .ok (.aload_n 0, 1) := by decide +kernel
theorem dX8_arise_100 : decode cX8_arise 100 = .ok (.getfield 40, 3) := by decide +kernel
theorem dX8_arise_103 : decode cX8_arise 103 = .ok (.iload_n 3, 1) := by decide +kernel
theorem dX8_arise_104 : decode cX8_arise 104 = .ok (.iaload, 1) := by decide +kernel
theorem dX8_arise_105 : decode cX8_arise 105 = .ok (.iconst 5, 1) := by decide +kernel
theorem dX8_arise_106 : decode cX8_arise 106 = .ok (.if_icmp .eq 9, 3) := by decide +kernel
theorem dX8_arise_109 : decode cX8_arise 109 = .ok (.iinc 3 (-1), 3) := by decide +kernel
theorem dX8_arise_112 : decode cX8_arise 112 = .ok (.goto (-27), 3) := by decide +kernel
theorem dX8_arise_115 : decode cX8_arise 115 = .ok (.iload_n 3, 1) := by decide +kernel
theorem dX8_arise_116 : decode cX8_arise 116 = .ok (.ifCond .lt 31, 3) := by decide +kernel
theorem dX8_arise_119 : decode cX8_arise 119 = .ok (.aload_n 0, 1) := by decide +kernel
theorem dX8_arise_120 : decode cX8_arise 120 = .ok (.getfield 40, 3) := by decide +kernel
theorem dX8_arise_123 : decode cX8_arise 123 = .ok (.iload_n 3, 1) := by decide +kernel
theorem dX8_arise_124 : decode cX8_arise 124 = .ok (.iaload, 1) := by decide +kernel
theorem dX8_arise_125 : decode cX8_arise 125 = .ok (.iconst 5, 1) := by decide +kernel
theorem dX8_arise_126 : decode cX8_arise 126 = .ok (.if_icmp .ne 21, 3) := by decide +kernel
theorem dX8_arise_129 : decode cX8_arise 129 = .ok (.aload_n 0, 1) := by decide +kernel
theorem dX8_arise_130 : decode cX8_arise 130 = .ok (.aload_n 0, 1) := by decide +kernel
theorem dX8_arise_131 : decode cX8_arise 131 = .ok (.getfield 43, 3) := by decide +kernel
theorem dX8_arise_134 : decode cX8_arise 134 = .ok (.iload_n 3, 1) := by decide +kernel
theorem dX8_arise_135 : decode cX8_arise 135 = .ok (.iaload, 1) := by decide +kernel
theorem dX8_arise_136 : decode cX8_arise 136 = .ok (.putfield 76, 3) := by decide +kernel
theorem dX8_arise_139 : decode cX8_arise 139 = .ok (.aload_n 0, 1) := by decide +kernel
theorem dX8_arise_140 : decode cX8_arise 140 = .ok (.iload_n 1, 1) := by decide +kernel
theorem dX8_arise_141 : decode cX8_arise 141 = .ok (.invokevirtual 119, 3) := by decide +kernel
theorem dX8_arise_144 : decode cX8_arise 144 = .ok (.goto 56, 3) := by decide +kernel
theorem dX8_arise_147 : decode cX8_arise 147 = .ok (.aload_n 0, 1) := by decide +kernel
theorem dX8_arise_148 : decode cX8_arise 148 = .ok (.getfield 31, 3) := by decide +kernel
theorem dX8_arise_151 : decode cX8_arise 151 = .ok (.iload_n 1, 1) := by decide +kernel
theorem dX8_arise_152 : decode cX8_arise 152 = .ok (.iaload, 1) := by decide +kernel
theorem dX8_arise_153 : decode cX8_arise 153 = .ok (.ifCond .lt 42, 3) := by decide +kernel
theorem dX8_arise_156 : decode cX8_arise 156 = .ok (.aload_n 0, 1) := by decide +kernel
theorem dX8_arise_157 : decode cX8_arise 157 = .ok (.getfield 103, 3) := by decide +kernel
theorem dX8_arise_160 : decode cX8_arise 160 = .ok (.bipush 29, 2) := by decide +kernel
theorem dX8_arise_162 : decode cX8_arise 162 = .ok (.if_icmp .ge 33, 3) := by decide +kernel
theorem dX8_arise_165 : decode cX8_arise 165 = .ok (.aload_n 0, 1) := by decide +kernel
theorem dX8_arise_166 : decode cX8_arise 166 = .ok (.iconst 5, 1) := by decide +kernel
theorem dX8_arise_167 : decode cX8_arise 167 = .ok (.iload_n 1, 1) := by decide +kernel
theorem dX8_arise_168 : decode cX8_arise 168 = .ok (.invokevirtual 113, 3) := by decide +kernel
theorem dX8_arise_171 : decode cX8_arise 171 = .ok (.aload_n 0, 1) := by decide +kernel
theorem dX8_arise_172 : decode cX8_arise 172 = .ok (.iconst 0, 1) := by decide +kernel
theorem dX8_arise_173 : decode cX8_arise 173 = .ok (.aload_n 0, 1) := by decide +kernel
theorem dX8_arise_174 : decode cX8_arise 174 = .ok (.getfield 31, 3) := by decide +kernel
theorem dX8_arise_177 : decode cX8_arise 177 = .ok (.iload_n 1, 1) := by decide +kernel
theorem dX8_arise_178 : decode cX8_arise 178 = .ok (.iaload, 1) := by decide +kernel
theorem dX8_arise_179 : decode cX8_arise 179 = .ok (.invokevirtual 113, 3) := by decide +kernel
theorem dX8_arise_182 : decode cX8_arise 182 = .ok (.aload_n 0, 1) := by decide +kernel
theorem dX8_arise_183 : decode cX8_arise 183 = .ok (.dup, 1) := by decide +kernel
theorem dX8_arise_184 : decode cX8_arise 184 = .ok (.getfield 123, 3) := by decide +kernel
theorem dX8_arise_187 : decode cX8_arise 187 = .ok (.iconst 1, 1) := by decide +kernel
theorem dX8_arise_188 : decode cX8_arise 188 = .ok (.iadd, 1) := by decide +kernel
theorem dX8_arise_189 : decode cX8_arise 189 = .ok (.putfield 123, 3) := by decide +kernel
theorem dX8_arise_192 : decode cX8_arise 192 = .ok (.goto 8, 3) := by decide +kernel
theorem dX8_arise_195 : decode cX8_arise 195 = .ok (.aload_n 0, 1) := by decide +kernel
theorem dX8_arise_196 : decode cX8_arise 196 = .ok (.iload_n 1, 1) := by decide +kernel
theorem dX8_arise_197 : decode cX8_arise 197 = .ok (.invokevirtual 119, 3) := by decide +kernel
theorem dX8_arise_200 : decode cX8_arise 200 = .ok (.return_, 1) := by decide +kernel
theorem dX8_turn_0 : decode cX8_turn 0 = .ok (.aload_n 0, 1) := by decide +kernel
theorem dX8_turn_1 : decode cX8_turn 1 = .ok (.getfield 40, 3) := by decide +kernel
theorem dX8_turn_4 : decode cX8_turn 4 = .ok (.iload_n 1, 1) := by decide +kernel
theorem dX8_turn_5 : decode cX8_turn 5 = .ok (.iaload, 1) := by decide +kernel
theorem dX8_turn_6 : decode cX8_turn 6 = .ok (.iconst 3, 1) := by decide +kernel
theorem dX8_turn_7 : decode cX8_turn 7 = .ok (.if_icmp .eq 80, 3) := by decide +kernel
theorem dX8_turn_10 : decode cX8_turn 10 = .ok (.aload_n 0, 1) := by decide +kernel
theorem dX8_turn_11 : decode cX8_turn 11 = .ok (.getfield 40, 3) := by decide +kernel
theorem dX8_turn_14 : decode cX8_turn 14 = .ok (.iload_n 1, 1) := by decide +kernel
theorem dX8_turn_15 : decode cX8_turn 15 = .ok (.iaload, 1) := by decide +kernel
theorem dX8_turn_16 : decode cX8_turn 16 = .ok (.iconst 1, 1) := by decide +kernel
theorem dX8_turn_17 : decode cX8_turn 17 = .ok (.if_icmp .ne 14, 3) := by decide +kernel
theorem dX8_turn_20 : decode cX8_turn 20 = .ok (.aload_n 0, 1) := by decide +kernel
theorem dX8_turn_21 : decode cX8_turn 21 = .ok (.getfield 49, 3) := by decide +kernel
theorem dX8_turn_24 : decode cX8_turn 24 = .ok (.iload_n 1, 1) := by decide +kernel
theorem dX8_turn_25 : decode cX8_turn 25 = .ok (.laload, 1) := by decide +kernel
theorem dX8_turn_26 : decode cX8_turn 26 = .ok (.lconst 0, 1) := by decide +kernel
theorem dX8_turn_27 : decode cX8_turn 27 = .ok (.lcmp, 1) := by decide +kernel
theorem dX8_turn_28 : decode cX8_turn 28 = .ok (.ifCond .gt 59, 3) := by decide +kernel
theorem dX8_turn_31 : decode cX8_turn 31 = .ok (.aload_n 0, 1) := by decide +kernel
theorem dX8_turn_32 : decode cX8_turn 32 = .ok (.getfield 40, 3) := by decide +kernel
theorem dX8_turn_35 : decode cX8_turn 35 = .ok (.iload_n 1, 1) := by decide +kernel
theorem dX8_turn_36 : decode cX8_turn 36 = .ok (.iaload, 1) := by decide +kernel
theorem dX8_turn_37 : decode cX8_turn 37 = .ok (.iconst 2, 1) := by decide +kernel
theorem dX8_turn_38 : decode cX8_turn 38 = .ok (.if_icmp .ne 53, 3) := by decide +kernel
theorem dX8_turn_41 : decode cX8_turn 41 = .ok (.aload_n 0, 1) := by decide +kernel
theorem dX8_turn_42 : decode cX8_turn 42 = .ok (.getfield 53, 3) := by decide +kernel
theorem dX8_turn_45 : decode cX8_turn 45 = .ok (.iload_n 1, 1) := by decide +kernel
theorem dX8_turn_46 : decode cX8_turn 46 = .ok (.iaload, 1) := by decide +kernel
theorem dX8_turn_47 : decode cX8_turn 47 = .ok (.ifCond .le 23, 3) := by decide +kernel
theorem dX8_turn_50 : decode cX8_turn 50 = .ok (.aload_n 0, 1) := by decide +kernel
theorem dX8_turn_51 : decode cX8_turn 51 = .ok (.getfield 49, 3) := by decide +kernel
theorem dX8_turn_54 : decode cX8_turn 54 = .ok (.iload_n 1, 1) := by decide +kernel
theorem dX8_turn_55 : decode cX8_turn 55 = .ok (.laload, 1) := by decide +kernel
theorem dX8_turn_56 : decode cX8_turn 56 = .ok (.aload_n 0, 1) := by decide +kernel
theorem dX8_turn_57 : decode cX8_turn 57 = .ok (.getfield 56, 3) := by decide +kernel
theorem dX8_turn_60 : decode cX8_turn 60 = .ok (.iload_n 1, 1) := by decide +kernel
theorem dX8_turn_61 : decode cX8_turn 61 = .ok (.iaload, 1) := by decide +kernel
theorem dX8_turn_62 : decode cX8_turn 62 = .ok (.i2l, 1) := by decide +kernel
theorem dX8_turn_63 : decode cX8_turn 63 = .ok (.lcmp, 1) := by decide +kernel
theorem dX8_turn_64 : decode cX8_turn 64 = .ok (.ifCond .gt 27, 3) := by decide +kernel
theorem dX8_turn_67 : decode cX8_turn 67 = .ok (.goto 20, 3) := by decide +kernel
theorem dX8_turn_70 : decode cX8_turn 70 = .ok (.aload_n 0, 1) := by decide +kernel
theorem dX8_turn_71 : decode cX8_turn 71 = .ok (.getfield 49, 3) := by decide +kernel
theorem dX8_turn_74 : decode cX8_turn 74 = .ok (.iload_n 1, 1) := by decide +kernel
theorem dX8_turn_75 : decode cX8_turn 75 = .ok (.laload, 1) := by decide +kernel
theorem dX8_turn_76 : decode cX8_turn 76 = .ok (.aload_n 0, 1) := by decide +kernel
theorem dX8_turn_77 : decode cX8_turn 77 = .ok (.getfield 56, 3) := by decide +kernel
theorem dX8_turn_80 : decode cX8_turn 80 = .ok (.iload_n 1, 1) := by decide +kernel
theorem dX8_turn_81 : decode cX8_turn 81 = .ok (.iaload, 1) := by decide +kernel
theorem dX8_turn_82 : decode cX8_turn 82 = .ok (.i2l, 1) := by decide +kernel
theorem dX8_turn_83 : decode cX8_turn 83 = .ok (.lcmp, 1) := by decide +kernel
theorem dX8_turn_84 : decode cX8_turn 84 = .ok (.ifCond .lt 7, 3) := by decide +kernel
theorem dX8_turn_87 : decode cX8_turn 87 = .ok (.iconst 1, 1) := by decide +kernel
theorem dX8_turn_88 : decode cX8_turn 88 = .ok (.goto 4, 3) := by decide +kernel
theorem dX8_turn_91 : decode cX8_turn 91 = .ok (.iconst 0, 1) := by decide +kernel
theorem dX8_turn_92 : decode cX8_turn 92 = .ok (.istore_n 2, 1) := by decide +kernel
theorem dX8_turn_93 : decode cX8_turn 93 = .ok (.aload_n 0, 1) := by decide +kernel
theorem dX8_turn_94 : decode cX8_turn 94 = .ok (.getfield 40, 3) := by decide +kernel
theorem dX8_turn_97 : decode cX8_turn 97 = .ok (.iload_n 1, 1) := by decide +kernel
theorem dX8_turn_98 : decode cX8_turn 98 = .ok (.iaload, 1) := by decide +kernel
theorem dX8_turn_99 : decode cX8_turn 99 = .ok (.iconst 2, 1) := by decide +kernel
theorem dX8_turn_100 : decode cX8_turn 100 = .ok (.if_icmp .ne 7, 3) := by decide +kernel
theorem dX8_turn_103 : decode cX8_turn 103 = .ok (.iconst 1, 1) := by decide +kernel
theorem dX8_turn_104 : decode cX8_turn 104 = .ok (.goto 4, 3) := by decide +kernel
theorem dX8_turn_107 : decode cX8_turn 107 = .ok (.iconst 0, 1) := by decide +kernel
theorem dX8_turn_108 : decode cX8_turn 108 = .ok (.istore_n 3, 1) := by decide +kernel
theorem dX8_turn_109 : decode cX8_turn 109 = .ok (.iload_n 2, 1) := by decide +kernel
theorem dX8_turn_110 : decode cX8_turn 110 = .ok (.ifCond .ne 16, 3) := by decide +kernel
theorem dX8_turn_113 : decode cX8_turn 113 = .ok (.aload_n 0, 1) := by decide +kernel
theorem dX8_turn_114 : decode cX8_turn 114 = .ok (.dup, 1) := by decide +kernel
theorem dX8_turn_115 : decode cX8_turn 115 = .ok (.getfield 103, 3) := by decide +kernel
theorem dX8_turn_118 : decode cX8_turn 118 = .ok (.iconst 1, 1) := by decide +kernel
theorem dX8_turn_119 : decode cX8_turn 119 = .ok (.isub, 1) := by decide +kernel
theorem dX8_turn_120 : decode cX8_turn 120 = .ok (.putfield 103, 3) := by decide +kernel
theorem dX8_turn_123 : decode cX8_turn 123 = .ok (.goto 120, 3) := by decide +kernel
theorem dX8_turn_126 : decode cX8_turn 126 = .ok (.aload_n 0, 1) := by decide +kernel
theorem dX8_turn_127 : decode cX8_turn 127 = .ok (.getfield 103, 3) := by decide +kernel
theorem dX8_turn_130 : decode cX8_turn 130 = .ok (.bipush 30, 2) := by decide +kernel
theorem dX8_turn_132 : decode cX8_turn 132 = .ok (.if_icmp .eq 16, 3) := by decide +kernel
theorem dX8_turn_135 : decode cX8_turn 135 = .ok (.iload_n 3, 1) := by decide +kernel
theorem dX8_turn_136 : decode cX8_turn 136 = .ok (.ifCond .eq 50, 3) := by decide +kernel
theorem dX8_turn_139 : decode cX8_turn 139 = .ok (.aload_n 0, 1) := by decide +kernel
theorem dX8_turn_140 : decode cX8_turn 140 = .ok (.getfield 96, 3) := by decide +kernel
theorem dX8_turn_143 : decode cX8_turn 143 = .ok (.bipush 60, 2) := by decide +kernel
theorem dX8_turn_145 : decode cX8_turn 145 = .ok (.if_icmp .ne 41, 3) := by decide +kernel
theorem dX8_turn_148 : decode cX8_turn 148 = .ok (.aload_n 0, 1) := by decide +kernel
theorem dX8_turn_149 : decode cX8_turn 149 = .ok (.getfield 103, 3) := by decide +kernel
theorem dX8_turn_152 : decode cX8_turn 152 = .ok (.bipush 30, 2) := by decide +kernel
theorem dX8_turn_154 : decode cX8_turn 154 = .ok (.if_icmp .ne 8, 3) := by decide +kernel
theorem dX8_turn_157 : decode cX8_turn 157 = .ok (.bipush 8, 2) := by decide +kernel
theorem dX8_turn_159 : decode cX8_turn 159 = .ok (.goto 4, 3) := by decide +kernel
theorem dX8_turn_162 : decode cX8_turn 162 = .ok (.iconst 2, 1) := by decide +kernel
theorem dX8_turn_163 : decode cX8_turn 163 = .ok (.istore 4, 2) := by decide +kernel
theorem dX8_turn_165 : decode cX8_turn 165 = .ok (.aload_n 0, 1) := by decide +kernel
theorem dX8_turn_166 : decode cX8_turn 166 = .ok (.dup, 1) := by decide +kernel
theorem dX8_turn_167 : decode cX8_turn 167 = .ok (.getfield 103, 3) := by decide +kernel
theorem dX8_turn_170 : decode cX8_turn 170 = .ok (.iconst 1, 1) := by decide +kernel
theorem dX8_turn_171 : decode cX8_turn 171 = .ok (.isub, 1) := by decide +kernel
theorem dX8_turn_172 : decode cX8_turn 172 = .ok (.putfield 103, 3) := by decide +kernel
theorem dX8_turn_175 : decode cX8_turn 175 = .ok (.aload_n 0, 1) := by decide +kernel
theorem dX8_turn_176 : decode cX8_turn 176 = .ok (.iload 4, 2) := by decide +kernel
theorem dX8_turn_178 : decode cX8_turn 178 = .ok (.bipush (-2), 2) := by decide +kernel
theorem dX8_turn_180 : decode cX8_turn 180 = .ok (.invokevirtual 135, 3) := by decide +kernel
theorem dX8_turn_183 : decode cX8_turn 183 = .ok (.goto 60, 3) := by decide +kernel
theorem dX8_turn_186 : decode cX8_turn 186 = .ok (.iload_n 3, 1) := by decide +kernel
theorem dX8_turn_187 : decode cX8_turn 187 = .ok (.ifCond .eq 15, 3) := by decide +kernel
theorem dX8_turn_190 : decode cX8_turn 190 = .ok (.aload_n 0, 1) := by decide +kernel
theorem dX8_turn_191 : decode cX8_turn 191 = .ok (.iconst 0, 1) := by decide +kernel
theorem dX8_turn_192 : decode cX8_turn 192 = .ok (.aload_n 0, 1) := by decide +kernel
theorem dX8_turn_193 : decode cX8_turn 193 = .ok (.getfield 49, 3) := by decide +kernel
theorem dX8_turn_196 : decode cX8_turn 196 = .ok (.iload_n 1, 1) := by decide +kernel
theorem dX8_turn_197 : decode cX8_turn 197 = .ok (.laload, 1) := by decide +kernel
theorem dX8_turn_198 : decode cX8_turn 198 = .ok (.l2i, 1) := by decide +kernel
theorem dX8_turn_199 : decode cX8_turn 199 = .ok (.invokevirtual 99, 3) := by decide +kernel
theorem dX8_turn_202 : decode cX8_turn 202 = .ok (.aload_n 0, 1) := by decide +kernel
theorem dX8_turn_203 : decode cX8_turn 203 = .ok (.getfield 49, 3) := by decide +kernel
theorem dX8_turn_206 : decode cX8_turn 206 = .ok (.iload_n 1, 1) := by decide +kernel
theorem dX8_turn_207 : decode cX8_turn 207 = .ok (.aload_n 0, 1) := by decide +kernel
theorem dX8_turn_208 : decode cX8_turn 208 = .ok (.getfield 49, 3) := by decide +kernel
theorem dX8_turn_211 : decode cX8_turn 211 = .ok (.iload_n 1, 1) := by decide +kernel
theorem dX8_turn_212 : decode cX8_turn 212 = .ok (.laload, 1) := by decide +kernel
theorem dX8_turn_213 : decode cX8_turn 213 = .ok (.iload_n 3, 1) := by decide +kernel
theorem dX8_turn_214 : decode cX8_turn 214 = .ok (.ifCond .eq 13, 3) := by decide +kernel
theorem dX8_turn_217 : decode cX8_turn 217 = .ok (.aload_n 0, 1) := by decide +kernel
theorem dX8_turn_218 : decode cX8_turn 218 = .ok (.getfield 53, 3) := by decide +kernel
theorem dX8_turn_221 : decode cX8_turn 221 = .ok (.iload_n 1, 1) := by decide +kernel
theorem dX8_turn_222 : decode cX8_turn 222 = .ok (.iaload, 1) := by decide +kernel
theorem dX8_turn_223 : decode cX8_turn 223 = .ok (.i2l, 1) := by decide +kernel
theorem dX8_turn_224 : decode cX8_turn 224 = .ok (.goto 6, 3) := by decide +kernel
theorem dX8_turn_227 : decode cX8_turn 227 = .ok (.ldc2_w 148, 3) := by decide +kernel
theorem dX8_turn_230 : decode cX8_turn 230 = .ok (.ladd, 1) := by decide +kernel
theorem dX8_turn_231 : decode cX8_turn 231 = .ok (.lastore, 1) := by decide +kernel
theorem dX8_turn_232 : decode cX8_turn 232 = .ok (.aload_n 0, 1) := by decide +kernel
theorem dX8_turn_233 : decode cX8_turn 233 = .ok (.iconst 0, 1) := by decide +kernel
theorem dX8_turn_234 : decode cX8_turn 234 = .ok (.aload_n 0, 1) := by decide +kernel
theorem dX8_turn_235 : decode cX8_turn 235 = .ok (.getfield 43, 3) := by decide +kernel
theorem dX8_turn_238 : decode cX8_turn 238 = .ok (.iload_n 1, 1) := by decide +kernel
theorem dX8_turn_239 : decode cX8_turn 239 = .ok (.iaload, 1) := by decide +kernel
theorem dX8_turn_240 : decode cX8_turn 240 = .ok (.invokevirtual 113, 3) := by decide +kernel
theorem dX8_turn_243 : decode cX8_turn 243 = .ok (.return_, 1) := by decide +kernel
theorem dX8_isSpent_0 : decode cX8_isSpent 0 = .ok (.aload_n 0, 1) := by decide +kernel
theorem dX8_isSpent_1 : decode cX8_isSpent 1 = .ok (.getfield 103, 3) := by decide +kernel
theorem dX8_isSpent_4 : decode cX8_isSpent 4 = .ok (.ifCond .le 51, 3) := by decide +kernel
theorem dX8_isSpent_7 : decode cX8_isSpent 7 = .ok (.aload_n 0, 1) := by decide +kernel
theorem dX8_isSpent_8 : decode cX8_isSpent 8 = .ok (.getfield 40, 3) := by decide +kernel
theorem dX8_isSpent_11 : decode cX8_isSpent 11 = .ok (.aload_n 0, 1) := by decide +kernel
theorem dX8_isSpent_12 : decode cX8_isSpent 12 = .ok (.getfield 103, 3) := by decide +kernel
theorem dX8_isSpent_15 : decode cX8_isSpent 15 = .ok (.iconst 1, 1) := by decide +kernel
theorem dX8_isSpent_16 : decode cX8_isSpent 16 = .ok (.isub, 1) := by decide +kernel
theorem dX8_isSpent_17 : decode cX8_isSpent 17 = .ok (.iaload, 1) := by decide +kernel
theorem dX8_isSpent_18 : decode cX8_isSpent 18 = .ok (.ifCond .ne 37, 3) := by decide +kernel
theorem dX8_isSpent_21 : decode cX8_isSpent 21 = .ok (.aload_n 0, 1) := by decide +kernel
theorem dX8_isSpent_22 : decode cX8_isSpent 22 = .ok (.getfield 46, 3) := by decide +kernel
theorem dX8_isSpent_25 : decode cX8_isSpent 25 = .ok (.aload_n 0, 1) := by decide +kernel
theorem dX8_isSpent_26 : decode cX8_isSpent 26 = .ok (.getfield 103, 3) := by decide +kernel
theorem dX8_isSpent_29 : decode cX8_isSpent 29 = .ok (.iconst 1, 1) := by decide +kernel
theorem dX8_isSpent_30 : decode cX8_isSpent 30 = .ok (.isub, 1) := by decide +kernel
theorem dX8_isSpent_31 : decode cX8_isSpent 31 = .ok (.iaload, 1) := by decide +kernel
theorem dX8_isSpent_32 : decode cX8_isSpent 32 = .ok (.aload_n 0, 1) := by decide +kernel
theorem dX8_isSpent_33 : decode cX8_isSpent 33 = .ok (.getfield 16, 3) := by decide +kernel
theorem dX8_isSpent_36 : decode cX8_isSpent 36 = .ok (.aload_n 0, 1) := by decide +kernel
theorem dX8_isSpent_37 : decode cX8_isSpent 37 = .ok (.getfield 43, 3) := by decide +kernel
theorem dX8_isSpent_40 : decode cX8_isSpent 40 = .ok (.aload_n 0, 1) := by decide +kernel
theorem dX8_isSpent_41 : decode cX8_isSpent 41 = .ok (.getfield 103, 3) := by decide +kernel
theorem dX8_isSpent_44 : decode cX8_isSpent 44 = .ok (.iconst 1, 1) := by decide +kernel
theorem dX8_isSpent_45 : decode cX8_isSpent 45 = .ok (.isub, 1) := by decide +kernel
theorem dX8_isSpent_46 : decode cX8_isSpent 46 = .ok (.iaload, 1) := by decide +kernel
theorem dX8_isSpent_47 : decode cX8_isSpent 47 = .ok (.iaload, 1) := by decide +kernel
theorem dX8_isSpent_48 : decode cX8_isSpent 48 = .ok (.if_icmp .lt 7, 3) := by decide +kernel
theorem dX8_isSpent_51 : decode cX8_isSpent 51 = .ok (.iconst 1, 1) := by decide +kernel
theorem dX8_isSpent_52 : decode cX8_isSpent 52 = .ok (.goto 4, 3) := by decide +kernel
theorem dX8_isSpent_55 : decode cX8_isSpent 55 = .ok (.iconst 0, 1) := by decide +kernel
theorem dX8_isSpent_56 : decode cX8_isSpent 56 = .ok (.ireturn, 1) := by decide +kernel
theorem dX8_number_0 : decode cX8_number 0 = .ok (.aload_n 0, 1) := by decide +kernel
theorem dX8_number_1 : decode cX8_number 1 = .ok (.getfield 22, 3) := by decide +kernel
theorem dX8_number_4 : decode cX8_number 4 = .ok (.aload_n 0, 1) := by decide +kernel
theorem dX8_number_5 : decode cX8_number 5 = .ok (.getfield 96, 3) := by decide +kernel
theorem dX8_number_8 : decode cX8_number 8 = .ok (.iconst 1, 1) := by decide +kernel
theorem dX8_number_9 : decode cX8_number 9 = .ok (.isub, 1) := by decide +kernel
theorem dX8_number_10 : decode cX8_number 10 = .ok (.iload_n 1, 1) := by decide +kernel
theorem dX8_number_11 : decode cX8_number 11 = .ok (.isub, 1) := by decide +kernel
theorem dX8_number_12 : decode cX8_number 12 = .ok (.iaload, 1) := by decide +kernel
theorem dX8_number_13 : decode cX8_number 13 = .ok (.ireturn, 1) := by decide +kernel
theorem dX8_reckon_0 : decode cX8_reckon 0 = .ok (.aload_n 0, 1) := by decide +kernel
theorem dX8_reckon_1 : decode cX8_reckon 1 = .ok (.iconst 0, 1) := by decide +kernel
theorem dX8_reckon_2 : decode cX8_reckon 2 = .ok (.invokevirtual 153, 3) := by decide +kernel
theorem dX8_reckon_5 : decode cX8_reckon 5 = .ok (.istore_n 2, 1) := by decide +kernel
theorem dX8_reckon_6 : decode cX8_reckon 6 = .ok (.aload_n 0, 1) := by decide +kernel
theorem dX8_reckon_7 : decode cX8_reckon 7 = .ok (.iconst 1, 1) := by decide +kernel
theorem dX8_reckon_8 : decode cX8_reckon 8 = .ok (.invokevirtual 153, 3) := by decide +kernel
theorem dX8_reckon_11 : decode cX8_reckon 11 = .ok (.istore_n 3, 1) := by decide +kernel
theorem dX8_reckon_12 : decode cX8_reckon 12 = .ok (.aload_n 0, 1) := by decide +kernel
theorem dX8_reckon_13 : decode cX8_reckon 13 = .ok (.aload_n 0, 1) := by decide +kernel
theorem dX8_reckon_14 : decode cX8_reckon 14 = .ok (.getfield 96, 3) := by decide +kernel
theorem dX8_reckon_17 : decode cX8_reckon 17 = .ok (.iconst 2, 1) := by decide +kernel
theorem dX8_reckon_18 : decode cX8_reckon 18 = .ok (.isub, 1) := by decide +kernel
theorem dX8_reckon_19 : decode cX8_reckon 19 = .ok (.putfield 96, 3) := by decide +kernel
theorem dX8_reckon_22 : decode cX8_reckon 22 = .ok (.iload_n 1, 1) := by decide +kernel
theorem dX8_reckon_23 : decode cX8_reckon 23 = .ok (.iconst 5, 1) := by decide +kernel
theorem dX8_reckon_24 : decode cX8_reckon 24 = .ok (.if_icmp .ne 21, 3) := by decide +kernel
theorem dX8_reckon_27 : decode cX8_reckon 27 = .ok (.aload_n 0, 1) := by decide +kernel
theorem dX8_reckon_28 : decode cX8_reckon 28 = .ok (.iconst 1, 1) := by decide +kernel
theorem dX8_reckon_29 : decode cX8_reckon 29 = .ok (.iload_n 3, 1) := by decide +kernel
theorem dX8_reckon_30 : decode cX8_reckon 30 = .ok (.iload_n 2, 1) := by decide +kernel
theorem dX8_reckon_31 : decode cX8_reckon 31 = .ok (.if_icmp .ge 7, 3) := by decide +kernel
theorem dX8_reckon_34 : decode cX8_reckon 34 = .ok (.iconst 1, 1) := by decide +kernel
theorem dX8_reckon_35 : decode cX8_reckon 35 = .ok (.goto 4, 3) := by decide +kernel
theorem dX8_reckon_38 : decode cX8_reckon 38 = .ok (.iconst 0, 1) := by decide +kernel
theorem dX8_reckon_39 : decode cX8_reckon 39 = .ok (.invokevirtual 99, 3) := by decide +kernel
theorem dX8_reckon_42 : decode cX8_reckon 42 = .ok (.goto 53, 3) := by decide +kernel
theorem dX8_reckon_45 : decode cX8_reckon 45 = .ok (.aload_n 0, 1) := by decide +kernel
theorem dX8_reckon_46 : decode cX8_reckon 46 = .ok (.iconst 0, 1) := by decide +kernel
theorem dX8_reckon_47 : decode cX8_reckon 47 = .ok (.iload_n 1, 1) := by decide +kernel
theorem dX8_reckon_48 : decode cX8_reckon 48 = .ok (.ifCond .ne 9, 3) := by decide +kernel
theorem dX8_reckon_51 : decode cX8_reckon 51 = .ok (.iload_n 3, 1) := by decide +kernel
theorem dX8_reckon_52 : decode cX8_reckon 52 = .ok (.iload_n 2, 1) := by decide +kernel
theorem dX8_reckon_53 : decode cX8_reckon 53 = .ok (.iadd, 1) := by decide +kernel
theorem dX8_reckon_54 : decode cX8_reckon 54 = .ok (.goto 38, 3) := by decide +kernel
theorem dX8_reckon_57 : decode cX8_reckon 57 = .ok (.iload_n 1, 1) := by decide +kernel
theorem dX8_reckon_58 : decode cX8_reckon 58 = .ok (.iconst 1, 1) := by decide +kernel
theorem dX8_reckon_59 : decode cX8_reckon 59 = .ok (.if_icmp .ne 9, 3) := by decide +kernel
theorem dX8_reckon_62 : decode cX8_reckon 62 = .ok (.iload_n 3, 1) := by decide +kernel
theorem dX8_reckon_63 : decode cX8_reckon 63 = .ok (.iload_n 2, 1) := by decide +kernel
theorem dX8_reckon_64 : decode cX8_reckon 64 = .ok (.isub, 1) := by decide +kernel
theorem dX8_reckon_65 : decode cX8_reckon 65 = .ok (.goto 27, 3) := by decide +kernel
theorem dX8_reckon_68 : decode cX8_reckon 68 = .ok (.iload_n 1, 1) := by decide +kernel
theorem dX8_reckon_69 : decode cX8_reckon 69 = .ok (.iconst 2, 1) := by decide +kernel
theorem dX8_reckon_70 : decode cX8_reckon 70 = .ok (.if_icmp .ne 9, 3) := by decide +kernel
theorem dX8_reckon_73 : decode cX8_reckon 73 = .ok (.iload_n 3, 1) := by decide +kernel
theorem dX8_reckon_74 : decode cX8_reckon 74 = .ok (.iload_n 2, 1) := by decide +kernel
theorem dX8_reckon_75 : decode cX8_reckon 75 = .ok (.imul, 1) := by decide +kernel
theorem dX8_reckon_76 : decode cX8_reckon 76 = .ok (.goto 16, 3) := by decide +kernel
theorem dX8_reckon_79 : decode cX8_reckon 79 = .ok (.iload_n 2, 1) := by decide +kernel
theorem dX8_reckon_80 : decode cX8_reckon 80 = .ok (.iconst (-1), 1) := by decide +kernel
theorem dX8_reckon_81 : decode cX8_reckon 81 = .ok (.if_icmp .ne 8, 3) := by decide +kernel
theorem dX8_reckon_84 : decode cX8_reckon 84 = .ok (.iload_n 3, 1) := by decide +kernel
theorem dX8_reckon_85 : decode cX8_reckon 85 = .ok (.ineg, 1) := by decide +kernel
theorem dX8_reckon_86 : decode cX8_reckon 86 = .ok (.goto 6, 3) := by decide +kernel
theorem dX8_reckon_89 : decode cX8_reckon 89 = .ok (.iload_n 3, 1) := by decide +kernel
theorem dX8_reckon_90 : decode cX8_reckon 90 = .ok (.iload_n 2, 1) := by decide +kernel
theorem dX8_reckon_91 : decode cX8_reckon 91 = .ok (.idiv, 1) := by decide +kernel
theorem dX8_reckon_92 : decode cX8_reckon 92 = .ok (.invokevirtual 99, 3) := by decide +kernel
theorem dX8_reckon_95 : decode cX8_reckon 95 = .ok (.return_, 1) := by decide +kernel
def fX8_arise_0_195 (q1 : Int32) (S : St) : Option (Int32 × St) :=
    bnd (fX8_stop_0 q1 S) fun _ S1 =>
    some (0, S1)
def fX8_arise_0_147 (q1 : Int32) (S : St) : Option (Int32 × St) :=
    if vq q1 12 then
    if (S.1 8 q1.toNatClampNeg) < 0 then
      fX8_arise_0_195 q1 S
    else
      if (29 : Int32) ≤ (S.1 0 19) then
        fX8_arise_0_195 q1 S
      else
        bnd (fX8_come_0 (5 : Int32) q1 S) fun _ S4 =>
        if vq q1 12 then
        bnd (fX8_come_0 (0 : Int32) (S4.1 8 q1.toNatClampNeg) S4) fun _ S6 =>
        stp (si S6 0 28 ((S6.1 0 28) + (1 : Int32))) fun S7 =>
        some (0, S7)
        else none
    else none
def fX8_arise_0_115 (q1 : Int32) (q3 : Int32) (S : St) : Option (Int32 × St) :=
    if q3 < 0 then
      fX8_arise_0_147 q1 S
    else
      if vq q3 30 then
      if (S.1 11 q3.toNatClampNeg) = (5 : Int32) then
        if vq q3 30 then
        stp (si S 0 13 (S.1 12 q3.toNatClampNeg)) fun S5 =>
        bnd (fX8_stop_0 q1 S5) fun _ S6 =>
        some (0, S6)
        else none
      else
        fX8_arise_0_147 q1 S
      else none
def fX8_arise_0_85 : Nat → Int32 → Int32 → St → Option (Int32 × St)
  | 0, _, _, _ => none
  | n + 1, q1, q3, S =>
    if q3 < 0 then
      fX8_arise_0_115 q1 q3 S
    else
      if vq q3 30 then
      if (S.1 11 q3.toNatClampNeg) = (4 : Int32) then
        fX8_arise_0_115 q1 q3 S
      else
        if vq q3 30 then
        if (S.1 11 q3.toNatClampNeg) = (5 : Int32) then
          fX8_arise_0_115 q1 q3 S
        else
          stv (q3 + (-1)) fun y6 =>
          fX8_arise_0_85 n q1 y6 S
        else none
      else none
def fX8_arise_0_40 : Nat → Int32 → Int32 → St → Option (Int32 × St)
  | 0, _, _, _ => none
  | n + 1, q1, q3, S =>
    if (S.1 0 6) ≤ q3 then
      stv ((S.1 0 19) - (1 : Int32)) fun y2 =>
      fX8_arise_0_85 500 q1 y2 S
    else
      if vq q3 60 then
      if vq q3 60 then
      stp (si S 9 q3.toNatClampNeg (S.1 4 q3.toNatClampNeg)) fun S4 =>
      if vq q3 60 then
      if vq q3 60 then
      stp (si S4 10 q3.toNatClampNeg (S4.1 5 q3.toNatClampNeg)) fun S6 =>
      stv (q3 + 1) fun y7 =>
      fX8_arise_0_40 n q1 y7 S6
      else none
      else none
      else none
      else none
def fX8_arise_0 (p1 : Int32) (p2 : Int32) (S : St) : Option (Int32 × St) :=
  stp (si S 0 10 p1) fun S1 =>
  stp (si S1 0 11 p2) fun S2 =>
  stp (si S2 0 12 (1 : Int32)) fun S3 =>
  stp (si S3 0 13 (0 : Int32)) fun S4 =>
  stp (si S4 0 17 ((S4.1 0 17) + (1 : Int32))) fun S5 =>
  stp (si S5 0 16 (S5.1 0 6)) fun S6 =>
  stv (0 : Int32) fun y7 =>
  fX8_arise_0_40 500 p1 y7 S6
def fX8_turn_0_163 (z0 : Int32) (S : St) : Option (Int32 × St) :=
    stp (si S 0 19 ((S.1 0 19) - (1 : Int32))) fun S1 =>
    bnd (fX8_arise_0 z0 (-2 : Int32) S1) fun _ S2 =>
    some (0, S2)
def fX8_turn_0_148 (S : St) : Option (Int32 × St) :=
    if (S.1 0 19) = (30 : Int32) then
      fX8_turn_0_163 (8 : Int32) S
    else
      fX8_turn_0_163 (2 : Int32) S
def fX8_turn_0_230 (q1 : Int32) (z1 : Int32) (z2 : Int64) (z3 : Int64) (S : St) : Option (Int32 × St) :=
    if vq z1 30 then
    stp (sl S z1.toNatClampNeg (z2 + z3)) fun S1 =>
    if vq q1 30 then
    bnd (fX8_come_0 (0 : Int32) (S1.1 12 q1.toNatClampNeg) S1) fun _ S3 =>
    some (0, S3)
    else none
    else none
def fX8_turn_0_202 (q1 : Int32) (q3 : Int32) (S : St) : Option (Int32 × St) :=
    if vq q1 30 then
    if q3 = 0 then
      fX8_turn_0_230 q1 q1 (S.2 q1.toNatClampNeg) (-1 : Int64) S
    else
      if vq q1 30 then
      fX8_turn_0_230 q1 q1 (S.2 q1.toNatClampNeg) ((S.1 15 q1.toNatClampNeg).toInt64) S
      else none
    else none
def fX8_turn_0_186 (q1 : Int32) (q3 : Int32) (S : St) : Option (Int32 × St) :=
    if q3 = 0 then
      fX8_turn_0_202 q1 q3 S
    else
      if vq q1 30 then
      bnd (fX8_lay_0 (0 : Int32) ((S.2 q1.toNatClampNeg).toInt32) S) fun _ S3 =>
      fX8_turn_0_202 q1 q3 S3
      else none
def fX8_turn_0_108 (q1 : Int32) (q2 : Int32) (z0 : Int32) (S : St) : Option (Int32 × St) :=
    if q2 = 0 then
      stp (si S 0 19 ((S.1 0 19) - (1 : Int32))) fun S2 =>
      some (0, S2)
    else
      if (S.1 0 19) = (30 : Int32) then
        fX8_turn_0_148 S
      else
        if z0 = 0 then
          fX8_turn_0_186 q1 z0 S
        else
          if (S.1 0 6) = (60 : Int32) then
            fX8_turn_0_148 S
          else
            fX8_turn_0_186 q1 z0 S
def fX8_turn_0_92 (q1 : Int32) (z0 : Int32) (S : St) : Option (Int32 × St) :=
    if vq q1 30 then
    if (S.1 11 q1.toNatClampNeg) = (2 : Int32) then
      fX8_turn_0_108 q1 z0 (1 : Int32) S
    else
      fX8_turn_0_108 q1 z0 (0 : Int32) S
    else none
def fX8_turn_0_87 (q1 : Int32) (S : St) : Option (Int32 × St) :=
    fX8_turn_0_92 q1 (1 : Int32) S
def fX8_turn_0_91 (q1 : Int32) (S : St) : Option (Int32 × St) :=
    fX8_turn_0_92 q1 (0 : Int32) S
def fX8_turn_0_31 (q1 : Int32) (S : St) : Option (Int32 × St) :=
    if vq q1 30 then
    if (S.1 11 q1.toNatClampNeg) = (2 : Int32) then
      if vq q1 30 then
      if (S.1 15 q1.toNatClampNeg) ≤ 0 then
        if vq q1 30 then
        if vq q1 30 then
        if (lg_cmp (S.2 q1.toNatClampNeg) ((S.1 16 q1.toNatClampNeg).toInt64)) < 0 then
          fX8_turn_0_91 q1 S
        else
          fX8_turn_0_87 q1 S
        else none
        else none
      else
        if vq q1 30 then
        if vq q1 30 then
        if 0 < (lg_cmp (S.2 q1.toNatClampNeg) ((S.1 16 q1.toNatClampNeg).toInt64)) then
          fX8_turn_0_91 q1 S
        else
          fX8_turn_0_87 q1 S
        else none
        else none
      else none
    else
      fX8_turn_0_91 q1 S
    else none
def fX8_turn_0 (p1 : Int32) (S : St) : Option (Int32 × St) :=
  if vq p1 30 then
  if (S.1 11 p1.toNatClampNeg) = (3 : Int32) then
    fX8_turn_0_87 p1 S
  else
    if vq p1 30 then
    if (S.1 11 p1.toNatClampNeg) = (1 : Int32) then
      if vq p1 30 then
      if 0 < (lg_cmp (S.2 p1.toNatClampNeg) (0 : Int64)) then
        fX8_turn_0_87 p1 S
      else
        fX8_turn_0_31 p1 S
      else none
    else
      fX8_turn_0_31 p1 S
    else none
  else none
def fX8_isSpent_0_55 (S : St) : Option (Int32 × St) :=
    some ((0 : Int32), S)
def fX8_isSpent_0 (S : St) : Option (Int32 × St) :=
  if (S.1 0 19) ≤ 0 then
    fX8_isSpent_0_55 S
  else
    if vq ((S.1 0 19) - (1 : Int32)) 30 then
    if (S.1 11 ((S.1 0 19) - (1 : Int32)).toNatClampNeg) = 0 then
      if vq ((S.1 0 19) - (1 : Int32)) 30 then
      if vq ((S.1 0 19) - (1 : Int32)) 30 then
      if vq (S.1 12 ((S.1 0 19) - (1 : Int32)).toNatClampNeg) 20 then
      if (S.1 13 ((S.1 0 19) - (1 : Int32)).toNatClampNeg) < (S.1 3 (S.1 12 ((S.1 0 19) - (1 : Int32)).toNatClampNeg).toNatClampNeg) then
        fX8_isSpent_0_55 S
      else
        some ((1 : Int32), S)
      else none
      else none
      else none
    else
      fX8_isSpent_0_55 S
    else none
def fX8_number_0 (p1 : Int32) (S : St) : Option (Int32 × St) :=
  if vq (((S.1 0 6) - (1 : Int32)) - p1) 60 then
  some (S.1 5 (((S.1 0 6) - (1 : Int32)) - p1).toNatClampNeg, S)
  else none
def fX8_reckon_0_39 (z1 : Int32) (z2 : Int32) (S : St) : Option (Int32 × St) :=
    bnd (fX8_lay_0 z1 z2 S) fun _ S1 =>
    some (0, S1)
def fX8_reckon_0_92 (z1 : Int32) (z2 : Int32) (S : St) : Option (Int32 × St) :=
    bnd (fX8_lay_0 z1 z2 S) fun _ S1 =>
    some (0, S1)
def fX8_reckon_0 (p1 : Int32) (S : St) : Option (Int32 × St) :=
  bnd (fX8_number_0 (0 : Int32) S) fun r1 S1 =>
  bnd (fX8_number_0 (1 : Int32) S1) fun r2 S2 =>
  stp (si S2 0 6 ((S2.1 0 6) - (2 : Int32))) fun S3 =>
  if p1 = (5 : Int32) then
    if r1 ≤ r2 then
      fX8_reckon_0_39 (1 : Int32) (0 : Int32) S3
    else
      fX8_reckon_0_39 (1 : Int32) (1 : Int32) S3
  else
    if p1 = 0 then
      fX8_reckon_0_92 (0 : Int32) (r2 + r1) S3
    else
      if p1 = (1 : Int32) then
        fX8_reckon_0_92 (0 : Int32) (r2 - r1) S3
      else
        if p1 = (2 : Int32) then
          fX8_reckon_0_92 (0 : Int32) (r2 * r1) S3
        else
          if r1 = (-1 : Int32) then
            fX8_reckon_0_92 (0 : Int32) (-r2) S3
          else
            if ¬ r1 = 0 then
            fX8_reckon_0_92 (0 : Int32) (r2 / r1) S3
            else none
set_option maxRecDepth 100000 in
set_option maxHeartbeats 4000000 in
theorem rX8_arise_0_195 {p : Program} {l : Launch} {e : Env} {s : State} {m : MethodId} {args : Array Value} {below : List Frame} {meth : Method} {c : Code} {D : va_G} {a : Nat → Nat} {cI cJ : ClassId} {tk : Nat} {tf : Nat → Int32} (C : Cx p s m args meth c RX8 cX8_arise 4 D cI cJ tk tf (AR a 17 s.heap.size)) (hr : meth.sig.returnType = none) : ∀ (q1 : Int32) (S : St) (x : Int32 × St) (H : Heap) (locs : List Loc) (ls : Array Slot), fX8_arise_0_195 q1 S = some x → Wd D (wM a cI cJ) (AR a 17 s.heap.size) s S H locs → lv_has ls 4 [(0, .ref (a 0)), (1, .int q1)] → W p l e { frames := 2, cells := 0, slots := 0, locals := 43 } s m args below meth c H locs 0 0 (MQ below (Qv D (wM a cI cJ) (AR a 17 s.heap.size) x) args s 0 0 (AR a 17 s.heap.size)) (F0 m 195 ls []) := by
  intro q1 S x H locs ls hf G hl
  unfold fX8_arise_0_195 at hf
  refine lv_aload_n C.1 C.2.1 dX8_arise_195 rfl (lv_at hl 0 rfl) ?_
  refine lv_iload_n C.1 C.2.1 dX8_arise_196 rfl (lv_at hl 1 rfl) ?_
  obtain ⟨r1, S1, eS1, hf⟩ := bnd_e hf
  refine r_calv (As := [.int q1]) (na := 1) C adM G (mX8_stop_0 l D a cI cJ tk tf q1 S _ eS1) k_953 k_955 k_47 k_68 k_956 (q0 := 0) rfl (ci := 8) rfl (by decide +kernel) ⟨Nat.le_of_ble_eq_true rfl, Nat.le_of_ble_eq_true rfl⟩ rfl rfl ⟨Nat.zero_le _, Nat.zero_le _⟩ rfl hl.1 rfl (Nat.le_of_ble_eq_true rfl) dX8_arise_197 (fun H locs G => ?_)
  exact r_vret C hr G hf dX8_arise_200
set_option maxRecDepth 100000 in
set_option maxHeartbeats 4000000 in
theorem rX8_arise_0_147 {p : Program} {l : Launch} {e : Env} {s : State} {m : MethodId} {args : Array Value} {below : List Frame} {meth : Method} {c : Code} {D : va_G} {a : Nat → Nat} {cI cJ : ClassId} {tk : Nat} {tf : Nat → Int32} (C : Cx p s m args meth c RX8 cX8_arise 4 D cI cJ tk tf (AR a 17 s.heap.size)) (hr : meth.sig.returnType = none) : ∀ (q1 : Int32) (S : St) (x : Int32 × St) (H : Heap) (locs : List Loc) (ls : Array Slot), fX8_arise_0_147 q1 S = some x → Wd D (wM a cI cJ) (AR a 17 s.heap.size) s S H locs → lv_has ls 4 [(0, .ref (a 0)), (1, .int q1)] → W p l e { frames := 2, cells := 0, slots := 0, locals := 43 } s m args below meth c H locs 0 0 (MQ below (Qv D (wM a cI cJ) (AR a 17 s.heap.size) x) args s 0 0 (AR a 17 s.heap.size)) (F0 m 147 ls []) := by
  intro q1 S x H locs ls hf G hl
  unfold fX8_arise_0_147 at hf
  refine lv_aload_n C.1 C.2.1 dX8_arise_147 rfl (lv_at hl 0 rfl) ?_
  refine gM_0_9 C G k_767 dX8_arise_148 ?_
  refine lv_iload_n C.1 C.2.1 dX8_arise_151 rfl (lv_at hl 1 rfl) ?_
  obtain ⟨hi1, hf⟩ := ifn hf
  refine aM_8 C G hi1 dX8_arise_152 ?_
  refine lv_if_lt (tgt := 195) C.1 C.2.1 dX8_arise_153 (by decide) (fun c2 => ?_) (fun c2 => ?_)
  · replace hf := ifp c2 hf
    exact rX8_arise_0_195 C hr q1 S _ _ _ _ hf G (lv_sub hl [0, 1] rfl)
  · replace hf := ifq c2 hf
    refine lv_aload_n C.1 C.2.1 dX8_arise_156 rfl (lv_at hl 0 rfl) ?_
    refine gM_0_19 C G k_777 dX8_arise_157 ?_
    refine lv_bipush (v := 29) C.1 C.2.1 dX8_arise_160 (by decide) ?_
    refine lv_icmp_ge (tgt := 195) C.1 C.2.1 dX8_arise_162 (by decide) (fun c3 => ?_) (fun c3 => ?_)
    · replace hf := ifp c3 hf
      exact rX8_arise_0_195 C hr q1 S _ _ _ _ hf G (lv_sub hl [0, 1] rfl)
    · replace hf := ifq c3 hf
      refine lv_aload_n C.1 C.2.1 dX8_arise_165 rfl (lv_at hl 0 rfl) ?_
      refine lv_iconst (v := 5) C.1 C.2.1 dX8_arise_166 (by decide) ?_
      refine lv_iload_n C.1 C.2.1 dX8_arise_167 rfl (lv_at hl 1 rfl) ?_
      obtain ⟨r4, S4, eS4, hf⟩ := bnd_e hf
      refine r_calv (As := [.int (5 : Int32), .int q1]) (na := 2) C adM G (mX8_come_0 l D a cI cJ tk tf (5 : Int32) q1 S _ eS4) k_887 k_889 k_32 k_68 k_890 (q0 := 0) rfl (ci := 8) rfl (by decide +kernel) ⟨Nat.le_of_ble_eq_true rfl, Nat.le_of_ble_eq_true rfl⟩ rfl rfl ⟨Nat.zero_le _, Nat.zero_le _⟩ rfl hl.1 rfl (Nat.le_of_ble_eq_true rfl) dX8_arise_168 (fun H locs G => ?_)
      refine lv_aload_n C.1 C.2.1 dX8_arise_171 rfl (lv_at hl 0 rfl) ?_
      refine lv_iconst (v := 0) C.1 C.2.1 dX8_arise_172 (by decide) ?_
      refine lv_aload_n C.1 C.2.1 dX8_arise_173 rfl (lv_at hl 0 rfl) ?_
      refine gM_0_9 C G k_767 dX8_arise_174 ?_
      refine lv_iload_n C.1 C.2.1 dX8_arise_177 rfl (lv_at hl 1 rfl) ?_
      obtain ⟨hi5, hf⟩ := ifn hf
      refine aM_8 C G hi5 dX8_arise_178 ?_
      obtain ⟨r6, S6, eS6, hf⟩ := bnd_e hf
      refine r_calv (As := [.int (0 : Int32), .int (S4.1 8 q1.toNatClampNeg)]) (na := 2) C adM G (mX8_come_0 l D a cI cJ tk tf (0 : Int32) (S4.1 8 q1.toNatClampNeg) S4 _ eS6) k_887 k_889 k_32 k_68 k_890 (q0 := 0) rfl (ci := 8) rfl (by decide +kernel) ⟨Nat.le_of_ble_eq_true rfl, Nat.le_of_ble_eq_true rfl⟩ rfl rfl ⟨Nat.zero_le _, Nat.zero_le _⟩ rfl hl.1 rfl (Nat.le_of_ble_eq_true rfl) dX8_arise_179 (fun H locs G => ?_)
      refine lv_aload_n C.1 C.2.1 dX8_arise_182 rfl (lv_at hl 0 rfl) ?_
      refine lv_dup C.1 C.2.1 dX8_arise_183 rfl ?_
      refine gM_0_28 C G k_786 dX8_arise_184 ?_
      refine lv_iconst (v := 1) C.1 C.2.1 dX8_arise_187 (by decide) ?_
      refine lv_iadd C.1 C.2.1 dX8_arise_188 ?_
      refine pM_0_28 C G k_786 dX8_arise_189 (fun H locs G => ?_)
      obtain ⟨S7, eS7, hf⟩ := stp_e hf
      rw [← eS7] at G
      clear eS7
      refine lv_goto (tgt := 200) C.1 C.2.1 dX8_arise_192 (by decide) ?_
      exact r_vret C hr G hf dX8_arise_200
set_option maxRecDepth 100000 in
set_option maxHeartbeats 4000000 in
theorem rX8_arise_0_115 {p : Program} {l : Launch} {e : Env} {s : State} {m : MethodId} {args : Array Value} {below : List Frame} {meth : Method} {c : Code} {D : va_G} {a : Nat → Nat} {cI cJ : ClassId} {tk : Nat} {tf : Nat → Int32} (C : Cx p s m args meth c RX8 cX8_arise 4 D cI cJ tk tf (AR a 17 s.heap.size)) (hr : meth.sig.returnType = none) : ∀ (q1 : Int32) (q3 : Int32) (S : St) (x : Int32 × St) (H : Heap) (locs : List Loc) (ls : Array Slot), fX8_arise_0_115 q1 q3 S = some x → Wd D (wM a cI cJ) (AR a 17 s.heap.size) s S H locs → lv_has ls 4 [(0, .ref (a 0)), (1, .int q1), (3, .int q3)] → W p l e { frames := 2, cells := 0, slots := 0, locals := 43 } s m args below meth c H locs 0 0 (MQ below (Qv D (wM a cI cJ) (AR a 17 s.heap.size) x) args s 0 0 (AR a 17 s.heap.size)) (F0 m 115 ls []) := by
  intro q1 q3 S x H locs ls hf G hl
  unfold fX8_arise_0_115 at hf
  refine lv_iload_n C.1 C.2.1 dX8_arise_115 rfl (lv_at hl 2 rfl) ?_
  refine lv_if_lt (tgt := 147) C.1 C.2.1 dX8_arise_116 (by decide) (fun c1 => ?_) (fun c1 => ?_)
  · replace hf := ifp c1 hf
    exact rX8_arise_0_147 C hr q1 S _ _ _ _ hf G (lv_sub hl [0, 1] rfl)
  · replace hf := ifq c1 hf
    refine lv_aload_n C.1 C.2.1 dX8_arise_119 rfl (lv_at hl 0 rfl) ?_
    refine gM_0_20 C G k_778 dX8_arise_120 ?_
    refine lv_iload_n C.1 C.2.1 dX8_arise_123 rfl (lv_at hl 2 rfl) ?_
    obtain ⟨hi2, hf⟩ := ifn hf
    refine aM_11 C G hi2 dX8_arise_124 ?_
    refine lv_iconst (v := 5) C.1 C.2.1 dX8_arise_125 (by decide) ?_
    refine lv_icmp_ne (tgt := 147) C.1 C.2.1 dX8_arise_126 (by decide) (fun c3 => ?_) (fun c3 => ?_)
    · replace hf := ifq c3 hf
      exact rX8_arise_0_147 C hr q1 S _ _ _ _ hf G (lv_sub hl [0, 1] rfl)
    · replace hf := ifp c3 hf
      refine lv_aload_n C.1 C.2.1 dX8_arise_129 rfl (lv_at hl 0 rfl) ?_
      refine lv_aload_n C.1 C.2.1 dX8_arise_130 rfl (lv_at hl 0 rfl) ?_
      refine gM_0_21 C G k_779 dX8_arise_131 ?_
      refine lv_iload_n C.1 C.2.1 dX8_arise_134 rfl (lv_at hl 2 rfl) ?_
      obtain ⟨hi4, hf⟩ := ifn hf
      refine aM_12 C G hi4 dX8_arise_135 ?_
      refine pM_0_13 C G k_771 dX8_arise_136 (fun H locs G => ?_)
      obtain ⟨S5, eS5, hf⟩ := stp_e hf
      rw [← eS5] at G
      clear eS5
      refine lv_aload_n C.1 C.2.1 dX8_arise_139 rfl (lv_at hl 0 rfl) ?_
      refine lv_iload_n C.1 C.2.1 dX8_arise_140 rfl (lv_at hl 1 rfl) ?_
      obtain ⟨r6, S6, eS6, hf⟩ := bnd_e hf
      refine r_calv (As := [.int q1]) (na := 1) C adM G (mX8_stop_0 l D a cI cJ tk tf q1 S5 _ eS6) k_953 k_955 k_47 k_68 k_956 (q0 := 0) rfl (ci := 8) rfl (by decide +kernel) ⟨Nat.le_of_ble_eq_true rfl, Nat.le_of_ble_eq_true rfl⟩ rfl rfl ⟨Nat.zero_le _, Nat.zero_le _⟩ rfl hl.1 rfl (Nat.le_of_ble_eq_true rfl) dX8_arise_141 (fun H locs G => ?_)
      refine lv_goto (tgt := 200) C.1 C.2.1 dX8_arise_144 (by decide) ?_
      exact r_vret C hr G hf dX8_arise_200
set_option maxRecDepth 100000 in
set_option maxHeartbeats 4000000 in
theorem rX8_arise_0_85 {p : Program} {l : Launch} {e : Env} {s : State} {m : MethodId} {args : Array Value} {below : List Frame} {meth : Method} {c : Code} {D : va_G} {a : Nat → Nat} {cI cJ : ClassId} {tk : Nat} {tf : Nat → Int32} (C : Cx p s m args meth c RX8 cX8_arise 4 D cI cJ tk tf (AR a 17 s.heap.size)) (hr : meth.sig.returnType = none) : ∀ (n : Nat) (q1 : Int32) (q3 : Int32) (S : St) (x : Int32 × St) (H : Heap) (locs : List Loc) (ls : Array Slot), fX8_arise_0_85 n q1 q3 S = some x → Wd D (wM a cI cJ) (AR a 17 s.heap.size) s S H locs → lv_has ls 4 [(0, .ref (a 0)), (1, .int q1), (3, .int q3)] → W p l e { frames := 2, cells := 0, slots := 0, locals := 43 } s m args below meth c H locs 0 0 (MQ below (Qv D (wM a cI cJ) (AR a 17 s.heap.size) x) args s 0 0 (AR a 17 s.heap.size)) (F0 m 85 ls []) := by
  intro n
  induction n with
  | zero => intro q1 q3 S x H locs ls hf G hl; cases hf
  | succ n ih =>
    intro q1 q3 S x H locs ls hf G hl
    rw [fX8_arise_0_85.eq_2] at hf
    refine lv_iload_n C.1 C.2.1 dX8_arise_85 rfl (lv_at hl 2 rfl) ?_
    refine lv_if_lt (tgt := 115) C.1 C.2.1 dX8_arise_86 (by decide) (fun c1 => ?_) (fun c1 => ?_)
    · replace hf := ifp c1 hf
      exact rX8_arise_0_115 C hr q1 q3 S _ _ _ _ hf G (lv_sub hl [0, 1, 2] rfl)
    · replace hf := ifq c1 hf
      refine lv_aload_n C.1 C.2.1 dX8_arise_89 rfl (lv_at hl 0 rfl) ?_
      refine gM_0_20 C G k_778 dX8_arise_90 ?_
      refine lv_iload_n C.1 C.2.1 dX8_arise_93 rfl (lv_at hl 2 rfl) ?_
      obtain ⟨hi2, hf⟩ := ifn hf
      refine aM_11 C G hi2 dX8_arise_94 ?_
      refine lv_iconst (v := 4) C.1 C.2.1 dX8_arise_95 (by decide) ?_
      refine lv_icmp_eq (tgt := 115) C.1 C.2.1 dX8_arise_96 (by decide) (fun c3 => ?_) (fun c3 => ?_)
      · replace hf := ifp c3 hf
        exact rX8_arise_0_115 C hr q1 q3 S _ _ _ _ hf G (lv_sub hl [0, 1, 2] rfl)
      · replace hf := ifq c3 hf
        refine lv_aload_n C.1 C.2.1 dX8_arise_99 rfl (lv_at hl 0 rfl) ?_
        refine gM_0_20 C G k_778 dX8_arise_100 ?_
        refine lv_iload_n C.1 C.2.1 dX8_arise_103 rfl (lv_at hl 2 rfl) ?_
        obtain ⟨hi4, hf⟩ := ifn hf
        refine aM_11 C G hi4 dX8_arise_104 ?_
        refine lv_iconst (v := 5) C.1 C.2.1 dX8_arise_105 (by decide) ?_
        refine lv_icmp_eq (tgt := 115) C.1 C.2.1 dX8_arise_106 (by decide) (fun c5 => ?_) (fun c5 => ?_)
        · replace hf := ifp c5 hf
          exact rX8_arise_0_115 C hr q1 q3 S _ _ _ _ hf G (lv_sub hl [0, 1, 2] rfl)
        · replace hf := ifq c5 hf
          obtain ⟨y6, ey6, hf⟩ := stv_e hf
          refine lv_iinc (v := y6) (lv' := [(3, .int y6), (0, .ref (a 0)), (1, .int q1)]) C.1 C.2.1 dX8_arise_109 hl (k := 2) rfl (by rw [ey6]; rfl) (by decide) rfl (fun ls hl => ?_)
          refine lv_goto (tgt := 85) C.1 C.2.1 dX8_arise_112 (by decide) ?_
          exact ih q1 y6 S _ _ _ _ hf G (lv_sub hl [1, 2, 0] rfl)
set_option maxRecDepth 100000 in
set_option maxHeartbeats 4000000 in
theorem rX8_arise_0_40 {p : Program} {l : Launch} {e : Env} {s : State} {m : MethodId} {args : Array Value} {below : List Frame} {meth : Method} {c : Code} {D : va_G} {a : Nat → Nat} {cI cJ : ClassId} {tk : Nat} {tf : Nat → Int32} (C : Cx p s m args meth c RX8 cX8_arise 4 D cI cJ tk tf (AR a 17 s.heap.size)) (hr : meth.sig.returnType = none) : ∀ (n : Nat) (q1 : Int32) (q3 : Int32) (S : St) (x : Int32 × St) (H : Heap) (locs : List Loc) (ls : Array Slot), fX8_arise_0_40 n q1 q3 S = some x → Wd D (wM a cI cJ) (AR a 17 s.heap.size) s S H locs → lv_has ls 4 [(0, .ref (a 0)), (1, .int q1), (3, .int q3)] → W p l e { frames := 2, cells := 0, slots := 0, locals := 43 } s m args below meth c H locs 0 0 (MQ below (Qv D (wM a cI cJ) (AR a 17 s.heap.size) x) args s 0 0 (AR a 17 s.heap.size)) (F0 m 40 ls []) := by
  intro n
  induction n with
  | zero => intro q1 q3 S x H locs ls hf G hl; cases hf
  | succ n ih =>
    intro q1 q3 S x H locs ls hf G hl
    rw [fX8_arise_0_40.eq_2] at hf
    refine lv_iload_n C.1 C.2.1 dX8_arise_40 rfl (lv_at hl 2 rfl) ?_
    refine lv_aload_n C.1 C.2.1 dX8_arise_41 rfl (lv_at hl 0 rfl) ?_
    refine gM_0_6 C G k_764 dX8_arise_42 ?_
    refine lv_icmp_ge (tgt := 78) C.1 C.2.1 dX8_arise_45 (by decide) (fun c1 => ?_) (fun c1 => ?_)
    · replace hf := ifp c1 hf
      refine lv_aload_n C.1 C.2.1 dX8_arise_78 rfl (lv_at hl 0 rfl) ?_
      refine gM_0_19 C G k_777 dX8_arise_79 ?_
      refine lv_iconst (v := 1) C.1 C.2.1 dX8_arise_82 (by decide) ?_
      refine lv_isub C.1 C.2.1 dX8_arise_83 ?_
      obtain ⟨y2, ey2, hf⟩ := stv_e hf
      refine nm_i ey2 ?_
      refine lv_istore_n (lv' := [(3, .int y2), (0, .ref (a 0)), (1, .int q1)]) C.1 C.2.1 dX8_arise_84 rfl hl (by decide) rfl (fun ls hl => ?_)
      exact rX8_arise_0_85 C hr 500 q1 y2 S _ _ _ _ hf G (lv_sub hl [1, 2, 0] rfl)
    · replace hf := ifq c1 hf
      refine lv_aload_n C.1 C.2.1 dX8_arise_48 rfl (lv_at hl 0 rfl) ?_
      refine gM_0_14 C G k_772 dX8_arise_49 ?_
      refine lv_iload_n C.1 C.2.1 dX8_arise_52 rfl (lv_at hl 2 rfl) ?_
      refine lv_aload_n C.1 C.2.1 dX8_arise_53 rfl (lv_at hl 0 rfl) ?_
      refine gM_0_4 C G k_762 dX8_arise_54 ?_
      refine lv_iload_n C.1 C.2.1 dX8_arise_57 rfl (lv_at hl 2 rfl) ?_
      obtain ⟨hi3, hf⟩ := ifn hf
      refine aM_4 C G hi3 dX8_arise_58 ?_
      obtain ⟨hi4, hf⟩ := ifn hf
      refine sM_9 C G hi4 dX8_arise_59 (fun H locs G => ?_)
      obtain ⟨S4, eS4, hf⟩ := stp_e hf
      rw [← eS4] at G
      clear eS4
      refine lv_aload_n C.1 C.2.1 dX8_arise_60 rfl (lv_at hl 0 rfl) ?_
      refine gM_0_15 C G k_773 dX8_arise_61 ?_
      refine lv_iload_n C.1 C.2.1 dX8_arise_64 rfl (lv_at hl 2 rfl) ?_
      refine lv_aload_n C.1 C.2.1 dX8_arise_65 rfl (lv_at hl 0 rfl) ?_
      refine gM_0_5 C G k_763 dX8_arise_66 ?_
      refine lv_iload_n C.1 C.2.1 dX8_arise_69 rfl (lv_at hl 2 rfl) ?_
      obtain ⟨hi5, hf⟩ := ifn hf
      refine aM_5 C G hi5 dX8_arise_70 ?_
      obtain ⟨hi6, hf⟩ := ifn hf
      refine sM_10 C G hi6 dX8_arise_71 (fun H locs G => ?_)
      obtain ⟨S6, eS6, hf⟩ := stp_e hf
      rw [← eS6] at G
      clear eS6
      obtain ⟨y7, ey7, hf⟩ := stv_e hf
      refine lv_iinc (v := y7) (lv' := [(3, .int y7), (0, .ref (a 0)), (1, .int q1)]) C.1 C.2.1 dX8_arise_72 hl (k := 2) rfl (by rw [ey7]; rfl) (by decide) rfl (fun ls hl => ?_)
      refine lv_goto (tgt := 40) C.1 C.2.1 dX8_arise_75 (by decide) ?_
      exact ih q1 y7 S6 _ _ _ _ hf G (lv_sub hl [1, 2, 0] rfl)
set_option maxRecDepth 100000 in
set_option maxHeartbeats 4000000 in
theorem mX8_arise_0 (l : Launch) (D : va_G) (a : Nat → Nat) (cI cJ : ClassId) (tk : Nat) (tf : Nat → Int32) (p1 : Int32) (p2 : Int32) (S : St) (x : Int32 × St) (hf : fX8_arise_0 p1 p2 S = some x) : Mv l D (wM a cI cJ) a 17 cI cJ tk tf yX8_arise cX8_arise 4 { frames := 2, cells := 0, slots := 0, locals := 43 } [.ref (a 0), .int p1, .int p2] S x := by
  refine opn_v (by decide +kernel) (Nat.le_of_ble_eq_true rfl) (fun p e s m below meth c C hr G ls hl => ?_)
  replace hl : lv_has ls 4 [(0, .ref (a 0)), (1, .int p1), (2, .int p2)] := hl
  unfold fX8_arise_0 at hf
  refine lv_aload_n C.1 C.2.1 dX8_arise_0 rfl (lv_at hl 0 rfl) ?_
  refine lv_iload_n C.1 C.2.1 dX8_arise_1 rfl (lv_at hl 1 rfl) ?_
  refine pM_0_10 C G k_768 dX8_arise_2 (fun H locs G => ?_)
  obtain ⟨S1, eS1, hf⟩ := stp_e hf
  rw [← eS1] at G
  clear eS1
  refine lv_aload_n C.1 C.2.1 dX8_arise_5 rfl (lv_at hl 0 rfl) ?_
  refine lv_iload_n C.1 C.2.1 dX8_arise_6 rfl (lv_at hl 2 rfl) ?_
  refine pM_0_11 C G k_769 dX8_arise_7 (fun H locs G => ?_)
  obtain ⟨S2, eS2, hf⟩ := stp_e hf
  rw [← eS2] at G
  clear eS2
  refine lv_aload_n C.1 C.2.1 dX8_arise_10 rfl (lv_at hl 0 rfl) ?_
  refine lv_iconst (v := 1) C.1 C.2.1 dX8_arise_11 (by decide) ?_
  refine pM_0_12 C G (Or.inr rfl) k_770 dX8_arise_12 (fun H locs G => ?_)
  obtain ⟨S3, eS3, hf⟩ := stp_e hf
  rw [← eS3] at G
  clear eS3
  refine lv_aload_n C.1 C.2.1 dX8_arise_15 rfl (lv_at hl 0 rfl) ?_
  refine lv_iconst (v := 0) C.1 C.2.1 dX8_arise_16 (by decide) ?_
  refine pM_0_13 C G k_771 dX8_arise_17 (fun H locs G => ?_)
  obtain ⟨S4, eS4, hf⟩ := stp_e hf
  rw [← eS4] at G
  clear eS4
  refine lv_aload_n C.1 C.2.1 dX8_arise_20 rfl (lv_at hl 0 rfl) ?_
  refine lv_dup C.1 C.2.1 dX8_arise_21 rfl ?_
  refine gM_0_17 C G k_775 dX8_arise_22 ?_
  refine lv_iconst (v := 1) C.1 C.2.1 dX8_arise_25 (by decide) ?_
  refine lv_iadd C.1 C.2.1 dX8_arise_26 ?_
  refine pM_0_17 C G k_775 dX8_arise_27 (fun H locs G => ?_)
  obtain ⟨S5, eS5, hf⟩ := stp_e hf
  rw [← eS5] at G
  clear eS5
  refine lv_aload_n C.1 C.2.1 dX8_arise_30 rfl (lv_at hl 0 rfl) ?_
  refine lv_aload_n C.1 C.2.1 dX8_arise_31 rfl (lv_at hl 0 rfl) ?_
  refine gM_0_6 C G k_764 dX8_arise_32 ?_
  refine pM_0_16 C G k_774 dX8_arise_35 (fun H locs G => ?_)
  obtain ⟨S6, eS6, hf⟩ := stp_e hf
  rw [← eS6] at G
  clear eS6
  refine lv_iconst (v := 0) C.1 C.2.1 dX8_arise_38 (by decide) ?_
  obtain ⟨y7, ey7, hf⟩ := stv_e hf
  refine nm_i ey7 ?_
  refine lv_istore_n (lv' := [(3, .int y7), (0, .ref (a 0)), (1, .int p1), (2, .int p2)]) C.1 C.2.1 dX8_arise_39 rfl hl (by decide) rfl (fun ls hl => ?_)
  exact rX8_arise_0_40 C hr 500 p1 y7 S6 _ _ _ _ hf G (lv_sub hl [1, 2, 0] rfl)
set_option maxRecDepth 100000 in
set_option maxHeartbeats 4000000 in
theorem rX8_turn_0_163 {p : Program} {l : Launch} {e : Env} {s : State} {m : MethodId} {args : Array Value} {below : List Frame} {meth : Method} {c : Code} {D : va_G} {a : Nat → Nat} {cI cJ : ClassId} {tk : Nat} {tf : Nat → Int32} (C : Cx p s m args meth c RX8 cX8_turn 5 D cI cJ tk tf (AR a 17 s.heap.size)) (hr : meth.sig.returnType = none) : ∀ (z0 : Int32) (S : St) (x : Int32 × St) (H : Heap) (locs : List Loc) (ls : Array Slot), fX8_turn_0_163 z0 S = some x → Wd D (wM a cI cJ) (AR a 17 s.heap.size) s S H locs → lv_has ls 5 [(0, .ref (a 0))] → W p l e { frames := 3, cells := 0, slots := 0, locals := 66 } s m args below meth c H locs 0 0 (MQ below (Qv D (wM a cI cJ) (AR a 17 s.heap.size) x) args s 0 0 (AR a 17 s.heap.size)) (F0 m 163 ls [.int z0]) := by
  intro z0 S x H locs ls hf G hl
  unfold fX8_turn_0_163 at hf
  refine lv_istore (lv' := [(4, .int z0), (0, .ref (a 0))]) C.1 C.2.1 dX8_turn_163 hl (by decide) rfl (fun ls hl => ?_)
  refine lv_aload_n C.1 C.2.1 dX8_turn_165 rfl (lv_at hl 1 rfl) ?_
  refine lv_dup C.1 C.2.1 dX8_turn_166 rfl ?_
  refine gM_0_19 C G k_777 dX8_turn_167 ?_
  refine lv_iconst (v := 1) C.1 C.2.1 dX8_turn_170 (by decide) ?_
  refine lv_isub C.1 C.2.1 dX8_turn_171 ?_
  refine pM_0_19 C G k_777 dX8_turn_172 (fun H locs G => ?_)
  obtain ⟨S1, eS1, hf⟩ := stp_e hf
  rw [← eS1] at G
  clear eS1
  refine lv_aload_n C.1 C.2.1 dX8_turn_175 rfl (lv_at hl 1 rfl) ?_
  refine lv_iload C.1 C.2.1 dX8_turn_176 (lv_at hl 0 rfl) ?_
  refine lv_bipush (v := (-2)) C.1 C.2.1 dX8_turn_178 (by decide) ?_
  obtain ⟨r2, S2, eS2, hf⟩ := bnd_e hf
  refine r_calv (As := [.int z0, .int (-2 : Int32)]) (na := 2) C adM G (mX8_arise_0 l D a cI cJ tk tf z0 (-2 : Int32) S1 _ eS2) k_949 k_951 k_46 k_68 k_952 (q0 := 0) rfl (ci := 8) rfl (by decide +kernel) ⟨Nat.le_of_ble_eq_true rfl, Nat.le_of_ble_eq_true rfl⟩ rfl rfl ⟨Nat.zero_le _, Nat.zero_le _⟩ rfl hl.1 rfl (Nat.le_of_ble_eq_true rfl) dX8_turn_180 (fun H locs G => ?_)
  refine lv_goto (tgt := 243) C.1 C.2.1 dX8_turn_183 (by decide) ?_
  exact r_vret C hr G hf dX8_turn_243
set_option maxRecDepth 100000 in
set_option maxHeartbeats 4000000 in
theorem rX8_turn_0_148 {p : Program} {l : Launch} {e : Env} {s : State} {m : MethodId} {args : Array Value} {below : List Frame} {meth : Method} {c : Code} {D : va_G} {a : Nat → Nat} {cI cJ : ClassId} {tk : Nat} {tf : Nat → Int32} (C : Cx p s m args meth c RX8 cX8_turn 5 D cI cJ tk tf (AR a 17 s.heap.size)) (hr : meth.sig.returnType = none) : ∀ (S : St) (x : Int32 × St) (H : Heap) (locs : List Loc) (ls : Array Slot), fX8_turn_0_148 S = some x → Wd D (wM a cI cJ) (AR a 17 s.heap.size) s S H locs → lv_has ls 5 [(0, .ref (a 0))] → W p l e { frames := 3, cells := 0, slots := 0, locals := 66 } s m args below meth c H locs 0 0 (MQ below (Qv D (wM a cI cJ) (AR a 17 s.heap.size) x) args s 0 0 (AR a 17 s.heap.size)) (F0 m 148 ls []) := by
  intro S x H locs ls hf G hl
  unfold fX8_turn_0_148 at hf
  refine lv_aload_n C.1 C.2.1 dX8_turn_148 rfl (lv_at hl 0 rfl) ?_
  refine gM_0_19 C G k_777 dX8_turn_149 ?_
  refine lv_bipush (v := 30) C.1 C.2.1 dX8_turn_152 (by decide) ?_
  refine lv_icmp_ne (tgt := 162) C.1 C.2.1 dX8_turn_154 (by decide) (fun c1 => ?_) (fun c1 => ?_)
  · replace hf := ifq c1 hf
    refine lv_iconst (v := 2) C.1 C.2.1 dX8_turn_162 (by decide) ?_
    exact rX8_turn_0_163 C hr (2 : Int32) S _ _ _ _ hf G (lv_sub hl [0] rfl)
  · replace hf := ifp c1 hf
    refine lv_bipush (v := 8) C.1 C.2.1 dX8_turn_157 (by decide) ?_
    refine lv_goto (tgt := 163) C.1 C.2.1 dX8_turn_159 (by decide) ?_
    exact rX8_turn_0_163 C hr (8 : Int32) S _ _ _ _ hf G (lv_sub hl [0] rfl)
set_option maxRecDepth 100000 in
set_option maxHeartbeats 4000000 in
theorem rX8_turn_0_230 {p : Program} {l : Launch} {e : Env} {s : State} {m : MethodId} {args : Array Value} {below : List Frame} {meth : Method} {c : Code} {D : va_G} {a : Nat → Nat} {cI cJ : ClassId} {tk : Nat} {tf : Nat → Int32} (C : Cx p s m args meth c RX8 cX8_turn 5 D cI cJ tk tf (AR a 17 s.heap.size)) (hr : meth.sig.returnType = none) : ∀ (q1 : Int32) (z1 : Int32) (z2 : Int64) (z3 : Int64) (S : St) (x : Int32 × St) (H : Heap) (locs : List Loc) (ls : Array Slot), fX8_turn_0_230 q1 z1 z2 z3 S = some x → Wd D (wM a cI cJ) (AR a 17 s.heap.size) s S H locs → lv_has ls 5 [(0, .ref (a 0)), (1, .int q1)] → W p l e { frames := 3, cells := 0, slots := 0, locals := 66 } s m args below meth c H locs 0 0 (MQ below (Qv D (wM a cI cJ) (AR a 17 s.heap.size) x) args s 0 0 (AR a 17 s.heap.size)) (F0 m 230 ls [.long z3, .long z2, .int z1, .ref (a 14)]) := by
  intro q1 z1 z2 z3 S x H locs ls hf G hl
  unfold fX8_turn_0_230 at hf
  refine lv_ladd C.1 C.2.1 dX8_turn_230 ?_
  obtain ⟨hi1, hf⟩ := ifn hf
  refine sM_14 C G hi1 dX8_turn_231 (fun H locs G => ?_)
  obtain ⟨S1, eS1, hf⟩ := stp_e hf
  rw [← eS1] at G
  clear eS1
  refine lv_aload_n C.1 C.2.1 dX8_turn_232 rfl (lv_at hl 0 rfl) ?_
  refine lv_iconst (v := 0) C.1 C.2.1 dX8_turn_233 (by decide) ?_
  refine lv_aload_n C.1 C.2.1 dX8_turn_234 rfl (lv_at hl 0 rfl) ?_
  refine gM_0_21 C G k_779 dX8_turn_235 ?_
  refine lv_iload_n C.1 C.2.1 dX8_turn_238 rfl (lv_at hl 1 rfl) ?_
  obtain ⟨hi2, hf⟩ := ifn hf
  refine aM_12 C G hi2 dX8_turn_239 ?_
  obtain ⟨r3, S3, eS3, hf⟩ := bnd_e hf
  refine r_calv (As := [.int (0 : Int32), .int (S1.1 12 q1.toNatClampNeg)]) (na := 2) C adM G (mX8_come_0 l D a cI cJ tk tf (0 : Int32) (S1.1 12 q1.toNatClampNeg) S1 _ eS3) k_887 k_889 k_32 k_68 k_890 (q0 := 0) rfl (ci := 8) rfl (by decide +kernel) ⟨Nat.le_of_ble_eq_true rfl, Nat.le_of_ble_eq_true rfl⟩ rfl rfl ⟨Nat.zero_le _, Nat.zero_le _⟩ rfl hl.1 rfl (Nat.le_of_ble_eq_true rfl) dX8_turn_240 (fun H locs G => ?_)
  exact r_vret C hr G hf dX8_turn_243
set_option maxRecDepth 100000 in
set_option maxHeartbeats 4000000 in
theorem rX8_turn_0_202 {p : Program} {l : Launch} {e : Env} {s : State} {m : MethodId} {args : Array Value} {below : List Frame} {meth : Method} {c : Code} {D : va_G} {a : Nat → Nat} {cI cJ : ClassId} {tk : Nat} {tf : Nat → Int32} (C : Cx p s m args meth c RX8 cX8_turn 5 D cI cJ tk tf (AR a 17 s.heap.size)) (hr : meth.sig.returnType = none) : ∀ (q1 : Int32) (q3 : Int32) (S : St) (x : Int32 × St) (H : Heap) (locs : List Loc) (ls : Array Slot), fX8_turn_0_202 q1 q3 S = some x → Wd D (wM a cI cJ) (AR a 17 s.heap.size) s S H locs → lv_has ls 5 [(0, .ref (a 0)), (1, .int q1), (3, .int q3)] → W p l e { frames := 3, cells := 0, slots := 0, locals := 66 } s m args below meth c H locs 0 0 (MQ below (Qv D (wM a cI cJ) (AR a 17 s.heap.size) x) args s 0 0 (AR a 17 s.heap.size)) (F0 m 202 ls []) := by
  intro q1 q3 S x H locs ls hf G hl
  unfold fX8_turn_0_202 at hf
  refine lv_aload_n C.1 C.2.1 dX8_turn_202 rfl (lv_at hl 0 rfl) ?_
  refine gM_0_23 C G k_781 dX8_turn_203 ?_
  refine lv_iload_n C.1 C.2.1 dX8_turn_206 rfl (lv_at hl 1 rfl) ?_
  refine lv_aload_n C.1 C.2.1 dX8_turn_207 rfl (lv_at hl 0 rfl) ?_
  refine gM_0_23 C G k_781 dX8_turn_208 ?_
  refine lv_iload_n C.1 C.2.1 dX8_turn_211 rfl (lv_at hl 1 rfl) ?_
  obtain ⟨hi1, hf⟩ := ifn hf
  refine aM_14 C G hi1 dX8_turn_212 ?_
  refine lv_iload_n C.1 C.2.1 dX8_turn_213 rfl (lv_at hl 2 rfl) ?_
  refine lv_if_eq (tgt := 227) C.1 C.2.1 dX8_turn_214 (by decide) (fun c2 => ?_) (fun c2 => ?_)
  · replace hf := ifp c2 hf
    refine lv_ldc2 (v := (-1)) C.1 C.2.1 C.2.2.2.1 (C.2.2.2.2.1 _ k_997) dX8_turn_227 ?_
    exact rX8_turn_0_230 C hr q1 q1 (S.2 q1.toNatClampNeg) (-1 : Int64) S _ _ _ _ hf G (lv_sub hl [0, 1] rfl)
  · replace hf := ifq c2 hf
    refine lv_aload_n C.1 C.2.1 dX8_turn_217 rfl (lv_at hl 0 rfl) ?_
    refine gM_0_24 C G k_782 dX8_turn_218 ?_
    refine lv_iload_n C.1 C.2.1 dX8_turn_221 rfl (lv_at hl 1 rfl) ?_
    obtain ⟨hi3, hf⟩ := ifn hf
    refine aM_15 C G hi3 dX8_turn_222 ?_
    refine lv_i2l C.1 C.2.1 dX8_turn_223 rfl ?_
    refine lv_goto (tgt := 230) C.1 C.2.1 dX8_turn_224 (by decide) ?_
    exact rX8_turn_0_230 C hr q1 q1 (S.2 q1.toNatClampNeg) ((S.1 15 q1.toNatClampNeg).toInt64) S _ _ _ _ hf G (lv_sub hl [0, 1] rfl)
set_option maxRecDepth 100000 in
set_option maxHeartbeats 4000000 in
theorem rX8_turn_0_186 {p : Program} {l : Launch} {e : Env} {s : State} {m : MethodId} {args : Array Value} {below : List Frame} {meth : Method} {c : Code} {D : va_G} {a : Nat → Nat} {cI cJ : ClassId} {tk : Nat} {tf : Nat → Int32} (C : Cx p s m args meth c RX8 cX8_turn 5 D cI cJ tk tf (AR a 17 s.heap.size)) (hr : meth.sig.returnType = none) : ∀ (q1 : Int32) (q3 : Int32) (S : St) (x : Int32 × St) (H : Heap) (locs : List Loc) (ls : Array Slot), fX8_turn_0_186 q1 q3 S = some x → Wd D (wM a cI cJ) (AR a 17 s.heap.size) s S H locs → lv_has ls 5 [(0, .ref (a 0)), (1, .int q1), (3, .int q3)] → W p l e { frames := 3, cells := 0, slots := 0, locals := 66 } s m args below meth c H locs 0 0 (MQ below (Qv D (wM a cI cJ) (AR a 17 s.heap.size) x) args s 0 0 (AR a 17 s.heap.size)) (F0 m 186 ls []) := by
  intro q1 q3 S x H locs ls hf G hl
  unfold fX8_turn_0_186 at hf
  refine lv_iload_n C.1 C.2.1 dX8_turn_186 rfl (lv_at hl 2 rfl) ?_
  refine lv_if_eq (tgt := 202) C.1 C.2.1 dX8_turn_187 (by decide) (fun c1 => ?_) (fun c1 => ?_)
  · replace hf := ifp c1 hf
    exact rX8_turn_0_202 C hr q1 q3 S _ _ _ _ hf G (lv_sub hl [0, 1, 2] rfl)
  · replace hf := ifq c1 hf
    refine lv_aload_n C.1 C.2.1 dX8_turn_190 rfl (lv_at hl 0 rfl) ?_
    refine lv_iconst (v := 0) C.1 C.2.1 dX8_turn_191 (by decide) ?_
    refine lv_aload_n C.1 C.2.1 dX8_turn_192 rfl (lv_at hl 0 rfl) ?_
    refine gM_0_23 C G k_781 dX8_turn_193 ?_
    refine lv_iload_n C.1 C.2.1 dX8_turn_196 rfl (lv_at hl 1 rfl) ?_
    obtain ⟨hi2, hf⟩ := ifn hf
    refine aM_14 C G hi2 dX8_turn_197 ?_
    refine lv_l2i C.1 C.2.1 dX8_turn_198 rfl ?_
    obtain ⟨r3, S3, eS3, hf⟩ := bnd_e hf
    refine r_calv (As := [.int (0 : Int32), .int ((S.2 q1.toNatClampNeg).toInt32)]) (na := 2) C adM G (mX8_lay_0 l D a cI cJ tk tf (0 : Int32) ((S.2 q1.toNatClampNeg).toInt32) S _ eS3) k_871 k_873 k_31 k_68 k_874 (q0 := 0) rfl (ci := 8) rfl (by decide +kernel) ⟨Nat.le_of_ble_eq_true rfl, Nat.le_of_ble_eq_true rfl⟩ rfl rfl ⟨Nat.zero_le _, Nat.zero_le _⟩ rfl hl.1 rfl (Nat.le_of_ble_eq_true rfl) dX8_turn_199 (fun H locs G => ?_)
    exact rX8_turn_0_202 C hr q1 q3 S3 _ _ _ _ hf G (lv_sub hl [0, 1, 2] rfl)
set_option maxRecDepth 100000 in
set_option maxHeartbeats 4000000 in
theorem rX8_turn_0_108 {p : Program} {l : Launch} {e : Env} {s : State} {m : MethodId} {args : Array Value} {below : List Frame} {meth : Method} {c : Code} {D : va_G} {a : Nat → Nat} {cI cJ : ClassId} {tk : Nat} {tf : Nat → Int32} (C : Cx p s m args meth c RX8 cX8_turn 5 D cI cJ tk tf (AR a 17 s.heap.size)) (hr : meth.sig.returnType = none) : ∀ (q1 : Int32) (q2 : Int32) (z0 : Int32) (S : St) (x : Int32 × St) (H : Heap) (locs : List Loc) (ls : Array Slot), fX8_turn_0_108 q1 q2 z0 S = some x → Wd D (wM a cI cJ) (AR a 17 s.heap.size) s S H locs → lv_has ls 5 [(0, .ref (a 0)), (1, .int q1), (2, .int q2)] → W p l e { frames := 3, cells := 0, slots := 0, locals := 66 } s m args below meth c H locs 0 0 (MQ below (Qv D (wM a cI cJ) (AR a 17 s.heap.size) x) args s 0 0 (AR a 17 s.heap.size)) (F0 m 108 ls [.int z0]) := by
  intro q1 q2 z0 S x H locs ls hf G hl
  unfold fX8_turn_0_108 at hf
  refine lv_istore_n (lv' := [(3, .int z0), (0, .ref (a 0)), (1, .int q1), (2, .int q2)]) C.1 C.2.1 dX8_turn_108 rfl hl (by decide) rfl (fun ls hl => ?_)
  refine lv_iload_n C.1 C.2.1 dX8_turn_109 rfl (lv_at hl 3 rfl) ?_
  refine lv_if_ne (tgt := 126) C.1 C.2.1 dX8_turn_110 (by decide) (fun c1 => ?_) (fun c1 => ?_)
  · replace hf := ifq c1 hf
    refine lv_aload_n C.1 C.2.1 dX8_turn_126 rfl (lv_at hl 1 rfl) ?_
    refine gM_0_19 C G k_777 dX8_turn_127 ?_
    refine lv_bipush (v := 30) C.1 C.2.1 dX8_turn_130 (by decide) ?_
    refine lv_icmp_eq (tgt := 148) C.1 C.2.1 dX8_turn_132 (by decide) (fun c3 => ?_) (fun c3 => ?_)
    · replace hf := ifp c3 hf
      exact rX8_turn_0_148 C hr S _ _ _ _ hf G (lv_sub hl [1] rfl)
    · replace hf := ifq c3 hf
      refine lv_iload_n C.1 C.2.1 dX8_turn_135 rfl (lv_at hl 0 rfl) ?_
      refine lv_if_eq (tgt := 186) C.1 C.2.1 dX8_turn_136 (by decide) (fun c4 => ?_) (fun c4 => ?_)
      · replace hf := ifp c4 hf
        exact rX8_turn_0_186 C hr q1 z0 S _ _ _ _ hf G (lv_sub hl [1, 2, 0] rfl)
      · replace hf := ifq c4 hf
        refine lv_aload_n C.1 C.2.1 dX8_turn_139 rfl (lv_at hl 1 rfl) ?_
        refine gM_0_6 C G k_764 dX8_turn_140 ?_
        refine lv_bipush (v := 60) C.1 C.2.1 dX8_turn_143 (by decide) ?_
        refine lv_icmp_ne (tgt := 186) C.1 C.2.1 dX8_turn_145 (by decide) (fun c5 => ?_) (fun c5 => ?_)
        · replace hf := ifq c5 hf
          exact rX8_turn_0_186 C hr q1 z0 S _ _ _ _ hf G (lv_sub hl [1, 2, 0] rfl)
        · replace hf := ifp c5 hf
          exact rX8_turn_0_148 C hr S _ _ _ _ hf G (lv_sub hl [1] rfl)
  · replace hf := ifp c1 hf
    refine lv_aload_n C.1 C.2.1 dX8_turn_113 rfl (lv_at hl 1 rfl) ?_
    refine lv_dup C.1 C.2.1 dX8_turn_114 rfl ?_
    refine gM_0_19 C G k_777 dX8_turn_115 ?_
    refine lv_iconst (v := 1) C.1 C.2.1 dX8_turn_118 (by decide) ?_
    refine lv_isub C.1 C.2.1 dX8_turn_119 ?_
    refine pM_0_19 C G k_777 dX8_turn_120 (fun H locs G => ?_)
    obtain ⟨S2, eS2, hf⟩ := stp_e hf
    rw [← eS2] at G
    clear eS2
    refine lv_goto (tgt := 243) C.1 C.2.1 dX8_turn_123 (by decide) ?_
    exact r_vret C hr G hf dX8_turn_243
set_option maxRecDepth 100000 in
set_option maxHeartbeats 4000000 in
theorem rX8_turn_0_92 {p : Program} {l : Launch} {e : Env} {s : State} {m : MethodId} {args : Array Value} {below : List Frame} {meth : Method} {c : Code} {D : va_G} {a : Nat → Nat} {cI cJ : ClassId} {tk : Nat} {tf : Nat → Int32} (C : Cx p s m args meth c RX8 cX8_turn 5 D cI cJ tk tf (AR a 17 s.heap.size)) (hr : meth.sig.returnType = none) : ∀ (q1 : Int32) (z0 : Int32) (S : St) (x : Int32 × St) (H : Heap) (locs : List Loc) (ls : Array Slot), fX8_turn_0_92 q1 z0 S = some x → Wd D (wM a cI cJ) (AR a 17 s.heap.size) s S H locs → lv_has ls 5 [(0, .ref (a 0)), (1, .int q1)] → W p l e { frames := 3, cells := 0, slots := 0, locals := 66 } s m args below meth c H locs 0 0 (MQ below (Qv D (wM a cI cJ) (AR a 17 s.heap.size) x) args s 0 0 (AR a 17 s.heap.size)) (F0 m 92 ls [.int z0]) := by
  intro q1 z0 S x H locs ls hf G hl
  unfold fX8_turn_0_92 at hf
  refine lv_istore_n (lv' := [(2, .int z0), (0, .ref (a 0)), (1, .int q1)]) C.1 C.2.1 dX8_turn_92 rfl hl (by decide) rfl (fun ls hl => ?_)
  refine lv_aload_n C.1 C.2.1 dX8_turn_93 rfl (lv_at hl 1 rfl) ?_
  refine gM_0_20 C G k_778 dX8_turn_94 ?_
  refine lv_iload_n C.1 C.2.1 dX8_turn_97 rfl (lv_at hl 2 rfl) ?_
  obtain ⟨hi1, hf⟩ := ifn hf
  refine aM_11 C G hi1 dX8_turn_98 ?_
  refine lv_iconst (v := 2) C.1 C.2.1 dX8_turn_99 (by decide) ?_
  refine lv_icmp_ne (tgt := 107) C.1 C.2.1 dX8_turn_100 (by decide) (fun c2 => ?_) (fun c2 => ?_)
  · replace hf := ifq c2 hf
    refine lv_iconst (v := 0) C.1 C.2.1 dX8_turn_107 (by decide) ?_
    exact rX8_turn_0_108 C hr q1 z0 (0 : Int32) S _ _ _ _ hf G (lv_sub hl [1, 2, 0] rfl)
  · replace hf := ifp c2 hf
    refine lv_iconst (v := 1) C.1 C.2.1 dX8_turn_103 (by decide) ?_
    refine lv_goto (tgt := 108) C.1 C.2.1 dX8_turn_104 (by decide) ?_
    exact rX8_turn_0_108 C hr q1 z0 (1 : Int32) S _ _ _ _ hf G (lv_sub hl [1, 2, 0] rfl)
set_option maxRecDepth 100000 in
set_option maxHeartbeats 4000000 in
theorem rX8_turn_0_87 {p : Program} {l : Launch} {e : Env} {s : State} {m : MethodId} {args : Array Value} {below : List Frame} {meth : Method} {c : Code} {D : va_G} {a : Nat → Nat} {cI cJ : ClassId} {tk : Nat} {tf : Nat → Int32} (C : Cx p s m args meth c RX8 cX8_turn 5 D cI cJ tk tf (AR a 17 s.heap.size)) (hr : meth.sig.returnType = none) : ∀ (q1 : Int32) (S : St) (x : Int32 × St) (H : Heap) (locs : List Loc) (ls : Array Slot), fX8_turn_0_87 q1 S = some x → Wd D (wM a cI cJ) (AR a 17 s.heap.size) s S H locs → lv_has ls 5 [(0, .ref (a 0)), (1, .int q1)] → W p l e { frames := 3, cells := 0, slots := 0, locals := 66 } s m args below meth c H locs 0 0 (MQ below (Qv D (wM a cI cJ) (AR a 17 s.heap.size) x) args s 0 0 (AR a 17 s.heap.size)) (F0 m 87 ls []) := by
  intro q1 S x H locs ls hf G hl
  unfold fX8_turn_0_87 at hf
  refine lv_iconst (v := 1) C.1 C.2.1 dX8_turn_87 (by decide) ?_
  refine lv_goto (tgt := 92) C.1 C.2.1 dX8_turn_88 (by decide) ?_
  exact rX8_turn_0_92 C hr q1 (1 : Int32) S _ _ _ _ hf G (lv_sub hl [0, 1] rfl)
set_option maxRecDepth 100000 in
set_option maxHeartbeats 4000000 in
theorem rX8_turn_0_91 {p : Program} {l : Launch} {e : Env} {s : State} {m : MethodId} {args : Array Value} {below : List Frame} {meth : Method} {c : Code} {D : va_G} {a : Nat → Nat} {cI cJ : ClassId} {tk : Nat} {tf : Nat → Int32} (C : Cx p s m args meth c RX8 cX8_turn 5 D cI cJ tk tf (AR a 17 s.heap.size)) (hr : meth.sig.returnType = none) : ∀ (q1 : Int32) (S : St) (x : Int32 × St) (H : Heap) (locs : List Loc) (ls : Array Slot), fX8_turn_0_91 q1 S = some x → Wd D (wM a cI cJ) (AR a 17 s.heap.size) s S H locs → lv_has ls 5 [(0, .ref (a 0)), (1, .int q1)] → W p l e { frames := 3, cells := 0, slots := 0, locals := 66 } s m args below meth c H locs 0 0 (MQ below (Qv D (wM a cI cJ) (AR a 17 s.heap.size) x) args s 0 0 (AR a 17 s.heap.size)) (F0 m 91 ls []) := by
  intro q1 S x H locs ls hf G hl
  unfold fX8_turn_0_91 at hf
  refine lv_iconst (v := 0) C.1 C.2.1 dX8_turn_91 (by decide) ?_
  exact rX8_turn_0_92 C hr q1 (0 : Int32) S _ _ _ _ hf G (lv_sub hl [0, 1] rfl)
set_option maxRecDepth 100000 in
set_option maxHeartbeats 4000000 in
theorem rX8_turn_0_31 {p : Program} {l : Launch} {e : Env} {s : State} {m : MethodId} {args : Array Value} {below : List Frame} {meth : Method} {c : Code} {D : va_G} {a : Nat → Nat} {cI cJ : ClassId} {tk : Nat} {tf : Nat → Int32} (C : Cx p s m args meth c RX8 cX8_turn 5 D cI cJ tk tf (AR a 17 s.heap.size)) (hr : meth.sig.returnType = none) : ∀ (q1 : Int32) (S : St) (x : Int32 × St) (H : Heap) (locs : List Loc) (ls : Array Slot), fX8_turn_0_31 q1 S = some x → Wd D (wM a cI cJ) (AR a 17 s.heap.size) s S H locs → lv_has ls 5 [(0, .ref (a 0)), (1, .int q1)] → W p l e { frames := 3, cells := 0, slots := 0, locals := 66 } s m args below meth c H locs 0 0 (MQ below (Qv D (wM a cI cJ) (AR a 17 s.heap.size) x) args s 0 0 (AR a 17 s.heap.size)) (F0 m 31 ls []) := by
  intro q1 S x H locs ls hf G hl
  unfold fX8_turn_0_31 at hf
  refine lv_aload_n C.1 C.2.1 dX8_turn_31 rfl (lv_at hl 0 rfl) ?_
  refine gM_0_20 C G k_778 dX8_turn_32 ?_
  refine lv_iload_n C.1 C.2.1 dX8_turn_35 rfl (lv_at hl 1 rfl) ?_
  obtain ⟨hi1, hf⟩ := ifn hf
  refine aM_11 C G hi1 dX8_turn_36 ?_
  refine lv_iconst (v := 2) C.1 C.2.1 dX8_turn_37 (by decide) ?_
  refine lv_icmp_ne (tgt := 91) C.1 C.2.1 dX8_turn_38 (by decide) (fun c2 => ?_) (fun c2 => ?_)
  · replace hf := ifq c2 hf
    exact rX8_turn_0_91 C hr q1 S _ _ _ _ hf G (lv_sub hl [0, 1] rfl)
  · replace hf := ifp c2 hf
    refine lv_aload_n C.1 C.2.1 dX8_turn_41 rfl (lv_at hl 0 rfl) ?_
    refine gM_0_24 C G k_782 dX8_turn_42 ?_
    refine lv_iload_n C.1 C.2.1 dX8_turn_45 rfl (lv_at hl 1 rfl) ?_
    obtain ⟨hi3, hf⟩ := ifn hf
    refine aM_15 C G hi3 dX8_turn_46 ?_
    refine lv_if_le (tgt := 70) C.1 C.2.1 dX8_turn_47 (by decide) (fun c4 => ?_) (fun c4 => ?_)
    · replace hf := ifp c4 hf
      refine lv_aload_n C.1 C.2.1 dX8_turn_70 rfl (lv_at hl 0 rfl) ?_
      refine gM_0_23 C G k_781 dX8_turn_71 ?_
      refine lv_iload_n C.1 C.2.1 dX8_turn_74 rfl (lv_at hl 1 rfl) ?_
      obtain ⟨hi5, hf⟩ := ifn hf
      refine aM_14 C G hi5 dX8_turn_75 ?_
      refine lv_aload_n C.1 C.2.1 dX8_turn_76 rfl (lv_at hl 0 rfl) ?_
      refine gM_0_25 C G k_783 dX8_turn_77 ?_
      refine lv_iload_n C.1 C.2.1 dX8_turn_80 rfl (lv_at hl 1 rfl) ?_
      obtain ⟨hi6, hf⟩ := ifn hf
      refine aM_16 C G hi6 dX8_turn_81 ?_
      refine lv_i2l C.1 C.2.1 dX8_turn_82 rfl ?_
      refine W.lcmp C.1 C.2.1 dX8_turn_83 ?_
      refine lv_if_lt (tgt := 91) C.1 C.2.1 dX8_turn_84 (by decide) (fun c7 => ?_) (fun c7 => ?_)
      · replace hf := ifp c7 hf
        exact rX8_turn_0_91 C hr q1 S _ _ _ _ hf G (lv_sub hl [0, 1] rfl)
      · replace hf := ifq c7 hf
        exact rX8_turn_0_87 C hr q1 S _ _ _ _ hf G (lv_sub hl [0, 1] rfl)
    · replace hf := ifq c4 hf
      refine lv_aload_n C.1 C.2.1 dX8_turn_50 rfl (lv_at hl 0 rfl) ?_
      refine gM_0_23 C G k_781 dX8_turn_51 ?_
      refine lv_iload_n C.1 C.2.1 dX8_turn_54 rfl (lv_at hl 1 rfl) ?_
      obtain ⟨hi8, hf⟩ := ifn hf
      refine aM_14 C G hi8 dX8_turn_55 ?_
      refine lv_aload_n C.1 C.2.1 dX8_turn_56 rfl (lv_at hl 0 rfl) ?_
      refine gM_0_25 C G k_783 dX8_turn_57 ?_
      refine lv_iload_n C.1 C.2.1 dX8_turn_60 rfl (lv_at hl 1 rfl) ?_
      obtain ⟨hi9, hf⟩ := ifn hf
      refine aM_16 C G hi9 dX8_turn_61 ?_
      refine lv_i2l C.1 C.2.1 dX8_turn_62 rfl ?_
      refine W.lcmp C.1 C.2.1 dX8_turn_63 ?_
      refine lv_if_gt (tgt := 91) C.1 C.2.1 dX8_turn_64 (by decide) (fun c10 => ?_) (fun c10 => ?_)
      · replace hf := ifp c10 hf
        exact rX8_turn_0_91 C hr q1 S _ _ _ _ hf G (lv_sub hl [0, 1] rfl)
      · replace hf := ifq c10 hf
        refine lv_goto (tgt := 87) C.1 C.2.1 dX8_turn_67 (by decide) ?_
        exact rX8_turn_0_87 C hr q1 S _ _ _ _ hf G (lv_sub hl [0, 1] rfl)
set_option maxRecDepth 100000 in
set_option maxHeartbeats 4000000 in
theorem mX8_turn_0 (l : Launch) (D : va_G) (a : Nat → Nat) (cI cJ : ClassId) (tk : Nat) (tf : Nat → Int32) (p1 : Int32) (S : St) (x : Int32 × St) (hf : fX8_turn_0 p1 S = some x) : Mv l D (wM a cI cJ) a 17 cI cJ tk tf yX8_turn cX8_turn 5 { frames := 3, cells := 0, slots := 0, locals := 66 } [.ref (a 0), .int p1] S x := by
  refine opn_v (by decide +kernel) (Nat.le_of_ble_eq_true rfl) (fun p e s m below meth c C hr G ls hl => ?_)
  replace hl : lv_has ls 5 [(0, .ref (a 0)), (1, .int p1)] := hl
  unfold fX8_turn_0 at hf
  refine lv_aload_n C.1 C.2.1 dX8_turn_0 rfl (lv_at hl 0 rfl) ?_
  refine gM_0_20 C G k_778 dX8_turn_1 ?_
  refine lv_iload_n C.1 C.2.1 dX8_turn_4 rfl (lv_at hl 1 rfl) ?_
  obtain ⟨hi1, hf⟩ := ifn hf
  refine aM_11 C G hi1 dX8_turn_5 ?_
  refine lv_iconst (v := 3) C.1 C.2.1 dX8_turn_6 (by decide) ?_
  refine lv_icmp_eq (tgt := 87) C.1 C.2.1 dX8_turn_7 (by decide) (fun c2 => ?_) (fun c2 => ?_)
  · replace hf := ifp c2 hf
    exact rX8_turn_0_87 C hr p1 S _ _ _ _ hf G (lv_sub hl [0, 1] rfl)
  · replace hf := ifq c2 hf
    refine lv_aload_n C.1 C.2.1 dX8_turn_10 rfl (lv_at hl 0 rfl) ?_
    refine gM_0_20 C G k_778 dX8_turn_11 ?_
    refine lv_iload_n C.1 C.2.1 dX8_turn_14 rfl (lv_at hl 1 rfl) ?_
    obtain ⟨hi3, hf⟩ := ifn hf
    refine aM_11 C G hi3 dX8_turn_15 ?_
    refine lv_iconst (v := 1) C.1 C.2.1 dX8_turn_16 (by decide) ?_
    refine lv_icmp_ne (tgt := 31) C.1 C.2.1 dX8_turn_17 (by decide) (fun c4 => ?_) (fun c4 => ?_)
    · replace hf := ifq c4 hf
      exact rX8_turn_0_31 C hr p1 S _ _ _ _ hf G (lv_sub hl [0, 1] rfl)
    · replace hf := ifp c4 hf
      refine lv_aload_n C.1 C.2.1 dX8_turn_20 rfl (lv_at hl 0 rfl) ?_
      refine gM_0_23 C G k_781 dX8_turn_21 ?_
      refine lv_iload_n C.1 C.2.1 dX8_turn_24 rfl (lv_at hl 1 rfl) ?_
      obtain ⟨hi5, hf⟩ := ifn hf
      refine aM_14 C G hi5 dX8_turn_25 ?_
      refine lv_lconst (v := 0) C.1 C.2.1 dX8_turn_26 (by decide) ?_
      refine W.lcmp C.1 C.2.1 dX8_turn_27 ?_
      refine lv_if_gt (tgt := 87) C.1 C.2.1 dX8_turn_28 (by decide) (fun c6 => ?_) (fun c6 => ?_)
      · replace hf := ifp c6 hf
        exact rX8_turn_0_87 C hr p1 S _ _ _ _ hf G (lv_sub hl [0, 1] rfl)
      · replace hf := ifq c6 hf
        exact rX8_turn_0_31 C hr p1 S _ _ _ _ hf G (lv_sub hl [0, 1] rfl)
set_option maxRecDepth 100000 in
set_option maxHeartbeats 4000000 in
theorem rX8_isSpent_0_55 {p : Program} {l : Launch} {e : Env} {s : State} {m : MethodId} {args : Array Value} {below : List Frame} {meth : Method} {c : Code} {D : va_G} {a : Nat → Nat} {cI cJ : ClassId} {tk : Nat} {tf : Nat → Int32} (C : Cx p s m args meth c RX8 cX8_isSpent 1 D cI cJ tk tf (AR a 17 s.heap.size)) (hr : meth.sig.returnType = (some .boolean)) : ∀ (S : St) (x : Int32 × St) (H : Heap) (locs : List Loc) (ls : Array Slot), fX8_isSpent_0_55 S = some x → Wd D (wM a cI cJ) (AR a 17 s.heap.size) s S H locs → lv_has ls 1 [] → W p l e { frames := 0, cells := 0, slots := 0, locals := 0 } s m args below meth c H locs 0 0 (MQ below (Qi D (wM a cI cJ) (AR a 17 s.heap.size) x) args s 0 0 (AR a 17 s.heap.size)) (F0 m 55 ls []) := by
  intro S x H locs ls hf G hl
  unfold fX8_isSpent_0_55 at hf
  refine lv_iconst (v := 0) C.1 C.2.1 dX8_isSpent_55 (by decide) ?_
  exact r_zret C hr (Or.inl rfl) G hf dX8_isSpent_56
set_option maxRecDepth 100000 in
set_option maxHeartbeats 4000000 in
theorem mX8_isSpent_0 (l : Launch) (D : va_G) (a : Nat → Nat) (cI cJ : ClassId) (tk : Nat) (tf : Nat → Int32) (S : St) (x : Int32 × St) (hf : fX8_isSpent_0 S = some x) : Mi l D (wM a cI cJ) a 17 cI cJ tk tf yX8_isSpent cX8_isSpent 1 (some .boolean) { frames := 0, cells := 0, slots := 0, locals := 0 } [.ref (a 0)] S x := by
  refine opn_i (by decide +kernel) (Nat.le_of_ble_eq_true rfl) (fun p e s m below meth c C hr G ls hl => ?_)
  replace hl : lv_has ls 1 [(0, .ref (a 0))] := hl
  unfold fX8_isSpent_0 at hf
  refine lv_aload_n C.1 C.2.1 dX8_isSpent_0 rfl (lv_at hl 0 rfl) ?_
  refine gM_0_19 C G k_777 dX8_isSpent_1 ?_
  refine lv_if_le (tgt := 55) C.1 C.2.1 dX8_isSpent_4 (by decide) (fun c1 => ?_) (fun c1 => ?_)
  · replace hf := ifp c1 hf
    exact rX8_isSpent_0_55 C hr S _ _ _ _ hf G (lv_sub hl [] rfl)
  · replace hf := ifq c1 hf
    refine lv_aload_n C.1 C.2.1 dX8_isSpent_7 rfl (lv_at hl 0 rfl) ?_
    refine gM_0_20 C G k_778 dX8_isSpent_8 ?_
    refine lv_aload_n C.1 C.2.1 dX8_isSpent_11 rfl (lv_at hl 0 rfl) ?_
    refine gM_0_19 C G k_777 dX8_isSpent_12 ?_
    refine lv_iconst (v := 1) C.1 C.2.1 dX8_isSpent_15 (by decide) ?_
    refine lv_isub C.1 C.2.1 dX8_isSpent_16 ?_
    obtain ⟨hi2, hf⟩ := ifn hf
    refine aM_11 C G hi2 dX8_isSpent_17 ?_
    refine lv_if_ne (tgt := 55) C.1 C.2.1 dX8_isSpent_18 (by decide) (fun c3 => ?_) (fun c3 => ?_)
    · replace hf := ifq c3 hf
      exact rX8_isSpent_0_55 C hr S _ _ _ _ hf G (lv_sub hl [] rfl)
    · replace hf := ifp c3 hf
      refine lv_aload_n C.1 C.2.1 dX8_isSpent_21 rfl (lv_at hl 0 rfl) ?_
      refine gM_0_22 C G k_780 dX8_isSpent_22 ?_
      refine lv_aload_n C.1 C.2.1 dX8_isSpent_25 rfl (lv_at hl 0 rfl) ?_
      refine gM_0_19 C G k_777 dX8_isSpent_26 ?_
      refine lv_iconst (v := 1) C.1 C.2.1 dX8_isSpent_29 (by decide) ?_
      refine lv_isub C.1 C.2.1 dX8_isSpent_30 ?_
      obtain ⟨hi4, hf⟩ := ifn hf
      refine aM_13 C G hi4 dX8_isSpent_31 ?_
      refine lv_aload_n C.1 C.2.1 dX8_isSpent_32 rfl (lv_at hl 0 rfl) ?_
      refine gM_0_3 C G k_761 dX8_isSpent_33 ?_
      refine lv_aload_n C.1 C.2.1 dX8_isSpent_36 rfl (lv_at hl 0 rfl) ?_
      refine gM_0_21 C G k_779 dX8_isSpent_37 ?_
      refine lv_aload_n C.1 C.2.1 dX8_isSpent_40 rfl (lv_at hl 0 rfl) ?_
      refine gM_0_19 C G k_777 dX8_isSpent_41 ?_
      refine lv_iconst (v := 1) C.1 C.2.1 dX8_isSpent_44 (by decide) ?_
      refine lv_isub C.1 C.2.1 dX8_isSpent_45 ?_
      obtain ⟨hi5, hf⟩ := ifn hf
      refine aM_12 C G hi5 dX8_isSpent_46 ?_
      obtain ⟨hi6, hf⟩ := ifn hf
      refine aM_3 C G hi6 dX8_isSpent_47 ?_
      refine lv_icmp_lt (tgt := 55) C.1 C.2.1 dX8_isSpent_48 (by decide) (fun c7 => ?_) (fun c7 => ?_)
      · replace hf := ifp c7 hf
        exact rX8_isSpent_0_55 C hr S _ _ _ _ hf G (lv_sub hl [] rfl)
      · replace hf := ifq c7 hf
        refine lv_iconst (v := 1) C.1 C.2.1 dX8_isSpent_51 (by decide) ?_
        refine lv_goto (tgt := 56) C.1 C.2.1 dX8_isSpent_52 (by decide) ?_
        exact r_zret C hr (Or.inr rfl) G hf dX8_isSpent_56
set_option maxRecDepth 100000 in
set_option maxHeartbeats 4000000 in
theorem mX8_number_0 (l : Launch) (D : va_G) (a : Nat → Nat) (cI cJ : ClassId) (tk : Nat) (tf : Nat → Int32) (p1 : Int32) (S : St) (x : Int32 × St) (hf : fX8_number_0 p1 S = some x) : Mi l D (wM a cI cJ) a 17 cI cJ tk tf yX8_number cX8_number 2 (some .int) { frames := 0, cells := 0, slots := 0, locals := 0 } [.ref (a 0), .int p1] S x := by
  refine opn_i (by decide +kernel) (Nat.le_of_ble_eq_true rfl) (fun p e s m below meth c C hr G ls hl => ?_)
  replace hl : lv_has ls 2 [(0, .ref (a 0)), (1, .int p1)] := hl
  unfold fX8_number_0 at hf
  refine lv_aload_n C.1 C.2.1 dX8_number_0 rfl (lv_at hl 0 rfl) ?_
  refine gM_0_5 C G k_763 dX8_number_1 ?_
  refine lv_aload_n C.1 C.2.1 dX8_number_4 rfl (lv_at hl 0 rfl) ?_
  refine gM_0_6 C G k_764 dX8_number_5 ?_
  refine lv_iconst (v := 1) C.1 C.2.1 dX8_number_8 (by decide) ?_
  refine lv_isub C.1 C.2.1 dX8_number_9 ?_
  refine lv_iload_n C.1 C.2.1 dX8_number_10 rfl (lv_at hl 1 rfl) ?_
  refine lv_isub C.1 C.2.1 dX8_number_11 ?_
  obtain ⟨hi1, hf⟩ := ifn hf
  refine aM_5 C G hi1 dX8_number_12 ?_
  exact r_iret C hr G hf dX8_number_13
set_option maxRecDepth 100000 in
set_option maxHeartbeats 4000000 in
theorem rX8_reckon_0_39 {p : Program} {l : Launch} {e : Env} {s : State} {m : MethodId} {args : Array Value} {below : List Frame} {meth : Method} {c : Code} {D : va_G} {a : Nat → Nat} {cI cJ : ClassId} {tk : Nat} {tf : Nat → Int32} (C : Cx p s m args meth c RX8 cX8_reckon 4 D cI cJ tk tf (AR a 17 s.heap.size)) (hr : meth.sig.returnType = none) : ∀ (z1 : Int32) (z2 : Int32) (S : St) (x : Int32 × St) (H : Heap) (locs : List Loc) (ls : Array Slot), fX8_reckon_0_39 z1 z2 S = some x → Wd D (wM a cI cJ) (AR a 17 s.heap.size) s S H locs → lv_has ls 4 [] → W p l e { frames := 1, cells := 0, slots := 0, locals := 22 } s m args below meth c H locs 0 0 (MQ below (Qv D (wM a cI cJ) (AR a 17 s.heap.size) x) args s 0 0 (AR a 17 s.heap.size)) (F0 m 39 ls [.int z2, .int z1, .ref (a 0)]) := by
  intro z1 z2 S x H locs ls hf G hl
  unfold fX8_reckon_0_39 at hf
  obtain ⟨r1, S1, eS1, hf⟩ := bnd_e hf
  refine r_calv (As := [.int z1, .int z2]) (na := 2) C adM G (mX8_lay_0 l D a cI cJ tk tf z1 z2 S _ eS1) k_871 k_873 k_31 k_68 k_874 (q0 := 0) rfl (ci := 8) rfl (by decide +kernel) ⟨Nat.le_of_ble_eq_true rfl, Nat.le_of_ble_eq_true rfl⟩ rfl rfl ⟨Nat.zero_le _, Nat.zero_le _⟩ rfl hl.1 rfl (Nat.le_of_ble_eq_true rfl) dX8_reckon_39 (fun H locs G => ?_)
  refine lv_goto (tgt := 95) C.1 C.2.1 dX8_reckon_42 (by decide) ?_
  exact r_vret C hr G hf dX8_reckon_95
set_option maxRecDepth 100000 in
set_option maxHeartbeats 4000000 in
theorem rX8_reckon_0_92 {p : Program} {l : Launch} {e : Env} {s : State} {m : MethodId} {args : Array Value} {below : List Frame} {meth : Method} {c : Code} {D : va_G} {a : Nat → Nat} {cI cJ : ClassId} {tk : Nat} {tf : Nat → Int32} (C : Cx p s m args meth c RX8 cX8_reckon 4 D cI cJ tk tf (AR a 17 s.heap.size)) (hr : meth.sig.returnType = none) : ∀ (z1 : Int32) (z2 : Int32) (S : St) (x : Int32 × St) (H : Heap) (locs : List Loc) (ls : Array Slot), fX8_reckon_0_92 z1 z2 S = some x → Wd D (wM a cI cJ) (AR a 17 s.heap.size) s S H locs → lv_has ls 4 [] → W p l e { frames := 1, cells := 0, slots := 0, locals := 22 } s m args below meth c H locs 0 0 (MQ below (Qv D (wM a cI cJ) (AR a 17 s.heap.size) x) args s 0 0 (AR a 17 s.heap.size)) (F0 m 92 ls [.int z2, .int z1, .ref (a 0)]) := by
  intro z1 z2 S x H locs ls hf G hl
  unfold fX8_reckon_0_92 at hf
  obtain ⟨r1, S1, eS1, hf⟩ := bnd_e hf
  refine r_calv (As := [.int z1, .int z2]) (na := 2) C adM G (mX8_lay_0 l D a cI cJ tk tf z1 z2 S _ eS1) k_871 k_873 k_31 k_68 k_874 (q0 := 0) rfl (ci := 8) rfl (by decide +kernel) ⟨Nat.le_of_ble_eq_true rfl, Nat.le_of_ble_eq_true rfl⟩ rfl rfl ⟨Nat.zero_le _, Nat.zero_le _⟩ rfl hl.1 rfl (Nat.le_of_ble_eq_true rfl) dX8_reckon_92 (fun H locs G => ?_)
  exact r_vret C hr G hf dX8_reckon_95
set_option maxRecDepth 100000 in
set_option maxHeartbeats 4000000 in
theorem mX8_reckon_0 (l : Launch) (D : va_G) (a : Nat → Nat) (cI cJ : ClassId) (tk : Nat) (tf : Nat → Int32) (p1 : Int32) (S : St) (x : Int32 × St) (hf : fX8_reckon_0 p1 S = some x) : Mv l D (wM a cI cJ) a 17 cI cJ tk tf yX8_reckon cX8_reckon 4 { frames := 1, cells := 0, slots := 0, locals := 22 } [.ref (a 0), .int p1] S x := by
  refine opn_v (by decide +kernel) (Nat.le_of_ble_eq_true rfl) (fun p e s m below meth c C hr G ls hl => ?_)
  replace hl : lv_has ls 4 [(0, .ref (a 0)), (1, .int p1)] := hl
  unfold fX8_reckon_0 at hf
  refine lv_aload_n C.1 C.2.1 dX8_reckon_0 rfl (lv_at hl 0 rfl) ?_
  refine lv_iconst (v := 0) C.1 C.2.1 dX8_reckon_1 (by decide) ?_
  obtain ⟨r1, S1, eS1, hf⟩ := bnd_e hf
  refine r_cali (As := [.int (0 : Int32)]) (na := 1) C adM G (mX8_number_0 l D a cI cJ tk tf (0 : Int32) S _ eS1) k_914 k_916 k_38 k_68 k_917 (q0 := 0) rfl (ci := 8) rfl (by decide +kernel) ⟨Nat.le_of_ble_eq_true rfl, Nat.le_of_ble_eq_true rfl⟩ rfl rfl ⟨Nat.zero_le _, Nat.zero_le _⟩ rfl hl.1 rfl (Nat.le_of_ble_eq_true rfl) dX8_reckon_2 (fun H locs G => ?_)
  refine lv_istore_n (lv' := [(2, .int r1), (0, .ref (a 0)), (1, .int p1)]) C.1 C.2.1 dX8_reckon_5 rfl hl (by decide) rfl (fun ls hl => ?_)
  refine lv_aload_n C.1 C.2.1 dX8_reckon_6 rfl (lv_at hl 1 rfl) ?_
  refine lv_iconst (v := 1) C.1 C.2.1 dX8_reckon_7 (by decide) ?_
  obtain ⟨r2, S2, eS2, hf⟩ := bnd_e hf
  refine r_cali (As := [.int (1 : Int32)]) (na := 1) C adM G (mX8_number_0 l D a cI cJ tk tf (1 : Int32) S1 _ eS2) k_914 k_916 k_38 k_68 k_917 (q0 := 0) rfl (ci := 8) rfl (by decide +kernel) ⟨Nat.le_of_ble_eq_true rfl, Nat.le_of_ble_eq_true rfl⟩ rfl rfl ⟨Nat.zero_le _, Nat.zero_le _⟩ rfl hl.1 rfl (Nat.le_of_ble_eq_true rfl) dX8_reckon_8 (fun H locs G => ?_)
  refine lv_istore_n (lv' := [(3, .int r2), (2, .int r1), (0, .ref (a 0)), (1, .int p1)]) C.1 C.2.1 dX8_reckon_11 rfl hl (by decide) rfl (fun ls hl => ?_)
  refine lv_aload_n C.1 C.2.1 dX8_reckon_12 rfl (lv_at hl 2 rfl) ?_
  refine lv_aload_n C.1 C.2.1 dX8_reckon_13 rfl (lv_at hl 2 rfl) ?_
  refine gM_0_6 C G k_764 dX8_reckon_14 ?_
  refine lv_iconst (v := 2) C.1 C.2.1 dX8_reckon_17 (by decide) ?_
  refine lv_isub C.1 C.2.1 dX8_reckon_18 ?_
  refine pM_0_6 C G k_764 dX8_reckon_19 (fun H locs G => ?_)
  obtain ⟨S3, eS3, hf⟩ := stp_e hf
  rw [← eS3] at G
  clear eS3
  refine lv_iload_n C.1 C.2.1 dX8_reckon_22 rfl (lv_at hl 3 rfl) ?_
  refine lv_iconst (v := 5) C.1 C.2.1 dX8_reckon_23 (by decide) ?_
  refine lv_icmp_ne (tgt := 45) C.1 C.2.1 dX8_reckon_24 (by decide) (fun c4 => ?_) (fun c4 => ?_)
  · replace hf := ifq c4 hf
    refine lv_aload_n C.1 C.2.1 dX8_reckon_45 rfl (lv_at hl 2 rfl) ?_
    refine lv_iconst (v := 0) C.1 C.2.1 dX8_reckon_46 (by decide) ?_
    refine lv_iload_n C.1 C.2.1 dX8_reckon_47 rfl (lv_at hl 3 rfl) ?_
    refine lv_if_ne (tgt := 57) C.1 C.2.1 dX8_reckon_48 (by decide) (fun c6 => ?_) (fun c6 => ?_)
    · replace hf := ifq c6 hf
      refine lv_iload_n C.1 C.2.1 dX8_reckon_57 rfl (lv_at hl 3 rfl) ?_
      refine lv_iconst (v := 1) C.1 C.2.1 dX8_reckon_58 (by decide) ?_
      refine lv_icmp_ne (tgt := 68) C.1 C.2.1 dX8_reckon_59 (by decide) (fun c7 => ?_) (fun c7 => ?_)
      · replace hf := ifq c7 hf
        refine lv_iload_n C.1 C.2.1 dX8_reckon_68 rfl (lv_at hl 3 rfl) ?_
        refine lv_iconst (v := 2) C.1 C.2.1 dX8_reckon_69 (by decide) ?_
        refine lv_icmp_ne (tgt := 79) C.1 C.2.1 dX8_reckon_70 (by decide) (fun c8 => ?_) (fun c8 => ?_)
        · replace hf := ifq c8 hf
          refine lv_iload_n C.1 C.2.1 dX8_reckon_79 rfl (lv_at hl 1 rfl) ?_
          refine lv_iconst (v := (-1)) C.1 C.2.1 dX8_reckon_80 (by decide) ?_
          refine lv_icmp_ne (tgt := 89) C.1 C.2.1 dX8_reckon_81 (by decide) (fun c9 => ?_) (fun c9 => ?_)
          · replace hf := ifq c9 hf
            refine lv_iload_n C.1 C.2.1 dX8_reckon_89 rfl (lv_at hl 0 rfl) ?_
            refine lv_iload_n C.1 C.2.1 dX8_reckon_90 rfl (lv_at hl 1 rfl) ?_
            obtain ⟨hi10, hf⟩ := ifn hf
            refine lv_idiv C.1 C.2.1 dX8_reckon_91 hi10 ?_
            exact rX8_reckon_0_92 C hr (0 : Int32) (r2 / r1) S3 _ _ _ _ hf G (lv_sub hl [] rfl)
          · replace hf := ifp c9 hf
            refine lv_iload_n C.1 C.2.1 dX8_reckon_84 rfl (lv_at hl 0 rfl) ?_
            refine lv_ineg C.1 C.2.1 dX8_reckon_85 ?_
            refine lv_goto (tgt := 92) C.1 C.2.1 dX8_reckon_86 (by decide) ?_
            exact rX8_reckon_0_92 C hr (0 : Int32) (-r2) S3 _ _ _ _ hf G (lv_sub hl [] rfl)
        · replace hf := ifp c8 hf
          refine lv_iload_n C.1 C.2.1 dX8_reckon_73 rfl (lv_at hl 0 rfl) ?_
          refine lv_iload_n C.1 C.2.1 dX8_reckon_74 rfl (lv_at hl 1 rfl) ?_
          refine lv_imul C.1 C.2.1 dX8_reckon_75 ?_
          refine lv_goto (tgt := 92) C.1 C.2.1 dX8_reckon_76 (by decide) ?_
          exact rX8_reckon_0_92 C hr (0 : Int32) (r2 * r1) S3 _ _ _ _ hf G (lv_sub hl [] rfl)
      · replace hf := ifp c7 hf
        refine lv_iload_n C.1 C.2.1 dX8_reckon_62 rfl (lv_at hl 0 rfl) ?_
        refine lv_iload_n C.1 C.2.1 dX8_reckon_63 rfl (lv_at hl 1 rfl) ?_
        refine lv_isub C.1 C.2.1 dX8_reckon_64 ?_
        refine lv_goto (tgt := 92) C.1 C.2.1 dX8_reckon_65 (by decide) ?_
        exact rX8_reckon_0_92 C hr (0 : Int32) (r2 - r1) S3 _ _ _ _ hf G (lv_sub hl [] rfl)
    · replace hf := ifp c6 hf
      refine lv_iload_n C.1 C.2.1 dX8_reckon_51 rfl (lv_at hl 0 rfl) ?_
      refine lv_iload_n C.1 C.2.1 dX8_reckon_52 rfl (lv_at hl 1 rfl) ?_
      refine lv_iadd C.1 C.2.1 dX8_reckon_53 ?_
      refine lv_goto (tgt := 92) C.1 C.2.1 dX8_reckon_54 (by decide) ?_
      exact rX8_reckon_0_92 C hr (0 : Int32) (r2 + r1) S3 _ _ _ _ hf G (lv_sub hl [] rfl)
  · replace hf := ifp c4 hf
    refine lv_aload_n C.1 C.2.1 dX8_reckon_27 rfl (lv_at hl 2 rfl) ?_
    refine lv_iconst (v := 1) C.1 C.2.1 dX8_reckon_28 (by decide) ?_
    refine lv_iload_n C.1 C.2.1 dX8_reckon_29 rfl (lv_at hl 0 rfl) ?_
    refine lv_iload_n C.1 C.2.1 dX8_reckon_30 rfl (lv_at hl 1 rfl) ?_
    refine lv_icmp_ge (tgt := 38) C.1 C.2.1 dX8_reckon_31 (by decide) (fun c5 => ?_) (fun c5 => ?_)
    · replace hf := ifp c5 hf
      refine lv_iconst (v := 0) C.1 C.2.1 dX8_reckon_38 (by decide) ?_
      exact rX8_reckon_0_39 C hr (1 : Int32) (0 : Int32) S3 _ _ _ _ hf G (lv_sub hl [] rfl)
    · replace hf := ifq c5 hf
      refine lv_iconst (v := 1) C.1 C.2.1 dX8_reckon_34 (by decide) ?_
      refine lv_goto (tgt := 39) C.1 C.2.1 dX8_reckon_35 (by decide) ?_
      exact rX8_reckon_0_39 C hr (1 : Int32) (1 : Int32) S3 _ _ _ _ hf G (lv_sub hl [] rfl)
