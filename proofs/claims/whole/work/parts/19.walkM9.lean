theorem dX8_mark_0 : decode cX8_mark 0 = .ok (.aload_n 0, 1) := by decide +kernel
theorem dX8_mark_1 : decode cX8_mark 1 = .ok (.getfield 96, 3) := by decide +kernel
theorem dX8_mark_4 : decode cX8_mark 4 = .ok (.iconst 1, 1) := by decide +kernel
theorem dX8_mark_5 : decode cX8_mark 5 = .ok (.isub, 1) := by decide +kernel
theorem dX8_mark_6 : decode cX8_mark 6 = .ok (.istore_n 1, 1) := by decide +kernel
theorem dX8_mark_7 : decode cX8_mark 7 = .ok (.iload_n 1, 1) := by decide +kernel
theorem dX8_mark_8 : decode cX8_mark 8 = .ok (.ifCond .lt 19, 3) := by decide +kernel
theorem dX8_mark_11 : decode cX8_mark 11 = .ok (.aload_n 0, 1) := by decide +kernel
theorem dX8_mark_12 : decode cX8_mark 12 = .ok (.getfield 19, 3) := by decide +kernel
theorem dX8_mark_15 : decode cX8_mark 15 = .ok (.iload_n 1, 1) := by decide +kernel
theorem dX8_mark_16 : decode cX8_mark 16 = .ok (.iaload, 1) := by decide +kernel
theorem dX8_mark_17 : decode cX8_mark 17 = .ok (.iconst 3, 1) := by decide +kernel
theorem dX8_mark_18 : decode cX8_mark 18 = .ok (.if_icmp .eq 9, 3) := by decide +kernel
theorem dX8_mark_21 : decode cX8_mark 21 = .ok (.iinc 1 (-1), 3) := by decide +kernel
theorem dX8_mark_24 : decode cX8_mark 24 = .ok (.goto (-17), 3) := by decide +kernel
theorem dX8_mark_27 : decode cX8_mark 27 = .ok (.iload_n 1, 1) := by decide +kernel
theorem dX8_mark_28 : decode cX8_mark 28 = .ok (.ireturn, 1) := by decide +kernel
theorem dX8_kind_0 : decode cX8_kind 0 = .ok (.aload_n 0, 1) := by decide +kernel
theorem dX8_kind_1 : decode cX8_kind 1 = .ok (.getfield 19, 3) := by decide +kernel
theorem dX8_kind_4 : decode cX8_kind 4 = .ok (.aload_n 0, 1) := by decide +kernel
theorem dX8_kind_5 : decode cX8_kind 5 = .ok (.getfield 96, 3) := by decide +kernel
theorem dX8_kind_8 : decode cX8_kind 8 = .ok (.iconst 1, 1) := by decide +kernel
theorem dX8_kind_9 : decode cX8_kind 9 = .ok (.isub, 1) := by decide +kernel
theorem dX8_kind_10 : decode cX8_kind 10 = .ok (.iload_n 1, 1) := by decide +kernel
theorem dX8_kind_11 : decode cX8_kind 11 = .ok (.isub, 1) := by decide +kernel
theorem dX8_kind_12 : decode cX8_kind 12 = .ok (.iaload, 1) := by decide +kernel
theorem dX8_kind_13 : decode cX8_kind 13 = .ok (.ireturn, 1) := by decide +kernel
theorem dX8_handle_0 : decode cX8_handle 0 = .ok (.aload_n 0, 1) := by decide +kernel
theorem dX8_handle_1 : decode cX8_handle 1 = .ok (.getfield 96, 3) := by decide +kernel
theorem dX8_handle_4 : decode cX8_handle 4 = .ok (.iconst 1, 1) := by decide +kernel
theorem dX8_handle_5 : decode cX8_handle 5 = .ok (.isub, 1) := by decide +kernel
theorem dX8_handle_6 : decode cX8_handle 6 = .ok (.istore_n 2, 1) := by decide +kernel
theorem dX8_handle_7 : decode cX8_handle 7 = .ok (.iload_n 1, 1) := by decide +kernel
theorem dX8_handle_8 : decode cX8_handle 8 = .ok (.tableswitch 296 4 12 #[52, 296, 111, 128, 141, 160, 227, 270, 282], 52) := by decide +kernel
theorem dX8_handle_60 : decode cX8_handle 60 = .ok (.aload_n 0, 1) := by decide +kernel
theorem dX8_handle_61 : decode cX8_handle 61 = .ok (.iconst 0, 1) := by decide +kernel
theorem dX8_handle_62 : decode cX8_handle 62 = .ok (.invokevirtual 150, 3) := by decide +kernel
theorem dX8_handle_65 : decode cX8_handle 65 = .ok (.aload_n 0, 1) := by decide +kernel
theorem dX8_handle_66 : decode cX8_handle 66 = .ok (.iconst 1, 1) := by decide +kernel
theorem dX8_handle_67 : decode cX8_handle 67 = .ok (.invokevirtual 150, 3) := by decide +kernel
theorem dX8_handle_70 : decode cX8_handle 70 = .ok (.if_icmp .ne 20, 3) := by decide +kernel
theorem dX8_handle_73 : decode cX8_handle 73 = .ok (.aload_n 0, 1) := by decide +kernel
theorem dX8_handle_74 : decode cX8_handle 74 = .ok (.iconst 0, 1) := by decide +kernel
theorem dX8_handle_75 : decode cX8_handle 75 = .ok (.invokevirtual 153, 3) := by decide +kernel
theorem dX8_handle_78 : decode cX8_handle 78 = .ok (.aload_n 0, 1) := by decide +kernel
theorem dX8_handle_79 : decode cX8_handle 79 = .ok (.iconst 1, 1) := by decide +kernel
theorem dX8_handle_80 : decode cX8_handle 80 = .ok (.invokevirtual 153, 3) := by decide +kernel
theorem dX8_handle_83 : decode cX8_handle 83 = .ok (.if_icmp .ne 7, 3) := by decide +kernel
theorem dX8_handle_86 : decode cX8_handle 86 = .ok (.iconst 1, 1) := by decide +kernel
theorem dX8_handle_87 : decode cX8_handle 87 = .ok (.goto 4, 3) := by decide +kernel
theorem dX8_handle_90 : decode cX8_handle 90 = .ok (.iconst 0, 1) := by decide +kernel
theorem dX8_handle_91 : decode cX8_handle 91 = .ok (.istore_n 3, 1) := by decide +kernel
theorem dX8_handle_92 : decode cX8_handle 92 = .ok (.aload_n 0, 1) := by decide +kernel
theorem dX8_handle_93 : decode cX8_handle 93 = .ok (.aload_n 0, 1) := by decide +kernel
theorem dX8_handle_94 : decode cX8_handle 94 = .ok (.getfield 96, 3) := by decide +kernel
theorem dX8_handle_97 : decode cX8_handle 97 = .ok (.iconst 2, 1) := by decide +kernel
theorem dX8_handle_98 : decode cX8_handle 98 = .ok (.isub, 1) := by decide +kernel
theorem dX8_handle_99 : decode cX8_handle 99 = .ok (.putfield 96, 3) := by decide +kernel
theorem dX8_handle_102 : decode cX8_handle 102 = .ok (.aload_n 0, 1) := by decide +kernel
theorem dX8_handle_103 : decode cX8_handle 103 = .ok (.iconst 1, 1) := by decide +kernel
theorem dX8_handle_104 : decode cX8_handle 104 = .ok (.iload_n 3, 1) := by decide +kernel
theorem dX8_handle_105 : decode cX8_handle 105 = .ok (.ifCond .eq 7, 3) := by decide +kernel
theorem dX8_handle_108 : decode cX8_handle 108 = .ok (.iconst 1, 1) := by decide +kernel
theorem dX8_handle_109 : decode cX8_handle 109 = .ok (.goto 4, 3) := by decide +kernel
theorem dX8_handle_112 : decode cX8_handle 112 = .ok (.iconst 0, 1) := by decide +kernel
theorem dX8_handle_113 : decode cX8_handle 113 = .ok (.invokevirtual 99, 3) := by decide +kernel
theorem dX8_handle_116 : decode cX8_handle 116 = .ok (.goto 196, 3) := by decide +kernel
theorem dX8_handle_119 : decode cX8_handle 119 = .ok (.aload_n 0, 1) := by decide +kernel
theorem dX8_handle_120 : decode cX8_handle 120 = .ok (.getfield 22, 3) := by decide +kernel
theorem dX8_handle_123 : decode cX8_handle 123 = .ok (.iload_n 2, 1) := by decide +kernel
theorem dX8_handle_124 : decode cX8_handle 124 = .ok (.iconst 1, 1) := by decide +kernel
theorem dX8_handle_125 : decode cX8_handle 125 = .ok (.aload_n 0, 1) := by decide +kernel
theorem dX8_handle_126 : decode cX8_handle 126 = .ok (.getfield 22, 3) := by decide +kernel
theorem dX8_handle_129 : decode cX8_handle 129 = .ok (.iload_n 2, 1) := by decide +kernel
theorem dX8_handle_130 : decode cX8_handle 130 = .ok (.iaload, 1) := by decide +kernel
theorem dX8_handle_131 : decode cX8_handle 131 = .ok (.isub, 1) := by decide +kernel
theorem dX8_handle_132 : decode cX8_handle 132 = .ok (.iastore, 1) := by decide +kernel
theorem dX8_handle_133 : decode cX8_handle 133 = .ok (.goto 179, 3) := by decide +kernel
theorem dX8_handle_136 : decode cX8_handle 136 = .ok (.aload_n 0, 1) := by decide +kernel
theorem dX8_handle_137 : decode cX8_handle 137 = .ok (.dup, 1) := by decide +kernel
theorem dX8_handle_138 : decode cX8_handle 138 = .ok (.getfield 96, 3) := by decide +kernel
theorem dX8_handle_141 : decode cX8_handle 141 = .ok (.iconst 1, 1) := by decide +kernel
theorem dX8_handle_142 : decode cX8_handle 142 = .ok (.isub, 1) := by decide +kernel
theorem dX8_handle_143 : decode cX8_handle 143 = .ok (.putfield 96, 3) := by decide +kernel
theorem dX8_handle_146 : decode cX8_handle 146 = .ok (.goto 166, 3) := by decide +kernel
theorem dX8_handle_149 : decode cX8_handle 149 = .ok (.aload_n 0, 1) := by decide +kernel
theorem dX8_handle_150 : decode cX8_handle 150 = .ok (.aload_n 0, 1) := by decide +kernel
theorem dX8_handle_151 : decode cX8_handle 151 = .ok (.getfield 19, 3) := by decide +kernel
theorem dX8_handle_154 : decode cX8_handle 154 = .ok (.iload_n 2, 1) := by decide +kernel
theorem dX8_handle_155 : decode cX8_handle 155 = .ok (.iaload, 1) := by decide +kernel
theorem dX8_handle_156 : decode cX8_handle 156 = .ok (.aload_n 0, 1) := by decide +kernel
theorem dX8_handle_157 : decode cX8_handle 157 = .ok (.getfield 22, 3) := by decide +kernel
theorem dX8_handle_160 : decode cX8_handle 160 = .ok (.iload_n 2, 1) := by decide +kernel
theorem dX8_handle_161 : decode cX8_handle 161 = .ok (.iaload, 1) := by decide +kernel
theorem dX8_handle_162 : decode cX8_handle 162 = .ok (.invokevirtual 99, 3) := by decide +kernel
theorem dX8_handle_165 : decode cX8_handle 165 = .ok (.goto 147, 3) := by decide +kernel
theorem dX8_handle_168 : decode cX8_handle 168 = .ok (.aload_n 0, 1) := by decide +kernel
theorem dX8_handle_169 : decode cX8_handle 169 = .ok (.getfield 19, 3) := by decide +kernel
theorem dX8_handle_172 : decode cX8_handle 172 = .ok (.iload_n 2, 1) := by decide +kernel
theorem dX8_handle_173 : decode cX8_handle 173 = .ok (.iaload, 1) := by decide +kernel
theorem dX8_handle_174 : decode cX8_handle 174 = .ok (.istore 4, 2) := by decide +kernel
theorem dX8_handle_176 : decode cX8_handle 176 = .ok (.aload_n 0, 1) := by decide +kernel
theorem dX8_handle_177 : decode cX8_handle 177 = .ok (.getfield 22, 3) := by decide +kernel
theorem dX8_handle_180 : decode cX8_handle 180 = .ok (.iload_n 2, 1) := by decide +kernel
theorem dX8_handle_181 : decode cX8_handle 181 = .ok (.iaload, 1) := by decide +kernel
theorem dX8_handle_182 : decode cX8_handle 182 = .ok (.istore 5, 2) := by decide +kernel
theorem dX8_handle_184 : decode cX8_handle 184 = .ok (.aload_n 0, 1) := by decide +kernel
theorem dX8_handle_185 : decode cX8_handle 185 = .ok (.getfield 19, 3) := by decide +kernel
theorem dX8_handle_188 : decode cX8_handle 188 = .ok (.iload_n 2, 1) := by decide +kernel
theorem dX8_handle_189 : decode cX8_handle 189 = .ok (.aload_n 0, 1) := by decide +kernel
theorem dX8_handle_190 : decode cX8_handle 190 = .ok (.getfield 19, 3) := by decide +kernel
theorem dX8_handle_193 : decode cX8_handle 193 = .ok (.iload_n 2, 1) := by decide +kernel
theorem dX8_handle_194 : decode cX8_handle 194 = .ok (.iconst 1, 1) := by decide +kernel
theorem dX8_handle_195 : decode cX8_handle 195 = .ok (.isub, 1) := by decide +kernel
theorem dX8_handle_196 : decode cX8_handle 196 = .ok (.iaload, 1) := by decide +kernel
theorem dX8_handle_197 : decode cX8_handle 197 = .ok (.iastore, 1) := by decide +kernel
theorem dX8_handle_198 : decode cX8_handle 198 = .ok (.aload_n 0, 1) := by decide +kernel
theorem dX8_handle_199 : decode cX8_handle 199 = .ok (.getfield 22, 3) := by decide +kernel
theorem dX8_handle_202 : decode cX8_handle 202 = .ok (.iload_n 2, 1) := by decide +kernel
theorem dX8_handle_203 : decode cX8_handle 203 = .ok (.aload_n 0, 1) := by decide +kernel
theorem dX8_handle_204 : decode cX8_handle 204 = .ok (.getfield 22, 3) := by decide +kernel
theorem dX8_handle_207 : decode cX8_handle 207 = .ok (.iload_n 2, 1) := by decide +kernel
theorem dX8_handle_208 : decode cX8_handle 208 = .ok (.iconst 1, 1) := by decide +kernel
theorem dX8_handle_209 : decode cX8_handle 209 = .ok (.isub, 1) := by decide +kernel
theorem dX8_handle_210 : decode cX8_handle 210 = .ok (.iaload, 1) := by decide +kernel
theorem dX8_handle_211 : decode cX8_handle 211 = .ok (.iastore, 1) := by decide +kernel
theorem dX8_handle_212 : decode cX8_handle 212 = .ok (.aload_n 0, 1) := by decide +kernel
theorem dX8_handle_213 : decode cX8_handle 213 = .ok (.getfield 19, 3) := by decide +kernel
theorem dX8_handle_216 : decode cX8_handle 216 = .ok (.iload_n 2, 1) := by decide +kernel
theorem dX8_handle_217 : decode cX8_handle 217 = .ok (.iconst 1, 1) := by decide +kernel
theorem dX8_handle_218 : decode cX8_handle 218 = .ok (.isub, 1) := by decide +kernel
theorem dX8_handle_219 : decode cX8_handle 219 = .ok (.iload 4, 2) := by decide +kernel
theorem dX8_handle_221 : decode cX8_handle 221 = .ok (.iastore, 1) := by decide +kernel
theorem dX8_handle_222 : decode cX8_handle 222 = .ok (.aload_n 0, 1) := by decide +kernel
theorem dX8_handle_223 : decode cX8_handle 223 = .ok (.getfield 22, 3) := by decide +kernel
theorem dX8_handle_226 : decode cX8_handle 226 = .ok (.iload_n 2, 1) := by decide +kernel
theorem dX8_handle_227 : decode cX8_handle 227 = .ok (.iconst 1, 1) := by decide +kernel
theorem dX8_handle_228 : decode cX8_handle 228 = .ok (.isub, 1) := by decide +kernel
theorem dX8_handle_229 : decode cX8_handle 229 = .ok (.iload 5, 2) := by decide +kernel
theorem dX8_handle_231 : decode cX8_handle 231 = .ok (.iastore, 1) := by decide +kernel
theorem dX8_handle_232 : decode cX8_handle 232 = .ok (.goto 80, 3) := by decide +kernel
theorem dX8_handle_235 : decode cX8_handle 235 = .ok (.iload_n 2, 1) := by decide +kernel
theorem dX8_handle_236 : decode cX8_handle 236 = .ok (.iconst 1, 1) := by decide +kernel
theorem dX8_handle_237 : decode cX8_handle 237 = .ok (.isub, 1) := by decide +kernel
theorem dX8_handle_238 : decode cX8_handle 238 = .ok (.aload_n 0, 1) := by decide +kernel
theorem dX8_handle_239 : decode cX8_handle 239 = .ok (.getfield 22, 3) := by decide +kernel
theorem dX8_handle_242 : decode cX8_handle 242 = .ok (.iload_n 2, 1) := by decide +kernel
theorem dX8_handle_243 : decode cX8_handle 243 = .ok (.iaload, 1) := by decide +kernel
theorem dX8_handle_244 : decode cX8_handle 244 = .ok (.isub, 1) := by decide +kernel
theorem dX8_handle_245 : decode cX8_handle 245 = .ok (.istore 6, 2) := by decide +kernel
theorem dX8_handle_247 : decode cX8_handle 247 = .ok (.aload_n 0, 1) := by decide +kernel
theorem dX8_handle_248 : decode cX8_handle 248 = .ok (.dup, 1) := by decide +kernel
theorem dX8_handle_249 : decode cX8_handle 249 = .ok (.getfield 96, 3) := by decide +kernel
theorem dX8_handle_252 : decode cX8_handle 252 = .ok (.iconst 1, 1) := by decide +kernel
theorem dX8_handle_253 : decode cX8_handle 253 = .ok (.isub, 1) := by decide +kernel
theorem dX8_handle_254 : decode cX8_handle 254 = .ok (.putfield 96, 3) := by decide +kernel
theorem dX8_handle_257 : decode cX8_handle 257 = .ok (.aload_n 0, 1) := by decide +kernel
theorem dX8_handle_258 : decode cX8_handle 258 = .ok (.aload_n 0, 1) := by decide +kernel
theorem dX8_handle_259 : decode cX8_handle 259 = .ok (.getfield 19, 3) := by decide +kernel
theorem dX8_handle_262 : decode cX8_handle 262 = .ok (.iload 6, 2) := by decide +kernel
theorem dX8_handle_264 : decode cX8_handle 264 = .ok (.iaload, 1) := by decide +kernel
theorem dX8_handle_265 : decode cX8_handle 265 = .ok (.aload_n 0, 1) := by decide +kernel
theorem dX8_handle_266 : decode cX8_handle 266 = .ok (.getfield 22, 3) := by decide +kernel
theorem dX8_handle_269 : decode cX8_handle 269 = .ok (.iload 6, 2) := by decide +kernel
theorem dX8_handle_271 : decode cX8_handle 271 = .ok (.iaload, 1) := by decide +kernel
theorem dX8_handle_272 : decode cX8_handle 272 = .ok (.invokevirtual 99, 3) := by decide +kernel
theorem dX8_handle_275 : decode cX8_handle 275 = .ok (.goto 37, 3) := by decide +kernel
theorem dX8_handle_278 : decode cX8_handle 278 = .ok (.aload_n 0, 1) := by decide +kernel
theorem dX8_handle_279 : decode cX8_handle 279 = .ok (.iconst 0, 1) := by decide +kernel
theorem dX8_handle_280 : decode cX8_handle 280 = .ok (.aload_n 0, 1) := by decide +kernel
theorem dX8_handle_281 : decode cX8_handle 281 = .ok (.getfield 96, 3) := by decide +kernel
theorem dX8_handle_284 : decode cX8_handle 284 = .ok (.invokevirtual 99, 3) := by decide +kernel
theorem dX8_handle_287 : decode cX8_handle 287 = .ok (.goto 25, 3) := by decide +kernel
theorem dX8_handle_290 : decode cX8_handle 290 = .ok (.aload_n 0, 1) := by decide +kernel
theorem dX8_handle_291 : decode cX8_handle 291 = .ok (.iconst 0, 1) := by decide +kernel
theorem dX8_handle_292 : decode cX8_handle 292 = .ok (.iload_n 2, 1) := by decide +kernel
theorem dX8_handle_293 : decode cX8_handle 293 = .ok (.aload_n 0, 1) := by decide +kernel
theorem dX8_handle_294 : decode cX8_handle 294 = .ok (.invokevirtual 166, 3) := by decide +kernel
theorem dX8_handle_297 : decode cX8_handle 297 = .ok (.isub, 1) := by decide +kernel
theorem dX8_handle_298 : decode cX8_handle 298 = .ok (.invokevirtual 99, 3) := by decide +kernel
theorem dX8_handle_301 : decode cX8_handle 301 = .ok (.goto 11, 3) := by decide +kernel
theorem dX8_handle_304 : decode cX8_handle 304 = .ok (.aload_n 0, 1) := by decide +kernel
theorem dX8_handle_305 : decode cX8_handle 305 = .ok (.aload_n 0, 1) := by decide +kernel
theorem dX8_handle_306 : decode cX8_handle 306 = .ok (.invokevirtual 166, 3) := by decide +kernel
theorem dX8_handle_309 : decode cX8_handle 309 = .ok (.putfield 96, 3) := by decide +kernel
theorem dX8_handle_312 : decode cX8_handle 312 = .ok (.return_, 1) := by decide +kernel
theorem dX8_procedureOf_0 : decode cX8_procedureOf 0 = .ok (.iload_n 1, 1) := by decide +kernel
theorem dX8_procedureOf_1 : decode cX8_procedureOf 1 = .ok (.tableswitch 139 16 18 #[27, 97, 116], 27) := by decide +kernel
theorem dX8_procedureOf_28 : decode cX8_procedureOf 28 = .ok (.aload_n 0, 1) := by decide +kernel
theorem dX8_procedureOf_29 : decode cX8_procedureOf 29 = .ok (.iconst 0, 1) := by decide +kernel
theorem dX8_procedureOf_30 : decode cX8_procedureOf 30 = .ok (.invokevirtual 150, 3) := by decide +kernel
theorem dX8_procedureOf_33 : decode cX8_procedureOf 33 = .ok (.iconst 2, 1) := by decide +kernel
theorem dX8_procedureOf_34 : decode cX8_procedureOf 34 = .ok (.if_icmp .ne 7, 3) := by decide +kernel
theorem dX8_procedureOf_37 : decode cX8_procedureOf 37 = .ok (.iconst 1, 1) := by decide +kernel
theorem dX8_procedureOf_38 : decode cX8_procedureOf 38 = .ok (.goto 4, 3) := by decide +kernel
theorem dX8_procedureOf_41 : decode cX8_procedureOf 41 = .ok (.iconst 0, 1) := by decide +kernel
theorem dX8_procedureOf_42 : decode cX8_procedureOf 42 = .ok (.istore_n 2, 1) := by decide +kernel
theorem dX8_procedureOf_43 : decode cX8_procedureOf 43 = .ok (.iload_n 2, 1) := by decide +kernel
theorem dX8_procedureOf_44 : decode cX8_procedureOf 44 = .ok (.ifCond .eq 16, 3) := by decide +kernel
theorem dX8_procedureOf_47 : decode cX8_procedureOf 47 = .ok (.aload_n 0, 1) := by decide +kernel
theorem dX8_procedureOf_48 : decode cX8_procedureOf 48 = .ok (.getfield 25, 3) := by decide +kernel
theorem dX8_procedureOf_51 : decode cX8_procedureOf 51 = .ok (.aload_n 0, 1) := by decide +kernel
theorem dX8_procedureOf_52 : decode cX8_procedureOf 52 = .ok (.iconst 0, 1) := by decide +kernel
theorem dX8_procedureOf_53 : decode cX8_procedureOf 53 = .ok (.invokevirtual 153, 3) := by decide +kernel
theorem dX8_procedureOf_56 : decode cX8_procedureOf 56 = .ok (.iaload, 1) := by decide +kernel
theorem dX8_procedureOf_57 : decode cX8_procedureOf 57 = .ok (.goto 8, 3) := by decide +kernel
theorem dX8_procedureOf_60 : decode cX8_procedureOf 60 = .ok (.aload_n 0, 1) := by decide +kernel
theorem dX8_procedureOf_61 : decode cX8_procedureOf 61 = .ok (.iconst 0, 1) := by decide +kernel
theorem dX8_procedureOf_62 : decode cX8_procedureOf 62 = .ok (.invokevirtual 150, 3) := by decide +kernel
theorem dX8_procedureOf_65 : decode cX8_procedureOf 65 = .ok (.istore_n 3, 1) := by decide +kernel
theorem dX8_procedureOf_66 : decode cX8_procedureOf 66 = .ok (.iload_n 3, 1) := by decide +kernel
theorem dX8_procedureOf_67 : decode cX8_procedureOf 67 = .ok (.iconst 4, 1) := by decide +kernel
theorem dX8_procedureOf_68 : decode cX8_procedureOf 68 = .ok (.if_icmp .eq 7, 3) := by decide +kernel
theorem dX8_procedureOf_71 : decode cX8_procedureOf 71 = .ok (.iconst (-1), 1) := by decide +kernel
theorem dX8_procedureOf_72 : decode cX8_procedureOf 72 = .ok (.goto 25, 3) := by decide +kernel
theorem dX8_procedureOf_75 : decode cX8_procedureOf 75 = .ok (.iload_n 2, 1) := by decide +kernel
theorem dX8_procedureOf_76 : decode cX8_procedureOf 76 = .ok (.ifCond .eq 16, 3) := by decide +kernel
theorem dX8_procedureOf_79 : decode cX8_procedureOf 79 = .ok (.aload_n 0, 1) := by decide +kernel
theorem dX8_procedureOf_80 : decode cX8_procedureOf 80 = .ok (.getfield 28, 3) := by decide +kernel
theorem dX8_procedureOf_83 : decode cX8_procedureOf 83 = .ok (.aload_n 0, 1) := by decide +kernel
theorem dX8_procedureOf_84 : decode cX8_procedureOf 84 = .ok (.iconst 0, 1) := by decide +kernel
theorem dX8_procedureOf_85 : decode cX8_procedureOf 85 = .ok (.invokevirtual 153, 3) := by decide +kernel
theorem dX8_procedureOf_88 : decode cX8_procedureOf 88 = .ok (.iaload, 1) := by decide +kernel
theorem dX8_procedureOf_89 : decode cX8_procedureOf 89 = .ok (.goto 8, 3) := by decide +kernel
theorem dX8_procedureOf_92 : decode cX8_procedureOf 92 = .ok (.aload_n 0, 1) := by decide +kernel
theorem dX8_procedureOf_93 : decode cX8_procedureOf 93 = .ok (.iconst 0, 1) := by decide +kernel
theorem dX8_procedureOf_94 : decode cX8_procedureOf 94 = .ok (.invokevirtual 153, 3) := by decide +kernel
theorem dX8_procedureOf_97 : decode cX8_procedureOf 97 = .ok (.ireturn, 1) := by decide +kernel
theorem dX8_procedureOf_98 : decode cX8_procedureOf 98 = .ok (.aload_n 0, 1) := by decide +kernel
theorem dX8_procedureOf_99 : decode cX8_procedureOf 99 = .ok (.iconst 1, 1) := by decide +kernel
theorem dX8_procedureOf_100 : decode cX8_procedureOf 100 = .ok (.invokevirtual 153, 3) := by decide +kernel
theorem dX8_procedureOf_103 : decode cX8_procedureOf 103 = .ok (.iconst 1, 1) := by decide +kernel
theorem dX8_procedureOf_104 : decode cX8_procedureOf 104 = .ok (.if_icmp .ne 11, 3) := by decide +kernel
theorem dX8_procedureOf_107 : decode cX8_procedureOf 107 = .ok (.aload_n 0, 1) := by decide +kernel
theorem dX8_procedureOf_108 : decode cX8_procedureOf 108 = .ok (.iconst 0, 1) := by decide +kernel
theorem dX8_procedureOf_109 : decode cX8_procedureOf 109 = .ok (.invokevirtual 153, 3) := by decide +kernel
theorem dX8_procedureOf_112 : decode cX8_procedureOf 112 = .ok (.goto 4, 3) := by decide +kernel
theorem dX8_procedureOf_115 : decode cX8_procedureOf 115 = .ok (.iconst (-1), 1) := by decide +kernel
theorem dX8_procedureOf_116 : decode cX8_procedureOf 116 = .ok (.ireturn, 1) := by decide +kernel
theorem dX8_procedureOf_117 : decode cX8_procedureOf 117 = .ok (.aload_n 0, 1) := by decide +kernel
theorem dX8_procedureOf_118 : decode cX8_procedureOf 118 = .ok (.iconst 2, 1) := by decide +kernel
theorem dX8_procedureOf_119 : decode cX8_procedureOf 119 = .ok (.invokevirtual 153, 3) := by decide +kernel
theorem dX8_procedureOf_122 : decode cX8_procedureOf 122 = .ok (.iconst 1, 1) := by decide +kernel
theorem dX8_procedureOf_123 : decode cX8_procedureOf 123 = .ok (.if_icmp .ne 11, 3) := by decide +kernel
theorem dX8_procedureOf_126 : decode cX8_procedureOf 126 = .ok (.aload_n 0, 1) := by decide +kernel
theorem dX8_procedureOf_127 : decode cX8_procedureOf 127 = .ok (.iconst 1, 1) := by decide +kernel
theorem dX8_procedureOf_128 : decode cX8_procedureOf 128 = .ok (.invokevirtual 153, 3) := by decide +kernel
theorem dX8_procedureOf_131 : decode cX8_procedureOf 131 = .ok (.goto 8, 3) := by decide +kernel
theorem dX8_procedureOf_134 : decode cX8_procedureOf 134 = .ok (.aload_n 0, 1) := by decide +kernel
theorem dX8_procedureOf_135 : decode cX8_procedureOf 135 = .ok (.iconst 0, 1) := by decide +kernel
theorem dX8_procedureOf_136 : decode cX8_procedureOf 136 = .ok (.invokevirtual 153, 3) := by decide +kernel
theorem dX8_procedureOf_139 : decode cX8_procedureOf 139 = .ok (.ireturn, 1) := by decide +kernel
theorem dX8_procedureOf_140 : decode cX8_procedureOf 140 = .ok (.iconst (-1), 1) := by decide +kernel
theorem dX8_procedureOf_141 : decode cX8_procedureOf 141 = .ok (.ireturn, 1) := by decide +kernel
theorem dX8_begin_0 : decode cX8_begin 0 = .ok (.aload_n 0, 1) := by decide +kernel
theorem dX8_begin_1 : decode cX8_begin 1 = .ok (.aload_n 0, 1) := by decide +kernel
theorem dX8_begin_2 : decode cX8_begin 2 = .ok (.invokevirtual 109, 3) := by decide +kernel
theorem dX8_begin_5 : decode cX8_begin 5 = .ok (.ifCond .eq 12, 3) := by decide +kernel
theorem dX8_begin_8 : decode cX8_begin 8 = .ok (.aload_n 0, 1) := by decide +kernel
theorem dX8_begin_9 : decode cX8_begin 9 = .ok (.getfield 103, 3) := by decide +kernel
theorem dX8_begin_12 : decode cX8_begin 12 = .ok (.iconst 1, 1) := by decide +kernel
theorem dX8_begin_13 : decode cX8_begin 13 = .ok (.isub, 1) := by decide +kernel
theorem dX8_begin_14 : decode cX8_begin 14 = .ok (.goto 7, 3) := by decide +kernel
theorem dX8_begin_17 : decode cX8_begin 17 = .ok (.aload_n 0, 1) := by decide +kernel
theorem dX8_begin_18 : decode cX8_begin 18 = .ok (.getfield 103, 3) := by decide +kernel
theorem dX8_begin_21 : decode cX8_begin 21 = .ok (.putfield 103, 3) := by decide +kernel
theorem dX8_begin_24 : decode cX8_begin 24 = .ok (.aload_n 0, 1) := by decide +kernel
theorem dX8_begin_25 : decode cX8_begin 25 = .ok (.iconst 0, 1) := by decide +kernel
theorem dX8_begin_26 : decode cX8_begin 26 = .ok (.iload_n 1, 1) := by decide +kernel
theorem dX8_begin_27 : decode cX8_begin 27 = .ok (.invokevirtual 113, 3) := by decide +kernel
theorem dX8_begin_30 : decode cX8_begin 30 = .ok (.return_, 1) := by decide +kernel
def fX8_mark_0_27 (q1 : Int32) (S : St) : Option (Int32 × St) :=
    some (q1, S)
def fX8_mark_0_7 : Nat → Int32 → St → Option (Int32 × St)
  | 0, _, _ => none
  | n + 1, q1, S =>
    if q1 < 0 then
      fX8_mark_0_27 q1 S
    else
      if vq q1 60 then
      if (S.1 4 q1.toNatClampNeg) = (3 : Int32) then
        fX8_mark_0_27 q1 S
      else
        stv (q1 + (-1)) fun y4 =>
        fX8_mark_0_7 n y4 S
      else none
def fX8_mark_0 (S : St) : Option (Int32 × St) :=
  stv ((S.1 0 6) - (1 : Int32)) fun y1 =>
  fX8_mark_0_7 500 y1 S
def fX8_kind_0 (p1 : Int32) (S : St) : Option (Int32 × St) :=
  if vq (((S.1 0 6) - (1 : Int32)) - p1) 60 then
  some (S.1 4 (((S.1 0 6) - (1 : Int32)) - p1).toNatClampNeg, S)
  else none
def fX8_handle_0_113 (z1 : Int32) (z2 : Int32) (S : St) : Option (Int32 × St) :=
    bnd (fX8_lay_0 z1 z2 S) fun _ S1 =>
    some (0, S1)
def fX8_handle_0_91 (z0 : Int32) (S : St) : Option (Int32 × St) :=
    stp (si S 0 6 ((S.1 0 6) - (2 : Int32))) fun S1 =>
    if z0 = 0 then
      fX8_handle_0_113 (1 : Int32) (0 : Int32) S1
    else
      fX8_handle_0_113 (1 : Int32) (1 : Int32) S1
def fX8_handle_0_90 (S : St) : Option (Int32 × St) :=
    fX8_handle_0_91 (0 : Int32) S
def fX8_handle_0_304 (S : St) : Option (Int32 × St) :=
    bnd (fX8_mark_0 S) fun r1 S1 =>
    stp (si S1 0 6 r1) fun S2 =>
    some (0, S2)
def fX8_handle_0 (p1 : Int32) (S : St) : Option (Int32 × St) :=
  stv ((S.1 0 6) - (1 : Int32)) fun y1 =>
  if p1 = 4 then
    bnd (fX8_kind_0 (0 : Int32) S) fun r3 S3 =>
    bnd (fX8_kind_0 (1 : Int32) S3) fun r4 S4 =>
    if r3 = r4 then
      bnd (fX8_number_0 (0 : Int32) S4) fun r6 S6 =>
      bnd (fX8_number_0 (1 : Int32) S6) fun r7 S7 =>
      if r6 = r7 then
        fX8_handle_0_91 (1 : Int32) S7
      else
        fX8_handle_0_90 S7
    else
      fX8_handle_0_90 S4
  else
    if p1 = 5 then
      fX8_handle_0_304 S
    else
      if p1 = 6 then
        if vq y1 60 then
        if vq y1 60 then
        stp (si S 5 y1.toNatClampNeg ((1 : Int32) - (S.1 5 y1.toNatClampNeg))) fun S12 =>
        some (0, S12)
        else none
        else none
      else
        if p1 = 7 then
          stp (si S 0 6 ((S.1 0 6) - (1 : Int32))) fun S14 =>
          some (0, S14)
        else
          if p1 = 8 then
            if vq y1 60 then
            if vq y1 60 then
            bnd (fX8_lay_0 (S.1 4 y1.toNatClampNeg) (S.1 5 y1.toNatClampNeg) S) fun _ S18 =>
            some (0, S18)
            else none
            else none
          else
            if p1 = 9 then
              if vq y1 60 then
              stv (S.1 4 y1.toNatClampNeg) fun y21 =>
              if vq y1 60 then
              stv (S.1 5 y1.toNatClampNeg) fun y23 =>
              if vq (y1 - (1 : Int32)) 60 then
              if vq y1 60 then
              stp (si S 4 y1.toNatClampNeg (S.1 4 (y1 - (1 : Int32)).toNatClampNeg)) fun S25 =>
              if vq (y1 - (1 : Int32)) 60 then
              if vq y1 60 then
              stp (si S25 5 y1.toNatClampNeg (S25.1 5 (y1 - (1 : Int32)).toNatClampNeg)) fun S27 =>
              if vq (y1 - (1 : Int32)) 60 then
              stp (si S27 4 (y1 - (1 : Int32)).toNatClampNeg y21) fun S28 =>
              if vq (y1 - (1 : Int32)) 60 then
              stp (si S28 5 (y1 - (1 : Int32)).toNatClampNeg y23) fun S29 =>
              some (0, S29)
              else none
              else none
              else none
              else none
              else none
              else none
              else none
              else none
            else
              if p1 = 10 then
                if vq y1 60 then
                stv ((y1 - (1 : Int32)) - (S.1 5 y1.toNatClampNeg)) fun y32 =>
                stp (si S 0 6 ((S.1 0 6) - (1 : Int32))) fun S33 =>
                if vq y32 60 then
                if vq y32 60 then
                bnd (fX8_lay_0 (S33.1 4 y32.toNatClampNeg) (S33.1 5 y32.toNatClampNeg) S33) fun _ S36 =>
                some (0, S36)
                else none
                else none
                else none
              else
                if p1 = 11 then
                  bnd (fX8_lay_0 (0 : Int32) (S.1 0 6) S) fun _ S38 =>
                  some (0, S38)
                else
                  if p1 = 12 then
                    bnd (fX8_mark_0 S) fun r40 S40 =>
                    bnd (fX8_lay_0 (0 : Int32) (y1 - r40) S40) fun _ S41 =>
                    some (0, S41)
                  else
                    fX8_handle_0_304 S
def fX8_procedureOf_0_65 (q2 : Int32) (z0 : Int32) (S : St) : Option (Int32 × St) :=
    if z0 = (4 : Int32) then
      if q2 = 0 then
        bnd (fX8_number_0 (0 : Int32) S) fun r3 S3 =>
        some (r3, S3)
      else
        bnd (fX8_number_0 (0 : Int32) S) fun r4 S4 =>
        if vq r4 40 then
        some (S4.1 7 r4.toNatClampNeg, S4)
        else none
    else
      some ((-1 : Int32), S)
def fX8_procedureOf_0_42 (z0 : Int32) (S : St) : Option (Int32 × St) :=
    if z0 = 0 then
      bnd (fX8_kind_0 (0 : Int32) S) fun r2 S2 =>
      fX8_procedureOf_0_65 z0 r2 S2
    else
      bnd (fX8_number_0 (0 : Int32) S) fun r3 S3 =>
      if vq r3 40 then
      fX8_procedureOf_0_65 z0 (S3.1 6 r3.toNatClampNeg) S3
      else none
def fX8_procedureOf_0 (p1 : Int32) (S : St) : Option (Int32 × St) :=
  if p1 = 16 then
    bnd (fX8_kind_0 (0 : Int32) S) fun r2 S2 =>
    if r2 = (2 : Int32) then
      fX8_procedureOf_0_42 (1 : Int32) S2
    else
      fX8_procedureOf_0_42 (0 : Int32) S2
  else
    if p1 = 17 then
      bnd (fX8_number_0 (1 : Int32) S) fun r5 S5 =>
      if r5 = (1 : Int32) then
        bnd (fX8_number_0 (0 : Int32) S5) fun r7 S7 =>
        some (r7, S7)
      else
        some ((-1 : Int32), S5)
    else
      if p1 = 18 then
        bnd (fX8_number_0 (2 : Int32) S) fun r9 S9 =>
        if r9 = (1 : Int32) then
          bnd (fX8_number_0 (1 : Int32) S9) fun r11 S11 =>
          some (r11, S11)
        else
          bnd (fX8_number_0 (0 : Int32) S9) fun r12 S12 =>
          some (r12, S12)
      else
        some ((-1 : Int32), S)
def fX8_begin_0_21 (q1 : Int32) (z1 : Int32) (S : St) : Option (Int32 × St) :=
    stp (si S 0 19 z1) fun S1 =>
    bnd (fX8_come_0 (0 : Int32) q1 S1) fun _ S2 =>
    some (0, S2)
def fX8_begin_0 (p1 : Int32) (S : St) : Option (Int32 × St) :=
  bnd (fX8_isSpent_0 S) fun r1 S1 =>
  if r1 = 0 then
    fX8_begin_0_21 p1 (S1.1 0 19) S1
  else
    fX8_begin_0_21 p1 ((S1.1 0 19) - (1 : Int32)) S1
set_option maxRecDepth 100000 in
set_option maxHeartbeats 4000000 in
theorem rX8_mark_0_27 {p : Program} {l : Launch} {e : Env} {s : State} {m : MethodId} {args : Array Value} {below : List Frame} {meth : Method} {c : Code} {D : va_G} {a : Nat → Nat} {cI cJ : ClassId} {tk : Nat} {tf : Nat → Int32} (C : Cx p s m args meth c RX8 cX8_mark 2 D cI cJ tk tf (AR a 17 s.heap.size)) (hr : meth.sig.returnType = (some .int)) : ∀ (q1 : Int32) (S : St) (x : Int32 × St) (H : Heap) (locs : List Loc) (ls : Array Slot), fX8_mark_0_27 q1 S = some x → Wd D (wM a cI cJ) (AR a 17 s.heap.size) s S H locs → lv_has ls 2 [(1, .int q1)] → W p l e { frames := 0, cells := 0, slots := 0, locals := 0 } s m args below meth c H locs 0 0 (MQ below (Qi D (wM a cI cJ) (AR a 17 s.heap.size) x) args s 0 0 (AR a 17 s.heap.size)) (F0 m 27 ls []) := by
  intro q1 S x H locs ls hf G hl
  unfold fX8_mark_0_27 at hf
  refine lv_iload_n C.1 C.2.1 dX8_mark_27 rfl (lv_at hl 0 rfl) ?_
  exact r_iret C hr G hf dX8_mark_28
set_option maxRecDepth 100000 in
set_option maxHeartbeats 4000000 in
theorem rX8_mark_0_7 {p : Program} {l : Launch} {e : Env} {s : State} {m : MethodId} {args : Array Value} {below : List Frame} {meth : Method} {c : Code} {D : va_G} {a : Nat → Nat} {cI cJ : ClassId} {tk : Nat} {tf : Nat → Int32} (C : Cx p s m args meth c RX8 cX8_mark 2 D cI cJ tk tf (AR a 17 s.heap.size)) (hr : meth.sig.returnType = (some .int)) : ∀ (n : Nat) (q1 : Int32) (S : St) (x : Int32 × St) (H : Heap) (locs : List Loc) (ls : Array Slot), fX8_mark_0_7 n q1 S = some x → Wd D (wM a cI cJ) (AR a 17 s.heap.size) s S H locs → lv_has ls 2 [(0, .ref (a 0)), (1, .int q1)] → W p l e { frames := 0, cells := 0, slots := 0, locals := 0 } s m args below meth c H locs 0 0 (MQ below (Qi D (wM a cI cJ) (AR a 17 s.heap.size) x) args s 0 0 (AR a 17 s.heap.size)) (F0 m 7 ls []) := by
  intro n
  induction n with
  | zero => intro q1 S x H locs ls hf G hl; cases hf
  | succ n ih =>
    intro q1 S x H locs ls hf G hl
    rw [fX8_mark_0_7.eq_2] at hf
    refine lv_iload_n C.1 C.2.1 dX8_mark_7 rfl (lv_at hl 1 rfl) ?_
    refine lv_if_lt (tgt := 27) C.1 C.2.1 dX8_mark_8 (by decide) (fun c1 => ?_) (fun c1 => ?_)
    · replace hf := ifp c1 hf
      exact rX8_mark_0_27 C hr q1 S _ _ _ _ hf G (lv_sub hl [1] rfl)
    · replace hf := ifq c1 hf
      refine lv_aload_n C.1 C.2.1 dX8_mark_11 rfl (lv_at hl 0 rfl) ?_
      refine gM_0_4 C G k_762 dX8_mark_12 ?_
      refine lv_iload_n C.1 C.2.1 dX8_mark_15 rfl (lv_at hl 1 rfl) ?_
      obtain ⟨hi2, hf⟩ := ifn hf
      refine aM_4 C G hi2 dX8_mark_16 ?_
      refine lv_iconst (v := 3) C.1 C.2.1 dX8_mark_17 (by decide) ?_
      refine lv_icmp_eq (tgt := 27) C.1 C.2.1 dX8_mark_18 (by decide) (fun c3 => ?_) (fun c3 => ?_)
      · replace hf := ifp c3 hf
        exact rX8_mark_0_27 C hr q1 S _ _ _ _ hf G (lv_sub hl [1] rfl)
      · replace hf := ifq c3 hf
        obtain ⟨y4, ey4, hf⟩ := stv_e hf
        refine lv_iinc (v := y4) (lv' := [(1, .int y4), (0, .ref (a 0))]) C.1 C.2.1 dX8_mark_21 hl (k := 1) rfl (by rw [ey4]; rfl) (by decide) rfl (fun ls hl => ?_)
        refine lv_goto (tgt := 7) C.1 C.2.1 dX8_mark_24 (by decide) ?_
        exact ih y4 S _ _ _ _ hf G (lv_sub hl [1, 0] rfl)
set_option maxRecDepth 100000 in
set_option maxHeartbeats 4000000 in
theorem mX8_mark_0 (l : Launch) (D : va_G) (a : Nat → Nat) (cI cJ : ClassId) (tk : Nat) (tf : Nat → Int32) (S : St) (x : Int32 × St) (hf : fX8_mark_0 S = some x) : Mi l D (wM a cI cJ) a 17 cI cJ tk tf yX8_mark cX8_mark 2 (some .int) { frames := 0, cells := 0, slots := 0, locals := 0 } [.ref (a 0)] S x := by
  refine opn_i (by decide +kernel) (Nat.le_of_ble_eq_true rfl) (fun p e s m below meth c C hr G ls hl => ?_)
  replace hl : lv_has ls 2 [(0, .ref (a 0))] := hl
  unfold fX8_mark_0 at hf
  refine lv_aload_n C.1 C.2.1 dX8_mark_0 rfl (lv_at hl 0 rfl) ?_
  refine gM_0_6 C G k_764 dX8_mark_1 ?_
  refine lv_iconst (v := 1) C.1 C.2.1 dX8_mark_4 (by decide) ?_
  refine lv_isub C.1 C.2.1 dX8_mark_5 ?_
  obtain ⟨y1, ey1, hf⟩ := stv_e hf
  refine nm_i ey1 ?_
  refine lv_istore_n (lv' := [(1, .int y1), (0, .ref (a 0))]) C.1 C.2.1 dX8_mark_6 rfl hl (by decide) rfl (fun ls hl => ?_)
  exact rX8_mark_0_7 C hr 500 y1 S _ _ _ _ hf G (lv_sub hl [1, 0] rfl)
set_option maxRecDepth 100000 in
set_option maxHeartbeats 4000000 in
theorem mX8_kind_0 (l : Launch) (D : va_G) (a : Nat → Nat) (cI cJ : ClassId) (tk : Nat) (tf : Nat → Int32) (p1 : Int32) (S : St) (x : Int32 × St) (hf : fX8_kind_0 p1 S = some x) : Mi l D (wM a cI cJ) a 17 cI cJ tk tf yX8_kind cX8_kind 2 (some .int) { frames := 0, cells := 0, slots := 0, locals := 0 } [.ref (a 0), .int p1] S x := by
  refine opn_i (by decide +kernel) (Nat.le_of_ble_eq_true rfl) (fun p e s m below meth c C hr G ls hl => ?_)
  replace hl : lv_has ls 2 [(0, .ref (a 0)), (1, .int p1)] := hl
  unfold fX8_kind_0 at hf
  refine lv_aload_n C.1 C.2.1 dX8_kind_0 rfl (lv_at hl 0 rfl) ?_
  refine gM_0_4 C G k_762 dX8_kind_1 ?_
  refine lv_aload_n C.1 C.2.1 dX8_kind_4 rfl (lv_at hl 0 rfl) ?_
  refine gM_0_6 C G k_764 dX8_kind_5 ?_
  refine lv_iconst (v := 1) C.1 C.2.1 dX8_kind_8 (by decide) ?_
  refine lv_isub C.1 C.2.1 dX8_kind_9 ?_
  refine lv_iload_n C.1 C.2.1 dX8_kind_10 rfl (lv_at hl 1 rfl) ?_
  refine lv_isub C.1 C.2.1 dX8_kind_11 ?_
  obtain ⟨hi1, hf⟩ := ifn hf
  refine aM_4 C G hi1 dX8_kind_12 ?_
  exact r_iret C hr G hf dX8_kind_13
set_option maxRecDepth 100000 in
set_option maxHeartbeats 4000000 in
theorem rX8_handle_0_113 {p : Program} {l : Launch} {e : Env} {s : State} {m : MethodId} {args : Array Value} {below : List Frame} {meth : Method} {c : Code} {D : va_G} {a : Nat → Nat} {cI cJ : ClassId} {tk : Nat} {tf : Nat → Int32} (C : Cx p s m args meth c RX8 cX8_handle 7 D cI cJ tk tf (AR a 17 s.heap.size)) (hr : meth.sig.returnType = none) : ∀ (z1 : Int32) (z2 : Int32) (S : St) (x : Int32 × St) (H : Heap) (locs : List Loc) (ls : Array Slot), fX8_handle_0_113 z1 z2 S = some x → Wd D (wM a cI cJ) (AR a 17 s.heap.size) s S H locs → lv_has ls 7 [] → W p l e { frames := 1, cells := 0, slots := 0, locals := 22 } s m args below meth c H locs 0 0 (MQ below (Qv D (wM a cI cJ) (AR a 17 s.heap.size) x) args s 0 0 (AR a 17 s.heap.size)) (F0 m 113 ls [.int z2, .int z1, .ref (a 0)]) := by
  intro z1 z2 S x H locs ls hf G hl
  unfold fX8_handle_0_113 at hf
  obtain ⟨r1, S1, eS1, hf⟩ := bnd_e hf
  refine r_calv (As := [.int z1, .int z2]) (na := 2) C adM G (mX8_lay_0 l D a cI cJ tk tf z1 z2 S _ eS1) k_871 k_873 k_31 k_68 k_874 (q0 := 0) rfl (ci := 8) rfl (by decide +kernel) ⟨Nat.le_of_ble_eq_true rfl, Nat.le_of_ble_eq_true rfl⟩ rfl rfl ⟨Nat.zero_le _, Nat.zero_le _⟩ rfl hl.1 rfl (Nat.le_of_ble_eq_true rfl) dX8_handle_113 (fun H locs G => ?_)
  refine lv_goto (tgt := 312) C.1 C.2.1 dX8_handle_116 (by decide) ?_
  exact r_vret C hr G hf dX8_handle_312
set_option maxRecDepth 100000 in
set_option maxHeartbeats 4000000 in
theorem rX8_handle_0_91 {p : Program} {l : Launch} {e : Env} {s : State} {m : MethodId} {args : Array Value} {below : List Frame} {meth : Method} {c : Code} {D : va_G} {a : Nat → Nat} {cI cJ : ClassId} {tk : Nat} {tf : Nat → Int32} (C : Cx p s m args meth c RX8 cX8_handle 7 D cI cJ tk tf (AR a 17 s.heap.size)) (hr : meth.sig.returnType = none) : ∀ (z0 : Int32) (S : St) (x : Int32 × St) (H : Heap) (locs : List Loc) (ls : Array Slot), fX8_handle_0_91 z0 S = some x → Wd D (wM a cI cJ) (AR a 17 s.heap.size) s S H locs → lv_has ls 7 [(0, .ref (a 0))] → W p l e { frames := 1, cells := 0, slots := 0, locals := 22 } s m args below meth c H locs 0 0 (MQ below (Qv D (wM a cI cJ) (AR a 17 s.heap.size) x) args s 0 0 (AR a 17 s.heap.size)) (F0 m 91 ls [.int z0]) := by
  intro z0 S x H locs ls hf G hl
  unfold fX8_handle_0_91 at hf
  refine lv_istore_n (lv' := [(3, .int z0), (0, .ref (a 0))]) C.1 C.2.1 dX8_handle_91 rfl hl (by decide) rfl (fun ls hl => ?_)
  refine lv_aload_n C.1 C.2.1 dX8_handle_92 rfl (lv_at hl 1 rfl) ?_
  refine lv_aload_n C.1 C.2.1 dX8_handle_93 rfl (lv_at hl 1 rfl) ?_
  refine gM_0_6 C G k_764 dX8_handle_94 ?_
  refine lv_iconst (v := 2) C.1 C.2.1 dX8_handle_97 (by decide) ?_
  refine lv_isub C.1 C.2.1 dX8_handle_98 ?_
  refine pM_0_6 C G k_764 dX8_handle_99 (fun H locs G => ?_)
  obtain ⟨S1, eS1, hf⟩ := stp_e hf
  rw [← eS1] at G
  clear eS1
  refine lv_aload_n C.1 C.2.1 dX8_handle_102 rfl (lv_at hl 1 rfl) ?_
  refine lv_iconst (v := 1) C.1 C.2.1 dX8_handle_103 (by decide) ?_
  refine lv_iload_n C.1 C.2.1 dX8_handle_104 rfl (lv_at hl 0 rfl) ?_
  refine lv_if_eq (tgt := 112) C.1 C.2.1 dX8_handle_105 (by decide) (fun c2 => ?_) (fun c2 => ?_)
  · replace hf := ifp c2 hf
    refine lv_iconst (v := 0) C.1 C.2.1 dX8_handle_112 (by decide) ?_
    exact rX8_handle_0_113 C hr (1 : Int32) (0 : Int32) S1 _ _ _ _ hf G (lv_sub hl [] rfl)
  · replace hf := ifq c2 hf
    refine lv_iconst (v := 1) C.1 C.2.1 dX8_handle_108 (by decide) ?_
    refine lv_goto (tgt := 113) C.1 C.2.1 dX8_handle_109 (by decide) ?_
    exact rX8_handle_0_113 C hr (1 : Int32) (1 : Int32) S1 _ _ _ _ hf G (lv_sub hl [] rfl)
set_option maxRecDepth 100000 in
set_option maxHeartbeats 4000000 in
theorem rX8_handle_0_90 {p : Program} {l : Launch} {e : Env} {s : State} {m : MethodId} {args : Array Value} {below : List Frame} {meth : Method} {c : Code} {D : va_G} {a : Nat → Nat} {cI cJ : ClassId} {tk : Nat} {tf : Nat → Int32} (C : Cx p s m args meth c RX8 cX8_handle 7 D cI cJ tk tf (AR a 17 s.heap.size)) (hr : meth.sig.returnType = none) : ∀ (S : St) (x : Int32 × St) (H : Heap) (locs : List Loc) (ls : Array Slot), fX8_handle_0_90 S = some x → Wd D (wM a cI cJ) (AR a 17 s.heap.size) s S H locs → lv_has ls 7 [(0, .ref (a 0))] → W p l e { frames := 1, cells := 0, slots := 0, locals := 22 } s m args below meth c H locs 0 0 (MQ below (Qv D (wM a cI cJ) (AR a 17 s.heap.size) x) args s 0 0 (AR a 17 s.heap.size)) (F0 m 90 ls []) := by
  intro S x H locs ls hf G hl
  unfold fX8_handle_0_90 at hf
  refine lv_iconst (v := 0) C.1 C.2.1 dX8_handle_90 (by decide) ?_
  exact rX8_handle_0_91 C hr (0 : Int32) S _ _ _ _ hf G (lv_sub hl [0] rfl)
set_option maxRecDepth 100000 in
set_option maxHeartbeats 4000000 in
theorem rX8_handle_0_304 {p : Program} {l : Launch} {e : Env} {s : State} {m : MethodId} {args : Array Value} {below : List Frame} {meth : Method} {c : Code} {D : va_G} {a : Nat → Nat} {cI cJ : ClassId} {tk : Nat} {tf : Nat → Int32} (C : Cx p s m args meth c RX8 cX8_handle 7 D cI cJ tk tf (AR a 17 s.heap.size)) (hr : meth.sig.returnType = none) : ∀ (S : St) (x : Int32 × St) (H : Heap) (locs : List Loc) (ls : Array Slot), fX8_handle_0_304 S = some x → Wd D (wM a cI cJ) (AR a 17 s.heap.size) s S H locs → lv_has ls 7 [(0, .ref (a 0))] → W p l e { frames := 1, cells := 0, slots := 0, locals := 22 } s m args below meth c H locs 0 0 (MQ below (Qv D (wM a cI cJ) (AR a 17 s.heap.size) x) args s 0 0 (AR a 17 s.heap.size)) (F0 m 304 ls []) := by
  intro S x H locs ls hf G hl
  unfold fX8_handle_0_304 at hf
  refine lv_aload_n C.1 C.2.1 dX8_handle_304 rfl (lv_at hl 0 rfl) ?_
  refine lv_aload_n C.1 C.2.1 dX8_handle_305 rfl (lv_at hl 0 rfl) ?_
  obtain ⟨r1, S1, eS1, hf⟩ := bnd_e hf
  refine r_cali (As := []) (na := 0) C adM G (mX8_mark_0 l D a cI cJ tk tf S _ eS1) k_922 k_924 k_40 k_68 k_925 (q0 := 0) rfl (ci := 8) rfl (by decide +kernel) ⟨Nat.le_of_ble_eq_true rfl, Nat.le_of_ble_eq_true rfl⟩ rfl rfl ⟨Nat.zero_le _, Nat.zero_le _⟩ rfl hl.1 rfl (Nat.le_of_ble_eq_true rfl) dX8_handle_306 (fun H locs G => ?_)
  refine pM_0_6 C G k_764 dX8_handle_309 (fun H locs G => ?_)
  obtain ⟨S2, eS2, hf⟩ := stp_e hf
  rw [← eS2] at G
  clear eS2
  exact r_vret C hr G hf dX8_handle_312
set_option maxRecDepth 100000 in
set_option maxHeartbeats 4000000 in
theorem mX8_handle_0 (l : Launch) (D : va_G) (a : Nat → Nat) (cI cJ : ClassId) (tk : Nat) (tf : Nat → Int32) (p1 : Int32) (S : St) (x : Int32 × St) (hf : fX8_handle_0 p1 S = some x) : Mv l D (wM a cI cJ) a 17 cI cJ tk tf yX8_handle cX8_handle 7 { frames := 1, cells := 0, slots := 0, locals := 22 } [.ref (a 0), .int p1] S x := by
  refine opn_v (by decide +kernel) (Nat.le_of_ble_eq_true rfl) (fun p e s m below meth c C hr G ls hl => ?_)
  replace hl : lv_has ls 7 [(0, .ref (a 0)), (1, .int p1)] := hl
  unfold fX8_handle_0 at hf
  refine lv_aload_n C.1 C.2.1 dX8_handle_0 rfl (lv_at hl 0 rfl) ?_
  refine gM_0_6 C G k_764 dX8_handle_1 ?_
  refine lv_iconst (v := 1) C.1 C.2.1 dX8_handle_4 (by decide) ?_
  refine lv_isub C.1 C.2.1 dX8_handle_5 ?_
  obtain ⟨y1, ey1, hf⟩ := stv_e hf
  refine nm_i ey1 ?_
  refine lv_istore_n (lv' := [(2, .int y1), (0, .ref (a 0)), (1, .int p1)]) C.1 C.2.1 dX8_handle_6 rfl hl (by decide) rfl (fun ls hl => ?_)
  refine lv_iload_n C.1 C.2.1 dX8_handle_7 rfl (lv_at hl 2 rfl) ?_
  by_cases c2 : p1 = (4 : Int32)
  · replace hf := ifp c2 hf
    refine lv_tableIn (tgt := 60) C.1 C.2.1 dX8_handle_8 (by rw [c2]; decide) (by rw [c2]; decide) (by rw [c2]; rfl) (by decide) ?_
    refine lv_aload_n C.1 C.2.1 dX8_handle_60 rfl (lv_at hl 1 rfl) ?_
    refine lv_iconst (v := 0) C.1 C.2.1 dX8_handle_61 (by decide) ?_
    obtain ⟨r3, S3, eS3, hf⟩ := bnd_e hf
    refine r_cali (As := [.int (0 : Int32)]) (na := 1) C adM G (mX8_kind_0 l D a cI cJ tk tf (0 : Int32) S _ eS3) k_910 k_912 k_37 k_68 k_913 (q0 := 0) rfl (ci := 8) rfl (by decide +kernel) ⟨Nat.le_of_ble_eq_true rfl, Nat.le_of_ble_eq_true rfl⟩ rfl rfl ⟨Nat.zero_le _, Nat.zero_le _⟩ rfl hl.1 rfl (Nat.le_of_ble_eq_true rfl) dX8_handle_62 (fun H locs G => ?_)
    refine lv_aload_n C.1 C.2.1 dX8_handle_65 rfl (lv_at hl 1 rfl) ?_
    refine lv_iconst (v := 1) C.1 C.2.1 dX8_handle_66 (by decide) ?_
    obtain ⟨r4, S4, eS4, hf⟩ := bnd_e hf
    refine r_cali (As := [.int (1 : Int32)]) (na := 1) C adM G (mX8_kind_0 l D a cI cJ tk tf (1 : Int32) S3 _ eS4) k_910 k_912 k_37 k_68 k_913 (q0 := 0) rfl (ci := 8) rfl (by decide +kernel) ⟨Nat.le_of_ble_eq_true rfl, Nat.le_of_ble_eq_true rfl⟩ rfl rfl ⟨Nat.zero_le _, Nat.zero_le _⟩ rfl hl.1 rfl (Nat.le_of_ble_eq_true rfl) dX8_handle_67 (fun H locs G => ?_)
    refine lv_icmp_ne (tgt := 90) C.1 C.2.1 dX8_handle_70 (by decide) (fun c5 => ?_) (fun c5 => ?_)
    · replace hf := ifq c5 hf
      exact rX8_handle_0_90 C hr S4 _ _ _ _ hf G (lv_sub hl [1] rfl)
    · replace hf := ifp c5 hf
      refine lv_aload_n C.1 C.2.1 dX8_handle_73 rfl (lv_at hl 1 rfl) ?_
      refine lv_iconst (v := 0) C.1 C.2.1 dX8_handle_74 (by decide) ?_
      obtain ⟨r6, S6, eS6, hf⟩ := bnd_e hf
      refine r_cali (As := [.int (0 : Int32)]) (na := 1) C adM G (mX8_number_0 l D a cI cJ tk tf (0 : Int32) S4 _ eS6) k_914 k_916 k_38 k_68 k_917 (q0 := 0) rfl (ci := 8) rfl (by decide +kernel) ⟨Nat.le_of_ble_eq_true rfl, Nat.le_of_ble_eq_true rfl⟩ rfl rfl ⟨Nat.zero_le _, Nat.zero_le _⟩ rfl hl.1 rfl (Nat.le_of_ble_eq_true rfl) dX8_handle_75 (fun H locs G => ?_)
      refine lv_aload_n C.1 C.2.1 dX8_handle_78 rfl (lv_at hl 1 rfl) ?_
      refine lv_iconst (v := 1) C.1 C.2.1 dX8_handle_79 (by decide) ?_
      obtain ⟨r7, S7, eS7, hf⟩ := bnd_e hf
      refine r_cali (As := [.int (1 : Int32)]) (na := 1) C adM G (mX8_number_0 l D a cI cJ tk tf (1 : Int32) S6 _ eS7) k_914 k_916 k_38 k_68 k_917 (q0 := 0) rfl (ci := 8) rfl (by decide +kernel) ⟨Nat.le_of_ble_eq_true rfl, Nat.le_of_ble_eq_true rfl⟩ rfl rfl ⟨Nat.zero_le _, Nat.zero_le _⟩ rfl hl.1 rfl (Nat.le_of_ble_eq_true rfl) dX8_handle_80 (fun H locs G => ?_)
      refine lv_icmp_ne (tgt := 90) C.1 C.2.1 dX8_handle_83 (by decide) (fun c8 => ?_) (fun c8 => ?_)
      · replace hf := ifq c8 hf
        exact rX8_handle_0_90 C hr S7 _ _ _ _ hf G (lv_sub hl [1] rfl)
      · replace hf := ifp c8 hf
        refine lv_iconst (v := 1) C.1 C.2.1 dX8_handle_86 (by decide) ?_
        refine lv_goto (tgt := 91) C.1 C.2.1 dX8_handle_87 (by decide) ?_
        exact rX8_handle_0_91 C hr (1 : Int32) S7 _ _ _ _ hf G (lv_sub hl [1] rfl)
  · replace hf := ifq c2 hf
    by_cases c9 : p1 = (5 : Int32)
    · replace hf := ifp c9 hf
      refine lv_tableIn (tgt := 304) C.1 C.2.1 dX8_handle_8 (by rw [c9]; decide) (by rw [c9]; decide) (by rw [c9]; rfl) (by decide) ?_
      exact rX8_handle_0_304 C hr S _ _ _ _ hf G (lv_sub hl [1] rfl)
    · replace hf := ifq c9 hf
      by_cases c10 : p1 = (6 : Int32)
      · replace hf := ifp c10 hf
        refine lv_tableIn (tgt := 119) C.1 C.2.1 dX8_handle_8 (by rw [c10]; decide) (by rw [c10]; decide) (by rw [c10]; rfl) (by decide) ?_
        refine lv_aload_n C.1 C.2.1 dX8_handle_119 rfl (lv_at hl 1 rfl) ?_
        refine gM_0_5 C G k_763 dX8_handle_120 ?_
        refine lv_iload_n C.1 C.2.1 dX8_handle_123 rfl (lv_at hl 0 rfl) ?_
        refine lv_iconst (v := 1) C.1 C.2.1 dX8_handle_124 (by decide) ?_
        refine lv_aload_n C.1 C.2.1 dX8_handle_125 rfl (lv_at hl 1 rfl) ?_
        refine gM_0_5 C G k_763 dX8_handle_126 ?_
        refine lv_iload_n C.1 C.2.1 dX8_handle_129 rfl (lv_at hl 0 rfl) ?_
        obtain ⟨hi11, hf⟩ := ifn hf
        refine aM_5 C G hi11 dX8_handle_130 ?_
        refine lv_isub C.1 C.2.1 dX8_handle_131 ?_
        obtain ⟨hi12, hf⟩ := ifn hf
        refine sM_5 C G hi12 dX8_handle_132 (fun H locs G => ?_)
        obtain ⟨S12, eS12, hf⟩ := stp_e hf
        rw [← eS12] at G
        clear eS12
        refine lv_goto (tgt := 312) C.1 C.2.1 dX8_handle_133 (by decide) ?_
        exact r_vret C hr G hf dX8_handle_312
      · replace hf := ifq c10 hf
        by_cases c13 : p1 = (7 : Int32)
        · replace hf := ifp c13 hf
          refine lv_tableIn (tgt := 136) C.1 C.2.1 dX8_handle_8 (by rw [c13]; decide) (by rw [c13]; decide) (by rw [c13]; rfl) (by decide) ?_
          refine lv_aload_n C.1 C.2.1 dX8_handle_136 rfl (lv_at hl 1 rfl) ?_
          refine lv_dup C.1 C.2.1 dX8_handle_137 rfl ?_
          refine gM_0_6 C G k_764 dX8_handle_138 ?_
          refine lv_iconst (v := 1) C.1 C.2.1 dX8_handle_141 (by decide) ?_
          refine lv_isub C.1 C.2.1 dX8_handle_142 ?_
          refine pM_0_6 C G k_764 dX8_handle_143 (fun H locs G => ?_)
          obtain ⟨S14, eS14, hf⟩ := stp_e hf
          rw [← eS14] at G
          clear eS14
          refine lv_goto (tgt := 312) C.1 C.2.1 dX8_handle_146 (by decide) ?_
          exact r_vret C hr G hf dX8_handle_312
        · replace hf := ifq c13 hf
          by_cases c15 : p1 = (8 : Int32)
          · replace hf := ifp c15 hf
            refine lv_tableIn (tgt := 149) C.1 C.2.1 dX8_handle_8 (by rw [c15]; decide) (by rw [c15]; decide) (by rw [c15]; rfl) (by decide) ?_
            refine lv_aload_n C.1 C.2.1 dX8_handle_149 rfl (lv_at hl 1 rfl) ?_
            refine lv_aload_n C.1 C.2.1 dX8_handle_150 rfl (lv_at hl 1 rfl) ?_
            refine gM_0_4 C G k_762 dX8_handle_151 ?_
            refine lv_iload_n C.1 C.2.1 dX8_handle_154 rfl (lv_at hl 0 rfl) ?_
            obtain ⟨hi16, hf⟩ := ifn hf
            refine aM_4 C G hi16 dX8_handle_155 ?_
            refine lv_aload_n C.1 C.2.1 dX8_handle_156 rfl (lv_at hl 1 rfl) ?_
            refine gM_0_5 C G k_763 dX8_handle_157 ?_
            refine lv_iload_n C.1 C.2.1 dX8_handle_160 rfl (lv_at hl 0 rfl) ?_
            obtain ⟨hi17, hf⟩ := ifn hf
            refine aM_5 C G hi17 dX8_handle_161 ?_
            obtain ⟨r18, S18, eS18, hf⟩ := bnd_e hf
            refine r_calv (As := [.int (S.1 4 y1.toNatClampNeg), .int (S.1 5 y1.toNatClampNeg)]) (na := 2) C adM G (mX8_lay_0 l D a cI cJ tk tf (S.1 4 y1.toNatClampNeg) (S.1 5 y1.toNatClampNeg) S _ eS18) k_871 k_873 k_31 k_68 k_874 (q0 := 0) rfl (ci := 8) rfl (by decide +kernel) ⟨Nat.le_of_ble_eq_true rfl, Nat.le_of_ble_eq_true rfl⟩ rfl rfl ⟨Nat.zero_le _, Nat.zero_le _⟩ rfl hl.1 rfl (Nat.le_of_ble_eq_true rfl) dX8_handle_162 (fun H locs G => ?_)
            refine lv_goto (tgt := 312) C.1 C.2.1 dX8_handle_165 (by decide) ?_
            exact r_vret C hr G hf dX8_handle_312
          · replace hf := ifq c15 hf
            by_cases c19 : p1 = (9 : Int32)
            · replace hf := ifp c19 hf
              refine lv_tableIn (tgt := 168) C.1 C.2.1 dX8_handle_8 (by rw [c19]; decide) (by rw [c19]; decide) (by rw [c19]; rfl) (by decide) ?_
              refine lv_aload_n C.1 C.2.1 dX8_handle_168 rfl (lv_at hl 1 rfl) ?_
              refine gM_0_4 C G k_762 dX8_handle_169 ?_
              refine lv_iload_n C.1 C.2.1 dX8_handle_172 rfl (lv_at hl 0 rfl) ?_
              obtain ⟨hi20, hf⟩ := ifn hf
              refine aM_4 C G hi20 dX8_handle_173 ?_
              obtain ⟨y21, ey21, hf⟩ := stv_e hf
              refine nm_i ey21 ?_
              refine lv_istore (lv' := [(4, .int y21), (2, .int y1), (0, .ref (a 0)), (1, .int p1)]) C.1 C.2.1 dX8_handle_174 hl (by decide) rfl (fun ls hl => ?_)
              refine lv_aload_n C.1 C.2.1 dX8_handle_176 rfl (lv_at hl 2 rfl) ?_
              refine gM_0_5 C G k_763 dX8_handle_177 ?_
              refine lv_iload_n C.1 C.2.1 dX8_handle_180 rfl (lv_at hl 1 rfl) ?_
              obtain ⟨hi22, hf⟩ := ifn hf
              refine aM_5 C G hi22 dX8_handle_181 ?_
              obtain ⟨y23, ey23, hf⟩ := stv_e hf
              refine nm_i ey23 ?_
              refine lv_istore (lv' := [(5, .int y23), (4, .int y21), (2, .int y1), (0, .ref (a 0)), (1, .int p1)]) C.1 C.2.1 dX8_handle_182 hl (by decide) rfl (fun ls hl => ?_)
              refine lv_aload_n C.1 C.2.1 dX8_handle_184 rfl (lv_at hl 3 rfl) ?_
              refine gM_0_4 C G k_762 dX8_handle_185 ?_
              refine lv_iload_n C.1 C.2.1 dX8_handle_188 rfl (lv_at hl 2 rfl) ?_
              refine lv_aload_n C.1 C.2.1 dX8_handle_189 rfl (lv_at hl 3 rfl) ?_
              refine gM_0_4 C G k_762 dX8_handle_190 ?_
              refine lv_iload_n C.1 C.2.1 dX8_handle_193 rfl (lv_at hl 2 rfl) ?_
              refine lv_iconst (v := 1) C.1 C.2.1 dX8_handle_194 (by decide) ?_
              refine lv_isub C.1 C.2.1 dX8_handle_195 ?_
              obtain ⟨hi24, hf⟩ := ifn hf
              refine aM_4 C G hi24 dX8_handle_196 ?_
              obtain ⟨hi25, hf⟩ := ifn hf
              refine sM_4 C G hi25 dX8_handle_197 (fun H locs G => ?_)
              obtain ⟨S25, eS25, hf⟩ := stp_e hf
              rw [← eS25] at G
              clear eS25
              refine lv_aload_n C.1 C.2.1 dX8_handle_198 rfl (lv_at hl 3 rfl) ?_
              refine gM_0_5 C G k_763 dX8_handle_199 ?_
              refine lv_iload_n C.1 C.2.1 dX8_handle_202 rfl (lv_at hl 2 rfl) ?_
              refine lv_aload_n C.1 C.2.1 dX8_handle_203 rfl (lv_at hl 3 rfl) ?_
              refine gM_0_5 C G k_763 dX8_handle_204 ?_
              refine lv_iload_n C.1 C.2.1 dX8_handle_207 rfl (lv_at hl 2 rfl) ?_
              refine lv_iconst (v := 1) C.1 C.2.1 dX8_handle_208 (by decide) ?_
              refine lv_isub C.1 C.2.1 dX8_handle_209 ?_
              obtain ⟨hi26, hf⟩ := ifn hf
              refine aM_5 C G hi26 dX8_handle_210 ?_
              obtain ⟨hi27, hf⟩ := ifn hf
              refine sM_5 C G hi27 dX8_handle_211 (fun H locs G => ?_)
              obtain ⟨S27, eS27, hf⟩ := stp_e hf
              rw [← eS27] at G
              clear eS27
              refine lv_aload_n C.1 C.2.1 dX8_handle_212 rfl (lv_at hl 3 rfl) ?_
              refine gM_0_4 C G k_762 dX8_handle_213 ?_
              refine lv_iload_n C.1 C.2.1 dX8_handle_216 rfl (lv_at hl 2 rfl) ?_
              refine lv_iconst (v := 1) C.1 C.2.1 dX8_handle_217 (by decide) ?_
              refine lv_isub C.1 C.2.1 dX8_handle_218 ?_
              refine lv_iload C.1 C.2.1 dX8_handle_219 (lv_at hl 1 rfl) ?_
              obtain ⟨hi28, hf⟩ := ifn hf
              refine sM_4 C G hi28 dX8_handle_221 (fun H locs G => ?_)
              obtain ⟨S28, eS28, hf⟩ := stp_e hf
              rw [← eS28] at G
              clear eS28
              refine lv_aload_n C.1 C.2.1 dX8_handle_222 rfl (lv_at hl 3 rfl) ?_
              refine gM_0_5 C G k_763 dX8_handle_223 ?_
              refine lv_iload_n C.1 C.2.1 dX8_handle_226 rfl (lv_at hl 2 rfl) ?_
              refine lv_iconst (v := 1) C.1 C.2.1 dX8_handle_227 (by decide) ?_
              refine lv_isub C.1 C.2.1 dX8_handle_228 ?_
              refine lv_iload C.1 C.2.1 dX8_handle_229 (lv_at hl 0 rfl) ?_
              obtain ⟨hi29, hf⟩ := ifn hf
              refine sM_5 C G hi29 dX8_handle_231 (fun H locs G => ?_)
              obtain ⟨S29, eS29, hf⟩ := stp_e hf
              rw [← eS29] at G
              clear eS29
              refine lv_goto (tgt := 312) C.1 C.2.1 dX8_handle_232 (by decide) ?_
              exact r_vret C hr G hf dX8_handle_312
            · replace hf := ifq c19 hf
              by_cases c30 : p1 = (10 : Int32)
              · replace hf := ifp c30 hf
                refine lv_tableIn (tgt := 235) C.1 C.2.1 dX8_handle_8 (by rw [c30]; decide) (by rw [c30]; decide) (by rw [c30]; rfl) (by decide) ?_
                refine lv_iload_n C.1 C.2.1 dX8_handle_235 rfl (lv_at hl 0 rfl) ?_
                refine lv_iconst (v := 1) C.1 C.2.1 dX8_handle_236 (by decide) ?_
                refine lv_isub C.1 C.2.1 dX8_handle_237 ?_
                refine lv_aload_n C.1 C.2.1 dX8_handle_238 rfl (lv_at hl 1 rfl) ?_
                refine gM_0_5 C G k_763 dX8_handle_239 ?_
                refine lv_iload_n C.1 C.2.1 dX8_handle_242 rfl (lv_at hl 0 rfl) ?_
                obtain ⟨hi31, hf⟩ := ifn hf
                refine aM_5 C G hi31 dX8_handle_243 ?_
                refine lv_isub C.1 C.2.1 dX8_handle_244 ?_
                obtain ⟨y32, ey32, hf⟩ := stv_e hf
                refine nm_i ey32 ?_
                refine lv_istore (lv' := [(6, .int y32), (2, .int y1), (0, .ref (a 0)), (1, .int p1)]) C.1 C.2.1 dX8_handle_245 hl (by decide) rfl (fun ls hl => ?_)
                refine lv_aload_n C.1 C.2.1 dX8_handle_247 rfl (lv_at hl 2 rfl) ?_
                refine lv_dup C.1 C.2.1 dX8_handle_248 rfl ?_
                refine gM_0_6 C G k_764 dX8_handle_249 ?_
                refine lv_iconst (v := 1) C.1 C.2.1 dX8_handle_252 (by decide) ?_
                refine lv_isub C.1 C.2.1 dX8_handle_253 ?_
                refine pM_0_6 C G k_764 dX8_handle_254 (fun H locs G => ?_)
                obtain ⟨S33, eS33, hf⟩ := stp_e hf
                rw [← eS33] at G
                clear eS33
                refine lv_aload_n C.1 C.2.1 dX8_handle_257 rfl (lv_at hl 2 rfl) ?_
                refine lv_aload_n C.1 C.2.1 dX8_handle_258 rfl (lv_at hl 2 rfl) ?_
                refine gM_0_4 C G k_762 dX8_handle_259 ?_
                refine lv_iload C.1 C.2.1 dX8_handle_262 (lv_at hl 0 rfl) ?_
                obtain ⟨hi34, hf⟩ := ifn hf
                refine aM_4 C G hi34 dX8_handle_264 ?_
                refine lv_aload_n C.1 C.2.1 dX8_handle_265 rfl (lv_at hl 2 rfl) ?_
                refine gM_0_5 C G k_763 dX8_handle_266 ?_
                refine lv_iload C.1 C.2.1 dX8_handle_269 (lv_at hl 0 rfl) ?_
                obtain ⟨hi35, hf⟩ := ifn hf
                refine aM_5 C G hi35 dX8_handle_271 ?_
                obtain ⟨r36, S36, eS36, hf⟩ := bnd_e hf
                refine r_calv (As := [.int (S33.1 4 y32.toNatClampNeg), .int (S33.1 5 y32.toNatClampNeg)]) (na := 2) C adM G (mX8_lay_0 l D a cI cJ tk tf (S33.1 4 y32.toNatClampNeg) (S33.1 5 y32.toNatClampNeg) S33 _ eS36) k_871 k_873 k_31 k_68 k_874 (q0 := 0) rfl (ci := 8) rfl (by decide +kernel) ⟨Nat.le_of_ble_eq_true rfl, Nat.le_of_ble_eq_true rfl⟩ rfl rfl ⟨Nat.zero_le _, Nat.zero_le _⟩ rfl hl.1 rfl (Nat.le_of_ble_eq_true rfl) dX8_handle_272 (fun H locs G => ?_)
                refine lv_goto (tgt := 312) C.1 C.2.1 dX8_handle_275 (by decide) ?_
                exact r_vret C hr G hf dX8_handle_312
              · replace hf := ifq c30 hf
                by_cases c37 : p1 = (11 : Int32)
                · replace hf := ifp c37 hf
                  refine lv_tableIn (tgt := 278) C.1 C.2.1 dX8_handle_8 (by rw [c37]; decide) (by rw [c37]; decide) (by rw [c37]; rfl) (by decide) ?_
                  refine lv_aload_n C.1 C.2.1 dX8_handle_278 rfl (lv_at hl 1 rfl) ?_
                  refine lv_iconst (v := 0) C.1 C.2.1 dX8_handle_279 (by decide) ?_
                  refine lv_aload_n C.1 C.2.1 dX8_handle_280 rfl (lv_at hl 1 rfl) ?_
                  refine gM_0_6 C G k_764 dX8_handle_281 ?_
                  obtain ⟨r38, S38, eS38, hf⟩ := bnd_e hf
                  refine r_calv (As := [.int (0 : Int32), .int (S.1 0 6)]) (na := 2) C adM G (mX8_lay_0 l D a cI cJ tk tf (0 : Int32) (S.1 0 6) S _ eS38) k_871 k_873 k_31 k_68 k_874 (q0 := 0) rfl (ci := 8) rfl (by decide +kernel) ⟨Nat.le_of_ble_eq_true rfl, Nat.le_of_ble_eq_true rfl⟩ rfl rfl ⟨Nat.zero_le _, Nat.zero_le _⟩ rfl hl.1 rfl (Nat.le_of_ble_eq_true rfl) dX8_handle_284 (fun H locs G => ?_)
                  refine lv_goto (tgt := 312) C.1 C.2.1 dX8_handle_287 (by decide) ?_
                  exact r_vret C hr G hf dX8_handle_312
                · replace hf := ifq c37 hf
                  by_cases c39 : p1 = (12 : Int32)
                  · replace hf := ifp c39 hf
                    refine lv_tableIn (tgt := 290) C.1 C.2.1 dX8_handle_8 (by rw [c39]; decide) (by rw [c39]; decide) (by rw [c39]; rfl) (by decide) ?_
                    refine lv_aload_n C.1 C.2.1 dX8_handle_290 rfl (lv_at hl 1 rfl) ?_
                    refine lv_iconst (v := 0) C.1 C.2.1 dX8_handle_291 (by decide) ?_
                    refine lv_iload_n C.1 C.2.1 dX8_handle_292 rfl (lv_at hl 0 rfl) ?_
                    refine lv_aload_n C.1 C.2.1 dX8_handle_293 rfl (lv_at hl 1 rfl) ?_
                    obtain ⟨r40, S40, eS40, hf⟩ := bnd_e hf
                    refine r_cali (As := []) (na := 0) C adM G (mX8_mark_0 l D a cI cJ tk tf S _ eS40) k_922 k_924 k_40 k_68 k_925 (q0 := 0) rfl (ci := 8) rfl (by decide +kernel) ⟨Nat.le_of_ble_eq_true rfl, Nat.le_of_ble_eq_true rfl⟩ rfl rfl ⟨Nat.zero_le _, Nat.zero_le _⟩ rfl hl.1 rfl (Nat.le_of_ble_eq_true rfl) dX8_handle_294 (fun H locs G => ?_)
                    refine lv_isub C.1 C.2.1 dX8_handle_297 ?_
                    obtain ⟨r41, S41, eS41, hf⟩ := bnd_e hf
                    refine r_calv (As := [.int (0 : Int32), .int (y1 - r40)]) (na := 2) C adM G (mX8_lay_0 l D a cI cJ tk tf (0 : Int32) (y1 - r40) S40 _ eS41) k_871 k_873 k_31 k_68 k_874 (q0 := 0) rfl (ci := 8) rfl (by decide +kernel) ⟨Nat.le_of_ble_eq_true rfl, Nat.le_of_ble_eq_true rfl⟩ rfl rfl ⟨Nat.zero_le _, Nat.zero_le _⟩ rfl hl.1 rfl (Nat.le_of_ble_eq_true rfl) dX8_handle_298 (fun H locs G => ?_)
                    refine lv_goto (tgt := 312) C.1 C.2.1 dX8_handle_301 (by decide) ?_
                    exact r_vret C hr G hf dX8_handle_312
                  · replace hf := ifq c39 hf
                    have nc2 : (p1).toInt ≠ 4 := nti c2
                    have nc9 : (p1).toInt ≠ 5 := nti c9
                    have nc10 : (p1).toInt ≠ 6 := nti c10
                    have nc13 : (p1).toInt ≠ 7 := nti c13
                    have nc15 : (p1).toInt ≠ 8 := nti c15
                    have nc19 : (p1).toInt ≠ 9 := nti c19
                    have nc30 : (p1).toInt ≠ 10 := nti c30
                    have nc37 : (p1).toInt ≠ 11 := nti c37
                    have nc39 : (p1).toInt ≠ 12 := nti c39
                    refine lv_tableOut (tgt := 304) C.1 C.2.1 dX8_handle_8 (by omega) (by decide) ?_
                    exact rX8_handle_0_304 C hr S _ _ _ _ hf G (lv_sub hl [1] rfl)
set_option maxRecDepth 100000 in
set_option maxHeartbeats 4000000 in
theorem rX8_procedureOf_0_65 {p : Program} {l : Launch} {e : Env} {s : State} {m : MethodId} {args : Array Value} {below : List Frame} {meth : Method} {c : Code} {D : va_G} {a : Nat → Nat} {cI cJ : ClassId} {tk : Nat} {tf : Nat → Int32} (C : Cx p s m args meth c RX8 cX8_procedureOf 4 D cI cJ tk tf (AR a 17 s.heap.size)) (hr : meth.sig.returnType = (some .int)) : ∀ (q2 : Int32) (z0 : Int32) (S : St) (x : Int32 × St) (H : Heap) (locs : List Loc) (ls : Array Slot), fX8_procedureOf_0_65 q2 z0 S = some x → Wd D (wM a cI cJ) (AR a 17 s.heap.size) s S H locs → lv_has ls 4 [(0, .ref (a 0)), (2, .int q2)] → W p l e { frames := 1, cells := 0, slots := 0, locals := 21 } s m args below meth c H locs 0 0 (MQ below (Qi D (wM a cI cJ) (AR a 17 s.heap.size) x) args s 0 0 (AR a 17 s.heap.size)) (F0 m 65 ls [.int z0]) := by
  intro q2 z0 S x H locs ls hf G hl
  unfold fX8_procedureOf_0_65 at hf
  refine lv_istore_n (lv' := [(3, .int z0), (0, .ref (a 0)), (2, .int q2)]) C.1 C.2.1 dX8_procedureOf_65 rfl hl (by decide) rfl (fun ls hl => ?_)
  refine lv_iload_n C.1 C.2.1 dX8_procedureOf_66 rfl (lv_at hl 0 rfl) ?_
  refine lv_iconst (v := 4) C.1 C.2.1 dX8_procedureOf_67 (by decide) ?_
  refine lv_icmp_eq (tgt := 75) C.1 C.2.1 dX8_procedureOf_68 (by decide) (fun c1 => ?_) (fun c1 => ?_)
  · replace hf := ifp c1 hf
    refine lv_iload_n C.1 C.2.1 dX8_procedureOf_75 rfl (lv_at hl 2 rfl) ?_
    refine lv_if_eq (tgt := 92) C.1 C.2.1 dX8_procedureOf_76 (by decide) (fun c2 => ?_) (fun c2 => ?_)
    · replace hf := ifp c2 hf
      refine lv_aload_n C.1 C.2.1 dX8_procedureOf_92 rfl (lv_at hl 1 rfl) ?_
      refine lv_iconst (v := 0) C.1 C.2.1 dX8_procedureOf_93 (by decide) ?_
      obtain ⟨r3, S3, eS3, hf⟩ := bnd_e hf
      refine r_cali (As := [.int (0 : Int32)]) (na := 1) C adM G (mX8_number_0 l D a cI cJ tk tf (0 : Int32) S _ eS3) k_914 k_916 k_38 k_68 k_917 (q0 := 0) rfl (ci := 8) rfl (by decide +kernel) ⟨Nat.le_of_ble_eq_true rfl, Nat.le_of_ble_eq_true rfl⟩ rfl rfl ⟨Nat.zero_le _, Nat.zero_le _⟩ rfl hl.1 rfl (Nat.le_of_ble_eq_true rfl) dX8_procedureOf_94 (fun H locs G => ?_)
      exact r_iret C hr G hf dX8_procedureOf_97
    · replace hf := ifq c2 hf
      refine lv_aload_n C.1 C.2.1 dX8_procedureOf_79 rfl (lv_at hl 1 rfl) ?_
      refine gM_0_8 C G k_766 dX8_procedureOf_80 ?_
      refine lv_aload_n C.1 C.2.1 dX8_procedureOf_83 rfl (lv_at hl 1 rfl) ?_
      refine lv_iconst (v := 0) C.1 C.2.1 dX8_procedureOf_84 (by decide) ?_
      obtain ⟨r4, S4, eS4, hf⟩ := bnd_e hf
      refine r_cali (As := [.int (0 : Int32)]) (na := 1) C adM G (mX8_number_0 l D a cI cJ tk tf (0 : Int32) S _ eS4) k_914 k_916 k_38 k_68 k_917 (q0 := 0) rfl (ci := 8) rfl (by decide +kernel) ⟨Nat.le_of_ble_eq_true rfl, Nat.le_of_ble_eq_true rfl⟩ rfl rfl ⟨Nat.zero_le _, Nat.zero_le _⟩ rfl hl.1 rfl (Nat.le_of_ble_eq_true rfl) dX8_procedureOf_85 (fun H locs G => ?_)
      obtain ⟨hi5, hf⟩ := ifn hf
      refine aM_7 C G hi5 dX8_procedureOf_88 ?_
      refine lv_goto (tgt := 97) C.1 C.2.1 dX8_procedureOf_89 (by decide) ?_
      exact r_iret C hr G hf dX8_procedureOf_97
  · replace hf := ifq c1 hf
    refine lv_iconst (v := (-1)) C.1 C.2.1 dX8_procedureOf_71 (by decide) ?_
    refine lv_goto (tgt := 97) C.1 C.2.1 dX8_procedureOf_72 (by decide) ?_
    exact r_iret C hr G hf dX8_procedureOf_97
set_option maxRecDepth 100000 in
set_option maxHeartbeats 4000000 in
theorem rX8_procedureOf_0_42 {p : Program} {l : Launch} {e : Env} {s : State} {m : MethodId} {args : Array Value} {below : List Frame} {meth : Method} {c : Code} {D : va_G} {a : Nat → Nat} {cI cJ : ClassId} {tk : Nat} {tf : Nat → Int32} (C : Cx p s m args meth c RX8 cX8_procedureOf 4 D cI cJ tk tf (AR a 17 s.heap.size)) (hr : meth.sig.returnType = (some .int)) : ∀ (z0 : Int32) (S : St) (x : Int32 × St) (H : Heap) (locs : List Loc) (ls : Array Slot), fX8_procedureOf_0_42 z0 S = some x → Wd D (wM a cI cJ) (AR a 17 s.heap.size) s S H locs → lv_has ls 4 [(0, .ref (a 0))] → W p l e { frames := 1, cells := 0, slots := 0, locals := 21 } s m args below meth c H locs 0 0 (MQ below (Qi D (wM a cI cJ) (AR a 17 s.heap.size) x) args s 0 0 (AR a 17 s.heap.size)) (F0 m 42 ls [.int z0]) := by
  intro z0 S x H locs ls hf G hl
  unfold fX8_procedureOf_0_42 at hf
  refine lv_istore_n (lv' := [(2, .int z0), (0, .ref (a 0))]) C.1 C.2.1 dX8_procedureOf_42 rfl hl (by decide) rfl (fun ls hl => ?_)
  refine lv_iload_n C.1 C.2.1 dX8_procedureOf_43 rfl (lv_at hl 0 rfl) ?_
  refine lv_if_eq (tgt := 60) C.1 C.2.1 dX8_procedureOf_44 (by decide) (fun c1 => ?_) (fun c1 => ?_)
  · replace hf := ifp c1 hf
    refine lv_aload_n C.1 C.2.1 dX8_procedureOf_60 rfl (lv_at hl 1 rfl) ?_
    refine lv_iconst (v := 0) C.1 C.2.1 dX8_procedureOf_61 (by decide) ?_
    obtain ⟨r2, S2, eS2, hf⟩ := bnd_e hf
    refine r_cali (As := [.int (0 : Int32)]) (na := 1) C adM G (mX8_kind_0 l D a cI cJ tk tf (0 : Int32) S _ eS2) k_910 k_912 k_37 k_68 k_913 (q0 := 0) rfl (ci := 8) rfl (by decide +kernel) ⟨Nat.le_of_ble_eq_true rfl, Nat.le_of_ble_eq_true rfl⟩ rfl rfl ⟨Nat.zero_le _, Nat.zero_le _⟩ rfl hl.1 rfl (Nat.le_of_ble_eq_true rfl) dX8_procedureOf_62 (fun H locs G => ?_)
    exact rX8_procedureOf_0_65 C hr z0 r2 S2 _ _ _ _ hf G (lv_sub hl [1, 0] rfl)
  · replace hf := ifq c1 hf
    refine lv_aload_n C.1 C.2.1 dX8_procedureOf_47 rfl (lv_at hl 1 rfl) ?_
    refine gM_0_7 C G k_765 dX8_procedureOf_48 ?_
    refine lv_aload_n C.1 C.2.1 dX8_procedureOf_51 rfl (lv_at hl 1 rfl) ?_
    refine lv_iconst (v := 0) C.1 C.2.1 dX8_procedureOf_52 (by decide) ?_
    obtain ⟨r3, S3, eS3, hf⟩ := bnd_e hf
    refine r_cali (As := [.int (0 : Int32)]) (na := 1) C adM G (mX8_number_0 l D a cI cJ tk tf (0 : Int32) S _ eS3) k_914 k_916 k_38 k_68 k_917 (q0 := 0) rfl (ci := 8) rfl (by decide +kernel) ⟨Nat.le_of_ble_eq_true rfl, Nat.le_of_ble_eq_true rfl⟩ rfl rfl ⟨Nat.zero_le _, Nat.zero_le _⟩ rfl hl.1 rfl (Nat.le_of_ble_eq_true rfl) dX8_procedureOf_53 (fun H locs G => ?_)
    obtain ⟨hi4, hf⟩ := ifn hf
    refine aM_6 C G hi4 dX8_procedureOf_56 ?_
    refine lv_goto (tgt := 65) C.1 C.2.1 dX8_procedureOf_57 (by decide) ?_
    exact rX8_procedureOf_0_65 C hr z0 (S3.1 6 r3.toNatClampNeg) S3 _ _ _ _ hf G (lv_sub hl [1, 0] rfl)
set_option maxRecDepth 100000 in
set_option maxHeartbeats 4000000 in
theorem mX8_procedureOf_0 (l : Launch) (D : va_G) (a : Nat → Nat) (cI cJ : ClassId) (tk : Nat) (tf : Nat → Int32) (p1 : Int32) (S : St) (x : Int32 × St) (hf : fX8_procedureOf_0 p1 S = some x) : Mi l D (wM a cI cJ) a 17 cI cJ tk tf yX8_procedureOf cX8_procedureOf 4 (some .int) { frames := 1, cells := 0, slots := 0, locals := 21 } [.ref (a 0), .int p1] S x := by
  refine opn_i (by decide +kernel) (Nat.le_of_ble_eq_true rfl) (fun p e s m below meth c C hr G ls hl => ?_)
  replace hl : lv_has ls 4 [(0, .ref (a 0)), (1, .int p1)] := hl
  unfold fX8_procedureOf_0 at hf
  refine lv_iload_n C.1 C.2.1 dX8_procedureOf_0 rfl (lv_at hl 1 rfl) ?_
  by_cases c1 : p1 = (16 : Int32)
  · replace hf := ifp c1 hf
    refine lv_tableIn (tgt := 28) C.1 C.2.1 dX8_procedureOf_1 (by rw [c1]; decide) (by rw [c1]; decide) (by rw [c1]; rfl) (by decide) ?_
    refine lv_aload_n C.1 C.2.1 dX8_procedureOf_28 rfl (lv_at hl 0 rfl) ?_
    refine lv_iconst (v := 0) C.1 C.2.1 dX8_procedureOf_29 (by decide) ?_
    obtain ⟨r2, S2, eS2, hf⟩ := bnd_e hf
    refine r_cali (As := [.int (0 : Int32)]) (na := 1) C adM G (mX8_kind_0 l D a cI cJ tk tf (0 : Int32) S _ eS2) k_910 k_912 k_37 k_68 k_913 (q0 := 0) rfl (ci := 8) rfl (by decide +kernel) ⟨Nat.le_of_ble_eq_true rfl, Nat.le_of_ble_eq_true rfl⟩ rfl rfl ⟨Nat.zero_le _, Nat.zero_le _⟩ rfl hl.1 rfl (Nat.le_of_ble_eq_true rfl) dX8_procedureOf_30 (fun H locs G => ?_)
    refine lv_iconst (v := 2) C.1 C.2.1 dX8_procedureOf_33 (by decide) ?_
    refine lv_icmp_ne (tgt := 41) C.1 C.2.1 dX8_procedureOf_34 (by decide) (fun c3 => ?_) (fun c3 => ?_)
    · replace hf := ifq c3 hf
      refine lv_iconst (v := 0) C.1 C.2.1 dX8_procedureOf_41 (by decide) ?_
      exact rX8_procedureOf_0_42 C hr (0 : Int32) S2 _ _ _ _ hf G (lv_sub hl [0] rfl)
    · replace hf := ifp c3 hf
      refine lv_iconst (v := 1) C.1 C.2.1 dX8_procedureOf_37 (by decide) ?_
      refine lv_goto (tgt := 42) C.1 C.2.1 dX8_procedureOf_38 (by decide) ?_
      exact rX8_procedureOf_0_42 C hr (1 : Int32) S2 _ _ _ _ hf G (lv_sub hl [0] rfl)
  · replace hf := ifq c1 hf
    by_cases c4 : p1 = (17 : Int32)
    · replace hf := ifp c4 hf
      refine lv_tableIn (tgt := 98) C.1 C.2.1 dX8_procedureOf_1 (by rw [c4]; decide) (by rw [c4]; decide) (by rw [c4]; rfl) (by decide) ?_
      refine lv_aload_n C.1 C.2.1 dX8_procedureOf_98 rfl (lv_at hl 0 rfl) ?_
      refine lv_iconst (v := 1) C.1 C.2.1 dX8_procedureOf_99 (by decide) ?_
      obtain ⟨r5, S5, eS5, hf⟩ := bnd_e hf
      refine r_cali (As := [.int (1 : Int32)]) (na := 1) C adM G (mX8_number_0 l D a cI cJ tk tf (1 : Int32) S _ eS5) k_914 k_916 k_38 k_68 k_917 (q0 := 0) rfl (ci := 8) rfl (by decide +kernel) ⟨Nat.le_of_ble_eq_true rfl, Nat.le_of_ble_eq_true rfl⟩ rfl rfl ⟨Nat.zero_le _, Nat.zero_le _⟩ rfl hl.1 rfl (Nat.le_of_ble_eq_true rfl) dX8_procedureOf_100 (fun H locs G => ?_)
      refine lv_iconst (v := 1) C.1 C.2.1 dX8_procedureOf_103 (by decide) ?_
      refine lv_icmp_ne (tgt := 115) C.1 C.2.1 dX8_procedureOf_104 (by decide) (fun c6 => ?_) (fun c6 => ?_)
      · replace hf := ifq c6 hf
        refine lv_iconst (v := (-1)) C.1 C.2.1 dX8_procedureOf_115 (by decide) ?_
        exact r_iret C hr G hf dX8_procedureOf_116
      · replace hf := ifp c6 hf
        refine lv_aload_n C.1 C.2.1 dX8_procedureOf_107 rfl (lv_at hl 0 rfl) ?_
        refine lv_iconst (v := 0) C.1 C.2.1 dX8_procedureOf_108 (by decide) ?_
        obtain ⟨r7, S7, eS7, hf⟩ := bnd_e hf
        refine r_cali (As := [.int (0 : Int32)]) (na := 1) C adM G (mX8_number_0 l D a cI cJ tk tf (0 : Int32) S5 _ eS7) k_914 k_916 k_38 k_68 k_917 (q0 := 0) rfl (ci := 8) rfl (by decide +kernel) ⟨Nat.le_of_ble_eq_true rfl, Nat.le_of_ble_eq_true rfl⟩ rfl rfl ⟨Nat.zero_le _, Nat.zero_le _⟩ rfl hl.1 rfl (Nat.le_of_ble_eq_true rfl) dX8_procedureOf_109 (fun H locs G => ?_)
        refine lv_goto (tgt := 116) C.1 C.2.1 dX8_procedureOf_112 (by decide) ?_
        exact r_iret C hr G hf dX8_procedureOf_116
    · replace hf := ifq c4 hf
      by_cases c8 : p1 = (18 : Int32)
      · replace hf := ifp c8 hf
        refine lv_tableIn (tgt := 117) C.1 C.2.1 dX8_procedureOf_1 (by rw [c8]; decide) (by rw [c8]; decide) (by rw [c8]; rfl) (by decide) ?_
        refine lv_aload_n C.1 C.2.1 dX8_procedureOf_117 rfl (lv_at hl 0 rfl) ?_
        refine lv_iconst (v := 2) C.1 C.2.1 dX8_procedureOf_118 (by decide) ?_
        obtain ⟨r9, S9, eS9, hf⟩ := bnd_e hf
        refine r_cali (As := [.int (2 : Int32)]) (na := 1) C adM G (mX8_number_0 l D a cI cJ tk tf (2 : Int32) S _ eS9) k_914 k_916 k_38 k_68 k_917 (q0 := 0) rfl (ci := 8) rfl (by decide +kernel) ⟨Nat.le_of_ble_eq_true rfl, Nat.le_of_ble_eq_true rfl⟩ rfl rfl ⟨Nat.zero_le _, Nat.zero_le _⟩ rfl hl.1 rfl (Nat.le_of_ble_eq_true rfl) dX8_procedureOf_119 (fun H locs G => ?_)
        refine lv_iconst (v := 1) C.1 C.2.1 dX8_procedureOf_122 (by decide) ?_
        refine lv_icmp_ne (tgt := 134) C.1 C.2.1 dX8_procedureOf_123 (by decide) (fun c10 => ?_) (fun c10 => ?_)
        · replace hf := ifq c10 hf
          refine lv_aload_n C.1 C.2.1 dX8_procedureOf_134 rfl (lv_at hl 0 rfl) ?_
          refine lv_iconst (v := 0) C.1 C.2.1 dX8_procedureOf_135 (by decide) ?_
          obtain ⟨r12, S12, eS12, hf⟩ := bnd_e hf
          refine r_cali (As := [.int (0 : Int32)]) (na := 1) C adM G (mX8_number_0 l D a cI cJ tk tf (0 : Int32) S9 _ eS12) k_914 k_916 k_38 k_68 k_917 (q0 := 0) rfl (ci := 8) rfl (by decide +kernel) ⟨Nat.le_of_ble_eq_true rfl, Nat.le_of_ble_eq_true rfl⟩ rfl rfl ⟨Nat.zero_le _, Nat.zero_le _⟩ rfl hl.1 rfl (Nat.le_of_ble_eq_true rfl) dX8_procedureOf_136 (fun H locs G => ?_)
          exact r_iret C hr G hf dX8_procedureOf_139
        · replace hf := ifp c10 hf
          refine lv_aload_n C.1 C.2.1 dX8_procedureOf_126 rfl (lv_at hl 0 rfl) ?_
          refine lv_iconst (v := 1) C.1 C.2.1 dX8_procedureOf_127 (by decide) ?_
          obtain ⟨r11, S11, eS11, hf⟩ := bnd_e hf
          refine r_cali (As := [.int (1 : Int32)]) (na := 1) C adM G (mX8_number_0 l D a cI cJ tk tf (1 : Int32) S9 _ eS11) k_914 k_916 k_38 k_68 k_917 (q0 := 0) rfl (ci := 8) rfl (by decide +kernel) ⟨Nat.le_of_ble_eq_true rfl, Nat.le_of_ble_eq_true rfl⟩ rfl rfl ⟨Nat.zero_le _, Nat.zero_le _⟩ rfl hl.1 rfl (Nat.le_of_ble_eq_true rfl) dX8_procedureOf_128 (fun H locs G => ?_)
          refine lv_goto (tgt := 139) C.1 C.2.1 dX8_procedureOf_131 (by decide) ?_
          exact r_iret C hr G hf dX8_procedureOf_139
      · replace hf := ifq c8 hf
        have nc1 : (p1).toInt ≠ 16 := nti c1
        have nc4 : (p1).toInt ≠ 17 := nti c4
        have nc8 : (p1).toInt ≠ 18 := nti c8
        refine lv_tableOut (tgt := 140) C.1 C.2.1 dX8_procedureOf_1 (by omega) (by decide) ?_
        refine lv_iconst (v := (-1)) C.1 C.2.1 dX8_procedureOf_140 (by decide) ?_
        exact r_iret C hr G hf dX8_procedureOf_141
set_option maxRecDepth 100000 in
set_option maxHeartbeats 4000000 in
theorem rX8_begin_0_21 {p : Program} {l : Launch} {e : Env} {s : State} {m : MethodId} {args : Array Value} {below : List Frame} {meth : Method} {c : Code} {D : va_G} {a : Nat → Nat} {cI cJ : ClassId} {tk : Nat} {tf : Nat → Int32} (C : Cx p s m args meth c RX8 cX8_begin 2 D cI cJ tk tf (AR a 17 s.heap.size)) (hr : meth.sig.returnType = none) : ∀ (q1 : Int32) (z1 : Int32) (S : St) (x : Int32 × St) (H : Heap) (locs : List Loc) (ls : Array Slot), fX8_begin_0_21 q1 z1 S = some x → Wd D (wM a cI cJ) (AR a 17 s.heap.size) s S H locs → lv_has ls 2 [(0, .ref (a 0)), (1, .int q1)] → W p l e { frames := 1, cells := 0, slots := 0, locals := 22 } s m args below meth c H locs 0 0 (MQ below (Qv D (wM a cI cJ) (AR a 17 s.heap.size) x) args s 0 0 (AR a 17 s.heap.size)) (F0 m 21 ls [.int z1, .ref (a 0)]) := by
  intro q1 z1 S x H locs ls hf G hl
  unfold fX8_begin_0_21 at hf
  refine pM_0_19 C G k_777 dX8_begin_21 (fun H locs G => ?_)
  obtain ⟨S1, eS1, hf⟩ := stp_e hf
  rw [← eS1] at G
  clear eS1
  refine lv_aload_n C.1 C.2.1 dX8_begin_24 rfl (lv_at hl 0 rfl) ?_
  refine lv_iconst (v := 0) C.1 C.2.1 dX8_begin_25 (by decide) ?_
  refine lv_iload_n C.1 C.2.1 dX8_begin_26 rfl (lv_at hl 1 rfl) ?_
  obtain ⟨r2, S2, eS2, hf⟩ := bnd_e hf
  refine r_calv (As := [.int (0 : Int32), .int q1]) (na := 2) C adM G (mX8_come_0 l D a cI cJ tk tf (0 : Int32) q1 S1 _ eS2) k_887 k_889 k_32 k_68 k_890 (q0 := 0) rfl (ci := 8) rfl (by decide +kernel) ⟨Nat.le_of_ble_eq_true rfl, Nat.le_of_ble_eq_true rfl⟩ rfl rfl ⟨Nat.zero_le _, Nat.zero_le _⟩ rfl hl.1 rfl (Nat.le_of_ble_eq_true rfl) dX8_begin_27 (fun H locs G => ?_)
  exact r_vret C hr G hf dX8_begin_30
set_option maxRecDepth 100000 in
set_option maxHeartbeats 4000000 in
theorem mX8_begin_0 (l : Launch) (D : va_G) (a : Nat → Nat) (cI cJ : ClassId) (tk : Nat) (tf : Nat → Int32) (p1 : Int32) (S : St) (x : Int32 × St) (hf : fX8_begin_0 p1 S = some x) : Mv l D (wM a cI cJ) a 17 cI cJ tk tf yX8_begin cX8_begin 2 { frames := 1, cells := 0, slots := 0, locals := 22 } [.ref (a 0), .int p1] S x := by
  refine opn_v (by decide +kernel) (Nat.le_of_ble_eq_true rfl) (fun p e s m below meth c C hr G ls hl => ?_)
  replace hl : lv_has ls 2 [(0, .ref (a 0)), (1, .int p1)] := hl
  unfold fX8_begin_0 at hf
  refine lv_aload_n C.1 C.2.1 dX8_begin_0 rfl (lv_at hl 0 rfl) ?_
  refine lv_aload_n C.1 C.2.1 dX8_begin_1 rfl (lv_at hl 0 rfl) ?_
  obtain ⟨r1, S1, eS1, hf⟩ := bnd_e hf
  refine r_cali (As := []) (na := 0) C adM G (mX8_isSpent_0 l D a cI cJ tk tf S _ eS1) k_895 k_897 k_34 k_68 k_898 (q0 := 0) rfl (ci := 8) rfl (by decide +kernel) ⟨Nat.le_of_ble_eq_true rfl, Nat.le_of_ble_eq_true rfl⟩ rfl rfl ⟨Nat.zero_le _, Nat.zero_le _⟩ rfl hl.1 rfl (Nat.le_of_ble_eq_true rfl) dX8_begin_2 (fun H locs G => ?_)
  refine lv_if_eq (tgt := 17) C.1 C.2.1 dX8_begin_5 (by decide) (fun c2 => ?_) (fun c2 => ?_)
  · replace hf := ifp c2 hf
    refine lv_aload_n C.1 C.2.1 dX8_begin_17 rfl (lv_at hl 0 rfl) ?_
    refine gM_0_19 C G k_777 dX8_begin_18 ?_
    exact rX8_begin_0_21 C hr p1 (S1.1 0 19) S1 _ _ _ _ hf G (lv_sub hl [0, 1] rfl)
  · replace hf := ifq c2 hf
    refine lv_aload_n C.1 C.2.1 dX8_begin_8 rfl (lv_at hl 0 rfl) ?_
    refine gM_0_19 C G k_777 dX8_begin_9 ?_
    refine lv_iconst (v := 1) C.1 C.2.1 dX8_begin_12 (by decide) ?_
    refine lv_isub C.1 C.2.1 dX8_begin_13 ?_
    refine lv_goto (tgt := 21) C.1 C.2.1 dX8_begin_14 (by decide) ?_
    exact rX8_begin_0_21 C hr p1 ((S1.1 0 19) - (1 : Int32)) S1 _ _ _ _ hf G (lv_sub hl [0, 1] rfl)
