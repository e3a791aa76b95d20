theorem dX8_takes_0 : decode cX8_takes 0 = .ok (.iload_n 0, 1) := by decide +kernel
theorem dX8_takes_1 : decode cX8_takes 1 = .ok (.tableswitch 127 0 25 #[119, 119, 119, 119, 119, 119, 127, 127, 127, 119, 127, 121, 121, 121, 119, 127, 127, 119, 123, 119, 125, 127, 121, 121, 127, 119], 119) := by decide +kernel
theorem dX8_takes_120 : decode cX8_takes 120 = .ok (.iconst 2, 1) := by decide +kernel
theorem dX8_takes_121 : decode cX8_takes 121 = .ok (.ireturn, 1) := by decide +kernel
theorem dX8_takes_122 : decode cX8_takes 122 = .ok (.iconst 0, 1) := by decide +kernel
theorem dX8_takes_123 : decode cX8_takes 123 = .ok (.ireturn, 1) := by decide +kernel
theorem dX8_takes_124 : decode cX8_takes 124 = .ok (.iconst 3, 1) := by decide +kernel
theorem dX8_takes_125 : decode cX8_takes 125 = .ok (.ireturn, 1) := by decide +kernel
theorem dX8_takes_126 : decode cX8_takes 126 = .ok (.iconst 4, 1) := by decide +kernel
theorem dX8_takes_127 : decode cX8_takes 127 = .ok (.ireturn, 1) := by decide +kernel
theorem dX8_takes_128 : decode cX8_takes 128 = .ok (.iconst 1, 1) := by decide +kernel
theorem dX8_takes_129 : decode cX8_takes 129 = .ok (.ireturn, 1) := by decide +kernel
theorem dX8_areKinds_0 : decode cX8_areKinds 0 = .ok (.iload_n 1, 1) := by decide +kernel
theorem dX8_areKinds_1 : decode cX8_areKinds 1 = .ok (.tableswitch 373 0 27 #[127, 127, 127, 127, 373, 127, 149, 373, 373, 373, 164, 373, 373, 373, 178, 193, 373, 208, 232, 265, 288, 327, 373, 373, 327, 342, 164, 164], 127) := by decide +kernel
theorem dX8_areKinds_128 : decode cX8_areKinds 128 = .ok (.aload_n 0, 1) := by decide +kernel
theorem dX8_areKinds_129 : decode cX8_areKinds 129 = .ok (.iconst 0, 1) := by decide +kernel
theorem dX8_areKinds_130 : decode cX8_areKinds 130 = .ok (.invokevirtual 150, 3) := by decide +kernel
theorem dX8_areKinds_133 : decode cX8_areKinds 133 = .ok (.ifCond .ne 15, 3) := by decide +kernel
theorem dX8_areKinds_136 : decode cX8_areKinds 136 = .ok (.aload_n 0, 1) := by decide +kernel
theorem dX8_areKinds_137 : decode cX8_areKinds 137 = .ok (.iconst 1, 1) := by decide +kernel
theorem dX8_areKinds_138 : decode cX8_areKinds 138 = .ok (.invokevirtual 150, 3) := by decide +kernel
theorem dX8_areKinds_141 : decode cX8_areKinds 141 = .ok (.ifCond .ne 7, 3) := by decide +kernel
theorem dX8_areKinds_144 : decode cX8_areKinds 144 = .ok (.iconst 1, 1) := by decide +kernel
theorem dX8_areKinds_145 : decode cX8_areKinds 145 = .ok (.goto 4, 3) := by decide +kernel
theorem dX8_areKinds_148 : decode cX8_areKinds 148 = .ok (.iconst 0, 1) := by decide +kernel
theorem dX8_areKinds_149 : decode cX8_areKinds 149 = .ok (.ireturn, 1) := by decide +kernel
theorem dX8_areKinds_150 : decode cX8_areKinds 150 = .ok (.aload_n 0, 1) := by decide +kernel
theorem dX8_areKinds_151 : decode cX8_areKinds 151 = .ok (.iconst 0, 1) := by decide +kernel
theorem dX8_areKinds_152 : decode cX8_areKinds 152 = .ok (.invokevirtual 150, 3) := by decide +kernel
theorem dX8_areKinds_155 : decode cX8_areKinds 155 = .ok (.iconst 1, 1) := by decide +kernel
theorem dX8_areKinds_156 : decode cX8_areKinds 156 = .ok (.if_icmp .ne 7, 3) := by decide +kernel
theorem dX8_areKinds_159 : decode cX8_areKinds 159 = .ok (.iconst 1, 1) := by decide +kernel
theorem dX8_areKinds_160 : decode cX8_areKinds 160 = .ok (.goto 4, 3) := by decide +kernel
theorem dX8_areKinds_163 : decode cX8_areKinds 163 = .ok (.iconst 0, 1) := by decide +kernel
theorem dX8_areKinds_164 : decode cX8_areKinds 164 = .ok (.ireturn, 1) := by decide +kernel
theorem dX8_areKinds_165 : decode cX8_areKinds 165 = .ok (.aload_n 0, 1) := by decide +kernel
theorem dX8_areKinds_166 : decode cX8_areKinds 166 = .ok (.iconst 0, 1) := by decide +kernel
theorem dX8_areKinds_167 : decode cX8_areKinds 167 = .ok (.invokevirtual 150, 3) := by decide +kernel
theorem dX8_areKinds_170 : decode cX8_areKinds 170 = .ok (.ifCond .ne 7, 3) := by decide +kernel
theorem dX8_areKinds_173 : decode cX8_areKinds 173 = .ok (.iconst 1, 1) := by decide +kernel
theorem dX8_areKinds_174 : decode cX8_areKinds 174 = .ok (.goto 4, 3) := by decide +kernel
theorem dX8_areKinds_177 : decode cX8_areKinds 177 = .ok (.iconst 0, 1) := by decide +kernel
theorem dX8_areKinds_178 : decode cX8_areKinds 178 = .ok (.ireturn, 1) := by decide +kernel
theorem dX8_areKinds_179 : decode cX8_areKinds 179 = .ok (.aload_n 0, 1) := by decide +kernel
theorem dX8_areKinds_180 : decode cX8_areKinds 180 = .ok (.iconst 1, 1) := by decide +kernel
theorem dX8_areKinds_181 : decode cX8_areKinds 181 = .ok (.invokevirtual 150, 3) := by decide +kernel
theorem dX8_areKinds_184 : decode cX8_areKinds 184 = .ok (.iconst 2, 1) := by decide +kernel
theorem dX8_areKinds_185 : decode cX8_areKinds 185 = .ok (.if_icmp .ne 7, 3) := by decide +kernel
theorem dX8_areKinds_188 : decode cX8_areKinds 188 = .ok (.iconst 1, 1) := by decide +kernel
theorem dX8_areKinds_189 : decode cX8_areKinds 189 = .ok (.goto 4, 3) := by decide +kernel
theorem dX8_areKinds_192 : decode cX8_areKinds 192 = .ok (.iconst 0, 1) := by decide +kernel
theorem dX8_areKinds_193 : decode cX8_areKinds 193 = .ok (.ireturn, 1) := by decide +kernel
theorem dX8_areKinds_194 : decode cX8_areKinds 194 = .ok (.aload_n 0, 1) := by decide +kernel
theorem dX8_areKinds_195 : decode cX8_areKinds 195 = .ok (.iconst 0, 1) := by decide +kernel
theorem dX8_areKinds_196 : decode cX8_areKinds 196 = .ok (.invokevirtual 150, 3) := by decide +kernel
theorem dX8_areKinds_199 : decode cX8_areKinds 199 = .ok (.iconst 2, 1) := by decide +kernel
theorem dX8_areKinds_200 : decode cX8_areKinds 200 = .ok (.if_icmp .ne 7, 3) := by decide +kernel
theorem dX8_areKinds_203 : decode cX8_areKinds 203 = .ok (.iconst 1, 1) := by decide +kernel
theorem dX8_areKinds_204 : decode cX8_areKinds 204 = .ok (.goto 4, 3) := by decide +kernel
theorem dX8_areKinds_207 : decode cX8_areKinds 207 = .ok (.iconst 0, 1) := by decide +kernel
theorem dX8_areKinds_208 : decode cX8_areKinds 208 = .ok (.ireturn, 1) := by decide +kernel
theorem dX8_areKinds_209 : decode cX8_areKinds 209 = .ok (.aload_n 0, 1) := by decide +kernel
theorem dX8_areKinds_210 : decode cX8_areKinds 210 = .ok (.iconst 0, 1) := by decide +kernel
theorem dX8_areKinds_211 : decode cX8_areKinds 211 = .ok (.invokevirtual 150, 3) := by decide +kernel
theorem dX8_areKinds_214 : decode cX8_areKinds 214 = .ok (.iconst 4, 1) := by decide +kernel
theorem dX8_areKinds_215 : decode cX8_areKinds 215 = .ok (.if_icmp .ne 16, 3) := by decide +kernel
theorem dX8_areKinds_218 : decode cX8_areKinds 218 = .ok (.aload_n 0, 1) := by decide +kernel
theorem dX8_areKinds_219 : decode cX8_areKinds 219 = .ok (.iconst 1, 1) := by decide +kernel
theorem dX8_areKinds_220 : decode cX8_areKinds 220 = .ok (.invokevirtual 150, 3) := by decide +kernel
theorem dX8_areKinds_223 : decode cX8_areKinds 223 = .ok (.iconst 1, 1) := by decide +kernel
theorem dX8_areKinds_224 : decode cX8_areKinds 224 = .ok (.if_icmp .ne 7, 3) := by decide +kernel
theorem dX8_areKinds_227 : decode cX8_areKinds 227 = .ok (.iconst 1, 1) := by decide +kernel
theorem dX8_areKinds_228 : decode cX8_areKinds 228 = .ok (.goto 4, 3) := by decide +kernel
theorem dX8_areKinds_231 : decode cX8_areKinds 231 = .ok (.iconst 0, 1) := by decide +kernel
theorem dX8_areKinds_232 : decode cX8_areKinds 232 = .ok (.ireturn, 1) := by decide +kernel
theorem dX8_areKinds_233 : decode cX8_areKinds 233 = .ok (.aload_n 0, 1) := by decide +kernel
theorem dX8_areKinds_234 : decode cX8_areKinds 234 = .ok (.iconst 0, 1) := by decide +kernel
theorem dX8_areKinds_235 : decode cX8_areKinds 235 = .ok (.invokevirtual 150, 3) := by decide +kernel
theorem dX8_areKinds_238 : decode cX8_areKinds 238 = .ok (.iconst 4, 1) := by decide +kernel
theorem dX8_areKinds_239 : decode cX8_areKinds 239 = .ok (.if_icmp .ne 25, 3) := by decide +kernel
theorem dX8_areKinds_242 : decode cX8_areKinds 242 = .ok (.aload_n 0, 1) := by decide +kernel
theorem dX8_areKinds_243 : decode cX8_areKinds 243 = .ok (.iconst 1, 1) := by decide +kernel
theorem dX8_areKinds_244 : decode cX8_areKinds 244 = .ok (.invokevirtual 150, 3) := by decide +kernel
theorem dX8_areKinds_247 : decode cX8_areKinds 247 = .ok (.iconst 4, 1) := by decide +kernel
theorem dX8_areKinds_248 : decode cX8_areKinds 248 = .ok (.if_icmp .ne 16, 3) := by decide +kernel
theorem dX8_areKinds_251 : decode cX8_areKinds 251 = .ok (.aload_n 0, 1) := by decide +kernel
theorem dX8_areKinds_252 : decode cX8_areKinds 252 = .ok (.iconst 2, 1) := by decide +kernel
theorem dX8_areKinds_253 : decode cX8_areKinds 253 = .ok (.invokevirtual 150, 3) := by decide +kernel
theorem dX8_areKinds_256 : decode cX8_areKinds 256 = .ok (.iconst 1, 1) := by decide +kernel
theorem dX8_areKinds_257 : decode cX8_areKinds 257 = .ok (.if_icmp .ne 7, 3) := by decide +kernel
theorem dX8_areKinds_260 : decode cX8_areKinds 260 = .ok (.iconst 1, 1) := by decide +kernel
theorem dX8_areKinds_261 : decode cX8_areKinds 261 = .ok (.goto 4, 3) := by decide +kernel
theorem dX8_areKinds_264 : decode cX8_areKinds 264 = .ok (.iconst 0, 1) := by decide +kernel
theorem dX8_areKinds_265 : decode cX8_areKinds 265 = .ok (.ireturn, 1) := by decide +kernel
theorem dX8_areKinds_266 : decode cX8_areKinds 266 = .ok (.aload_n 0, 1) := by decide +kernel
theorem dX8_areKinds_267 : decode cX8_areKinds 267 = .ok (.iconst 0, 1) := by decide +kernel
theorem dX8_areKinds_268 : decode cX8_areKinds 268 = .ok (.invokevirtual 150, 3) := by decide +kernel
theorem dX8_areKinds_271 : decode cX8_areKinds 271 = .ok (.iconst 4, 1) := by decide +kernel
theorem dX8_areKinds_272 : decode cX8_areKinds 272 = .ok (.if_icmp .ne 15, 3) := by decide +kernel
theorem dX8_areKinds_275 : decode cX8_areKinds 275 = .ok (.aload_n 0, 1) := by decide +kernel
theorem dX8_areKinds_276 : decode cX8_areKinds 276 = .ok (.iconst 1, 1) := by decide +kernel
theorem dX8_areKinds_277 : decode cX8_areKinds 277 = .ok (.invokevirtual 150, 3) := by decide +kernel
theorem dX8_areKinds_280 : decode cX8_areKinds 280 = .ok (.ifCond .ne 7, 3) := by decide +kernel
theorem dX8_areKinds_283 : decode cX8_areKinds 283 = .ok (.iconst 1, 1) := by decide +kernel
theorem dX8_areKinds_284 : decode cX8_areKinds 284 = .ok (.goto 4, 3) := by decide +kernel
theorem dX8_areKinds_287 : decode cX8_areKinds 287 = .ok (.iconst 0, 1) := by decide +kernel
theorem dX8_areKinds_288 : decode cX8_areKinds 288 = .ok (.ireturn, 1) := by decide +kernel
theorem dX8_areKinds_289 : decode cX8_areKinds 289 = .ok (.aload_n 0, 1) := by decide +kernel
theorem dX8_areKinds_290 : decode cX8_areKinds 290 = .ok (.iconst 0, 1) := by decide +kernel
theorem dX8_areKinds_291 : decode cX8_areKinds 291 = .ok (.invokevirtual 150, 3) := by decide +kernel
theorem dX8_areKinds_294 : decode cX8_areKinds 294 = .ok (.iconst 4, 1) := by decide +kernel
theorem dX8_areKinds_295 : decode cX8_areKinds 295 = .ok (.if_icmp .ne 31, 3) := by decide +kernel
theorem dX8_areKinds_298 : decode cX8_areKinds 298 = .ok (.aload_n 0, 1) := by decide +kernel
theorem dX8_areKinds_299 : decode cX8_areKinds 299 = .ok (.iconst 1, 1) := by decide +kernel
theorem dX8_areKinds_300 : decode cX8_areKinds 300 = .ok (.invokevirtual 150, 3) := by decide +kernel
theorem dX8_areKinds_303 : decode cX8_areKinds 303 = .ok (.ifCond .ne 23, 3) := by decide +kernel
theorem dX8_areKinds_306 : decode cX8_areKinds 306 = .ok (.aload_n 0, 1) := by decide +kernel
theorem dX8_areKinds_307 : decode cX8_areKinds 307 = .ok (.iconst 2, 1) := by decide +kernel
theorem dX8_areKinds_308 : decode cX8_areKinds 308 = .ok (.invokevirtual 150, 3) := by decide +kernel
theorem dX8_areKinds_311 : decode cX8_areKinds 311 = .ok (.ifCond .ne 15, 3) := by decide +kernel
theorem dX8_areKinds_314 : decode cX8_areKinds 314 = .ok (.aload_n 0, 1) := by decide +kernel
theorem dX8_areKinds_315 : decode cX8_areKinds 315 = .ok (.iconst 3, 1) := by decide +kernel
theorem dX8_areKinds_316 : decode cX8_areKinds 316 = .ok (.invokevirtual 150, 3) := by decide +kernel
theorem dX8_areKinds_319 : decode cX8_areKinds 319 = .ok (.ifCond .ne 7, 3) := by decide +kernel
theorem dX8_areKinds_322 : decode cX8_areKinds 322 = .ok (.iconst 1, 1) := by decide +kernel
theorem dX8_areKinds_323 : decode cX8_areKinds 323 = .ok (.goto 4, 3) := by decide +kernel
theorem dX8_areKinds_326 : decode cX8_areKinds 326 = .ok (.iconst 0, 1) := by decide +kernel
theorem dX8_areKinds_327 : decode cX8_areKinds 327 = .ok (.ireturn, 1) := by decide +kernel
theorem dX8_areKinds_328 : decode cX8_areKinds 328 = .ok (.aload_n 0, 1) := by decide +kernel
theorem dX8_areKinds_329 : decode cX8_areKinds 329 = .ok (.iconst 0, 1) := by decide +kernel
theorem dX8_areKinds_330 : decode cX8_areKinds 330 = .ok (.invokevirtual 150, 3) := by decide +kernel
theorem dX8_areKinds_333 : decode cX8_areKinds 333 = .ok (.iconst 4, 1) := by decide +kernel
theorem dX8_areKinds_334 : decode cX8_areKinds 334 = .ok (.if_icmp .ne 7, 3) := by decide +kernel
theorem dX8_areKinds_337 : decode cX8_areKinds 337 = .ok (.iconst 1, 1) := by decide +kernel
theorem dX8_areKinds_338 : decode cX8_areKinds 338 = .ok (.goto 4, 3) := by decide +kernel
theorem dX8_areKinds_341 : decode cX8_areKinds 341 = .ok (.iconst 0, 1) := by decide +kernel
theorem dX8_areKinds_342 : decode cX8_areKinds 342 = .ok (.ireturn, 1) := by decide +kernel
theorem dX8_areKinds_343 : decode cX8_areKinds 343 = .ok (.aload_n 0, 1) := by decide +kernel
theorem dX8_areKinds_344 : decode cX8_areKinds 344 = .ok (.iconst 1, 1) := by decide +kernel
theorem dX8_areKinds_345 : decode cX8_areKinds 345 = .ok (.invokevirtual 150, 3) := by decide +kernel
theorem dX8_areKinds_348 : decode cX8_areKinds 348 = .ok (.ifCond .ne 24, 3) := by decide +kernel
theorem dX8_areKinds_351 : decode cX8_areKinds 351 = .ok (.aload_n 0, 1) := by decide +kernel
theorem dX8_areKinds_352 : decode cX8_areKinds 352 = .ok (.iconst 0, 1) := by decide +kernel
theorem dX8_areKinds_353 : decode cX8_areKinds 353 = .ok (.invokevirtual 150, 3) := by decide +kernel
theorem dX8_areKinds_356 : decode cX8_areKinds 356 = .ok (.iconst 4, 1) := by decide +kernel
theorem dX8_areKinds_357 : decode cX8_areKinds 357 = .ok (.if_icmp .eq 11, 3) := by decide +kernel
theorem dX8_areKinds_360 : decode cX8_areKinds 360 = .ok (.aload_n 0, 1) := by decide +kernel
theorem dX8_areKinds_361 : decode cX8_areKinds 361 = .ok (.iconst 0, 1) := by decide +kernel
theorem dX8_areKinds_362 : decode cX8_areKinds 362 = .ok (.invokevirtual 150, 3) := by decide +kernel
theorem dX8_areKinds_365 : decode cX8_areKinds 365 = .ok (.ifCond .ne 7, 3) := by decide +kernel
theorem dX8_areKinds_368 : decode cX8_areKinds 368 = .ok (.iconst 1, 1) := by decide +kernel
theorem dX8_areKinds_369 : decode cX8_areKinds 369 = .ok (.goto 4, 3) := by decide +kernel
theorem dX8_areKinds_372 : decode cX8_areKinds 372 = .ok (.iconst 0, 1) := by decide +kernel
theorem dX8_areKinds_373 : decode cX8_areKinds 373 = .ok (.ireturn, 1) := by decide +kernel
theorem dX8_areKinds_374 : decode cX8_areKinds 374 = .ok (.iconst 1, 1) := by decide +kernel
theorem dX8_areKinds_375 : decode cX8_areKinds 375 = .ok (.ireturn, 1) := by decide +kernel
def fX8_takes_120 (S : St) : Option (Int32 × St) :=
    some ((2 : Int32), S)
def fX8_takes_128 (S : St) : Option (Int32 × St) :=
    some ((1 : Int32), S)
def fX8_takes_122 (S : St) : Option (Int32 × St) :=
    some ((0 : Int32), S)
def fX8_takes (p1 : Int32) (S : St) : Option (Int32 × St) :=
  if p1 = 0 then
    fX8_takes_120 S
  else
    if p1 = 1 then
      fX8_takes_120 S
    else
      if p1 = 2 then
        fX8_takes_120 S
      else
        if p1 = 3 then
          fX8_takes_120 S
        else
          if p1 = 4 then
            fX8_takes_120 S
          else
            if p1 = 5 then
              fX8_takes_120 S
            else
              if p1 = 6 then
                fX8_takes_128 S
              else
                if p1 = 7 then
                  fX8_takes_128 S
                else
                  if p1 = 8 then
                    fX8_takes_128 S
                  else
                    if p1 = 9 then
                      fX8_takes_120 S
                    else
                      if p1 = 10 then
                        fX8_takes_128 S
                      else
                        if p1 = 11 then
                          fX8_takes_122 S
                        else
                          if p1 = 12 then
                            fX8_takes_122 S
                          else
                            if p1 = 13 then
                              fX8_takes_122 S
                            else
                              if p1 = 14 then
                                fX8_takes_120 S
                              else
                                if p1 = 15 then
                                  fX8_takes_128 S
                                else
                                  if p1 = 16 then
                                    fX8_takes_128 S
                                  else
                                    if p1 = 17 then
                                      fX8_takes_120 S
                                    else
                                      if p1 = 18 then
                                        some ((3 : Int32), S)
                                      else
                                        if p1 = 19 then
                                          fX8_takes_120 S
                                        else
                                          if p1 = 20 then
                                            some ((4 : Int32), S)
                                          else
                                            if p1 = 21 then
                                              fX8_takes_128 S
                                            else
                                              if p1 = 22 then
                                                fX8_takes_122 S
                                              else
                                                if p1 = 23 then
                                                  fX8_takes_122 S
                                                else
                                                  if p1 = 24 then
                                                    fX8_takes_128 S
                                                  else
                                                    if p1 = 25 then
                                                      fX8_takes_120 S
                                                    else
                                                      fX8_takes_128 S
def fX8_areKinds_0_148 (S : St) : Option (Int32 × St) :=
    some ((0 : Int32), S)
def fX8_areKinds_0_128 (S : St) : Option (Int32 × St) :=
    bnd (fX8_kind_0 (0 : Int32) S) fun r1 S1 =>
    if r1 = 0 then
      bnd (fX8_kind_0 (1 : Int32) S1) fun r3 S3 =>
      if r3 = 0 then
        some ((1 : Int32), S3)
      else
        fX8_areKinds_0_148 S3
    else
      fX8_areKinds_0_148 S1
def fX8_areKinds_0_374 (S : St) : Option (Int32 × St) :=
    some ((1 : Int32), S)
def fX8_areKinds_0_165 (S : St) : Option (Int32 × St) :=
    bnd (fX8_kind_0 (0 : Int32) S) fun r1 S1 =>
    if r1 = 0 then
      some ((1 : Int32), S1)
    else
      some ((0 : Int32), S1)
def fX8_areKinds_0_231 (S : St) : Option (Int32 × St) :=
    some ((0 : Int32), S)
def fX8_areKinds_0_264 (S : St) : Option (Int32 × St) :=
    some ((0 : Int32), S)
def fX8_areKinds_0_287 (S : St) : Option (Int32 × St) :=
    some ((0 : Int32), S)
def fX8_areKinds_0_326 (S : St) : Option (Int32 × St) :=
    some ((0 : Int32), S)
def fX8_areKinds_0_328 (S : St) : Option (Int32 × St) :=
    bnd (fX8_kind_0 (0 : Int32) S) fun r1 S1 =>
    if r1 = (4 : Int32) then
      some ((1 : Int32), S1)
    else
      some ((0 : Int32), S1)
def fX8_areKinds_0_368 (S : St) : Option (Int32 × St) :=
    some ((1 : Int32), S)
def fX8_areKinds_0_372 (S : St) : Option (Int32 × St) :=
    some ((0 : Int32), S)
def fX8_areKinds_0 (p1 : Int32) (S : St) : Option (Int32 × St) :=
  if p1 = 0 then
    fX8_areKinds_0_128 S
  else
    if p1 = 1 then
      fX8_areKinds_0_128 S
    else
      if p1 = 2 then
        fX8_areKinds_0_128 S
      else
        if p1 = 3 then
          fX8_areKinds_0_128 S
        else
          if p1 = 4 then
            fX8_areKinds_0_374 S
          else
            if p1 = 5 then
              fX8_areKinds_0_128 S
            else
              if p1 = 6 then
                bnd (fX8_kind_0 (0 : Int32) S) fun r8 S8 =>
                if r8 = (1 : Int32) then
                  some ((1 : Int32), S8)
                else
                  some ((0 : Int32), S8)
              else
                if p1 = 7 then
                  fX8_areKinds_0_374 S
                else
                  if p1 = 8 then
                    fX8_areKinds_0_374 S
                  else
                    if p1 = 9 then
                      fX8_areKinds_0_374 S
                    else
                      if p1 = 10 then
                        fX8_areKinds_0_165 S
                      else
                        if p1 = 11 then
                          fX8_areKinds_0_374 S
                        else
                          if p1 = 12 then
                            fX8_areKinds_0_374 S
                          else
                            if p1 = 13 then
                              fX8_areKinds_0_374 S
                            else
                              if p1 = 14 then
                                bnd (fX8_kind_0 (1 : Int32) S) fun r18 S18 =>
                                if r18 = (2 : Int32) then
                                  some ((1 : Int32), S18)
                                else
                                  some ((0 : Int32), S18)
                              else
                                if p1 = 15 then
                                  bnd (fX8_kind_0 (0 : Int32) S) fun r21 S21 =>
                                  if r21 = (2 : Int32) then
                                    some ((1 : Int32), S21)
                                  else
                                    some ((0 : Int32), S21)
                                else
                                  if p1 = 16 then
                                    fX8_areKinds_0_374 S
                                  else
                                    if p1 = 17 then
                                      bnd (fX8_kind_0 (0 : Int32) S) fun r25 S25 =>
                                      if r25 = (4 : Int32) then
                                        bnd (fX8_kind_0 (1 : Int32) S25) fun r27 S27 =>
                                        if r27 = (1 : Int32) then
                                          some ((1 : Int32), S27)
                                        else
                                          fX8_areKinds_0_231 S27
                                      else
                                        fX8_areKinds_0_231 S25
                                    else
                                      if p1 = 18 then
                                        bnd (fX8_kind_0 (0 : Int32) S) fun r30 S30 =>
                                        if r30 = (4 : Int32) then
                                          bnd (fX8_kind_0 (1 : Int32) S30) fun r32 S32 =>
                                          if r32 = (4 : Int32) then
                                            bnd (fX8_kind_0 (2 : Int32) S32) fun r34 S34 =>
                                            if r34 = (1 : Int32) then
                                              some ((1 : Int32), S34)
                                            else
                                              fX8_areKinds_0_264 S34
                                          else
                                            fX8_areKinds_0_264 S32
                                        else
                                          fX8_areKinds_0_264 S30
                                      else
                                        if p1 = 19 then
                                          bnd (fX8_kind_0 (0 : Int32) S) fun r37 S37 =>
                                          if r37 = (4 : Int32) then
                                            bnd (fX8_kind_0 (1 : Int32) S37) fun r39 S39 =>
                                            if r39 = 0 then
                                              some ((1 : Int32), S39)
                                            else
                                              fX8_areKinds_0_287 S39
                                          else
                                            fX8_areKinds_0_287 S37
                                        else
                                          if p1 = 20 then
                                            bnd (fX8_kind_0 (0 : Int32) S) fun r42 S42 =>
                                            if r42 = (4 : Int32) then
                                              bnd (fX8_kind_0 (1 : Int32) S42) fun r44 S44 =>
                                              if r44 = 0 then
                                                bnd (fX8_kind_0 (2 : Int32) S44) fun r46 S46 =>
                                                if r46 = 0 then
                                                  bnd (fX8_kind_0 (3 : Int32) S46) fun r48 S48 =>
                                                  if r48 = 0 then
                                                    some ((1 : Int32), S48)
                                                  else
                                                    fX8_areKinds_0_326 S48
                                                else
                                                  fX8_areKinds_0_326 S46
                                              else
                                                fX8_areKinds_0_326 S44
                                            else
                                              fX8_areKinds_0_326 S42
                                          else
                                            if p1 = 21 then
                                              fX8_areKinds_0_328 S
                                            else
                                              if p1 = 22 then
                                                fX8_areKinds_0_374 S
                                              else
                                                if p1 = 23 then
                                                  fX8_areKinds_0_374 S
                                                else
                                                  if p1 = 24 then
                                                    fX8_areKinds_0_328 S
                                                  else
                                                    if p1 = 25 then
                                                      bnd (fX8_kind_0 (1 : Int32) S) fun r55 S55 =>
                                                      if r55 = 0 then
                                                        bnd (fX8_kind_0 (0 : Int32) S55) fun r57 S57 =>
                                                        if r57 = (4 : Int32) then
                                                          fX8_areKinds_0_368 S57
                                                        else
                                                          bnd (fX8_kind_0 (0 : Int32) S57) fun r59 S59 =>
                                                          if r59 = 0 then
                                                            fX8_areKinds_0_368 S59
                                                          else
                                                            fX8_areKinds_0_372 S59
                                                      else
                                                        fX8_areKinds_0_372 S55
                                                    else
                                                      if p1 = 26 then
                                                        fX8_areKinds_0_165 S
                                                      else
                                                        if p1 = 27 then
                                                          fX8_areKinds_0_165 S
                                                        else
                                                          fX8_areKinds_0_374 S
set_option maxRecDepth 100000 in
set_option maxHeartbeats 4000000 in
theorem rX8_takes_120 {p : Program} {l : Launch} {e : Env} {s : State} {m : MethodId} {args : Array Value} {below : List Frame} {meth : Method} {c : Code} {D : va_G} {a : Nat → Nat} {cI cJ : ClassId} {tk : Nat} {tf : Nat → Int32} (C : Cx p s m args meth c RX8 cX8_takes 1 D cI cJ tk tf (AR a 17 s.heap.size)) (hr : meth.sig.returnType = (some .int)) : ∀ (S : St) (x : Int32 × St) (H : Heap) (locs : List Loc) (ls : Array Slot), fX8_takes_120 S = some x → Wd D (wM a cI cJ) (AR a 17 s.heap.size) s S H locs → lv_has ls 1 [] → W p l e { frames := 0, cells := 0, slots := 0, locals := 0 } s m args below meth c H locs 0 0 (MQ below (Qi D (wM a cI cJ) (AR a 17 s.heap.size) x) args s 0 0 (AR a 17 s.heap.size)) (F0 m 120 ls []) := by
  intro S x H locs ls hf G hl
  unfold fX8_takes_120 at hf
  refine lv_iconst (v := 2) C.1 C.2.1 dX8_takes_120 (by decide) ?_
  exact r_iret C hr G hf dX8_takes_121
set_option maxRecDepth 100000 in
set_option maxHeartbeats 4000000 in
theorem rX8_takes_128 {p : Program} {l : Launch} {e : Env} {s : State} {m : MethodId} {args : Array Value} {below : List Frame} {meth : Method} {c : Code} {D : va_G} {a : Nat → Nat} {cI cJ : ClassId} {tk : Nat} {tf : Nat → Int32} (C : Cx p s m args meth c RX8 cX8_takes 1 D cI cJ tk tf (AR a 17 s.heap.size)) (hr : meth.sig.returnType = (some .int)) : ∀ (S : St) (x : Int32 × St) (H : Heap) (locs : List Loc) (ls : Array Slot), fX8_takes_128 S = some x → Wd D (wM a cI cJ) (AR a 17 s.heap.size) s S H locs → lv_has ls 1 [] → W p l e { frames := 0, cells := 0, slots := 0, locals := 0 } s m args below meth c H locs 0 0 (MQ below (Qi D (wM a cI cJ) (AR a 17 s.heap.size) x) args s 0 0 (AR a 17 s.heap.size)) (F0 m 128 ls []) := by
  intro S x H locs ls hf G hl
  unfold fX8_takes_128 at hf
  refine lv_iconst (v := 1) C.1 C.2.1 dX8_takes_128 (by decide) ?_
  exact r_iret C hr G hf dX8_takes_129
set_option maxRecDepth 100000 in
set_option maxHeartbeats 4000000 in
theorem rX8_takes_122 {p : Program} {l : Launch} {e : Env} {s : State} {m : MethodId} {args : Array Value} {below : List Frame} {meth : Method} {c : Code} {D : va_G} {a : Nat → Nat} {cI cJ : ClassId} {tk : Nat} {tf : Nat → Int32} (C : Cx p s m args meth c RX8 cX8_takes 1 D cI cJ tk tf (AR a 17 s.heap.size)) (hr : meth.sig.returnType = (some .int)) : ∀ (S : St) (x : Int32 × St) (H : Heap) (locs : List Loc) (ls : Array Slot), fX8_takes_122 S = some x → Wd D (wM a cI cJ) (AR a 17 s.heap.size) s S H locs → lv_has ls 1 [] → W p l e { frames := 0, cells := 0, slots := 0, locals := 0 } s m args below meth c H locs 0 0 (MQ below (Qi D (wM a cI cJ) (AR a 17 s.heap.size) x) args s 0 0 (AR a 17 s.heap.size)) (F0 m 122 ls []) := by
  intro S x H locs ls hf G hl
  unfold fX8_takes_122 at hf
  refine lv_iconst (v := 0) C.1 C.2.1 dX8_takes_122 (by decide) ?_
  exact r_iret C hr G hf dX8_takes_123
set_option maxRecDepth 100000 in
set_option maxHeartbeats 4000000 in
theorem mX8_takes (l : Launch) (D : va_G) (a : Nat → Nat) (cI cJ : ClassId) (tk : Nat) (tf : Nat → Int32) (p1 : Int32) (S : St) (x : Int32 × St) (hf : fX8_takes p1 S = some x) : Mi l D (wM a cI cJ) a 17 cI cJ tk tf yX8_takes cX8_takes 1 (some .int) { frames := 0, cells := 0, slots := 0, locals := 0 } [.int p1] S x := by
  refine opn_i (by decide +kernel) (Nat.le_of_ble_eq_true rfl) (fun p e s m below meth c C hr G ls hl => ?_)
  replace hl : lv_has ls 1 [(0, .int p1)] := hl
  unfold fX8_takes at hf
  refine lv_iload_n C.1 C.2.1 dX8_takes_0 rfl (lv_at hl 0 rfl) ?_
  by_cases c1 : p1 = (0 : Int32)
  · replace hf := ifp c1 hf
    refine lv_tableIn (tgt := 120) C.1 C.2.1 dX8_takes_1 (by rw [c1]; decide) (by rw [c1]; decide) (by rw [c1]; rfl) (by decide) ?_
    exact rX8_takes_120 C hr S _ _ _ _ hf G (lv_sub hl [] rfl)
  · replace hf := ifq c1 hf
    by_cases c2 : p1 = (1 : Int32)
    · replace hf := ifp c2 hf
      refine lv_tableIn (tgt := 120) C.1 C.2.1 dX8_takes_1 (by rw [c2]; decide) (by rw [c2]; decide) (by rw [c2]; rfl) (by decide) ?_
      exact rX8_takes_120 C hr S _ _ _ _ hf G (lv_sub hl [] rfl)
    · replace hf := ifq c2 hf
      by_cases c3 : p1 = (2 : Int32)
      · replace hf := ifp c3 hf
        refine lv_tableIn (tgt := 120) C.1 C.2.1 dX8_takes_1 (by rw [c3]; decide) (by rw [c3]; decide) (by rw [c3]; rfl) (by decide) ?_
        exact rX8_takes_120 C hr S _ _ _ _ hf G (lv_sub hl [] rfl)
      · replace hf := ifq c3 hf
        by_cases c4 : p1 = (3 : Int32)
        · replace hf := ifp c4 hf
          refine lv_tableIn (tgt := 120) C.1 C.2.1 dX8_takes_1 (by rw [c4]; decide) (by rw [c4]; decide) (by rw [c4]; rfl) (by decide) ?_
          exact rX8_takes_120 C hr S _ _ _ _ hf G (lv_sub hl [] rfl)
        · replace hf := ifq c4 hf
          by_cases c5 : p1 = (4 : Int32)
          · replace hf := ifp c5 hf
            refine lv_tableIn (tgt := 120) C.1 C.2.1 dX8_takes_1 (by rw [c5]; decide) (by rw [c5]; decide) (by rw [c5]; rfl) (by decide) ?_
            exact rX8_takes_120 C hr S _ _ _ _ hf G (lv_sub hl [] rfl)
          · replace hf := ifq c5 hf
            by_cases c6 : p1 = (5 : Int32)
            · replace hf := ifp c6 hf
              refine lv_tableIn (tgt := 120) C.1 C.2.1 dX8_takes_1 (by rw [c6]; decide) (by rw [c6]; decide) (by rw [c6]; rfl) (by decide) ?_
              exact rX8_takes_120 C hr S _ _ _ _ hf G (lv_sub hl [] rfl)
            · replace hf := ifq c6 hf
              by_cases c7 : p1 = (6 : Int32)
              · replace hf := ifp c7 hf
                refine lv_tableIn (tgt := 128) C.1 C.2.1 dX8_takes_1 (by rw [c7]; decide) (by rw [c7]; decide) (by rw [c7]; rfl) (by decide) ?_
                exact rX8_takes_128 C hr S _ _ _ _ hf G (lv_sub hl [] rfl)
              · replace hf := ifq c7 hf
                by_cases c8 : p1 = (7 : Int32)
                · replace hf := ifp c8 hf
                  refine lv_tableIn (tgt := 128) C.1 C.2.1 dX8_takes_1 (by rw [c8]; decide) (by rw [c8]; decide) (by rw [c8]; rfl) (by decide) ?_
                  exact rX8_takes_128 C hr S _ _ _ _ hf G (lv_sub hl [] rfl)
                · replace hf := ifq c8 hf
                  by_cases c9 : p1 = (8 : Int32)
                  · replace hf := ifp c9 hf
                    refine lv_tableIn (tgt := 128) C.1 C.2.1 dX8_takes_1 (by rw [c9]; decide) (by rw [c9]; decide) (by rw [c9]; rfl) (by decide) ?_
                    exact rX8_takes_128 C hr S _ _ _ _ hf G (lv_sub hl [] rfl)
                  · replace hf := ifq c9 hf
                    by_cases c10 : p1 = (9 : Int32)
                    · replace hf := ifp c10 hf
                      refine lv_tableIn (tgt := 120) C.1 C.2.1 dX8_takes_1 (by rw [c10]; decide) (by rw [c10]; decide) (by rw [c10]; rfl) (by decide) ?_
                      exact rX8_takes_120 C hr S _ _ _ _ hf G (lv_sub hl [] rfl)
                    · replace hf := ifq c10 hf
                      by_cases c11 : p1 = (10 : Int32)
                      · replace hf := ifp c11 hf
                        refine lv_tableIn (tgt := 128) C.1 C.2.1 dX8_takes_1 (by rw [c11]; decide) (by rw [c11]; decide) (by rw [c11]; rfl) (by decide) ?_
                        exact rX8_takes_128 C hr S _ _ _ _ hf G (lv_sub hl [] rfl)
                      · replace hf := ifq c11 hf
                        by_cases c12 : p1 = (11 : Int32)
                        · replace hf := ifp c12 hf
                          refine lv_tableIn (tgt := 122) C.1 C.2.1 dX8_takes_1 (by rw [c12]; decide) (by rw [c12]; decide) (by rw [c12]; rfl) (by decide) ?_
                          exact rX8_takes_122 C hr S _ _ _ _ hf G (lv_sub hl [] rfl)
                        · replace hf := ifq c12 hf
                          by_cases c13 : p1 = (12 : Int32)
                          · replace hf := ifp c13 hf
                            refine lv_tableIn (tgt := 122) C.1 C.2.1 dX8_takes_1 (by rw [c13]; decide) (by rw [c13]; decide) (by rw [c13]; rfl) (by decide) ?_
                            exact rX8_takes_122 C hr S _ _ _ _ hf G (lv_sub hl [] rfl)
                          · replace hf := ifq c13 hf
                            by_cases c14 : p1 = (13 : Int32)
                            · replace hf := ifp c14 hf
                              refine lv_tableIn (tgt := 122) C.1 C.2.1 dX8_takes_1 (by rw [c14]; decide) (by rw [c14]; decide) (by rw [c14]; rfl) (by decide) ?_
                              exact rX8_takes_122 C hr S _ _ _ _ hf G (lv_sub hl [] rfl)
                            · replace hf := ifq c14 hf
                              by_cases c15 : p1 = (14 : Int32)
                              · replace hf := ifp c15 hf
                                refine lv_tableIn (tgt := 120) C.1 C.2.1 dX8_takes_1 (by rw [c15]; decide) (by rw [c15]; decide) (by rw [c15]; rfl) (by decide) ?_
                                exact rX8_takes_120 C hr S _ _ _ _ hf G (lv_sub hl [] rfl)
                              · replace hf := ifq c15 hf
                                by_cases c16 : p1 = (15 : Int32)
                                · replace hf := ifp c16 hf
                                  refine lv_tableIn (tgt := 128) C.1 C.2.1 dX8_takes_1 (by rw [c16]; decide) (by rw [c16]; decide) (by rw [c16]; rfl) (by decide) ?_
                                  exact rX8_takes_128 C hr S _ _ _ _ hf G (lv_sub hl [] rfl)
                                · replace hf := ifq c16 hf
                                  by_cases c17 : p1 = (16 : Int32)
                                  · replace hf := ifp c17 hf
                                    refine lv_tableIn (tgt := 128) C.1 C.2.1 dX8_takes_1 (by rw [c17]; decide) (by rw [c17]; decide) (by rw [c17]; rfl) (by decide) ?_
                                    exact rX8_takes_128 C hr S _ _ _ _ hf G (lv_sub hl [] rfl)
                                  · replace hf := ifq c17 hf
                                    by_cases c18 : p1 = (17 : Int32)
                                    · replace hf := ifp c18 hf
                                      refine lv_tableIn (tgt := 120) C.1 C.2.1 dX8_takes_1 (by rw [c18]; decide) (by rw [c18]; decide) (by rw [c18]; rfl) (by decide) ?_
                                      exact rX8_takes_120 C hr S _ _ _ _ hf G (lv_sub hl [] rfl)
                                    · replace hf := ifq c18 hf
                                      by_cases c19 : p1 = (18 : Int32)
                                      · replace hf := ifp c19 hf
                                        refine lv_tableIn (tgt := 124) C.1 C.2.1 dX8_takes_1 (by rw [c19]; decide) (by rw [c19]; decide) (by rw [c19]; rfl) (by decide) ?_
                                        refine lv_iconst (v := 3) C.1 C.2.1 dX8_takes_124 (by decide) ?_
                                        exact r_iret C hr G hf dX8_takes_125
                                      · replace hf := ifq c19 hf
                                        by_cases c20 : p1 = (19 : Int32)
                                        · replace hf := ifp c20 hf
                                          refine lv_tableIn (tgt := 120) C.1 C.2.1 dX8_takes_1 (by rw [c20]; decide) (by rw [c20]; decide) (by rw [c20]; rfl) (by decide) ?_
                                          exact rX8_takes_120 C hr S _ _ _ _ hf G (lv_sub hl [] rfl)
                                        · replace hf := ifq c20 hf
                                          by_cases c21 : p1 = (20 : Int32)
                                          · replace hf := ifp c21 hf
                                            refine lv_tableIn (tgt := 126) C.1 C.2.1 dX8_takes_1 (by rw [c21]; decide) (by rw [c21]; decide) (by rw [c21]; rfl) (by decide) ?_
                                            refine lv_iconst (v := 4) C.1 C.2.1 dX8_takes_126 (by decide) ?_
                                            exact r_iret C hr G hf dX8_takes_127
                                          · replace hf := ifq c21 hf
                                            by_cases c22 : p1 = (21 : Int32)
                                            · replace hf := ifp c22 hf
                                              refine lv_tableIn (tgt := 128) C.1 C.2.1 dX8_takes_1 (by rw [c22]; decide) (by rw [c22]; decide) (by rw [c22]; rfl) (by decide) ?_
                                              exact rX8_takes_128 C hr S _ _ _ _ hf G (lv_sub hl [] rfl)
                                            · replace hf := ifq c22 hf
                                              by_cases c23 : p1 = (22 : Int32)
                                              · replace hf := ifp c23 hf
                                                refine lv_tableIn (tgt := 122) C.1 C.2.1 dX8_takes_1 (by rw [c23]; decide) (by rw [c23]; decide) (by rw [c23]; rfl) (by decide) ?_
                                                exact rX8_takes_122 C hr S _ _ _ _ hf G (lv_sub hl [] rfl)
                                              · replace hf := ifq c23 hf
                                                by_cases c24 : p1 = (23 : Int32)
                                                · replace hf := ifp c24 hf
                                                  refine lv_tableIn (tgt := 122) C.1 C.2.1 dX8_takes_1 (by rw [c24]; decide) (by rw [c24]; decide) (by rw [c24]; rfl) (by decide) ?_
                                                  exact rX8_takes_122 C hr S _ _ _ _ hf G (lv_sub hl [] rfl)
                                                · replace hf := ifq c24 hf
                                                  by_cases c25 : p1 = (24 : Int32)
                                                  · replace hf := ifp c25 hf
                                                    refine lv_tableIn (tgt := 128) C.1 C.2.1 dX8_takes_1 (by rw [c25]; decide) (by rw [c25]; decide) (by rw [c25]; rfl) (by decide) ?_
                                                    exact rX8_takes_128 C hr S _ _ _ _ hf G (lv_sub hl [] rfl)
                                                  · replace hf := ifq c25 hf
                                                    by_cases c26 : p1 = (25 : Int32)
                                                    · replace hf := ifp c26 hf
                                                      refine lv_tableIn (tgt := 120) C.1 C.2.1 dX8_takes_1 (by rw [c26]; decide) (by rw [c26]; decide) (by rw [c26]; rfl) (by decide) ?_
                                                      exact rX8_takes_120 C hr S _ _ _ _ hf G (lv_sub hl [] rfl)
                                                    · replace hf := ifq c26 hf
                                                      have nc1 : (p1).toInt ≠ 0 := nti c1
                                                      have nc2 : (p1).toInt ≠ 1 := nti c2
                                                      have nc3 : (p1).toInt ≠ 2 := nti c3
                                                      have nc4 : (p1).toInt ≠ 3 := nti c4
                                                      have nc5 : (p1).toInt ≠ 4 := nti c5
                                                      have nc6 : (p1).toInt ≠ 5 := nti c6
                                                      have nc7 : (p1).toInt ≠ 6 := nti c7
                                                      have nc8 : (p1).toInt ≠ 7 := nti c8
                                                      have nc9 : (p1).toInt ≠ 8 := nti c9
                                                      have nc10 : (p1).toInt ≠ 9 := nti c10
                                                      have nc11 : (p1).toInt ≠ 10 := nti c11
                                                      have nc12 : (p1).toInt ≠ 11 := nti c12
                                                      have nc13 : (p1).toInt ≠ 12 := nti c13
                                                      have nc14 : (p1).toInt ≠ 13 := nti c14
                                                      have nc15 : (p1).toInt ≠ 14 := nti c15
                                                      have nc16 : (p1).toInt ≠ 15 := nti c16
                                                      have nc17 : (p1).toInt ≠ 16 := nti c17
                                                      have nc18 : (p1).toInt ≠ 17 := nti c18
                                                      have nc19 : (p1).toInt ≠ 18 := nti c19
                                                      have nc20 : (p1).toInt ≠ 19 := nti c20
                                                      have nc21 : (p1).toInt ≠ 20 := nti c21
                                                      have nc22 : (p1).toInt ≠ 21 := nti c22
                                                      have nc23 : (p1).toInt ≠ 22 := nti c23
                                                      have nc24 : (p1).toInt ≠ 23 := nti c24
                                                      have nc25 : (p1).toInt ≠ 24 := nti c25
                                                      have nc26 : (p1).toInt ≠ 25 := nti c26
                                                      refine lv_tableOut (tgt := 128) C.1 C.2.1 dX8_takes_1 (by omega) (by decide) ?_
                                                      exact rX8_takes_128 C hr S _ _ _ _ hf G (lv_sub hl [] rfl)
set_option maxRecDepth 100000 in
set_option maxHeartbeats 4000000 in
theorem rX8_areKinds_0_148 {p : Program} {l : Launch} {e : Env} {s : State} {m : MethodId} {args : Array Value} {below : List Frame} {meth : Method} {c : Code} {D : va_G} {a : Nat → Nat} {cI cJ : ClassId} {tk : Nat} {tf : Nat → Int32} (C : Cx p s m args meth c RX8 cX8_areKinds 2 D cI cJ tk tf (AR a 17 s.heap.size)) (hr : meth.sig.returnType = (some .boolean)) : ∀ (S : St) (x : Int32 × St) (H : Heap) (locs : List Loc) (ls : Array Slot), fX8_areKinds_0_148 S = some x → Wd D (wM a cI cJ) (AR a 17 s.heap.size) s S H locs → lv_has ls 2 [] → W p l e { frames := 1, cells := 0, slots := 0, locals := 21 } s m args below meth c H locs 0 0 (MQ below (Qi D (wM a cI cJ) (AR a 17 s.heap.size) x) args s 0 0 (AR a 17 s.heap.size)) (F0 m 148 ls []) := by
  intro S x H locs ls hf G hl
  unfold fX8_areKinds_0_148 at hf
  refine lv_iconst (v := 0) C.1 C.2.1 dX8_areKinds_148 (by decide) ?_
  exact r_zret C hr (Or.inl rfl) G hf dX8_areKinds_149
set_option maxRecDepth 100000 in
set_option maxHeartbeats 4000000 in
theorem rX8_areKinds_0_128 {p : Program} {l : Launch} {e : Env} {s : State} {m : MethodId} {args : Array Value} {below : List Frame} {meth : Method} {c : Code} {D : va_G} {a : Nat → Nat} {cI cJ : ClassId} {tk : Nat} {tf : Nat → Int32} (C : Cx p s m args meth c RX8 cX8_areKinds 2 D cI cJ tk tf (AR a 17 s.heap.size)) (hr : meth.sig.returnType = (some .boolean)) : ∀ (S : St) (x : Int32 × St) (H : Heap) (locs : List Loc) (ls : Array Slot), fX8_areKinds_0_128 S = some x → Wd D (wM a cI cJ) (AR a 17 s.heap.size) s S H locs → lv_has ls 2 [(0, .ref (a 0))] → W p l e { frames := 1, cells := 0, slots := 0, locals := 21 } s m args below meth c H locs 0 0 (MQ below (Qi D (wM a cI cJ) (AR a 17 s.heap.size) x) args s 0 0 (AR a 17 s.heap.size)) (F0 m 128 ls []) := by
  intro S x H locs ls hf G hl
  unfold fX8_areKinds_0_128 at hf
  refine lv_aload_n C.1 C.2.1 dX8_areKinds_128 rfl (lv_at hl 0 rfl) ?_
  refine lv_iconst (v := 0) C.1 C.2.1 dX8_areKinds_129 (by decide) ?_
  obtain ⟨r1, S1, eS1, hf⟩ := bnd_e hf
  refine r_cali (As := [.int (0 : Int32)]) (na := 1) C adM G (mX8_kind_0 l D a cI cJ tk tf (0 : Int32) S _ eS1) k_910 k_912 k_37 k_68 k_913 (q0 := 0) rfl (ci := 8) rfl (by decide +kernel) ⟨Nat.le_of_ble_eq_true rfl, Nat.le_of_ble_eq_true rfl⟩ rfl rfl ⟨Nat.zero_le _, Nat.zero_le _⟩ rfl hl.1 rfl (Nat.le_of_ble_eq_true rfl) dX8_areKinds_130 (fun H locs G => ?_)
  refine lv_if_ne (tgt := 148) C.1 C.2.1 dX8_areKinds_133 (by decide) (fun c2 => ?_) (fun c2 => ?_)
  · replace hf := ifq c2 hf
    exact rX8_areKinds_0_148 C hr S1 _ _ _ _ hf G (lv_sub hl [] rfl)
  · replace hf := ifp c2 hf
    refine lv_aload_n C.1 C.2.1 dX8_areKinds_136 rfl (lv_at hl 0 rfl) ?_
    refine lv_iconst (v := 1) C.1 C.2.1 dX8_areKinds_137 (by decide) ?_
    obtain ⟨r3, S3, eS3, hf⟩ := bnd_e hf
    refine r_cali (As := [.int (1 : Int32)]) (na := 1) C adM G (mX8_kind_0 l D a cI cJ tk tf (1 : Int32) S1 _ eS3) k_910 k_912 k_37 k_68 k_913 (q0 := 0) rfl (ci := 8) rfl (by decide +kernel) ⟨Nat.le_of_ble_eq_true rfl, Nat.le_of_ble_eq_true rfl⟩ rfl rfl ⟨Nat.zero_le _, Nat.zero_le _⟩ rfl hl.1 rfl (Nat.le_of_ble_eq_true rfl) dX8_areKinds_138 (fun H locs G => ?_)
    refine lv_if_ne (tgt := 148) C.1 C.2.1 dX8_areKinds_141 (by decide) (fun c4 => ?_) (fun c4 => ?_)
    · replace hf := ifq c4 hf
      exact rX8_areKinds_0_148 C hr S3 _ _ _ _ hf G (lv_sub hl [] rfl)
    · replace hf := ifp c4 hf
      refine lv_iconst (v := 1) C.1 C.2.1 dX8_areKinds_144 (by decide) ?_
      refine lv_goto (tgt := 149) C.1 C.2.1 dX8_areKinds_145 (by decide) ?_
      exact r_zret C hr (Or.inr rfl) G hf dX8_areKinds_149
set_option maxRecDepth 100000 in
set_option maxHeartbeats 4000000 in
theorem rX8_areKinds_0_374 {p : Program} {l : Launch} {e : Env} {s : State} {m : MethodId} {args : Array Value} {below : List Frame} {meth : Method} {c : Code} {D : va_G} {a : Nat → Nat} {cI cJ : ClassId} {tk : Nat} {tf : Nat → Int32} (C : Cx p s m args meth c RX8 cX8_areKinds 2 D cI cJ tk tf (AR a 17 s.heap.size)) (hr : meth.sig.returnType = (some .boolean)) : ∀ (S : St) (x : Int32 × St) (H : Heap) (locs : List Loc) (ls : Array Slot), fX8_areKinds_0_374 S = some x → Wd D (wM a cI cJ) (AR a 17 s.heap.size) s S H locs → lv_has ls 2 [] → W p l e { frames := 1, cells := 0, slots := 0, locals := 21 } s m args below meth c H locs 0 0 (MQ below (Qi D (wM a cI cJ) (AR a 17 s.heap.size) x) args s 0 0 (AR a 17 s.heap.size)) (F0 m 374 ls []) := by
  intro S x H locs ls hf G hl
  unfold fX8_areKinds_0_374 at hf
  refine lv_iconst (v := 1) C.1 C.2.1 dX8_areKinds_374 (by decide) ?_
  exact r_zret C hr (Or.inr rfl) G hf dX8_areKinds_375
set_option maxRecDepth 100000 in
set_option maxHeartbeats 4000000 in
theorem rX8_areKinds_0_165 {p : Program} {l : Launch} {e : Env} {s : State} {m : MethodId} {args : Array Value} {below : List Frame} {meth : Method} {c : Code} {D : va_G} {a : Nat → Nat} {cI cJ : ClassId} {tk : Nat} {tf : Nat → Int32} (C : Cx p s m args meth c RX8 cX8_areKinds 2 D cI cJ tk tf (AR a 17 s.heap.size)) (hr : meth.sig.returnType = (some .boolean)) : ∀ (S : St) (x : Int32 × St) (H : Heap) (locs : List Loc) (ls : Array Slot), fX8_areKinds_0_165 S = some x → Wd D (wM a cI cJ) (AR a 17 s.heap.size) s S H locs → lv_has ls 2 [(0, .ref (a 0))] → W p l e { frames := 1, cells := 0, slots := 0, locals := 21 } s m args below meth c H locs 0 0 (MQ below (Qi D (wM a cI cJ) (AR a 17 s.heap.size) x) args s 0 0 (AR a 17 s.heap.size)) (F0 m 165 ls []) := by
  intro S x H locs ls hf G hl
  unfold fX8_areKinds_0_165 at hf
  refine lv_aload_n C.1 C.2.1 dX8_areKinds_165 rfl (lv_at hl 0 rfl) ?_
  refine lv_iconst (v := 0) C.1 C.2.1 dX8_areKinds_166 (by decide) ?_
  obtain ⟨r1, S1, eS1, hf⟩ := bnd_e hf
  refine r_cali (As := [.int (0 : Int32)]) (na := 1) C adM G (mX8_kind_0 l D a cI cJ tk tf (0 : Int32) S _ eS1) k_910 k_912 k_37 k_68 k_913 (q0 := 0) rfl (ci := 8) rfl (by decide +kernel) ⟨Nat.le_of_ble_eq_true rfl, Nat.le_of_ble_eq_true rfl⟩ rfl rfl ⟨Nat.zero_le _, Nat.zero_le _⟩ rfl hl.1 rfl (Nat.le_of_ble_eq_true rfl) dX8_areKinds_167 (fun H locs G => ?_)
  refine lv_if_ne (tgt := 177) C.1 C.2.1 dX8_areKinds_170 (by decide) (fun c2 => ?_) (fun c2 => ?_)
  · replace hf := ifq c2 hf
    refine lv_iconst (v := 0) C.1 C.2.1 dX8_areKinds_177 (by decide) ?_
    exact r_zret C hr (Or.inl rfl) G hf dX8_areKinds_178
  · replace hf := ifp c2 hf
    refine lv_iconst (v := 1) C.1 C.2.1 dX8_areKinds_173 (by decide) ?_
    refine lv_goto (tgt := 178) C.1 C.2.1 dX8_areKinds_174 (by decide) ?_
    exact r_zret C hr (Or.inr rfl) G hf dX8_areKinds_178
set_option maxRecDepth 100000 in
set_option maxHeartbeats 4000000 in
theorem rX8_areKinds_0_231 {p : Program} {l : Launch} {e : Env} {s : State} {m : MethodId} {args : Array Value} {below : List Frame} {meth : Method} {c : Code} {D : va_G} {a : Nat → Nat} {cI cJ : ClassId} {tk : Nat} {tf : Nat → Int32} (C : Cx p s m args meth c RX8 cX8_areKinds 2 D cI cJ tk tf (AR a 17 s.heap.size)) (hr : meth.sig.returnType = (some .boolean)) : ∀ (S : St) (x : Int32 × St) (H : Heap) (locs : List Loc) (ls : Array Slot), fX8_areKinds_0_231 S = some x → Wd D (wM a cI cJ) (AR a 17 s.heap.size) s S H locs → lv_has ls 2 [] → W p l e { frames := 1, cells := 0, slots := 0, locals := 21 } s m args below meth c H locs 0 0 (MQ below (Qi D (wM a cI cJ) (AR a 17 s.heap.size) x) args s 0 0 (AR a 17 s.heap.size)) (F0 m 231 ls []) := by
  intro S x H locs ls hf G hl
  unfold fX8_areKinds_0_231 at hf
  refine lv_iconst (v := 0) C.1 C.2.1 dX8_areKinds_231 (by decide) ?_
  exact r_zret C hr (Or.inl rfl) G hf dX8_areKinds_232
set_option maxRecDepth 100000 in
set_option maxHeartbeats 4000000 in
theorem rX8_areKinds_0_264 {p : Program} {l : Launch} {e : Env} {s : State} {m : MethodId} {args : Array Value} {below : List Frame} {meth : Method} {c : Code} {D : va_G} {a : Nat → Nat} {cI cJ : ClassId} {tk : Nat} {tf : Nat → Int32} (C : Cx p s m args meth c RX8 cX8_areKinds 2 D cI cJ tk tf (AR a 17 s.heap.size)) (hr : meth.sig.returnType = (some .boolean)) : ∀ (S : St) (x : Int32 × St) (H : Heap) (locs : List Loc) (ls : Array Slot), fX8_areKinds_0_264 S = some x → Wd D (wM a cI cJ) (AR a 17 s.heap.size) s S H locs → lv_has ls 2 [] → W p l e { frames := 1, cells := 0, slots := 0, locals := 21 } s m args below meth c H locs 0 0 (MQ below (Qi D (wM a cI cJ) (AR a 17 s.heap.size) x) args s 0 0 (AR a 17 s.heap.size)) (F0 m 264 ls []) := by
  intro S x H locs ls hf G hl
  unfold fX8_areKinds_0_264 at hf
  refine lv_iconst (v := 0) C.1 C.2.1 dX8_areKinds_264 (by decide) ?_
  exact r_zret C hr (Or.inl rfl) G hf dX8_areKinds_265
set_option maxRecDepth 100000 in
set_option maxHeartbeats 4000000 in
theorem rX8_areKinds_0_287 {p : Program} {l : Launch} {e : Env} {s : State} {m : MethodId} {args : Array Value} {below : List Frame} {meth : Method} {c : Code} {D : va_G} {a : Nat → Nat} {cI cJ : ClassId} {tk : Nat} {tf : Nat → Int32} (C : Cx p s m args meth c RX8 cX8_areKinds 2 D cI cJ tk tf (AR a 17 s.heap.size)) (hr : meth.sig.returnType = (some .boolean)) : ∀ (S : St) (x : Int32 × St) (H : Heap) (locs : List Loc) (ls : Array Slot), fX8_areKinds_0_287 S = some x → Wd D (wM a cI cJ) (AR a 17 s.heap.size) s S H locs → lv_has ls 2 [] → W p l e { frames := 1, cells := 0, slots := 0, locals := 21 } s m args below meth c H locs 0 0 (MQ below (Qi D (wM a cI cJ) (AR a 17 s.heap.size) x) args s 0 0 (AR a 17 s.heap.size)) (F0 m 287 ls []) := by
  intro S x H locs ls hf G hl
  unfold fX8_areKinds_0_287 at hf
  refine lv_iconst (v := 0) C.1 C.2.1 dX8_areKinds_287 (by decide) ?_
  exact r_zret C hr (Or.inl rfl) G hf dX8_areKinds_288
set_option maxRecDepth 100000 in
set_option maxHeartbeats 4000000 in
theorem rX8_areKinds_0_326 {p : Program} {l : Launch} {e : Env} {s : State} {m : MethodId} {args : Array Value} {below : List Frame} {meth : Method} {c : Code} {D : va_G} {a : Nat → Nat} {cI cJ : ClassId} {tk : Nat} {tf : Nat → Int32} (C : Cx p s m args meth c RX8 cX8_areKinds 2 D cI cJ tk tf (AR a 17 s.heap.size)) (hr : meth.sig.returnType = (some .boolean)) : ∀ (S : St) (x : Int32 × St) (H : Heap) (locs : List Loc) (ls : Array Slot), fX8_areKinds_0_326 S = some x → Wd D (wM a cI cJ) (AR a 17 s.heap.size) s S H locs → lv_has ls 2 [] → W p l e { frames := 1, cells := 0, slots := 0, locals := 21 } s m args below meth c H locs 0 0 (MQ below (Qi D (wM a cI cJ) (AR a 17 s.heap.size) x) args s 0 0 (AR a 17 s.heap.size)) (F0 m 326 ls []) := by
  intro S x H locs ls hf G hl
  unfold fX8_areKinds_0_326 at hf
  refine lv_iconst (v := 0) C.1 C.2.1 dX8_areKinds_326 (by decide) ?_
  exact r_zret C hr (Or.inl rfl) G hf dX8_areKinds_327
set_option maxRecDepth 100000 in
set_option maxHeartbeats 4000000 in
theorem rX8_areKinds_0_328 {p : Program} {l : Launch} {e : Env} {s : State} {m : MethodId} {args : Array Value} {below : List Frame} {meth : Method} {c : Code} {D : va_G} {a : Nat → Nat} {cI cJ : ClassId} {tk : Nat} {tf : Nat → Int32} (C : Cx p s m args meth c RX8 cX8_areKinds 2 D cI cJ tk tf (AR a 17 s.heap.size)) (hr : meth.sig.returnType = (some .boolean)) : ∀ (S : St) (x : Int32 × St) (H : Heap) (locs : List Loc) (ls : Array Slot), fX8_areKinds_0_328 S = some x → Wd D (wM a cI cJ) (AR a 17 s.heap.size) s S H locs → lv_has ls 2 [(0, .ref (a 0))] → W p l e { frames := 1, cells := 0, slots := 0, locals := 21 } s m args below meth c H locs 0 0 (MQ below (Qi D (wM a cI cJ) (AR a 17 s.heap.size) x) args s 0 0 (AR a 17 s.heap.size)) (F0 m 328 ls []) := by
  intro S x H locs ls hf G hl
  unfold fX8_areKinds_0_328 at hf
  refine lv_aload_n C.1 C.2.1 dX8_areKinds_328 rfl (lv_at hl 0 rfl) ?_
  refine lv_iconst (v := 0) C.1 C.2.1 dX8_areKinds_329 (by decide) ?_
  obtain ⟨r1, S1, eS1, hf⟩ := bnd_e hf
  refine r_cali (As := [.int (0 : Int32)]) (na := 1) C adM G (mX8_kind_0 l D a cI cJ tk tf (0 : Int32) S _ eS1) k_910 k_912 k_37 k_68 k_913 (q0 := 0) rfl (ci := 8) rfl (by decide +kernel) ⟨Nat.le_of_ble_eq_true rfl, Nat.le_of_ble_eq_true rfl⟩ rfl rfl ⟨Nat.zero_le _, Nat.zero_le _⟩ rfl hl.1 rfl (Nat.le_of_ble_eq_true rfl) dX8_areKinds_330 (fun H locs G => ?_)
  refine lv_iconst (v := 4) C.1 C.2.1 dX8_areKinds_333 (by decide) ?_
  refine lv_icmp_ne (tgt := 341) C.1 C.2.1 dX8_areKinds_334 (by decide) (fun c2 => ?_) (fun c2 => ?_)
  · replace hf := ifq c2 hf
    refine lv_iconst (v := 0) C.1 C.2.1 dX8_areKinds_341 (by decide) ?_
    exact r_zret C hr (Or.inl rfl) G hf dX8_areKinds_342
  · replace hf := ifp c2 hf
    refine lv_iconst (v := 1) C.1 C.2.1 dX8_areKinds_337 (by decide) ?_
    refine lv_goto (tgt := 342) C.1 C.2.1 dX8_areKinds_338 (by decide) ?_
    exact r_zret C hr (Or.inr rfl) G hf dX8_areKinds_342
set_option maxRecDepth 100000 in
set_option maxHeartbeats 4000000 in
theorem rX8_areKinds_0_368 {p : Program} {l : Launch} {e : Env} {s : State} {m : MethodId} {args : Array Value} {below : List Frame} {meth : Method} {c : Code} {D : va_G} {a : Nat → Nat} {cI cJ : ClassId} {tk : Nat} {tf : Nat → Int32} (C : Cx p s m args meth c RX8 cX8_areKinds 2 D cI cJ tk tf (AR a 17 s.heap.size)) (hr : meth.sig.returnType = (some .boolean)) : ∀ (S : St) (x : Int32 × St) (H : Heap) (locs : List Loc) (ls : Array Slot), fX8_areKinds_0_368 S = some x → Wd D (wM a cI cJ) (AR a 17 s.heap.size) s S H locs → lv_has ls 2 [] → W p l e { frames := 1, cells := 0, slots := 0, locals := 21 } s m args below meth c H locs 0 0 (MQ below (Qi D (wM a cI cJ) (AR a 17 s.heap.size) x) args s 0 0 (AR a 17 s.heap.size)) (F0 m 368 ls []) := by
  intro S x H locs ls hf G hl
  unfold fX8_areKinds_0_368 at hf
  refine lv_iconst (v := 1) C.1 C.2.1 dX8_areKinds_368 (by decide) ?_
  refine lv_goto (tgt := 373) C.1 C.2.1 dX8_areKinds_369 (by decide) ?_
  exact r_zret C hr (Or.inr rfl) G hf dX8_areKinds_373
set_option maxRecDepth 100000 in
set_option maxHeartbeats 4000000 in
theorem rX8_areKinds_0_372 {p : Program} {l : Launch} {e : Env} {s : State} {m : MethodId} {args : Array Value} {below : List Frame} {meth : Method} {c : Code} {D : va_G} {a : Nat → Nat} {cI cJ : ClassId} {tk : Nat} {tf : Nat → Int32} (C : Cx p s m args meth c RX8 cX8_areKinds 2 D cI cJ tk tf (AR a 17 s.heap.size)) (hr : meth.sig.returnType = (some .boolean)) : ∀ (S : St) (x : Int32 × St) (H : Heap) (locs : List Loc) (ls : Array Slot), fX8_areKinds_0_372 S = some x → Wd D (wM a cI cJ) (AR a 17 s.heap.size) s S H locs → lv_has ls 2 [] → W p l e { frames := 1, cells := 0, slots := 0, locals := 21 } s m args below meth c H locs 0 0 (MQ below (Qi D (wM a cI cJ) (AR a 17 s.heap.size) x) args s 0 0 (AR a 17 s.heap.size)) (F0 m 372 ls []) := by
  intro S x H locs ls hf G hl
  unfold fX8_areKinds_0_372 at hf
  refine lv_iconst (v := 0) C.1 C.2.1 dX8_areKinds_372 (by decide) ?_
  exact r_zret C hr (Or.inl rfl) G hf dX8_areKinds_373
set_option maxRecDepth 100000 in
set_option maxHeartbeats 4000000 in
theorem mX8_areKinds_0 (l : Launch) (D : va_G) (a : Nat → Nat) (cI cJ : ClassId) (tk : Nat) (tf : Nat → Int32) (p1 : Int32) (S : St) (x : Int32 × St) (hf : fX8_areKinds_0 p1 S = some x) : Mi l D (wM a cI cJ) a 17 cI cJ tk tf yX8_areKinds cX8_areKinds 2 (some .boolean) { frames := 1, cells := 0, slots := 0, locals := 21 } [.ref (a 0), .int p1] S x := by
  refine opn_i (by decide +kernel) (Nat.le_of_ble_eq_true rfl) (fun p e s m below meth c C hr G ls hl => ?_)
  replace hl : lv_has ls 2 [(0, .ref (a 0)), (1, .int p1)] := hl
  unfold fX8_areKinds_0 at hf
  refine lv_iload_n C.1 C.2.1 dX8_areKinds_0 rfl (lv_at hl 1 rfl) ?_
  by_cases c1 : p1 = (0 : Int32)
  · replace hf := ifp c1 hf
    refine lv_tableIn (tgt := 128) C.1 C.2.1 dX8_areKinds_1 (by rw [c1]; decide) (by rw [c1]; decide) (by rw [c1]; rfl) (by decide) ?_
    exact rX8_areKinds_0_128 C hr S _ _ _ _ hf G (lv_sub hl [0] rfl)
  · replace hf := ifq c1 hf
    by_cases c2 : p1 = (1 : Int32)
    · replace hf := ifp c2 hf
      refine lv_tableIn (tgt := 128) C.1 C.2.1 dX8_areKinds_1 (by rw [c2]; decide) (by rw [c2]; decide) (by rw [c2]; rfl) (by decide) ?_
      exact rX8_areKinds_0_128 C hr S _ _ _ _ hf G (lv_sub hl [0] rfl)
    · replace hf := ifq c2 hf
      by_cases c3 : p1 = (2 : Int32)
      · replace hf := ifp c3 hf
        refine lv_tableIn (tgt := 128) C.1 C.2.1 dX8_areKinds_1 (by rw [c3]; decide) (by rw [c3]; decide) (by rw [c3]; rfl) (by decide) ?_
        exact rX8_areKinds_0_128 C hr S _ _ _ _ hf G (lv_sub hl [0] rfl)
      · replace hf := ifq c3 hf
        by_cases c4 : p1 = (3 : Int32)
        · replace hf := ifp c4 hf
          refine lv_tableIn (tgt := 128) C.1 C.2.1 dX8_areKinds_1 (by rw [c4]; decide) (by rw [c4]; decide) (by rw [c4]; rfl) (by decide) ?_
          exact rX8_areKinds_0_128 C hr S _ _ _ _ hf G (lv_sub hl [0] rfl)
        · replace hf := ifq c4 hf
          by_cases c5 : p1 = (4 : Int32)
          · replace hf := ifp c5 hf
            refine lv_tableIn (tgt := 374) C.1 C.2.1 dX8_areKinds_1 (by rw [c5]; decide) (by rw [c5]; decide) (by rw [c5]; rfl) (by decide) ?_
            exact rX8_areKinds_0_374 C hr S _ _ _ _ hf G (lv_sub hl [] rfl)
          · replace hf := ifq c5 hf
            by_cases c6 : p1 = (5 : Int32)
            · replace hf := ifp c6 hf
              refine lv_tableIn (tgt := 128) C.1 C.2.1 dX8_areKinds_1 (by rw [c6]; decide) (by rw [c6]; decide) (by rw [c6]; rfl) (by decide) ?_
              exact rX8_areKinds_0_128 C hr S _ _ _ _ hf G (lv_sub hl [0] rfl)
            · replace hf := ifq c6 hf
              by_cases c7 : p1 = (6 : Int32)
              · replace hf := ifp c7 hf
                refine lv_tableIn (tgt := 150) C.1 C.2.1 dX8_areKinds_1 (by rw [c7]; decide) (by rw [c7]; decide) (by rw [c7]; rfl) (by decide) ?_
                refine lv_aload_n C.1 C.2.1 dX8_areKinds_150 rfl (lv_at hl 0 rfl) ?_
                refine lv_iconst (v := 0) C.1 C.2.1 dX8_areKinds_151 (by decide) ?_
                obtain ⟨r8, S8, eS8, hf⟩ := bnd_e hf
                refine r_cali (As := [.int (0 : Int32)]) (na := 1) C adM G (mX8_kind_0 l D a cI cJ tk tf (0 : Int32) S _ eS8) k_910 k_912 k_37 k_68 k_913 (q0 := 0) rfl (ci := 8) rfl (by decide +kernel) ⟨Nat.le_of_ble_eq_true rfl, Nat.le_of_ble_eq_true rfl⟩ rfl rfl ⟨Nat.zero_le _, Nat.zero_le _⟩ rfl hl.1 rfl (Nat.le_of_ble_eq_true rfl) dX8_areKinds_152 (fun H locs G => ?_)
                refine lv_iconst (v := 1) C.1 C.2.1 dX8_areKinds_155 (by decide) ?_
                refine lv_icmp_ne (tgt := 163) C.1 C.2.1 dX8_areKinds_156 (by decide) (fun c9 => ?_) (fun c9 => ?_)
                · replace hf := ifq c9 hf
                  refine lv_iconst (v := 0) C.1 C.2.1 dX8_areKinds_163 (by decide) ?_
                  exact r_zret C hr (Or.inl rfl) G hf dX8_areKinds_164
                · replace hf := ifp c9 hf
                  refine lv_iconst (v := 1) C.1 C.2.1 dX8_areKinds_159 (by decide) ?_
                  refine lv_goto (tgt := 164) C.1 C.2.1 dX8_areKinds_160 (by decide) ?_
                  exact r_zret C hr (Or.inr rfl) G hf dX8_areKinds_164
              · replace hf := ifq c7 hf
                by_cases c10 : p1 = (7 : Int32)
                · replace hf := ifp c10 hf
                  refine lv_tableIn (tgt := 374) C.1 C.2.1 dX8_areKinds_1 (by rw [c10]; decide) (by rw [c10]; decide) (by rw [c10]; rfl) (by decide) ?_
                  exact rX8_areKinds_0_374 C hr S _ _ _ _ hf G (lv_sub hl [] rfl)
                · replace hf := ifq c10 hf
                  by_cases c11 : p1 = (8 : Int32)
                  · replace hf := ifp c11 hf
                    refine lv_tableIn (tgt := 374) C.1 C.2.1 dX8_areKinds_1 (by rw [c11]; decide) (by rw [c11]; decide) (by rw [c11]; rfl) (by decide) ?_
                    exact rX8_areKinds_0_374 C hr S _ _ _ _ hf G (lv_sub hl [] rfl)
                  · replace hf := ifq c11 hf
                    by_cases c12 : p1 = (9 : Int32)
                    · replace hf := ifp c12 hf
                      refine lv_tableIn (tgt := 374) C.1 C.2.1 dX8_areKinds_1 (by rw [c12]; decide) (by rw [c12]; decide) (by rw [c12]; rfl) (by decide) ?_
                      exact rX8_areKinds_0_374 C hr S _ _ _ _ hf G (lv_sub hl [] rfl)
                    · replace hf := ifq c12 hf
                      by_cases c13 : p1 = (10 : Int32)
                      · replace hf := ifp c13 hf
                        refine lv_tableIn (tgt := 165) C.1 C.2.1 dX8_areKinds_1 (by rw [c13]; decide) (by rw [c13]; decide) (by rw [c13]; rfl) (by decide) ?_
                        exact rX8_areKinds_0_165 C hr S _ _ _ _ hf G (lv_sub hl [0] rfl)
                      · replace hf := ifq c13 hf
                        by_cases c14 : p1 = (11 : Int32)
                        · replace hf := ifp c14 hf
                          refine lv_tableIn (tgt := 374) C.1 C.2.1 dX8_areKinds_1 (by rw [c14]; decide) (by rw [c14]; decide) (by rw [c14]; rfl) (by decide) ?_
                          exact rX8_areKinds_0_374 C hr S _ _ _ _ hf G (lv_sub hl [] rfl)
                        · replace hf := ifq c14 hf
                          by_cases c15 : p1 = (12 : Int32)
                          · replace hf := ifp c15 hf
                            refine lv_tableIn (tgt := 374) C.1 C.2.1 dX8_areKinds_1 (by rw [c15]; decide) (by rw [c15]; decide) (by rw [c15]; rfl) (by decide) ?_
                            exact rX8_areKinds_0_374 C hr S _ _ _ _ hf G (lv_sub hl [] rfl)
                          · replace hf := ifq c15 hf
                            by_cases c16 : p1 = (13 : Int32)
                            · replace hf := ifp c16 hf
                              refine lv_tableIn (tgt := 374) C.1 C.2.1 dX8_areKinds_1 (by rw [c16]; decide) (by rw [c16]; decide) (by rw [c16]; rfl) (by decide) ?_
                              exact rX8_areKinds_0_374 C hr S _ _ _ _ hf G (lv_sub hl [] rfl)
                            · replace hf := ifq c16 hf
                              by_cases c17 : p1 = (14 : Int32)
                              · replace hf := ifp c17 hf
                                refine lv_tableIn (tgt := 179) C.1 C.2.1 dX8_areKinds_1 (by rw [c17]; decide) (by rw [c17]; decide) (by rw [c17]; rfl) (by decide) ?_
                                refine lv_aload_n C.1 C.2.1 dX8_areKinds_179 rfl (lv_at hl 0 rfl) ?_
                                refine lv_iconst (v := 1) C.1 C.2.1 dX8_areKinds_180 (by decide) ?_
                                obtain ⟨r18, S18, eS18, hf⟩ := bnd_e hf
                                refine r_cali (As := [.int (1 : Int32)]) (na := 1) C adM G (mX8_kind_0 l D a cI cJ tk tf (1 : Int32) S _ eS18) k_910 k_912 k_37 k_68 k_913 (q0 := 0) rfl (ci := 8) rfl (by decide +kernel) ⟨Nat.le_of_ble_eq_true rfl, Nat.le_of_ble_eq_true rfl⟩ rfl rfl ⟨Nat.zero_le _, Nat.zero_le _⟩ rfl hl.1 rfl (Nat.le_of_ble_eq_true rfl) dX8_areKinds_181 (fun H locs G => ?_)
                                refine lv_iconst (v := 2) C.1 C.2.1 dX8_areKinds_184 (by decide) ?_
                                refine lv_icmp_ne (tgt := 192) C.1 C.2.1 dX8_areKinds_185 (by decide) (fun c19 => ?_) (fun c19 => ?_)
                                · replace hf := ifq c19 hf
                                  refine lv_iconst (v := 0) C.1 C.2.1 dX8_areKinds_192 (by decide) ?_
                                  exact r_zret C hr (Or.inl rfl) G hf dX8_areKinds_193
                                · replace hf := ifp c19 hf
                                  refine lv_iconst (v := 1) C.1 C.2.1 dX8_areKinds_188 (by decide) ?_
                                  refine lv_goto (tgt := 193) C.1 C.2.1 dX8_areKinds_189 (by decide) ?_
                                  exact r_zret C hr (Or.inr rfl) G hf dX8_areKinds_193
                              · replace hf := ifq c17 hf
                                by_cases c20 : p1 = (15 : Int32)
                                · replace hf := ifp c20 hf
                                  refine lv_tableIn (tgt := 194) C.1 C.2.1 dX8_areKinds_1 (by rw [c20]; decide) (by rw [c20]; decide) (by rw [c20]; rfl) (by decide) ?_
                                  refine lv_aload_n C.1 C.2.1 dX8_areKinds_194 rfl (lv_at hl 0 rfl) ?_
                                  refine lv_iconst (v := 0) C.1 C.2.1 dX8_areKinds_195 (by decide) ?_
                                  obtain ⟨r21, S21, eS21, hf⟩ := bnd_e hf
                                  refine r_cali (As := [.int (0 : Int32)]) (na := 1) C adM G (mX8_kind_0 l D a cI cJ tk tf (0 : Int32) S _ eS21) k_910 k_912 k_37 k_68 k_913 (q0 := 0) rfl (ci := 8) rfl (by decide +kernel) ⟨Nat.le_of_ble_eq_true rfl, Nat.le_of_ble_eq_true rfl⟩ rfl rfl ⟨Nat.zero_le _, Nat.zero_le _⟩ rfl hl.1 rfl (Nat.le_of_ble_eq_true rfl) dX8_areKinds_196 (fun H locs G => ?_)
                                  refine lv_iconst (v := 2) C.1 C.2.1 dX8_areKinds_199 (by decide) ?_
                                  refine lv_icmp_ne (tgt := 207) C.1 C.2.1 dX8_areKinds_200 (by decide) (fun c22 => ?_) (fun c22 => ?_)
                                  · replace hf := ifq c22 hf
                                    refine lv_iconst (v := 0) C.1 C.2.1 dX8_areKinds_207 (by decide) ?_
                                    exact r_zret C hr (Or.inl rfl) G hf dX8_areKinds_208
                                  · replace hf := ifp c22 hf
                                    refine lv_iconst (v := 1) C.1 C.2.1 dX8_areKinds_203 (by decide) ?_
                                    refine lv_goto (tgt := 208) C.1 C.2.1 dX8_areKinds_204 (by decide) ?_
                                    exact r_zret C hr (Or.inr rfl) G hf dX8_areKinds_208
                                · replace hf := ifq c20 hf
                                  by_cases c23 : p1 = (16 : Int32)
                                  · replace hf := ifp c23 hf
                                    refine lv_tableIn (tgt := 374) C.1 C.2.1 dX8_areKinds_1 (by rw [c23]; decide) (by rw [c23]; decide) (by rw [c23]; rfl) (by decide) ?_
                                    exact rX8_areKinds_0_374 C hr S _ _ _ _ hf G (lv_sub hl [] rfl)
                                  · replace hf := ifq c23 hf
                                    by_cases c24 : p1 = (17 : Int32)
                                    · replace hf := ifp c24 hf
                                      refine lv_tableIn (tgt := 209) C.1 C.2.1 dX8_areKinds_1 (by rw [c24]; decide) (by rw [c24]; decide) (by rw [c24]; rfl) (by decide) ?_
                                      refine lv_aload_n C.1 C.2.1 dX8_areKinds_209 rfl (lv_at hl 0 rfl) ?_
                                      refine lv_iconst (v := 0) C.1 C.2.1 dX8_areKinds_210 (by decide) ?_
                                      obtain ⟨r25, S25, eS25, hf⟩ := bnd_e hf
                                      refine r_cali (As := [.int (0 : Int32)]) (na := 1) C adM G (mX8_kind_0 l D a cI cJ tk tf (0 : Int32) S _ eS25) k_910 k_912 k_37 k_68 k_913 (q0 := 0) rfl (ci := 8) rfl (by decide +kernel) ⟨Nat.le_of_ble_eq_true rfl, Nat.le_of_ble_eq_true rfl⟩ rfl rfl ⟨Nat.zero_le _, Nat.zero_le _⟩ rfl hl.1 rfl (Nat.le_of_ble_eq_true rfl) dX8_areKinds_211 (fun H locs G => ?_)
                                      refine lv_iconst (v := 4) C.1 C.2.1 dX8_areKinds_214 (by decide) ?_
                                      refine lv_icmp_ne (tgt := 231) C.1 C.2.1 dX8_areKinds_215 (by decide) (fun c26 => ?_) (fun c26 => ?_)
                                      · replace hf := ifq c26 hf
                                        exact rX8_areKinds_0_231 C hr S25 _ _ _ _ hf G (lv_sub hl [] rfl)
                                      · replace hf := ifp c26 hf
                                        refine lv_aload_n C.1 C.2.1 dX8_areKinds_218 rfl (lv_at hl 0 rfl) ?_
                                        refine lv_iconst (v := 1) C.1 C.2.1 dX8_areKinds_219 (by decide) ?_
                                        obtain ⟨r27, S27, eS27, hf⟩ := bnd_e hf
                                        refine r_cali (As := [.int (1 : Int32)]) (na := 1) C adM G (mX8_kind_0 l D a cI cJ tk tf (1 : Int32) S25 _ eS27) k_910 k_912 k_37 k_68 k_913 (q0 := 0) rfl (ci := 8) rfl (by decide +kernel) ⟨Nat.le_of_ble_eq_true rfl, Nat.le_of_ble_eq_true rfl⟩ rfl rfl ⟨Nat.zero_le _, Nat.zero_le _⟩ rfl hl.1 rfl (Nat.le_of_ble_eq_true rfl) dX8_areKinds_220 (fun H locs G => ?_)
                                        refine lv_iconst (v := 1) C.1 C.2.1 dX8_areKinds_223 (by decide) ?_
                                        refine lv_icmp_ne (tgt := 231) C.1 C.2.1 dX8_areKinds_224 (by decide) (fun c28 => ?_) (fun c28 => ?_)
                                        · replace hf := ifq c28 hf
                                          exact rX8_areKinds_0_231 C hr S27 _ _ _ _ hf G (lv_sub hl [] rfl)
                                        · replace hf := ifp c28 hf
                                          refine lv_iconst (v := 1) C.1 C.2.1 dX8_areKinds_227 (by decide) ?_
                                          refine lv_goto (tgt := 232) C.1 C.2.1 dX8_areKinds_228 (by decide) ?_
                                          exact r_zret C hr (Or.inr rfl) G hf dX8_areKinds_232
                                    · replace hf := ifq c24 hf
                                      by_cases c29 : p1 = (18 : Int32)
                                      · replace hf := ifp c29 hf
                                        refine lv_tableIn (tgt := 233) C.1 C.2.1 dX8_areKinds_1 (by rw [c29]; decide) (by rw [c29]; decide) (by rw [c29]; rfl) (by decide) ?_
                                        refine lv_aload_n C.1 C.2.1 dX8_areKinds_233 rfl (lv_at hl 0 rfl) ?_
                                        refine lv_iconst (v := 0) C.1 C.2.1 dX8_areKinds_234 (by decide) ?_
                                        obtain ⟨r30, S30, eS30, hf⟩ := bnd_e hf
                                        refine r_cali (As := [.int (0 : Int32)]) (na := 1) C adM G (mX8_kind_0 l D a cI cJ tk tf (0 : Int32) S _ eS30) k_910 k_912 k_37 k_68 k_913 (q0 := 0) rfl (ci := 8) rfl (by decide +kernel) ⟨Nat.le_of_ble_eq_true rfl, Nat.le_of_ble_eq_true rfl⟩ rfl rfl ⟨Nat.zero_le _, Nat.zero_le _⟩ rfl hl.1 rfl (Nat.le_of_ble_eq_true rfl) dX8_areKinds_235 (fun H locs G => ?_)
                                        refine lv_iconst (v := 4) C.1 C.2.1 dX8_areKinds_238 (by decide) ?_
                                        refine lv_icmp_ne (tgt := 264) C.1 C.2.1 dX8_areKinds_239 (by decide) (fun c31 => ?_) (fun c31 => ?_)
                                        · replace hf := ifq c31 hf
                                          exact rX8_areKinds_0_264 C hr S30 _ _ _ _ hf G (lv_sub hl [] rfl)
                                        · replace hf := ifp c31 hf
                                          refine lv_aload_n C.1 C.2.1 dX8_areKinds_242 rfl (lv_at hl 0 rfl) ?_
                                          refine lv_iconst (v := 1) C.1 C.2.1 dX8_areKinds_243 (by decide) ?_
                                          obtain ⟨r32, S32, eS32, hf⟩ := bnd_e hf
                                          refine r_cali (As := [.int (1 : Int32)]) (na := 1) C adM G (mX8_kind_0 l D a cI cJ tk tf (1 : Int32) S30 _ eS32) k_910 k_912 k_37 k_68 k_913 (q0 := 0) rfl (ci := 8) rfl (by decide +kernel) ⟨Nat.le_of_ble_eq_true rfl, Nat.le_of_ble_eq_true rfl⟩ rfl rfl ⟨Nat.zero_le _, Nat.zero_le _⟩ rfl hl.1 rfl (Nat.le_of_ble_eq_true rfl) dX8_areKinds_244 (fun H locs G => ?_)
                                          refine lv_iconst (v := 4) C.1 C.2.1 dX8_areKinds_247 (by decide) ?_
                                          refine lv_icmp_ne (tgt := 264) C.1 C.2.1 dX8_areKinds_248 (by decide) (fun c33 => ?_) (fun c33 => ?_)
                                          · replace hf := ifq c33 hf
                                            exact rX8_areKinds_0_264 C hr S32 _ _ _ _ hf G (lv_sub hl [] rfl)
                                          · replace hf := ifp c33 hf
                                            refine lv_aload_n C.1 C.2.1 dX8_areKinds_251 rfl (lv_at hl 0 rfl) ?_
                                            refine lv_iconst (v := 2) C.1 C.2.1 dX8_areKinds_252 (by decide) ?_
                                            obtain ⟨r34, S34, eS34, hf⟩ := bnd_e hf
                                            refine r_cali (As := [.int (2 : Int32)]) (na := 1) C adM G (mX8_kind_0 l D a cI cJ tk tf (2 : Int32) S32 _ eS34) k_910 k_912 k_37 k_68 k_913 (q0 := 0) rfl (ci := 8) rfl (by decide +kernel) ⟨Nat.le_of_ble_eq_true rfl, Nat.le_of_ble_eq_true rfl⟩ rfl rfl ⟨Nat.zero_le _, Nat.zero_le _⟩ rfl hl.1 rfl (Nat.le_of_ble_eq_true rfl) dX8_areKinds_253 (fun H locs G => ?_)
                                            refine lv_iconst (v := 1) C.1 C.2.1 dX8_areKinds_256 (by decide) ?_
                                            refine lv_icmp_ne (tgt := 264) C.1 C.2.1 dX8_areKinds_257 (by decide) (fun c35 => ?_) (fun c35 => ?_)
                                            · replace hf := ifq c35 hf
                                              exact rX8_areKinds_0_264 C hr S34 _ _ _ _ hf G (lv_sub hl [] rfl)
                                            · replace hf := ifp c35 hf
                                              refine lv_iconst (v := 1) C.1 C.2.1 dX8_areKinds_260 (by decide) ?_
                                              refine lv_goto (tgt := 265) C.1 C.2.1 dX8_areKinds_261 (by decide) ?_
                                              exact r_zret C hr (Or.inr rfl) G hf dX8_areKinds_265
                                      · replace hf := ifq c29 hf
                                        by_cases c36 : p1 = (19 : Int32)
                                        · replace hf := ifp c36 hf
                                          refine lv_tableIn (tgt := 266) C.1 C.2.1 dX8_areKinds_1 (by rw [c36]; decide) (by rw [c36]; decide) (by rw [c36]; rfl) (by decide) ?_
                                          refine lv_aload_n C.1 C.2.1 dX8_areKinds_266 rfl (lv_at hl 0 rfl) ?_
                                          refine lv_iconst (v := 0) C.1 C.2.1 dX8_areKinds_267 (by decide) ?_
                                          obtain ⟨r37, S37, eS37, hf⟩ := bnd_e hf
                                          refine r_cali (As := [.int (0 : Int32)]) (na := 1) C adM G (mX8_kind_0 l D a cI cJ tk tf (0 : Int32) S _ eS37) k_910 k_912 k_37 k_68 k_913 (q0 := 0) rfl (ci := 8) rfl (by decide +kernel) ⟨Nat.le_of_ble_eq_true rfl, Nat.le_of_ble_eq_true rfl⟩ rfl rfl ⟨Nat.zero_le _, Nat.zero_le _⟩ rfl hl.1 rfl (Nat.le_of_ble_eq_true rfl) dX8_areKinds_268 (fun H locs G => ?_)
                                          refine lv_iconst (v := 4) C.1 C.2.1 dX8_areKinds_271 (by decide) ?_
                                          refine lv_icmp_ne (tgt := 287) C.1 C.2.1 dX8_areKinds_272 (by decide) (fun c38 => ?_) (fun c38 => ?_)
                                          · replace hf := ifq c38 hf
                                            exact rX8_areKinds_0_287 C hr S37 _ _ _ _ hf G (lv_sub hl [] rfl)
                                          · replace hf := ifp c38 hf
                                            refine lv_aload_n C.1 C.2.1 dX8_areKinds_275 rfl (lv_at hl 0 rfl) ?_
                                            refine lv_iconst (v := 1) C.1 C.2.1 dX8_areKinds_276 (by decide) ?_
                                            obtain ⟨r39, S39, eS39, hf⟩ := bnd_e hf
                                            refine r_cali (As := [.int (1 : Int32)]) (na := 1) C adM G (mX8_kind_0 l D a cI cJ tk tf (1 : Int32) S37 _ eS39) k_910 k_912 k_37 k_68 k_913 (q0 := 0) rfl (ci := 8) rfl (by decide +kernel) ⟨Nat.le_of_ble_eq_true rfl, Nat.le_of_ble_eq_true rfl⟩ rfl rfl ⟨Nat.zero_le _, Nat.zero_le _⟩ rfl hl.1 rfl (Nat.le_of_ble_eq_true rfl) dX8_areKinds_277 (fun H locs G => ?_)
                                            refine lv_if_ne (tgt := 287) C.1 C.2.1 dX8_areKinds_280 (by decide) (fun c40 => ?_) (fun c40 => ?_)
                                            · replace hf := ifq c40 hf
                                              exact rX8_areKinds_0_287 C hr S39 _ _ _ _ hf G (lv_sub hl [] rfl)
                                            · replace hf := ifp c40 hf
                                              refine lv_iconst (v := 1) C.1 C.2.1 dX8_areKinds_283 (by decide) ?_
                                              refine lv_goto (tgt := 288) C.1 C.2.1 dX8_areKinds_284 (by decide) ?_
                                              exact r_zret C hr (Or.inr rfl) G hf dX8_areKinds_288
                                        · replace hf := ifq c36 hf
                                          by_cases c41 : p1 = (20 : Int32)
                                          · replace hf := ifp c41 hf
                                            refine lv_tableIn (tgt := 289) C.1 C.2.1 dX8_areKinds_1 (by rw [c41]; decide) (by rw [c41]; decide) (by rw [c41]; rfl) (by decide) ?_
                                            refine lv_aload_n C.1 C.2.1 dX8_areKinds_289 rfl (lv_at hl 0 rfl) ?_
                                            refine lv_iconst (v := 0) C.1 C.2.1 dX8_areKinds_290 (by decide) ?_
                                            obtain ⟨r42, S42, eS42, hf⟩ := bnd_e hf
                                            refine r_cali (As := [.int (0 : Int32)]) (na := 1) C adM G (mX8_kind_0 l D a cI cJ tk tf (0 : Int32) S _ eS42) k_910 k_912 k_37 k_68 k_913 (q0 := 0) rfl (ci := 8) rfl (by decide +kernel) ⟨Nat.le_of_ble_eq_true rfl, Nat.le_of_ble_eq_true rfl⟩ rfl rfl ⟨Nat.zero_le _, Nat.zero_le _⟩ rfl hl.1 rfl (Nat.le_of_ble_eq_true rfl) dX8_areKinds_291 (fun H locs G => ?_)
                                            refine lv_iconst (v := 4) C.1 C.2.1 dX8_areKinds_294 (by decide) ?_
                                            refine lv_icmp_ne (tgt := 326) C.1 C.2.1 dX8_areKinds_295 (by decide) (fun c43 => ?_) (fun c43 => ?_)
                                            · replace hf := ifq c43 hf
                                              exact rX8_areKinds_0_326 C hr S42 _ _ _ _ hf G (lv_sub hl [] rfl)
                                            · replace hf := ifp c43 hf
                                              refine lv_aload_n C.1 C.2.1 dX8_areKinds_298 rfl (lv_at hl 0 rfl) ?_
                                              refine lv_iconst (v := 1) C.1 C.2.1 dX8_areKinds_299 (by decide) ?_
                                              obtain ⟨r44, S44, eS44, hf⟩ := bnd_e hf
                                              refine r_cali (As := [.int (1 : Int32)]) (na := 1) C adM G (mX8_kind_0 l D a cI cJ tk tf (1 : Int32) S42 _ eS44) k_910 k_912 k_37 k_68 k_913 (q0 := 0) rfl (ci := 8) rfl (by decide +kernel) ⟨Nat.le_of_ble_eq_true rfl, Nat.le_of_ble_eq_true rfl⟩ rfl rfl ⟨Nat.zero_le _, Nat.zero_le _⟩ rfl hl.1 rfl (Nat.le_of_ble_eq_true rfl) dX8_areKinds_300 (fun H locs G => ?_)
                                              refine lv_if_ne (tgt := 326) C.1 C.2.1 dX8_areKinds_303 (by decide) (fun c45 => ?_) (fun c45 => ?_)
                                              · replace hf := ifq c45 hf
                                                exact rX8_areKinds_0_326 C hr S44 _ _ _ _ hf G (lv_sub hl [] rfl)
                                              · replace hf := ifp c45 hf
                                                refine lv_aload_n C.1 C.2.1 dX8_areKinds_306 rfl (lv_at hl 0 rfl) ?_
                                                refine lv_iconst (v := 2) C.1 C.2.1 dX8_areKinds_307 (by decide) ?_
                                                obtain ⟨r46, S46, eS46, hf⟩ := bnd_e hf
                                                refine r_cali (As := [.int (2 : Int32)]) (na := 1) C adM G (mX8_kind_0 l D a cI cJ tk tf (2 : Int32) S44 _ eS46) k_910 k_912 k_37 k_68 k_913 (q0 := 0) rfl (ci := 8) rfl (by decide +kernel) ⟨Nat.le_of_ble_eq_true rfl, Nat.le_of_ble_eq_true rfl⟩ rfl rfl ⟨Nat.zero_le _, Nat.zero_le _⟩ rfl hl.1 rfl (Nat.le_of_ble_eq_true rfl) dX8_areKinds_308 (fun H locs G => ?_)
                                                refine lv_if_ne (tgt := 326) C.1 C.2.1 dX8_areKinds_311 (by decide) (fun c47 => ?_) (fun c47 => ?_)
                                                · replace hf := ifq c47 hf
                                                  exact rX8_areKinds_0_326 C hr S46 _ _ _ _ hf G (lv_sub hl [] rfl)
                                                · replace hf := ifp c47 hf
                                                  refine lv_aload_n C.1 C.2.1 dX8_areKinds_314 rfl (lv_at hl 0 rfl) ?_
                                                  refine lv_iconst (v := 3) C.1 C.2.1 dX8_areKinds_315 (by decide) ?_
                                                  obtain ⟨r48, S48, eS48, hf⟩ := bnd_e hf
                                                  refine r_cali (As := [.int (3 : Int32)]) (na := 1) C adM G (mX8_kind_0 l D a cI cJ tk tf (3 : Int32) S46 _ eS48) k_910 k_912 k_37 k_68 k_913 (q0 := 0) rfl (ci := 8) rfl (by decide +kernel) ⟨Nat.le_of_ble_eq_true rfl, Nat.le_of_ble_eq_true rfl⟩ rfl rfl ⟨Nat.zero_le _, Nat.zero_le _⟩ rfl hl.1 rfl (Nat.le_of_ble_eq_true rfl) dX8_areKinds_316 (fun H locs G => ?_)
                                                  refine lv_if_ne (tgt := 326) C.1 C.2.1 dX8_areKinds_319 (by decide) (fun c49 => ?_) (fun c49 => ?_)
                                                  · replace hf := ifq c49 hf
                                                    exact rX8_areKinds_0_326 C hr S48 _ _ _ _ hf G (lv_sub hl [] rfl)
                                                  · replace hf := ifp c49 hf
                                                    refine lv_iconst (v := 1) C.1 C.2.1 dX8_areKinds_322 (by decide) ?_
                                                    refine lv_goto (tgt := 327) C.1 C.2.1 dX8_areKinds_323 (by decide) ?_
                                                    exact r_zret C hr (Or.inr rfl) G hf dX8_areKinds_327
                                          · replace hf := ifq c41 hf
                                            by_cases c50 : p1 = (21 : Int32)
                                            · replace hf := ifp c50 hf
                                              refine lv_tableIn (tgt := 328) C.1 C.2.1 dX8_areKinds_1 (by rw [c50]; decide) (by rw [c50]; decide) (by rw [c50]; rfl) (by decide) ?_
                                              exact rX8_areKinds_0_328 C hr S _ _ _ _ hf G (lv_sub hl [0] rfl)
                                            · replace hf := ifq c50 hf
                                              by_cases c51 : p1 = (22 : Int32)
                                              · replace hf := ifp c51 hf
                                                refine lv_tableIn (tgt := 374) C.1 C.2.1 dX8_areKinds_1 (by rw [c51]; decide) (by rw [c51]; decide) (by rw [c51]; rfl) (by decide) ?_
                                                exact rX8_areKinds_0_374 C hr S _ _ _ _ hf G (lv_sub hl [] rfl)
                                              · replace hf := ifq c51 hf
                                                by_cases c52 : p1 = (23 : Int32)
                                                · replace hf := ifp c52 hf
                                                  refine lv_tableIn (tgt := 374) C.1 C.2.1 dX8_areKinds_1 (by rw [c52]; decide) (by rw [c52]; decide) (by rw [c52]; rfl) (by decide) ?_
                                                  exact rX8_areKinds_0_374 C hr S _ _ _ _ hf G (lv_sub hl [] rfl)
                                                · replace hf := ifq c52 hf
                                                  by_cases c53 : p1 = (24 : Int32)
                                                  · replace hf := ifp c53 hf
                                                    refine lv_tableIn (tgt := 328) C.1 C.2.1 dX8_areKinds_1 (by rw [c53]; decide) (by rw [c53]; decide) (by rw [c53]; rfl) (by decide) ?_
                                                    exact rX8_areKinds_0_328 C hr S _ _ _ _ hf G (lv_sub hl [0] rfl)
                                                  · replace hf := ifq c53 hf
                                                    by_cases c54 : p1 = (25 : Int32)
                                                    · replace hf := ifp c54 hf
                                                      refine lv_tableIn (tgt := 343) C.1 C.2.1 dX8_areKinds_1 (by rw [c54]; decide) (by rw [c54]; decide) (by rw [c54]; rfl) (by decide) ?_
                                                      refine lv_aload_n C.1 C.2.1 dX8_areKinds_343 rfl (lv_at hl 0 rfl) ?_
                                                      refine lv_iconst (v := 1) C.1 C.2.1 dX8_areKinds_344 (by decide) ?_
                                                      obtain ⟨r55, S55, eS55, hf⟩ := bnd_e hf
                                                      refine r_cali (As := [.int (1 : Int32)]) (na := 1) C adM G (mX8_kind_0 l D a cI cJ tk tf (1 : Int32) S _ eS55) k_910 k_912 k_37 k_68 k_913 (q0 := 0) rfl (ci := 8) rfl (by decide +kernel) ⟨Nat.le_of_ble_eq_true rfl, Nat.le_of_ble_eq_true rfl⟩ rfl rfl ⟨Nat.zero_le _, Nat.zero_le _⟩ rfl hl.1 rfl (Nat.le_of_ble_eq_true rfl) dX8_areKinds_345 (fun H locs G => ?_)
                                                      refine lv_if_ne (tgt := 372) C.1 C.2.1 dX8_areKinds_348 (by decide) (fun c56 => ?_) (fun c56 => ?_)
                                                      · replace hf := ifq c56 hf
                                                        exact rX8_areKinds_0_372 C hr S55 _ _ _ _ hf G (lv_sub hl [] rfl)
                                                      · replace hf := ifp c56 hf
                                                        refine lv_aload_n C.1 C.2.1 dX8_areKinds_351 rfl (lv_at hl 0 rfl) ?_
                                                        refine lv_iconst (v := 0) C.1 C.2.1 dX8_areKinds_352 (by decide) ?_
                                                        obtain ⟨r57, S57, eS57, hf⟩ := bnd_e hf
                                                        refine r_cali (As := [.int (0 : Int32)]) (na := 1) C adM G (mX8_kind_0 l D a cI cJ tk tf (0 : Int32) S55 _ eS57) k_910 k_912 k_37 k_68 k_913 (q0 := 0) rfl (ci := 8) rfl (by decide +kernel) ⟨Nat.le_of_ble_eq_true rfl, Nat.le_of_ble_eq_true rfl⟩ rfl rfl ⟨Nat.zero_le _, Nat.zero_le _⟩ rfl hl.1 rfl (Nat.le_of_ble_eq_true rfl) dX8_areKinds_353 (fun H locs G => ?_)
                                                        refine lv_iconst (v := 4) C.1 C.2.1 dX8_areKinds_356 (by decide) ?_
                                                        refine lv_icmp_eq (tgt := 368) C.1 C.2.1 dX8_areKinds_357 (by decide) (fun c58 => ?_) (fun c58 => ?_)
                                                        · replace hf := ifp c58 hf
                                                          exact rX8_areKinds_0_368 C hr S57 _ _ _ _ hf G (lv_sub hl [] rfl)
                                                        · replace hf := ifq c58 hf
                                                          refine lv_aload_n C.1 C.2.1 dX8_areKinds_360 rfl (lv_at hl 0 rfl) ?_
                                                          refine lv_iconst (v := 0) C.1 C.2.1 dX8_areKinds_361 (by decide) ?_
                                                          obtain ⟨r59, S59, eS59, hf⟩ := bnd_e hf
                                                          refine r_cali (As := [.int (0 : Int32)]) (na := 1) C adM G (mX8_kind_0 l D a cI cJ tk tf (0 : Int32) S57 _ eS59) k_910 k_912 k_37 k_68 k_913 (q0 := 0) rfl (ci := 8) rfl (by decide +kernel) ⟨Nat.le_of_ble_eq_true rfl, Nat.le_of_ble_eq_true rfl⟩ rfl rfl ⟨Nat.zero_le _, Nat.zero_le _⟩ rfl hl.1 rfl (Nat.le_of_ble_eq_true rfl) dX8_areKinds_362 (fun H locs G => ?_)
                                                          refine lv_if_ne (tgt := 372) C.1 C.2.1 dX8_areKinds_365 (by decide) (fun c60 => ?_) (fun c60 => ?_)
                                                          · replace hf := ifq c60 hf
                                                            exact rX8_areKinds_0_372 C hr S59 _ _ _ _ hf G (lv_sub hl [] rfl)
                                                          · replace hf := ifp c60 hf
                                                            exact rX8_areKinds_0_368 C hr S59 _ _ _ _ hf G (lv_sub hl [] rfl)
                                                    · replace hf := ifq c54 hf
                                                      by_cases c61 : p1 = (26 : Int32)
                                                      · replace hf := ifp c61 hf
                                                        refine lv_tableIn (tgt := 165) C.1 C.2.1 dX8_areKinds_1 (by rw [c61]; decide) (by rw [c61]; decide) (by rw [c61]; rfl) (by decide) ?_
                                                        exact rX8_areKinds_0_165 C hr S _ _ _ _ hf G (lv_sub hl [0] rfl)
                                                      · replace hf := ifq c61 hf
                                                        by_cases c62 : p1 = (27 : Int32)
                                                        · replace hf := ifp c62 hf
                                                          refine lv_tableIn (tgt := 165) C.1 C.2.1 dX8_areKinds_1 (by rw [c62]; decide) (by rw [c62]; decide) (by rw [c62]; rfl) (by decide) ?_
                                                          exact rX8_areKinds_0_165 C hr S _ _ _ _ hf G (lv_sub hl [0] rfl)
                                                        · replace hf := ifq c62 hf
                                                          have nc1 : (p1).toInt ≠ 0 := nti c1
                                                          have nc2 : (p1).toInt ≠ 1 := nti c2
                                                          have nc3 : (p1).toInt ≠ 2 := nti c3
                                                          have nc4 : (p1).toInt ≠ 3 := nti c4
                                                          have nc5 : (p1).toInt ≠ 4 := nti c5
                                                          have nc6 : (p1).toInt ≠ 5 := nti c6
                                                          have nc7 : (p1).toInt ≠ 6 := nti c7
                                                          have nc10 : (p1).toInt ≠ 7 := nti c10
                                                          have nc11 : (p1).toInt ≠ 8 := nti c11
                                                          have nc12 : (p1).toInt ≠ 9 := nti c12
                                                          have nc13 : (p1).toInt ≠ 10 := nti c13
                                                          have nc14 : (p1).toInt ≠ 11 := nti c14
                                                          have nc15 : (p1).toInt ≠ 12 := nti c15
                                                          have nc16 : (p1).toInt ≠ 13 := nti c16
                                                          have nc17 : (p1).toInt ≠ 14 := nti c17
                                                          have nc20 : (p1).toInt ≠ 15 := nti c20
                                                          have nc23 : (p1).toInt ≠ 16 := nti c23
                                                          have nc24 : (p1).toInt ≠ 17 := nti c24
                                                          have nc29 : (p1).toInt ≠ 18 := nti c29
                                                          have nc36 : (p1).toInt ≠ 19 := nti c36
                                                          have nc41 : (p1).toInt ≠ 20 := nti c41
                                                          have nc50 : (p1).toInt ≠ 21 := nti c50
                                                          have nc51 : (p1).toInt ≠ 22 := nti c51
                                                          have nc52 : (p1).toInt ≠ 23 := nti c52
                                                          have nc53 : (p1).toInt ≠ 24 := nti c53
                                                          have nc54 : (p1).toInt ≠ 25 := nti c54
                                                          have nc61 : (p1).toInt ≠ 26 := nti c61
                                                          have nc62 : (p1).toInt ≠ 27 := nti c62
                                                          refine lv_tableOut (tgt := 374) C.1 C.2.1 dX8_areKinds_1 (by omega) (by decide) ?_
                                                          exact rX8_areKinds_0_374 C hr S _ _ _ _ hf G (lv_sub hl [] rfl)
