theorem k_0 : Cond.selects RX7 yX7_step yX7_step ∈ tb := tbm 0 (by decide +kernel) rfl
theorem k_1 : Cond.selects RX7 yX7_goOn yX7_goOn ∈ tb := tbm 1 (by decide +kernel) rfl
theorem k_2 : Cond.selects RX4 yX4_hasToken yX4_hasToken ∈ tb := tbm 2 (by decide +kernel) rfl
theorem k_3 : Cond.selects RX7 yX7_operate yX7_operate ∈ tb := tbm 3 (by decide +kernel) rfl
theorem k_4 : Cond.selects RX7 yX7_misfit yX7_misfit ∈ tb := tbm 4 (by decide +kernel) rfl
theorem k_5 : Cond.selects RX7 yX7_execute yX7_execute ∈ tb := tbm 5 (by decide +kernel) rfl
theorem k_6 : Cond.selects RX7 yX7_begin yX7_begin ∈ tb := tbm 6 (by decide +kernel) rfl
theorem k_7 : Cond.selects RX7 yX7_beginIf yX7_beginIf ∈ tb := tbm 7 (by decide +kernel) rfl
theorem k_8 : Cond.selects RX7 yX7_repeat yX7_repeat ∈ tb := tbm 8 (by decide +kernel) rfl
theorem k_9 : Cond.selects RX7 yX7_beginLoop yX7_beginLoop ∈ tb := tbm 9 (by decide +kernel) rfl
theorem k_10 : Cond.selects RX7 yX7_countThrough yX7_countThrough ∈ tb := tbm 10 (by decide +kernel) rfl
theorem k_11 : Cond.selects RX7 yX7_exitLoop yX7_exitLoop ∈ tb := tbm 11 (by decide +kernel) rfl
theorem k_12 : Cond.selects RX7 yX7_stopBy yX7_stopBy ∈ tb := tbm 12 (by decide +kernel) rfl
theorem k_13 : Cond.selects RX7 yX7_guard yX7_guard ∈ tb := tbm 13 (by decide +kernel) rfl
theorem k_14 : Cond.selects RX7 yX7_setHandler yX7_setHandler ∈ tb := tbm 14 (by decide +kernel) rfl
theorem k_15 : Cond.selects RX7 yX7_raise yX7_raise ∈ tb := tbm 15 (by decide +kernel) rfl
theorem k_16 : Cond.selects RX7 yX7_tell yX7_tell ∈ tb := tbm 16 (by decide +kernel) rfl
theorem k_17 : Cond.selects RX3 yX3_reckoned yX3_reckoned ∈ tb := tbm 17 (by decide +kernel) rfl
theorem k_18 : Cond.selects RX3 yX3_divide yX3_divide ∈ tb := tbm 18 (by decide +kernel) rfl
theorem k_19 : Cond.selects RX3 yX3_topTwoAreTheSame yX3_topTwoAreTheSame ∈ tb := tbm 19 (by decide +kernel) rfl
theorem k_20 : Cond.selects RX3 yX3_more yX3_more ∈ tb := tbm 20 (by decide +kernel) rfl
theorem k_21 : Cond.selects RX3 yX3_swap yX3_swap ∈ tb := tbm 21 (by decide +kernel) rfl
theorem k_22 : Cond.selects RX3 yX3_pick yX3_pick ∈ tb := tbm 22 (by decide +kernel) rfl
theorem k_23 : Cond.selects RX3 yX3_countToMark yX3_countToMark ∈ tb := tbm 23 (by decide +kernel) rfl
theorem k_24 : Cond.selects RX3 yX3_clearToMark yX3_clearToMark ∈ tb := tbm 24 (by decide +kernel) rfl
theorem k_25 : Cond.selects RX3 yX3_define yX3_define ∈ tb := tbm 25 (by decide +kernel) rfl
theorem k_26 : Cond.selects RX7 yX7_arise yX7_arise ∈ tb := tbm 26 (by decide +kernel) rfl
theorem k_27 : Cond.selects RX7 yX7_turn yX7_turn ∈ tb := tbm 27 (by decide +kernel) rfl
theorem k_28 : Cond.selects RX7 yX7_endStopped yX7_endStopped ∈ tb := tbm 28 (by decide +kernel) rfl
theorem k_30 : Cond.selects RX8 yX8_clearAll yX8_clearAll ∈ tb := tbm 30 (by decide +kernel) rfl
theorem k_31 : Cond.selects RX8 yX8_lay yX8_lay ∈ tb := tbm 31 (by decide +kernel) rfl
theorem k_32 : Cond.selects RX8 yX8_come yX8_come ∈ tb := tbm 32 (by decide +kernel) rfl
theorem k_33 : Cond.selects RX8 yX8_step yX8_step ∈ tb := tbm 33 (by decide +kernel) rfl
theorem k_34 : Cond.selects RX8 yX8_isSpent yX8_isSpent ∈ tb := tbm 34 (by decide +kernel) rfl
theorem k_35 : Cond.selects RX8 yX8_token_ yX8_token_ ∈ tb := tbm 35 (by decide +kernel) rfl
theorem k_36 : Cond.selects RX8 yX8_wrong yX8_wrong ∈ tb := tbm 36 (by decide +kernel) rfl
theorem k_37 : Cond.selects RX8 yX8_kind yX8_kind ∈ tb := tbm 37 (by decide +kernel) rfl
theorem k_38 : Cond.selects RX8 yX8_number yX8_number ∈ tb := tbm 38 (by decide +kernel) rfl
theorem k_39 : Cond.selects RX8 yX8_areKinds yX8_areKinds ∈ tb := tbm 39 (by decide +kernel) rfl
theorem k_40 : Cond.selects RX8 yX8_mark yX8_mark ∈ tb := tbm 40 (by decide +kernel) rfl
theorem k_41 : Cond.selects RX8 yX8_isInRange yX8_isInRange ∈ tb := tbm 41 (by decide +kernel) rfl
theorem k_42 : Cond.selects RX8 yX8_loop yX8_loop ∈ tb := tbm 42 (by decide +kernel) rfl
theorem k_43 : Cond.selects RX8 yX8_hasFrames yX8_hasFrames ∈ tb := tbm 43 (by decide +kernel) rfl
theorem k_44 : Cond.selects RX8 yX8_procedureOf yX8_procedureOf ∈ tb := tbm 44 (by decide +kernel) rfl
theorem k_45 : Cond.selects RX8 yX8_mayBegin yX8_mayBegin ∈ tb := tbm 45 (by decide +kernel) rfl
theorem k_46 : Cond.selects RX8 yX8_arise yX8_arise ∈ tb := tbm 46 (by decide +kernel) rfl
theorem k_47 : Cond.selects RX8 yX8_stop yX8_stop ∈ tb := tbm 47 (by decide +kernel) rfl
theorem k_48 : Cond.selects RX8 yX8_work yX8_work ∈ tb := tbm 48 (by decide +kernel) rfl
theorem k_49 : Cond.selects RX8 yX8_reckon yX8_reckon ∈ tb := tbm 49 (by decide +kernel) rfl
theorem k_50 : Cond.selects RX8 yX8_handle yX8_handle ∈ tb := tbm 50 (by decide +kernel) rfl
theorem k_51 : Cond.selects RX8 yX8_perform yX8_perform ∈ tb := tbm 51 (by decide +kernel) rfl
theorem k_52 : Cond.selects RX8 yX8_begin yX8_begin ∈ tb := tbm 52 (by decide +kernel) rfl
theorem k_53 : Cond.selects RX8 yX8_loopOf yX8_loopOf ∈ tb := tbm 53 (by decide +kernel) rfl
theorem k_54 : Cond.selects RX8 yX8_govern yX8_govern ∈ tb := tbm 54 (by decide +kernel) rfl
theorem k_55 : Cond.selects RX8 yX8_number0 yX8_number0 ∈ tb := tbm 55 (by decide +kernel) rfl
theorem k_56 : Cond.selects RX8 yX8_told yX8_told ∈ tb := tbm 56 (by decide +kernel) rfl
theorem k_57 : Cond.selects RX8 yX8_turn yX8_turn ∈ tb := tbm 57 (by decide +kernel) rfl
theorem k_58 : Cond.initialized RL ∈ tb := tbm 58 (by decide +kernel) rfl
theorem k_59 : Cond.initialized RX7 ∈ tb := tbm 59 (by decide +kernel) rfl
theorem k_60 : Cond.initialized RX4 ∈ tb := tbm 60 (by decide +kernel) rfl
theorem k_61 : Cond.initialized RX2 ∈ tb := tbm 61 (by decide +kernel) rfl
theorem k_62 : Cond.initialized RX6 ∈ tb := tbm 62 (by decide +kernel) rfl
theorem k_63 : Cond.initialized RJ7 ∈ tb := tbm 63 (by decide +kernel) rfl
theorem k_64 : Cond.initialized RX1 ∈ tb := tbm 64 (by decide +kernel) rfl
theorem k_65 : Cond.initialized RX0 ∈ tb := tbm 65 (by decide +kernel) rfl
theorem k_66 : Cond.initialized RX5 ∈ tb := tbm 66 (by decide +kernel) rfl
theorem k_67 : Cond.initialized RX3 ∈ tb := tbm 67 (by decide +kernel) rfl
theorem k_68 : Cond.initialized RX8 ∈ tb := tbm 68 (by decide +kernel) rfl
theorem k_69 : Cond.initialized "java/lang/Throwable" ∈ tb := tbm 69 (by decide +kernel) rfl
theorem k_70 : Cond.initialized "java/lang/Exception" ∈ tb := tbm 70 (by decide +kernel) rfl
theorem k_71 : Cond.initialized "java/lang/RuntimeException" ∈ tb := tbm 71 (by decide +kernel) rfl
theorem k_72 : Cond.initialized "java/lang/IndexOutOfBoundsException" ∈ tb := tbm 72 (by decide +kernel) rfl
theorem k_73 : Cond.classLink RL 8 RX7 ∈ tb := tbm 73 (by decide +kernel) rfl
theorem k_74 : Cond.instantiable RX7 11 ∈ tb := tbm 74 (by decide +kernel) rfl
theorem k_75 : Cond.methodLink RL 28 yX7_init ∈ tb := tbm 75 (by decide +kernel) rfl
theorem k_76 : Cond.instanceMethod yX7_init ∈ tb := tbm 76 (by decide +kernel) rfl
set_option maxRecDepth 100000 in
theorem k_77 : Cond.code yX7_init cX7_init 1 none ∈ tb := tbm 77 (by rfl) rfl
theorem k_78 : Cond.methodLink RX7 1 objectInit ∈ tb := tbm 78 (by decide +kernel) rfl
theorem k_79 : Cond.instanceMethod objectInit ∈ tb := tbm 79 (by decide +kernel) rfl
set_option maxRecDepth 100000 in
theorem k_80 : Cond.code objectInit ⟨#[0xb1]⟩ 1 none ∈ tb := tbm 80 (by rfl) rfl
theorem k_81 : Cond.classLink RX7 7 RX4 ∈ tb := tbm 81 (by decide +kernel) rfl
theorem k_82 : Cond.instantiable RX4 3 ∈ tb := tbm 82 (by decide +kernel) rfl
theorem k_83 : Cond.methodLinkNest RX7 9 yX4_init "ErrorNames" ∈ lw_tbl := List.mem_of_getElem? (i := 83) (by decide +kernel)
theorem k_84 : Cond.instanceMethod yX4_init ∈ tb := tbm 84 (by decide +kernel) rfl
set_option maxRecDepth 100000 in
theorem k_85 : Cond.code yX4_init cX4_init 1 none ∈ tb := tbm 85 (by rfl) rfl
theorem k_86 : Cond.methodLink RX4 3 objectInit ∈ tb := tbm 86 (by decide +kernel) rfl
theorem k_87 : Cond.fieldLink RX4 9 "ErrorNames$Procedures" "kinds" "[I" ∈ tb := tbm 87 (by decide +kernel) rfl
theorem k_88 : Cond.fieldLink RX4 15 "ErrorNames$Procedures" "numbers" "[I" ∈ tb := tbm 88 (by decide +kernel) rfl
theorem k_89 : Cond.fieldLink RX4 18 "ErrorNames$Procedures" "lengths" "[I" ∈ tb := tbm 89 (by decide +kernel) rfl
theorem k_97 : Cond.arrayClass .int ∈ tb := tbm 97 (by decide +kernel) rfl
theorem k_98 : Cond.classLink RX7 16 RX2 ∈ tb := tbm 98 (by decide +kernel) rfl
theorem k_99 : Cond.instantiable RX2 3 ∈ tb := tbm 99 (by decide +kernel) rfl
theorem k_100 : Cond.methodLinkNest RX7 18 yX2_init "ErrorNames" ∈ lw_tbl := List.mem_of_getElem? (i := 100) (by decide +kernel)
theorem k_101 : Cond.instanceMethod yX2_init ∈ tb := tbm 101 (by decide +kernel) rfl
set_option maxRecDepth 100000 in
theorem k_102 : Cond.code yX2_init cX2_init 1 none ∈ tb := tbm 102 (by rfl) rfl
theorem k_103 : Cond.methodLink RX2 3 objectInit ∈ tb := tbm 103 (by decide +kernel) rfl
theorem k_104 : Cond.fieldLink RX2 9 "ErrorNames$Pile" "kinds" "[I" ∈ tb := tbm 104 (by decide +kernel) rfl
theorem k_105 : Cond.fieldLink RX2 15 "ErrorNames$Pile" "numbers" "[I" ∈ tb := tbm 105 (by decide +kernel) rfl
theorem k_106 : Cond.fieldLink RX2 18 "ErrorNames$Pile" "count" "I" ∈ tb := tbm 106 (by decide +kernel) rfl
theorem k_114 : Cond.classLink RX7 23 RX6 ∈ tb := tbm 114 (by decide +kernel) rfl
theorem k_115 : Cond.instantiable RX6 2 ∈ tb := tbm 115 (by decide +kernel) rfl
theorem k_116 : Cond.methodLink RX7 25 yX6_init ∈ tb := tbm 116 (by decide +kernel) rfl
theorem k_117 : Cond.instanceMethod yX6_init ∈ tb := tbm 117 (by decide +kernel) rfl
set_option maxRecDepth 100000 in
theorem k_118 : Cond.code yX6_init cX6_init 1 none ∈ tb := tbm 118 (by rfl) rfl
theorem k_119 : Cond.methodLink RX6 3 objectInit ∈ tb := tbm 119 (by decide +kernel) rfl
theorem k_120 : Cond.methodLink RX6 18 yJ7_fill_53178 ∈ tb := tbm 120 (by decide +kernel) rfl
theorem k_121 : Cond.static yJ7_fill_53178 ∈ tb := tbm 121 (by decide +kernel) rfl
set_option maxRecDepth 100000 in
theorem k_122 : Cond.code yJ7_fill_53178 cJ7_fill_53178 4 none ∈ tb := tbm 122 (by rfl) rfl
theorem k_123 : Cond.fieldLink RX6 9 "ErrorNames$Table" "kinds" "[I" ∈ tb := tbm 123 (by decide +kernel) rfl
theorem k_124 : Cond.fieldLink RX6 15 "ErrorNames$Table" "numbers" "[I" ∈ tb := tbm 124 (by decide +kernel) rfl
theorem k_130 : Cond.classLink RX7 30 RX1 ∈ tb := tbm 130 (by decide +kernel) rfl
theorem k_131 : Cond.instantiable RX1 1 ∈ tb := tbm 131 (by decide +kernel) rfl
theorem k_132 : Cond.methodLink RX7 32 yX1_init ∈ tb := tbm 132 (by decide +kernel) rfl
theorem k_133 : Cond.instanceMethod yX1_init ∈ tb := tbm 133 (by decide +kernel) rfl
set_option maxRecDepth 100000 in
theorem k_134 : Cond.code yX1_init cX1_init 1 none ∈ tb := tbm 134 (by rfl) rfl
theorem k_135 : Cond.methodLink RX1 3 objectInit ∈ tb := tbm 135 (by decide +kernel) rfl
theorem k_136 : Cond.methodLink RX1 15 yJ7_fill_53178 ∈ tb := tbm 136 (by decide +kernel) rfl
theorem k_137 : Cond.fieldLink RX1 9 "ErrorNames$Handlers" "procedures" "[I" ∈ tb := tbm 137 (by decide +kernel) rfl
theorem k_141 : Cond.classLink RX7 37 RX0 ∈ tb := tbm 141 (by decide +kernel) rfl
theorem k_142 : Cond.instantiable RX0 8 ∈ tb := tbm 142 (by decide +kernel) rfl
theorem k_143 : Cond.methodLinkNest RX7 39 yX0_init "ErrorNames" ∈ lw_tbl := List.mem_of_getElem? (i := 143) (by decide +kernel)
theorem k_144 : Cond.instanceMethod yX0_init ∈ tb := tbm 144 (by decide +kernel) rfl
set_option maxRecDepth 100000 in
theorem k_145 : Cond.code yX0_init cX0_init 1 none ∈ tb := tbm 145 (by rfl) rfl
theorem k_146 : Cond.methodLink RX0 3 objectInit ∈ tb := tbm 146 (by decide +kernel) rfl
theorem k_147 : Cond.fieldLink RX0 9 "ErrorNames$Frames" "sorts" "[I" ∈ tb := tbm 147 (by decide +kernel) rfl
theorem k_148 : Cond.fieldLink RX0 15 "ErrorNames$Frames" "subjects" "[I" ∈ tb := tbm 148 (by decide +kernel) rfl
theorem k_149 : Cond.fieldLink RX0 18 "ErrorNames$Frames" "places" "[I" ∈ tb := tbm 149 (by decide +kernel) rfl
theorem k_150 : Cond.fieldLink RX0 21 "ErrorNames$Frames" "nexts" "[J" ∈ tb := tbm 150 (by decide +kernel) rfl
theorem k_151 : Cond.fieldLink RX0 25 "ErrorNames$Frames" "bys" "[I" ∈ tb := tbm 151 (by decide +kernel) rfl
theorem k_152 : Cond.fieldLink RX0 28 "ErrorNames$Frames" "lasts" "[I" ∈ tb := tbm 152 (by decide +kernel) rfl
theorem k_153 : Cond.fieldLink RX0 31 "ErrorNames$Frames" "count" "I" ∈ tb := tbm 153 (by decide +kernel) rfl
theorem k_154 : Cond.fieldLink RX0 35 "ErrorNames$Frames" "most" "I" ∈ tb := tbm 154 (by decide +kernel) rfl
theorem k_172 : Cond.arrayClass .long ∈ tb := tbm 172 (by decide +kernel) rfl
theorem k_173 : Cond.classLink RX7 44 RX5 ∈ tb := tbm 173 (by decide +kernel) rfl
theorem k_174 : Cond.instantiable RX5 6 ∈ tb := tbm 174 (by decide +kernel) rfl
theorem k_175 : Cond.methodLinkNest RX7 46 yX5_init "ErrorNames" ∈ lw_tbl := List.mem_of_getElem? (i := 175) (by decide +kernel)
theorem k_176 : Cond.instanceMethod yX5_init ∈ tb := tbm 176 (by decide +kernel) rfl
set_option maxRecDepth 100000 in
theorem k_177 : Cond.code yX5_init cX5_init 1 none ∈ tb := tbm 177 (by rfl) rfl
theorem k_178 : Cond.methodLink RX5 3 objectInit ∈ tb := tbm 178 (by decide +kernel) rfl
theorem k_179 : Cond.classLink RX5 9 RX2 ∈ tb := tbm 179 (by decide +kernel) rfl
theorem k_180 : Cond.methodLinkNest RX5 11 yX2_init "ErrorNames" ∈ lw_tbl := List.mem_of_getElem? (i := 180) (by decide +kernel)
theorem k_181 : Cond.fieldLink RX5 12 "ErrorNames$Report" "pile" "LErrorNames$Pile;" ∈ tb := tbm 181 (by decide +kernel) rfl
theorem k_182 : Cond.fieldLink RX5 22 "ErrorNames$Report" "error" "I" ∈ tb := tbm 182 (by decide +kernel) rfl
theorem k_183 : Cond.fieldLink RX5 18 "ErrorNames$Report" "command" "I" ∈ tb := tbm 183 (by decide +kernel) rfl
theorem k_184 : Cond.fieldLink RX5 29 "ErrorNames$Report" "within" "I" ∈ tb := tbm 184 (by decide +kernel) rfl
theorem k_185 : Cond.fieldLink RX5 36 "ErrorNames$Report" "inAll" "I" ∈ tb := tbm 185 (by decide +kernel) rfl
theorem k_186 : Cond.fieldLink RX5 25 "ErrorNames$Report" "isNew" "Z" ∈ tb := tbm 186 (by decide +kernel) rfl
theorem k_200 : Cond.classLink RX7 51 RX3 ∈ tb := tbm 200 (by decide +kernel) rfl
theorem k_201 : Cond.instantiable RX3 2 ∈ tb := tbm 201 (by decide +kernel) rfl
theorem k_202 : Cond.methodLink RX7 53 yX3_init ∈ tb := tbm 202 (by decide +kernel) rfl
theorem k_203 : Cond.instanceMethod yX3_init ∈ tb := tbm 203 (by decide +kernel) rfl
set_option maxRecDepth 100000 in
theorem k_204 : Cond.code yX3_init cX3_init 3 none ∈ tb := tbm 204 (by rfl) rfl
theorem k_205 : Cond.methodLink RX3 3 objectInit ∈ tb := tbm 205 (by decide +kernel) rfl
theorem k_206 : Cond.fieldLink RX3 9 "ErrorNames$PileOperators" "pile" "LErrorNames$Pile;" ∈ tb := tbm 206 (by decide +kernel) rfl
theorem k_207 : Cond.fieldLink RX3 15 "ErrorNames$PileOperators" "table" "LErrorNames$Table;" ∈ tb := tbm 207 (by decide +kernel) rfl
theorem k_213 : Cond.fieldLink RX7 10 "ErrorNames" "procedures" "LErrorNames$Procedures;" ∈ tb := tbm 213 (by decide +kernel) rfl
theorem k_214 : Cond.fieldLink RX7 19 "ErrorNames" "pile" "LErrorNames$Pile;" ∈ tb := tbm 214 (by decide +kernel) rfl
theorem k_215 : Cond.fieldLink RX7 26 "ErrorNames" "table" "LErrorNames$Table;" ∈ tb := tbm 215 (by decide +kernel) rfl
theorem k_216 : Cond.fieldLink RX7 33 "ErrorNames" "handlers" "LErrorNames$Handlers;" ∈ tb := tbm 216 (by decide +kernel) rfl
theorem k_217 : Cond.fieldLink RX7 40 "ErrorNames" "frames" "LErrorNames$Frames;" ∈ tb := tbm 217 (by decide +kernel) rfl
theorem k_218 : Cond.fieldLink RX7 47 "ErrorNames" "report" "LErrorNames$Report;" ∈ tb := tbm 218 (by decide +kernel) rfl
theorem k_219 : Cond.fieldLink RX7 56 "ErrorNames" "pileOperators" "LErrorNames$PileOperators;" ∈ tb := tbm 219 (by decide +kernel) rfl
theorem k_220 : Cond.fieldLink RX7 110 "ErrorNames" "interrupted" "Z" ∈ tb := tbm 220 (by decide +kernel) rfl
theorem k_221 : Cond.fieldLink RX7 93 "ErrorNames" "endedBy" "I" ∈ tb := tbm 221 (by decide +kernel) rfl
theorem k_222 : Cond.fieldLink RX7 104 "ErrorNames" "stepsDone" "I" ∈ tb := tbm 222 (by decide +kernel) rfl
theorem k_223 : Cond.fieldLink RX7 97 "ErrorNames" "handlersBegun" "I" ∈ tb := tbm 223 (by decide +kernel) rfl
theorem k_247 : Cond.methodLink RL 32 yX7_token ∈ tb := tbm 247 (by decide +kernel) rfl
theorem k_248 : Cond.instanceMethod yX7_token ∈ tb := tbm 248 (by decide +kernel) rfl
theorem k_249 : Cond.selects RX7 yX7_token yX7_token ∈ tb := tbm 249 (by decide +kernel) rfl
set_option maxRecDepth 100000 in
theorem k_250 : Cond.code yX7_token cX7_token 4 (some .int) ∈ tb := tbm 250 (by rfl) rfl
theorem k_251 : Cond.methodLink RX7 60 yX4_has ∈ tb := tbm 251 (by decide +kernel) rfl
theorem k_252 : Cond.instanceMethod yX4_has ∈ tb := tbm 252 (by decide +kernel) rfl
theorem k_253 : Cond.selects RX4 yX4_has yX4_has ∈ tb := tbm 253 (by decide +kernel) rfl
set_option maxRecDepth 100000 in
theorem k_254 : Cond.code yX4_has cX4_has 2 (some .boolean) ∈ tb := tbm 254 (by rfl) rfl
theorem k_255 : Cond.methodLink RX7 64 yX7_isOfKind ∈ tb := tbm 255 (by decide +kernel) rfl
theorem k_256 : Cond.static yX7_isOfKind ∈ tb := tbm 256 (by decide +kernel) rfl
set_option maxRecDepth 100000 in
theorem k_257 : Cond.code yX7_isOfKind cX7_isOfKind 2 (some .boolean) ∈ tb := tbm 257 (by rfl) rfl
theorem k_258 : Cond.methodLink RX7 68 yX4_length ∈ tb := tbm 258 (by decide +kernel) rfl
theorem k_259 : Cond.instanceMethod yX4_length ∈ tb := tbm 259 (by decide +kernel) rfl
theorem k_260 : Cond.selects RX4 yX4_length yX4_length ∈ tb := tbm 260 (by decide +kernel) rfl
set_option maxRecDepth 100000 in
theorem k_261 : Cond.code yX4_length cX4_length 2 (some .int) ∈ tb := tbm 261 (by rfl) rfl
theorem k_262 : Cond.methodLink RX7 72 yX4_append ∈ tb := tbm 262 (by decide +kernel) rfl
theorem k_263 : Cond.instanceMethod yX4_append ∈ tb := tbm 263 (by decide +kernel) rfl
theorem k_264 : Cond.selects RX4 yX4_append yX4_append ∈ tb := tbm 264 (by decide +kernel) rfl
set_option maxRecDepth 100000 in
theorem k_265 : Cond.code yX4_append cX4_append 5 (some .int) ∈ tb := tbm 265 (by rfl) rfl
theorem k_266 : Cond.methodLink RX4 21 yX4_has ∈ tb := tbm 266 (by decide +kernel) rfl
theorem k_267 : Cond.methodLink RL 37 yX7_clear ∈ tb := tbm 267 (by decide +kernel) rfl
theorem k_268 : Cond.instanceMethod yX7_clear ∈ tb := tbm 268 (by decide +kernel) rfl
theorem k_269 : Cond.selects RX7 yX7_clear yX7_clear ∈ tb := tbm 269 (by decide +kernel) rfl
set_option maxRecDepth 100000 in
theorem k_270 : Cond.code yX7_clear cX7_clear 2 (some .int) ∈ tb := tbm 270 (by rfl) rfl
theorem k_271 : Cond.methodLink RX7 76 yX4_wipe ∈ tb := tbm 271 (by decide +kernel) rfl
theorem k_272 : Cond.instanceMethod yX4_wipe ∈ tb := tbm 272 (by decide +kernel) rfl
theorem k_273 : Cond.selects RX4 yX4_wipe yX4_wipe ∈ tb := tbm 273 (by decide +kernel) rfl
set_option maxRecDepth 100000 in
theorem k_274 : Cond.code yX4_wipe cX4_wipe 3 (some .int) ∈ tb := tbm 274 (by rfl) rfl
theorem k_275 : Cond.methodLink RX4 25 yX4_length ∈ tb := tbm 275 (by decide +kernel) rfl
theorem k_276 : Cond.methodLink RL 41 yX7_push ∈ tb := tbm 276 (by decide +kernel) rfl
theorem k_277 : Cond.instanceMethod yX7_push ∈ tb := tbm 277 (by decide +kernel) rfl
theorem k_278 : Cond.selects RX7 yX7_push yX7_push ∈ tb := tbm 278 (by decide +kernel) rfl
set_option maxRecDepth 100000 in
theorem k_279 : Cond.code yX7_push cX7_push 3 (some .int) ∈ tb := tbm 279 (by rfl) rfl
theorem k_280 : Cond.methodLink RX7 79 yX2_put ∈ tb := tbm 280 (by decide +kernel) rfl
theorem k_281 : Cond.instanceMethod yX2_put ∈ tb := tbm 281 (by decide +kernel) rfl
theorem k_282 : Cond.selects RX2 yX2_put yX2_put ∈ tb := tbm 282 (by decide +kernel) rfl
set_option maxRecDepth 100000 in
theorem k_283 : Cond.code yX2_put cX2_put 3 (some .boolean) ∈ tb := tbm 283 (by rfl) rfl
theorem k_284 : Cond.methodLink RX7 82 yX2_count ∈ tb := tbm 284 (by decide +kernel) rfl
theorem k_285 : Cond.instanceMethod yX2_count ∈ tb := tbm 285 (by decide +kernel) rfl
theorem k_286 : Cond.selects RX2 yX2_count yX2_count ∈ tb := tbm 286 (by decide +kernel) rfl
set_option maxRecDepth 100000 in
theorem k_287 : Cond.code yX2_count cX2_count 1 (some .int) ∈ tb := tbm 287 (by rfl) rfl
theorem k_288 : Cond.methodLink RL 45 yX7_drop ∈ tb := tbm 288 (by decide +kernel) rfl
theorem k_289 : Cond.instanceMethod yX7_drop ∈ tb := tbm 289 (by decide +kernel) rfl
theorem k_290 : Cond.selects RX7 yX7_drop yX7_drop ∈ tb := tbm 290 (by decide +kernel) rfl
set_option maxRecDepth 100000 in
theorem k_291 : Cond.code yX7_drop cX7_drop 2 (some .int) ∈ tb := tbm 291 (by rfl) rfl
theorem k_292 : Cond.methodLink RX7 86 yX2_takeOff ∈ tb := tbm 292 (by decide +kernel) rfl
theorem k_293 : Cond.instanceMethod yX2_takeOff ∈ tb := tbm 293 (by decide +kernel) rfl
theorem k_294 : Cond.selects RX2 yX2_takeOff yX2_takeOff ∈ tb := tbm 294 (by decide +kernel) rfl
set_option maxRecDepth 100000 in
theorem k_295 : Cond.code yX2_takeOff cX2_takeOff 2 none ∈ tb := tbm 295 (by rfl) rfl
theorem k_296 : Cond.methodLink RL 50 yX7_run ∈ tb := tbm 296 (by decide +kernel) rfl
theorem k_297 : Cond.instanceMethod yX7_run ∈ tb := tbm 297 (by decide +kernel) rfl
theorem k_298 : Cond.selects RX7 yX7_run yX7_run ∈ tb := tbm 298 (by decide +kernel) rfl
set_option maxRecDepth 100000 in
theorem k_299 : Cond.code yX7_run cX7_run 4 (some .int) ∈ tb := tbm 299 (by rfl) rfl
theorem k_300 : Cond.methodLink RX7 90 yX0_startWith ∈ tb := tbm 300 (by decide +kernel) rfl
theorem k_301 : Cond.instanceMethod yX0_startWith ∈ tb := tbm 301 (by decide +kernel) rfl
theorem k_302 : Cond.selects RX0 yX0_startWith yX0_startWith ∈ tb := tbm 302 (by decide +kernel) rfl
set_option maxRecDepth 100000 in
theorem k_303 : Cond.code yX0_startWith cX0_startWith 2 none ∈ tb := tbm 303 (by rfl) rfl
theorem k_304 : Cond.methodLink RX0 38 yX0_add ∈ tb := tbm 304 (by decide +kernel) rfl
theorem k_305 : Cond.instanceMethod yX0_add ∈ tb := tbm 305 (by decide +kernel) rfl
theorem k_306 : Cond.selects RX0 yX0_add yX0_add ∈ tb := tbm 306 (by decide +kernel) rfl
set_option maxRecDepth 100000 in
theorem k_307 : Cond.code yX0_add cX0_add 3 none ∈ tb := tbm 307 (by rfl) rfl
theorem k_308 : Cond.methodLink RX7 100 yX0_count ∈ tb := tbm 308 (by decide +kernel) rfl
theorem k_309 : Cond.instanceMethod yX0_count ∈ tb := tbm 309 (by decide +kernel) rfl
theorem k_310 : Cond.selects RX0 yX0_count yX0_count ∈ tb := tbm 310 (by decide +kernel) rfl
set_option maxRecDepth 100000 in
theorem k_311 : Cond.code yX0_count cX0_count 1 (some .int) ∈ tb := tbm 311 (by rfl) rfl
theorem k_312 : Cond.methodLink RX7 101 yX7_step ∈ tb := tbm 312 (by decide +kernel) rfl
theorem k_314 : Cond.instanceMethod yX7_step ∈ tb := tbm 314 (by decide +kernel) rfl
set_option maxRecDepth 100000 in
theorem k_315 : Cond.code yX7_step cX7_step 1 none ∈ tb := tbm 315 (by rfl) rfl
theorem k_316 : Cond.methodLink RX7 165 yX0_topSort ∈ tb := tbm 316 (by decide +kernel) rfl
theorem k_317 : Cond.instanceMethod yX0_topSort ∈ tb := tbm 317 (by decide +kernel) rfl
theorem k_318 : Cond.selects RX0 yX0_topSort yX0_topSort ∈ tb := tbm 318 (by decide +kernel) rfl
set_option maxRecDepth 100000 in
theorem k_319 : Cond.code yX0_topSort cX0_topSort 1 (some .int) ∈ tb := tbm 319 (by rfl) rfl
theorem k_320 : Cond.methodLink RX7 168 yX7_goOn ∈ tb := tbm 320 (by decide +kernel) rfl
theorem k_322 : Cond.instanceMethod yX7_goOn ∈ tb := tbm 322 (by decide +kernel) rfl
set_option maxRecDepth 100000 in
theorem k_323 : Cond.code yX7_goOn cX7_goOn 6 none ∈ tb := tbm 323 (by rfl) rfl
theorem k_324 : Cond.methodLink RX7 180 yX0_topSubject ∈ tb := tbm 324 (by decide +kernel) rfl
theorem k_325 : Cond.instanceMethod yX0_topSubject ∈ tb := tbm 325 (by decide +kernel) rfl
theorem k_326 : Cond.selects RX0 yX0_topSubject yX0_topSubject ∈ tb := tbm 326 (by decide +kernel) rfl
set_option maxRecDepth 100000 in
theorem k_327 : Cond.code yX0_topSubject cX0_topSubject 1 (some .int) ∈ tb := tbm 327 (by rfl) rfl
theorem k_328 : Cond.methodLink RX7 183 yX0_topPlace ∈ tb := tbm 328 (by decide +kernel) rfl
theorem k_329 : Cond.instanceMethod yX0_topPlace ∈ tb := tbm 329 (by decide +kernel) rfl
theorem k_330 : Cond.selects RX0 yX0_topPlace yX0_topPlace ∈ tb := tbm 330 (by decide +kernel) rfl
set_option maxRecDepth 100000 in
theorem k_331 : Cond.code yX0_topPlace cX0_topPlace 1 (some .int) ∈ tb := tbm 331 (by rfl) rfl
theorem k_332 : Cond.methodLink RX7 177 yX0_takeTop ∈ tb := tbm 332 (by decide +kernel) rfl
theorem k_333 : Cond.instanceMethod yX0_takeTop ∈ tb := tbm 333 (by decide +kernel) rfl
theorem k_334 : Cond.selects RX0 yX0_takeTop yX0_takeTop ∈ tb := tbm 334 (by decide +kernel) rfl
set_option maxRecDepth 100000 in
theorem k_335 : Cond.code yX0_takeTop cX0_takeTop 1 none ∈ tb := tbm 335 (by rfl) rfl
theorem k_336 : Cond.methodLink RX7 186 yX0_goBy ∈ tb := tbm 336 (by decide +kernel) rfl
theorem k_337 : Cond.instanceMethod yX0_goBy ∈ tb := tbm 337 (by decide +kernel) rfl
theorem k_338 : Cond.selects RX0 yX0_goBy yX0_goBy ∈ tb := tbm 338 (by decide +kernel) rfl
set_option maxRecDepth 100000 in
theorem k_339 : Cond.code yX0_goBy cX0_goBy 1 none ∈ tb := tbm 339 (by rfl) rfl
theorem k_340 : Cond.methodLink RX7 189 yX4_kindAt ∈ tb := tbm 340 (by decide +kernel) rfl
theorem k_341 : Cond.instanceMethod yX4_kindAt ∈ tb := tbm 341 (by decide +kernel) rfl
theorem k_342 : Cond.selects RX4 yX4_kindAt yX4_kindAt ∈ tb := tbm 342 (by decide +kernel) rfl
set_option maxRecDepth 100000 in
theorem k_343 : Cond.code yX4_kindAt cX4_kindAt 3 (some .int) ∈ tb := tbm 343 (by rfl) rfl
theorem k_344 : Cond.methodLink RX4 29 yX4_hasToken ∈ tb := tbm 344 (by decide +kernel) rfl
theorem k_346 : Cond.instanceMethod yX4_hasToken ∈ tb := tbm 346 (by decide +kernel) rfl
set_option maxRecDepth 100000 in
theorem k_347 : Cond.code yX4_hasToken cX4_hasToken 3 (some .boolean) ∈ tb := tbm 347 (by rfl) rfl
theorem k_348 : Cond.methodLink RX7 192 yX4_numberAt ∈ tb := tbm 348 (by decide +kernel) rfl
theorem k_349 : Cond.instanceMethod yX4_numberAt ∈ tb := tbm 349 (by decide +kernel) rfl
theorem k_350 : Cond.selects RX4 yX4_numberAt yX4_numberAt ∈ tb := tbm 350 (by decide +kernel) rfl
set_option maxRecDepth 100000 in
theorem k_351 : Cond.code yX4_numberAt cX4_numberAt 3 (some .int) ∈ tb := tbm 351 (by rfl) rfl
theorem k_352 : Cond.methodLink RX7 194 yX7_operate ∈ tb := tbm 352 (by decide +kernel) rfl
theorem k_354 : Cond.instanceMethod yX7_operate ∈ tb := tbm 354 (by decide +kernel) rfl
set_option maxRecDepth 100000 in
theorem k_355 : Cond.code yX7_operate cX7_operate 3 (some .int) ∈ tb := tbm 355 (by rfl) rfl
theorem k_356 : Cond.methodLink RX7 240 yX7_misfit ∈ tb := tbm 356 (by decide +kernel) rfl
theorem k_358 : Cond.instanceMethod yX7_misfit ∈ tb := tbm 358 (by decide +kernel) rfl
set_option maxRecDepth 100000 in
theorem k_359 : Cond.code yX7_misfit cX7_misfit 6 (some .int) ∈ tb := tbm 359 (by rfl) rfl
theorem k_360 : Cond.fieldLink RX7 233 "ErrorNames" "TAKES" "[I" ∈ tb := tbm 360 (by decide +kernel) rfl
theorem k_362 : Cond.methodLink RX7 237 yX2_kindUnder ∈ tb := tbm 362 (by decide +kernel) rfl
theorem k_363 : Cond.instanceMethod yX2_kindUnder ∈ tb := tbm 363 (by decide +kernel) rfl
theorem k_364 : Cond.selects RX2 yX2_kindUnder yX2_kindUnder ∈ tb := tbm 364 (by decide +kernel) rfl
set_option maxRecDepth 100000 in
theorem k_365 : Cond.code yX2_kindUnder cX2_kindUnder 2 (some .int) ∈ tb := tbm 365 (by rfl) rfl
theorem k_366 : Cond.methodLink RX7 243 yX7_execute ∈ tb := tbm 366 (by decide +kernel) rfl
theorem k_368 : Cond.instanceMethod yX7_execute ∈ tb := tbm 368 (by decide +kernel) rfl
set_option maxRecDepth 100000 in
theorem k_369 : Cond.code yX7_execute cX7_execute 3 (some .int) ∈ tb := tbm 369 (by rfl) rfl
theorem k_370 : Cond.methodLink RX7 249 yX2_numberUnder ∈ tb := tbm 370 (by decide +kernel) rfl
theorem k_371 : Cond.instanceMethod yX2_numberUnder ∈ tb := tbm 371 (by decide +kernel) rfl
theorem k_372 : Cond.selects RX2 yX2_numberUnder yX2_numberUnder ∈ tb := tbm 372 (by decide +kernel) rfl
set_option maxRecDepth 100000 in
theorem k_373 : Cond.code yX2_numberUnder cX2_numberUnder 2 (some .int) ∈ tb := tbm 373 (by rfl) rfl
theorem k_374 : Cond.methodLink RX7 252 yX7_begin ∈ tb := tbm 374 (by decide +kernel) rfl
theorem k_376 : Cond.instanceMethod yX7_begin ∈ tb := tbm 376 (by decide +kernel) rfl
set_option maxRecDepth 100000 in
theorem k_377 : Cond.code yX7_begin cX7_begin 4 (some .int) ∈ tb := tbm 377 (by rfl) rfl
theorem k_378 : Cond.methodLink RX7 205 yX0_roomFor ∈ tb := tbm 378 (by decide +kernel) rfl
theorem k_379 : Cond.instanceMethod yX0_roomFor ∈ tb := tbm 379 (by decide +kernel) rfl
theorem k_380 : Cond.selects RX0 yX0_roomFor yX0_roomFor ∈ tb := tbm 380 (by decide +kernel) rfl
set_option maxRecDepth 100000 in
theorem k_381 : Cond.code yX0_roomFor cX0_roomFor 2 (some .boolean) ∈ tb := tbm 381 (by rfl) rfl
theorem k_382 : Cond.methodLink RX7 217 yX0_add ∈ tb := tbm 382 (by decide +kernel) rfl
theorem k_383 : Cond.methodLink RX7 154 yX6_kindOf ∈ tb := tbm 383 (by decide +kernel) rfl
theorem k_384 : Cond.instanceMethod yX6_kindOf ∈ tb := tbm 384 (by decide +kernel) rfl
theorem k_385 : Cond.selects RX6 yX6_kindOf yX6_kindOf ∈ tb := tbm 385 (by decide +kernel) rfl
set_option maxRecDepth 100000 in
theorem k_386 : Cond.code yX6_kindOf cX6_kindOf 2 (some .int) ∈ tb := tbm 386 (by rfl) rfl
theorem k_387 : Cond.methodLink RX7 157 yX6_numberOf ∈ tb := tbm 387 (by decide +kernel) rfl
theorem k_388 : Cond.instanceMethod yX6_numberOf ∈ tb := tbm 388 (by decide +kernel) rfl
theorem k_389 : Cond.selects RX6 yX6_numberOf yX6_numberOf ∈ tb := tbm 389 (by decide +kernel) rfl
set_option maxRecDepth 100000 in
theorem k_390 : Cond.code yX6_numberOf cX6_numberOf 2 (some .int) ∈ tb := tbm 390 (by rfl) rfl
theorem k_391 : Cond.methodLink RX7 280 yX3_lookUp ∈ tb := tbm 391 (by decide +kernel) rfl
theorem k_392 : Cond.instanceMethod yX3_lookUp ∈ tb := tbm 392 (by decide +kernel) rfl
theorem k_393 : Cond.selects RX3 yX3_lookUp yX3_lookUp ∈ tb := tbm 393 (by decide +kernel) rfl
set_option maxRecDepth 100000 in
theorem k_394 : Cond.code yX3_lookUp cX3_lookUp 3 (some .int) ∈ tb := tbm 394 (by rfl) rfl
theorem k_395 : Cond.methodLink RX3 72 yX6_kindOf ∈ tb := tbm 395 (by decide +kernel) rfl
theorem k_396 : Cond.methodLink RX3 77 yX6_numberOf ∈ tb := tbm 396 (by decide +kernel) rfl
theorem k_397 : Cond.methodLink RX3 36 yX2_replace ∈ tb := tbm 397 (by decide +kernel) rfl
theorem k_398 : Cond.instanceMethod yX2_replace ∈ tb := tbm 398 (by decide +kernel) rfl
theorem k_399 : Cond.selects RX2 yX2_replace yX2_replace ∈ tb := tbm 399 (by decide +kernel) rfl
set_option maxRecDepth 100000 in
theorem k_400 : Cond.code yX2_replace cX2_replace 4 none ∈ tb := tbm 400 (by rfl) rfl
theorem k_401 : Cond.methodLink RX7 246 yX7_beginIf ∈ tb := tbm 401 (by decide +kernel) rfl
theorem k_403 : Cond.instanceMethod yX7_beginIf ∈ tb := tbm 403 (by decide +kernel) rfl
set_option maxRecDepth 100000 in
theorem k_404 : Cond.code yX7_beginIf cX7_beginIf 1 (some .int) ∈ tb := tbm 404 (by rfl) rfl
theorem k_405 : Cond.methodLink RX7 255 yX7_repeat ∈ tb := tbm 405 (by decide +kernel) rfl
theorem k_407 : Cond.instanceMethod yX7_repeat ∈ tb := tbm 407 (by decide +kernel) rfl
set_option maxRecDepth 100000 in
theorem k_408 : Cond.code yX7_repeat cX7_repeat 2 (some .int) ∈ tb := tbm 408 (by rfl) rfl
theorem k_409 : Cond.methodLink RX7 261 yX7_beginLoop ∈ tb := tbm 409 (by decide +kernel) rfl
theorem k_411 : Cond.instanceMethod yX7_beginLoop ∈ tb := tbm 411 (by decide +kernel) rfl
set_option maxRecDepth 100000 in
theorem k_412 : Cond.code yX7_beginLoop cX7_beginLoop 6 (some .int) ∈ tb := tbm 412 (by rfl) rfl
theorem k_413 : Cond.methodLink RX7 283 yX0_countBy ∈ tb := tbm 413 (by decide +kernel) rfl
theorem k_414 : Cond.instanceMethod yX0_countBy ∈ tb := tbm 414 (by decide +kernel) rfl
theorem k_415 : Cond.selects RX0 yX0_countBy yX0_countBy ∈ tb := tbm 415 (by decide +kernel) rfl
set_option maxRecDepth 100000 in
theorem k_416 : Cond.code yX0_countBy cX0_countBy 4 none ∈ tb := tbm 416 (by rfl) rfl
theorem k_417 : Cond.methodLink RX7 258 yX7_countThrough ∈ tb := tbm 417 (by decide +kernel) rfl
theorem k_419 : Cond.instanceMethod yX7_countThrough ∈ tb := tbm 419 (by decide +kernel) rfl
set_option maxRecDepth 100000 in
theorem k_420 : Cond.code yX7_countThrough cX7_countThrough 4 (some .int) ∈ tb := tbm 420 (by rfl) rfl
theorem k_421 : Cond.methodLink RX7 265 yX7_exitLoop ∈ tb := tbm 421 (by decide +kernel) rfl
theorem k_423 : Cond.instanceMethod yX7_exitLoop ∈ tb := tbm 423 (by decide +kernel) rfl
set_option maxRecDepth 100000 in
theorem k_424 : Cond.code yX7_exitLoop cX7_exitLoop 2 (some .int) ∈ tb := tbm 424 (by rfl) rfl
theorem k_425 : Cond.methodLink RX7 287 yX0_loopToExit ∈ tb := tbm 425 (by decide +kernel) rfl
theorem k_426 : Cond.instanceMethod yX0_loopToExit ∈ tb := tbm 426 (by decide +kernel) rfl
theorem k_427 : Cond.selects RX0 yX0_loopToExit yX0_loopToExit ∈ tb := tbm 427 (by decide +kernel) rfl
set_option maxRecDepth 100000 in
theorem k_428 : Cond.code yX0_loopToExit cX0_loopToExit 2 (some .int) ∈ tb := tbm 428 (by rfl) rfl
theorem k_429 : Cond.methodLink RX7 107 yX0_cutTo ∈ tb := tbm 429 (by decide +kernel) rfl
theorem k_430 : Cond.instanceMethod yX0_cutTo ∈ tb := tbm 430 (by decide +kernel) rfl
theorem k_431 : Cond.selects RX0 yX0_cutTo yX0_cutTo ∈ tb := tbm 431 (by decide +kernel) rfl
set_option maxRecDepth 100000 in
theorem k_432 : Cond.code yX0_cutTo cX0_cutTo 2 none ∈ tb := tbm 432 (by rfl) rfl
theorem k_433 : Cond.methodLink RX7 227 yX7_stopBy ∈ tb := tbm 433 (by decide +kernel) rfl
theorem k_435 : Cond.instanceMethod yX7_stopBy ∈ tb := tbm 435 (by decide +kernel) rfl
set_option maxRecDepth 100000 in
theorem k_436 : Cond.code yX7_stopBy cX7_stopBy 3 none ∈ tb := tbm 436 (by rfl) rfl
theorem k_437 : Cond.methodLink RX7 230 yX0_topmostStopped ∈ tb := tbm 437 (by decide +kernel) rfl
theorem k_438 : Cond.instanceMethod yX0_topmostStopped ∈ tb := tbm 438 (by decide +kernel) rfl
theorem k_439 : Cond.selects RX0 yX0_topmostStopped yX0_topmostStopped ∈ tb := tbm 439 (by decide +kernel) rfl
set_option maxRecDepth 100000 in
theorem k_440 : Cond.code yX0_topmostStopped cX0_topmostStopped 2 (some .int) ∈ tb := tbm 440 (by rfl) rfl
theorem k_441 : Cond.methodLink RX7 208 yX2_full ∈ tb := tbm 441 (by decide +kernel) rfl
theorem k_442 : Cond.instanceMethod yX2_full ∈ tb := tbm 442 (by decide +kernel) rfl
theorem k_443 : Cond.selects RX2 yX2_full yX2_full ∈ tb := tbm 443 (by decide +kernel) rfl
set_option maxRecDepth 100000 in
theorem k_444 : Cond.code yX2_full cX2_full 1 (some .boolean) ∈ tb := tbm 444 (by rfl) rfl
theorem k_445 : Cond.methodLink RX7 268 yX7_guard ∈ tb := tbm 445 (by decide +kernel) rfl
theorem k_447 : Cond.instanceMethod yX7_guard ∈ tb := tbm 447 (by decide +kernel) rfl
set_option maxRecDepth 100000 in
theorem k_448 : Cond.code yX7_guard cX7_guard 1 (some .int) ∈ tb := tbm 448 (by rfl) rfl
theorem k_449 : Cond.methodLink RX7 271 yX7_setHandler ∈ tb := tbm 449 (by decide +kernel) rfl
theorem k_451 : Cond.instanceMethod yX7_setHandler ∈ tb := tbm 451 (by decide +kernel) rfl
set_option maxRecDepth 100000 in
theorem k_452 : Cond.code yX7_setHandler cX7_setHandler 4 (some .int) ∈ tb := tbm 452 (by rfl) rfl
theorem k_453 : Cond.methodLink RX7 290 yX1_takes ∈ tb := tbm 453 (by decide +kernel) rfl
theorem k_454 : Cond.instanceMethod yX1_takes ∈ tb := tbm 454 (by decide +kernel) rfl
theorem k_455 : Cond.selects RX1 yX1_takes yX1_takes ∈ tb := tbm 455 (by decide +kernel) rfl
set_option maxRecDepth 100000 in
theorem k_456 : Cond.code yX1_takes cX1_takes 2 (some .boolean) ∈ tb := tbm 456 (by rfl) rfl
theorem k_457 : Cond.methodLink RX7 293 yX1_set ∈ tb := tbm 457 (by decide +kernel) rfl
theorem k_458 : Cond.instanceMethod yX1_set ∈ tb := tbm 458 (by decide +kernel) rfl
theorem k_459 : Cond.selects RX1 yX1_set yX1_set ∈ tb := tbm 459 (by decide +kernel) rfl
set_option maxRecDepth 100000 in
theorem k_460 : Cond.code yX1_set cX1_set 3 none ∈ tb := tbm 460 (by rfl) rfl
theorem k_461 : Cond.methodLink RX1 21 yX1_takes ∈ tb := tbm 461 (by decide +kernel) rfl
theorem k_462 : Cond.methodLink RX7 274 yX7_raise ∈ tb := tbm 462 (by decide +kernel) rfl
theorem k_464 : Cond.instanceMethod yX7_raise ∈ tb := tbm 464 (by decide +kernel) rfl
set_option maxRecDepth 100000 in
theorem k_465 : Cond.code yX7_raise cX7_raise 2 (some .int) ∈ tb := tbm 465 (by rfl) rfl
theorem k_466 : Cond.methodLink RX7 277 yX7_tell ∈ tb := tbm 466 (by decide +kernel) rfl
theorem k_468 : Cond.instanceMethod yX7_tell ∈ tb := tbm 468 (by decide +kernel) rfl
set_option maxRecDepth 100000 in
theorem k_469 : Cond.code yX7_tell cX7_tell 2 (some .int) ∈ tb := tbm 469 (by rfl) rfl
theorem k_470 : Cond.methodLink RX7 131 yX5_has ∈ tb := tbm 470 (by decide +kernel) rfl
theorem k_471 : Cond.instanceMethod yX5_has ∈ tb := tbm 471 (by decide +kernel) rfl
theorem k_472 : Cond.selects RX5 yX5_has yX5_has ∈ tb := tbm 472 (by decide +kernel) rfl
set_option maxRecDepth 100000 in
theorem k_473 : Cond.code yX5_has cX5_has 2 (some .boolean) ∈ tb := tbm 473 (by rfl) rfl
theorem k_474 : Cond.methodLink RX7 132 yX5_told ∈ tb := tbm 474 (by decide +kernel) rfl
theorem k_475 : Cond.instanceMethod yX5_told ∈ tb := tbm 475 (by decide +kernel) rfl
theorem k_476 : Cond.selects RX5 yX5_told yX5_told ∈ tb := tbm 476 (by decide +kernel) rfl
set_option maxRecDepth 100000 in
theorem k_477 : Cond.code yX5_told cX5_told 2 (some .int) ∈ tb := tbm 477 (by rfl) rfl
theorem k_478 : Cond.methodLink RX5 32 yX2_count ∈ tb := tbm 478 (by decide +kernel) rfl
theorem k_479 : Cond.methodLink RX7 296 yX2_replace ∈ tb := tbm 479 (by decide +kernel) rfl
theorem k_480 : Cond.methodLink RX7 299 yX5_noMoreNew ∈ tb := tbm 480 (by decide +kernel) rfl
theorem k_481 : Cond.instanceMethod yX5_noMoreNew ∈ tb := tbm 481 (by decide +kernel) rfl
theorem k_482 : Cond.selects RX5 yX5_noMoreNew yX5_noMoreNew ∈ tb := tbm 482 (by decide +kernel) rfl
set_option maxRecDepth 100000 in
theorem k_483 : Cond.code yX5_noMoreNew cX5_noMoreNew 1 none ∈ tb := tbm 483 (by rfl) rfl
theorem k_484 : Cond.methodLink RX7 279 yX3_operate ∈ tb := tbm 484 (by decide +kernel) rfl
theorem k_485 : Cond.instanceMethod yX3_operate ∈ tb := tbm 485 (by decide +kernel) rfl
theorem k_486 : Cond.selects RX3 yX3_operate yX3_operate ∈ tb := tbm 486 (by decide +kernel) rfl
set_option maxRecDepth 100000 in
theorem k_487 : Cond.code yX3_operate cX3_operate 2 (some .int) ∈ tb := tbm 487 (by rfl) rfl
theorem k_488 : Cond.methodLink RX3 19 yX2_numberUnder ∈ tb := tbm 488 (by decide +kernel) rfl
theorem k_489 : Cond.methodLink RX3 25 yX3_reckoned ∈ tb := tbm 489 (by decide +kernel) rfl
theorem k_491 : Cond.instanceMethod yX3_reckoned ∈ tb := tbm 491 (by decide +kernel) rfl
set_option maxRecDepth 100000 in
theorem k_492 : Cond.code yX3_reckoned cX3_reckoned 3 (some .int) ∈ tb := tbm 492 (by rfl) rfl
theorem k_493 : Cond.methodLink RX3 29 yX3_divide ∈ tb := tbm 493 (by decide +kernel) rfl
theorem k_495 : Cond.instanceMethod yX3_divide ∈ tb := tbm 495 (by decide +kernel) rfl
set_option maxRecDepth 100000 in
theorem k_496 : Cond.code yX3_divide cX3_divide 3 (some .int) ∈ tb := tbm 496 (by rfl) rfl
theorem k_497 : Cond.methodLink RX3 32 yX3_topTwoAreTheSame ∈ tb := tbm 497 (by decide +kernel) rfl
theorem k_499 : Cond.instanceMethod yX3_topTwoAreTheSame ∈ tb := tbm 499 (by decide +kernel) rfl
set_option maxRecDepth 100000 in
theorem k_500 : Cond.code yX3_topTwoAreTheSame cX3_topTwoAreTheSame 1 (some .boolean) ∈ tb := tbm 500 (by rfl) rfl
theorem k_501 : Cond.methodLink RX3 44 yX2_kindUnder ∈ tb := tbm 501 (by decide +kernel) rfl
theorem k_502 : Cond.methodLink RX3 40 yX2_takeOff ∈ tb := tbm 502 (by decide +kernel) rfl
theorem k_503 : Cond.methodLink RX3 47 yX3_more ∈ tb := tbm 503 (by decide +kernel) rfl
theorem k_505 : Cond.instanceMethod yX3_more ∈ tb := tbm 505 (by decide +kernel) rfl
set_option maxRecDepth 100000 in
theorem k_506 : Cond.code yX3_more cX3_more 3 (some .int) ∈ tb := tbm 506 (by rfl) rfl
theorem k_507 : Cond.methodLink RX3 80 yX2_put ∈ tb := tbm 507 (by decide +kernel) rfl
theorem k_508 : Cond.methodLink RX3 50 yX3_swap ∈ tb := tbm 508 (by decide +kernel) rfl
theorem k_510 : Cond.instanceMethod yX3_swap ∈ tb := tbm 510 (by decide +kernel) rfl
set_option maxRecDepth 100000 in
theorem k_511 : Cond.code yX3_swap cX3_swap 5 (some .int) ∈ tb := tbm 511 (by rfl) rfl
theorem k_512 : Cond.methodLink RX3 54 yX3_pick ∈ tb := tbm 512 (by decide +kernel) rfl
theorem k_514 : Cond.instanceMethod yX3_pick ∈ tb := tbm 514 (by decide +kernel) rfl
set_option maxRecDepth 100000 in
theorem k_515 : Cond.code yX3_pick cX3_pick 2 (some .int) ∈ tb := tbm 515 (by rfl) rfl
theorem k_516 : Cond.methodLink RX3 57 yX2_count ∈ tb := tbm 516 (by decide +kernel) rfl
theorem k_517 : Cond.methodLink RX3 60 yX3_countToMark ∈ tb := tbm 517 (by decide +kernel) rfl
theorem k_519 : Cond.instanceMethod yX3_countToMark ∈ tb := tbm 519 (by decide +kernel) rfl
set_option maxRecDepth 100000 in
theorem k_520 : Cond.code yX3_countToMark cX3_countToMark 2 (some .int) ∈ tb := tbm 520 (by rfl) rfl
theorem k_521 : Cond.methodLink RX3 84 yX2_topmostMark ∈ tb := tbm 521 (by decide +kernel) rfl
theorem k_522 : Cond.instanceMethod yX2_topmostMark ∈ tb := tbm 522 (by decide +kernel) rfl
theorem k_523 : Cond.selects RX2 yX2_topmostMark yX2_topmostMark ∈ tb := tbm 523 (by decide +kernel) rfl
set_option maxRecDepth 100000 in
theorem k_524 : Cond.code yX2_topmostMark cX2_topmostMark 2 (some .int) ∈ tb := tbm 524 (by rfl) rfl
theorem k_525 : Cond.methodLink RX3 63 yX3_clearToMark ∈ tb := tbm 525 (by decide +kernel) rfl
theorem k_527 : Cond.instanceMethod yX3_clearToMark ∈ tb := tbm 527 (by decide +kernel) rfl
set_option maxRecDepth 100000 in
theorem k_528 : Cond.code yX3_clearToMark cX3_clearToMark 2 (some .int) ∈ tb := tbm 528 (by rfl) rfl
theorem k_529 : Cond.methodLink RX3 66 yX3_define ∈ tb := tbm 529 (by decide +kernel) rfl
theorem k_531 : Cond.instanceMethod yX3_define ∈ tb := tbm 531 (by decide +kernel) rfl
set_option maxRecDepth 100000 in
theorem k_532 : Cond.code yX3_define cX3_define 1 (some .int) ∈ tb := tbm 532 (by rfl) rfl
theorem k_533 : Cond.methodLink RX3 87 yX6_give ∈ tb := tbm 533 (by decide +kernel) rfl
theorem k_534 : Cond.instanceMethod yX6_give ∈ tb := tbm 534 (by decide +kernel) rfl
theorem k_535 : Cond.selects RX6 yX6_give yX6_give ∈ tb := tbm 535 (by decide +kernel) rfl
set_option maxRecDepth 100000 in
theorem k_536 : Cond.code yX6_give cX6_give 4 none ∈ tb := tbm 536 (by rfl) rfl
theorem k_537 : Cond.methodLink RX3 69 yX3_lookUp ∈ tb := tbm 537 (by decide +kernel) rfl
theorem k_538 : Cond.methodLink RX7 197 yX7_arise ∈ tb := tbm 538 (by decide +kernel) rfl
theorem k_540 : Cond.instanceMethod yX7_arise ∈ tb := tbm 540 (by decide +kernel) rfl
set_option maxRecDepth 100000 in
theorem k_541 : Cond.code yX7_arise cX7_arise 5 none ∈ tb := tbm 541 (by rfl) rfl
theorem k_542 : Cond.methodLink RX7 220 yX0_errorHandled ∈ tb := tbm 542 (by decide +kernel) rfl
theorem k_543 : Cond.instanceMethod yX0_errorHandled ∈ tb := tbm 543 (by decide +kernel) rfl
theorem k_544 : Cond.selects RX0 yX0_errorHandled yX0_errorHandled ∈ tb := tbm 544 (by decide +kernel) rfl
set_option maxRecDepth 100000 in
theorem k_545 : Cond.code yX0_errorHandled cX0_errorHandled 2 (some .int) ∈ tb := tbm 545 (by rfl) rfl
theorem k_546 : Cond.methodLink RX7 148 yX1_of ∈ tb := tbm 546 (by decide +kernel) rfl
theorem k_547 : Cond.instanceMethod yX1_of ∈ tb := tbm 547 (by decide +kernel) rfl
theorem k_548 : Cond.selects RX1 yX1_of yX1_of ∈ tb := tbm 548 (by decide +kernel) rfl
set_option maxRecDepth 100000 in
theorem k_549 : Cond.code yX1_of cX1_of 2 (some .int) ∈ tb := tbm 549 (by rfl) rfl
theorem k_550 : Cond.methodLink RX7 223 yX5_tell ∈ tb := tbm 550 (by decide +kernel) rfl
theorem k_551 : Cond.instanceMethod yX5_tell ∈ tb := tbm 551 (by decide +kernel) rfl
theorem k_552 : Cond.selects RX5 yX5_tell yX5_tell ∈ tb := tbm 552 (by decide +kernel) rfl
set_option maxRecDepth 100000 in
theorem k_553 : Cond.code yX5_tell cX5_tell 5 none ∈ tb := tbm 553 (by rfl) rfl
theorem k_554 : Cond.methodLink RX5 39 yX2_copy ∈ tb := tbm 554 (by decide +kernel) rfl
theorem k_555 : Cond.instanceMethod yX2_copy ∈ tb := tbm 555 (by decide +kernel) rfl
theorem k_556 : Cond.selects RX2 yX2_copy yX2_copy ∈ tb := tbm 556 (by decide +kernel) rfl
set_option maxRecDepth 100000 in
theorem k_557 : Cond.code yX2_copy cX2_copy 3 none ∈ tb := tbm 557 (by rfl) rfl
theorem k_558 : Cond.methodLink RX7 171 yX7_turn ∈ tb := tbm 558 (by decide +kernel) rfl
theorem k_560 : Cond.instanceMethod yX7_turn ∈ tb := tbm 560 (by decide +kernel) rfl
set_option maxRecDepth 100000 in
theorem k_561 : Cond.code yX7_turn cX7_turn 2 none ∈ tb := tbm 561 (by rfl) rfl
theorem k_562 : Cond.methodLink RX7 201 yX0_loopIsOver ∈ tb := tbm 562 (by decide +kernel) rfl
theorem k_563 : Cond.instanceMethod yX0_loopIsOver ∈ tb := tbm 563 (by decide +kernel) rfl
theorem k_564 : Cond.selects RX0 yX0_loopIsOver yX0_loopIsOver ∈ tb := tbm 564 (by decide +kernel) rfl
set_option maxRecDepth 100000 in
theorem k_565 : Cond.code yX0_loopIsOver cX0_loopIsOver 2 (some .boolean) ∈ tb := tbm 565 (by rfl) rfl
theorem k_566 : Cond.methodLink RX7 211 yX0_loopNumber ∈ tb := tbm 566 (by decide +kernel) rfl
theorem k_567 : Cond.instanceMethod yX0_loopNumber ∈ tb := tbm 567 (by decide +kernel) rfl
theorem k_568 : Cond.selects RX0 yX0_loopNumber yX0_loopNumber ∈ tb := tbm 568 (by decide +kernel) rfl
set_option maxRecDepth 100000 in
theorem k_569 : Cond.code yX0_loopNumber cX0_loopNumber 1 (some .int) ∈ tb := tbm 569 (by rfl) rfl
theorem k_570 : Cond.methodLink RX7 214 yX0_turnLoop ∈ tb := tbm 570 (by decide +kernel) rfl
theorem k_571 : Cond.instanceMethod yX0_turnLoop ∈ tb := tbm 571 (by decide +kernel) rfl
theorem k_572 : Cond.selects RX0 yX0_turnLoop yX0_turnLoop ∈ tb := tbm 572 (by decide +kernel) rfl
set_option maxRecDepth 100000 in
theorem k_573 : Cond.code yX0_turnLoop cX0_turnLoop 1 none ∈ tb := tbm 573 (by rfl) rfl
theorem k_574 : Cond.methodLink RX7 174 yX7_endStopped ∈ tb := tbm 574 (by decide +kernel) rfl
theorem k_576 : Cond.instanceMethod yX7_endStopped ∈ tb := tbm 576 (by decide +kernel) rfl
set_option maxRecDepth 100000 in
theorem k_577 : Cond.code yX7_endStopped cX7_endStopped 1 none ∈ tb := tbm 577 (by rfl) rfl
theorem k_578 : Cond.methodLink RL 54 yX7_interrupt ∈ tb := tbm 578 (by decide +kernel) rfl
theorem k_579 : Cond.instanceMethod yX7_interrupt ∈ tb := tbm 579 (by decide +kernel) rfl
theorem k_580 : Cond.selects RX7 yX7_interrupt yX7_interrupt ∈ tb := tbm 580 (by decide +kernel) rfl
set_option maxRecDepth 100000 in
theorem k_581 : Cond.code yX7_interrupt cX7_interrupt 1 (some .int) ∈ tb := tbm 581 (by rfl) rfl
theorem k_582 : Cond.methodLink RL 58 yX7_size ∈ tb := tbm 582 (by decide +kernel) rfl
theorem k_583 : Cond.instanceMethod yX7_size ∈ tb := tbm 583 (by decide +kernel) rfl
theorem k_584 : Cond.selects RX7 yX7_size yX7_size ∈ tb := tbm 584 (by decide +kernel) rfl
set_option maxRecDepth 100000 in
theorem k_585 : Cond.code yX7_size cX7_size 1 (some .int) ∈ tb := tbm 585 (by rfl) rfl
theorem k_586 : Cond.methodLink RL 84 yX7_forget ∈ tb := tbm 586 (by decide +kernel) rfl
theorem k_587 : Cond.instanceMethod yX7_forget ∈ tb := tbm 587 (by decide +kernel) rfl
theorem k_588 : Cond.selects RX7 yX7_forget yX7_forget ∈ tb := tbm 588 (by decide +kernel) rfl
set_option maxRecDepth 100000 in
theorem k_589 : Cond.code yX7_forget cX7_forget 1 (some .int) ∈ tb := tbm 589 (by rfl) rfl
theorem k_590 : Cond.methodLink RX7 160 yX1_wipe ∈ tb := tbm 590 (by decide +kernel) rfl
theorem k_591 : Cond.instanceMethod yX1_wipe ∈ tb := tbm 591 (by decide +kernel) rfl
theorem k_592 : Cond.selects RX1 yX1_wipe yX1_wipe ∈ tb := tbm 592 (by decide +kernel) rfl
set_option maxRecDepth 100000 in
theorem k_593 : Cond.code yX1_wipe cX1_wipe 1 none ∈ tb := tbm 593 (by rfl) rfl
theorem k_594 : Cond.methodLink RX7 162 yX5_wipe ∈ tb := tbm 594 (by decide +kernel) rfl
theorem k_595 : Cond.instanceMethod yX5_wipe ∈ tb := tbm 595 (by decide +kernel) rfl
theorem k_596 : Cond.selects RX5 yX5_wipe yX5_wipe ∈ tb := tbm 596 (by decide +kernel) rfl
set_option maxRecDepth 100000 in
theorem k_597 : Cond.code yX5_wipe cX5_wipe 1 none ∈ tb := tbm 597 (by rfl) rfl
theorem k_598 : Cond.methodLink RX5 43 yX2_takeOff ∈ tb := tbm 598 (by decide +kernel) rfl
theorem k_599 : Cond.methodLink RX7 163 yX6_wipe ∈ tb := tbm 599 (by decide +kernel) rfl
theorem k_600 : Cond.instanceMethod yX6_wipe ∈ tb := tbm 600 (by decide +kernel) rfl
theorem k_601 : Cond.selects RX6 yX6_wipe yX6_wipe ∈ tb := tbm 601 (by decide +kernel) rfl
set_option maxRecDepth 100000 in
theorem k_602 : Cond.code yX6_wipe cX6_wipe 3 (some .int) ∈ tb := tbm 602 (by rfl) rfl
theorem k_603 : Cond.methodLink RL 62 yL_value ∈ tb := tbm 603 (by decide +kernel) rfl
theorem k_604 : Cond.static yL_value ∈ tb := tbm 604 (by decide +kernel) rfl
theorem k_606 : Cond.classLink RL 13 "java/lang/IndexOutOfBoundsException" ∈ tb := tbm 606 (by decide +kernel) rfl
theorem k_607 : Cond.methodLink RL 7 yX7_value ∈ tb := tbm 607 (by decide +kernel) rfl
theorem k_608 : Cond.instanceMethod yX7_value ∈ tb := tbm 608 (by decide +kernel) rfl
theorem k_609 : Cond.selects RX7 yX7_value yX7_value ∈ tb := tbm 609 (by decide +kernel) rfl
set_option maxRecDepth 100000 in
theorem k_610 : Cond.code yX7_value cX7_value 3 (some .int) ∈ tb := tbm 610 (by rfl) rfl
theorem k_611 : Cond.methodLink RX7 114 yX2_has ∈ tb := tbm 611 (by decide +kernel) rfl
theorem k_612 : Cond.instanceMethod yX2_has ∈ tb := tbm 612 (by decide +kernel) rfl
theorem k_613 : Cond.selects RX2 yX2_has yX2_has ∈ tb := tbm 613 (by decide +kernel) rfl
set_option maxRecDepth 100000 in
theorem k_614 : Cond.code yX2_has cX2_has 2 (some .boolean) ∈ tb := tbm 614 (by rfl) rfl
theorem k_615 : Cond.methodLink RX7 115 yX7_isKindOrNumber ∈ tb := tbm 615 (by decide +kernel) rfl
theorem k_616 : Cond.static yX7_isKindOrNumber ∈ tb := tbm 616 (by decide +kernel) rfl
set_option maxRecDepth 100000 in
theorem k_617 : Cond.code yX7_isKindOrNumber cX7_isKindOrNumber 1 (some .boolean) ∈ tb := tbm 617 (by rfl) rfl
theorem k_618 : Cond.classLink RX7 118 "java/lang/IndexOutOfBoundsException" ∈ tb := tbm 618 (by decide +kernel) rfl
theorem k_619 : Cond.instantiable "java/lang/IndexOutOfBoundsException" 6 ∈ tb := tbm 619 (by decide +kernel) rfl
theorem k_639 : Cond.fieldLink "java/lang/Throwable" 198 "java/lang/Throwable" "backtrace" "Ljava/lang/Object;" ∈ tb := tbm 639 (by decide +kernel) rfl
theorem k_643 : Cond.methodLink "java/lang/Throwable" 1 objectInit ∈ tb := tbm 643 (by decide +kernel) rfl
theorem k_644 : Cond.fieldLink "java/lang/Throwable" 13 "java/lang/Throwable" "UNASSIGNED_STACK" "[Ljava/lang/StackTraceElement;" ∈ tb := tbm 644 (by decide +kernel) rfl
theorem k_646 : Cond.fieldLink "java/lang/Throwable" 20 "java/lang/Throwable" "SUPPRESSED_SENTINEL" "Ljava/util/List;" ∈ tb := tbm 646 (by decide +kernel) rfl
theorem k_655 : Cond.instantiable "java/lang/Throwable" 6 ∈ tb := tbm 655 (by decide +kernel) rfl
theorem k_671 : Cond.fieldLink "java/lang/Throwable" 31 "java/lang/Throwable" "detailMessage" "Ljava/lang/String;" ∈ tb := tbm 671 (by decide +kernel) rfl
theorem k_672 : Cond.fieldLink "java/lang/Throwable" 7 "java/lang/Throwable" "cause" "Ljava/lang/Throwable;" ∈ tb := tbm 672 (by decide +kernel) rfl
theorem k_673 : Cond.fieldLink "java/lang/Throwable" 17 "java/lang/Throwable" "stackTrace" "[Ljava/lang/StackTraceElement;" ∈ tb := tbm 673 (by decide +kernel) rfl
theorem k_674 : Cond.fieldLink "java/lang/Throwable" 24 "java/lang/Throwable" "suppressedExceptions" "Ljava/util/List;" ∈ tb := tbm 674 (by decide +kernel) rfl
theorem k_683 : Cond.arrayClass .byte ∈ tb := tbm 683 (by decide +kernel) rfl
theorem k_684 : Cond.methodLink RX7 125 yX2_kindAt ∈ tb := tbm 684 (by decide +kernel) rfl
theorem k_685 : Cond.instanceMethod yX2_kindAt ∈ tb := tbm 685 (by decide +kernel) rfl
theorem k_686 : Cond.selects RX2 yX2_kindAt yX2_kindAt ∈ tb := tbm 686 (by decide +kernel) rfl
set_option maxRecDepth 100000 in
theorem k_687 : Cond.code yX2_kindAt cX2_kindAt 2 (some .int) ∈ tb := tbm 687 (by rfl) rfl
theorem k_688 : Cond.methodLink RX7 128 yX2_numberAt ∈ tb := tbm 688 (by decide +kernel) rfl
theorem k_689 : Cond.instanceMethod yX2_numberAt ∈ tb := tbm 689 (by decide +kernel) rfl
theorem k_690 : Cond.selects RX2 yX2_numberAt yX2_numberAt ∈ tb := tbm 690 (by decide +kernel) rfl
set_option maxRecDepth 100000 in
theorem k_691 : Cond.code yX2_numberAt cX2_numberAt 2 (some .int) ∈ tb := tbm 691 (by rfl) rfl
theorem k_692 : Cond.methodLink RL 71 yL_record ∈ tb := tbm 692 (by decide +kernel) rfl
theorem k_693 : Cond.static yL_record ∈ tb := tbm 693 (by decide +kernel) rfl
theorem k_695 : Cond.methodLink RL 15 yX7_record ∈ tb := tbm 695 (by decide +kernel) rfl
theorem k_696 : Cond.instanceMethod yX7_record ∈ tb := tbm 696 (by decide +kernel) rfl
theorem k_697 : Cond.selects RX7 yX7_record yX7_record ∈ tb := tbm 697 (by decide +kernel) rfl
set_option maxRecDepth 100000 in
theorem k_698 : Cond.code yX7_record cX7_record 2 (some .int) ∈ tb := tbm 698 (by rfl) rfl
theorem k_699 : Cond.methodLink RX7 135 yX0_most ∈ tb := tbm 699 (by decide +kernel) rfl
theorem k_700 : Cond.instanceMethod yX0_most ∈ tb := tbm 700 (by decide +kernel) rfl
theorem k_701 : Cond.selects RX0 yX0_most yX0_most ∈ tb := tbm 701 (by decide +kernel) rfl
set_option maxRecDepth 100000 in
theorem k_702 : Cond.code yX0_most cX0_most 1 (some .int) ∈ tb := tbm 702 (by rfl) rfl
theorem k_704 : Cond.methodLink RL 75 yL_kept ∈ tb := tbm 704 (by decide +kernel) rfl
theorem k_705 : Cond.static yL_kept ∈ tb := tbm 705 (by decide +kernel) rfl
theorem k_707 : Cond.methodLink RL 19 yX7_kept ∈ tb := tbm 707 (by decide +kernel) rfl
theorem k_708 : Cond.instanceMethod yX7_kept ∈ tb := tbm 708 (by decide +kernel) rfl
theorem k_709 : Cond.selects RX7 yX7_kept yX7_kept ∈ tb := tbm 709 (by decide +kernel) rfl
set_option maxRecDepth 100000 in
theorem k_710 : Cond.code yX7_kept cX7_kept 3 (some .int) ∈ tb := tbm 710 (by rfl) rfl
theorem k_711 : Cond.methodLink RX7 140 yX5_pile ∈ tb := tbm 711 (by decide +kernel) rfl
theorem k_712 : Cond.instanceMethod yX5_pile ∈ tb := tbm 712 (by decide +kernel) rfl
theorem k_713 : Cond.selects RX5 yX5_pile yX5_pile ∈ tb := tbm 713 (by decide +kernel) rfl
set_option maxRecDepth 100000 in
theorem k_714 : Cond.code yX5_pile cX5_pile 1 (some (.object "ErrorNames$Pile")) ∈ tb := tbm 714 (by rfl) rfl
theorem k_716 : Cond.methodLink RL 78 yL_handler ∈ tb := tbm 716 (by decide +kernel) rfl
theorem k_717 : Cond.static yL_handler ∈ tb := tbm 717 (by decide +kernel) rfl
theorem k_719 : Cond.methodLink RL 22 yX7_handler ∈ tb := tbm 719 (by decide +kernel) rfl
theorem k_720 : Cond.instanceMethod yX7_handler ∈ tb := tbm 720 (by decide +kernel) rfl
theorem k_721 : Cond.selects RX7 yX7_handler yX7_handler ∈ tb := tbm 721 (by decide +kernel) rfl
set_option maxRecDepth 100000 in
theorem k_722 : Cond.code yX7_handler cX7_handler 2 (some .int) ∈ tb := tbm 722 (by rfl) rfl
theorem k_723 : Cond.methodLink RX7 145 yX1_has ∈ tb := tbm 723 (by decide +kernel) rfl
theorem k_724 : Cond.instanceMethod yX1_has ∈ tb := tbm 724 (by decide +kernel) rfl
theorem k_725 : Cond.selects RX1 yX1_has yX1_has ∈ tb := tbm 725 (by decide +kernel) rfl
set_option maxRecDepth 100000 in
theorem k_726 : Cond.code yX1_has cX1_has 2 (some .boolean) ∈ tb := tbm 726 (by rfl) rfl
theorem k_728 : Cond.methodLink RL 81 yL_named ∈ tb := tbm 728 (by decide +kernel) rfl
theorem k_729 : Cond.static yL_named ∈ tb := tbm 729 (by decide +kernel) rfl
theorem k_731 : Cond.methodLink RL 25 yX7_named ∈ tb := tbm 731 (by decide +kernel) rfl
theorem k_732 : Cond.instanceMethod yX7_named ∈ tb := tbm 732 (by decide +kernel) rfl
theorem k_733 : Cond.selects RX7 yX7_named yX7_named ∈ tb := tbm 733 (by decide +kernel) rfl
set_option maxRecDepth 100000 in
theorem k_734 : Cond.code yX7_named cX7_named 3 (some .int) ∈ tb := tbm 734 (by rfl) rfl
theorem k_735 : Cond.methodLink RX7 151 yX6_has ∈ tb := tbm 735 (by decide +kernel) rfl
theorem k_736 : Cond.instanceMethod yX6_has ∈ tb := tbm 736 (by decide +kernel) rfl
theorem k_737 : Cond.selects RX6 yX6_has yX6_has ∈ tb := tbm 737 (by decide +kernel) rfl
set_option maxRecDepth 100000 in
theorem k_738 : Cond.code yX6_has cX6_has 2 (some .boolean) ∈ tb := tbm 738 (by rfl) rfl
theorem k_740 : Cond.classLink RL 29 RX8 ∈ tb := tbm 740 (by decide +kernel) rfl
theorem k_741 : Cond.instantiable RX8 30 ∈ tb := tbm 741 (by decide +kernel) rfl
theorem k_742 : Cond.methodLink RL 31 yX8_init ∈ tb := tbm 742 (by decide +kernel) rfl
theorem k_743 : Cond.instanceMethod yX8_init ∈ tb := tbm 743 (by decide +kernel) rfl
set_option maxRecDepth 100000 in
theorem k_744 : Cond.code yX8_init cX8_init 1 none ∈ tb := tbm 744 (by rfl) rfl
theorem k_745 : Cond.methodLink RX8 1 objectInit ∈ tb := tbm 745 (by decide +kernel) rfl
theorem k_746 : Cond.methodLink RX8 59 yX8_clearAll ∈ tb := tbm 746 (by decide +kernel) rfl
theorem k_748 : Cond.instanceMethod yX8_clearAll ∈ tb := tbm 748 (by decide +kernel) rfl
set_option maxRecDepth 100000 in
theorem k_749 : Cond.code yX8_clearAll cX8_clearAll 2 none ∈ tb := tbm 749 (by rfl) rfl
theorem k_750 : Cond.fieldLink RX8 62 "ErrorNamesModel" "thrown" "I" ∈ tb := tbm 750 (by decide +kernel) rfl
theorem k_751 : Cond.fieldLink RX8 7 "ErrorNamesModel" "tokenKinds" "[I" ∈ tb := tbm 751 (by decide +kernel) rfl
theorem k_752 : Cond.fieldLink RX8 13 "ErrorNamesModel" "tokenNumbers" "[I" ∈ tb := tbm 752 (by decide +kernel) rfl
theorem k_753 : Cond.fieldLink RX8 16 "ErrorNamesModel" "tokens" "[I" ∈ tb := tbm 753 (by decide +kernel) rfl
theorem k_754 : Cond.fieldLink RX8 19 "ErrorNamesModel" "kinds" "[I" ∈ tb := tbm 754 (by decide +kernel) rfl
theorem k_755 : Cond.fieldLink RX8 22 "ErrorNamesModel" "numbers" "[I" ∈ tb := tbm 755 (by decide +kernel) rfl
theorem k_756 : Cond.fieldLink RX8 96 "ErrorNamesModel" "size" "I" ∈ tb := tbm 756 (by decide +kernel) rfl
theorem k_757 : Cond.fieldLink RX8 25 "ErrorNamesModel" "tableKinds" "[I" ∈ tb := tbm 757 (by decide +kernel) rfl
theorem k_758 : Cond.fieldLink RX8 28 "ErrorNamesModel" "tableNumbers" "[I" ∈ tb := tbm 758 (by decide +kernel) rfl
theorem k_759 : Cond.fieldLink RX8 31 "ErrorNamesModel" "handlers" "[I" ∈ tb := tbm 759 (by decide +kernel) rfl
theorem k_760 : Cond.fieldLink RX8 66 "ErrorNamesModel" "error" "I" ∈ tb := tbm 760 (by decide +kernel) rfl
theorem k_761 : Cond.fieldLink RX8 69 "ErrorNamesModel" "command" "I" ∈ tb := tbm 761 (by decide +kernel) rfl
theorem k_762 : Cond.fieldLink RX8 72 "ErrorNamesModel" "isNew" "Z" ∈ tb := tbm 762 (by decide +kernel) rfl
theorem k_763 : Cond.fieldLink RX8 76 "ErrorNamesModel" "within" "I" ∈ tb := tbm 763 (by decide +kernel) rfl
theorem k_764 : Cond.fieldLink RX8 34 "ErrorNamesModel" "keptKinds" "[I" ∈ tb := tbm 764 (by decide +kernel) rfl
theorem k_765 : Cond.fieldLink RX8 37 "ErrorNamesModel" "keptNumbers" "[I" ∈ tb := tbm 765 (by decide +kernel) rfl
theorem k_766 : Cond.fieldLink RX8 79 "ErrorNamesModel" "keptSize" "I" ∈ tb := tbm 766 (by decide +kernel) rfl
theorem k_767 : Cond.fieldLink RX8 82 "ErrorNamesModel" "errors" "I" ∈ tb := tbm 767 (by decide +kernel) rfl
theorem k_768 : Cond.fieldLink RX8 85 "ErrorNamesModel" "interrupted" "Z" ∈ tb := tbm 768 (by decide +kernel) rfl
theorem k_769 : Cond.fieldLink RX8 103 "ErrorNamesModel" "frames" "I" ∈ tb := tbm 769 (by decide +kernel) rfl
theorem k_770 : Cond.fieldLink RX8 40 "ErrorNamesModel" "sorts" "[I" ∈ tb := tbm 770 (by decide +kernel) rfl
theorem k_771 : Cond.fieldLink RX8 43 "ErrorNamesModel" "who" "[I" ∈ tb := tbm 771 (by decide +kernel) rfl
theorem k_772 : Cond.fieldLink RX8 46 "ErrorNamesModel" "places" "[I" ∈ tb := tbm 772 (by decide +kernel) rfl
theorem k_773 : Cond.fieldLink RX8 49 "ErrorNamesModel" "nexts" "[J" ∈ tb := tbm 773 (by decide +kernel) rfl
theorem k_774 : Cond.fieldLink RX8 53 "ErrorNamesModel" "bys" "[I" ∈ tb := tbm 774 (by decide +kernel) rfl
theorem k_775 : Cond.fieldLink RX8 56 "ErrorNamesModel" "limits" "[I" ∈ tb := tbm 775 (by decide +kernel) rfl
theorem k_776 : Cond.fieldLink RX8 126 "ErrorNamesModel" "steps" "I" ∈ tb := tbm 776 (by decide +kernel) rfl
theorem k_777 : Cond.fieldLink RX8 106 "ErrorNamesModel" "most" "I" ∈ tb := tbm 777 (by decide +kernel) rfl
theorem k_778 : Cond.fieldLink RX8 123 "ErrorNamesModel" "handled" "I" ∈ tb := tbm 778 (by decide +kernel) rfl
theorem k_779 : Cond.fieldLink RX8 116 "ErrorNamesModel" "ended" "I" ∈ tb := tbm 779 (by decide +kernel) rfl
theorem k_841 : Cond.methodLink RL 68 yX8_thrown ∈ tb := tbm 841 (by decide +kernel) rfl
theorem k_842 : Cond.instanceMethod yX8_thrown ∈ tb := tbm 842 (by decide +kernel) rfl
theorem k_843 : Cond.selects RX8 yX8_thrown yX8_thrown ∈ tb := tbm 843 (by decide +kernel) rfl
set_option maxRecDepth 100000 in
theorem k_844 : Cond.code yX8_thrown cX8_thrown 1 (some .int) ∈ tb := tbm 844 (by rfl) rfl
theorem k_845 : Cond.methodLink RL 36 yX8_token ∈ tb := tbm 845 (by decide +kernel) rfl
theorem k_846 : Cond.instanceMethod yX8_token ∈ tb := tbm 846 (by decide +kernel) rfl
theorem k_847 : Cond.selects RX8 yX8_token yX8_token ∈ tb := tbm 847 (by decide +kernel) rfl
set_option maxRecDepth 100000 in
theorem k_848 : Cond.code yX8_token cX8_token 5 (some .int) ∈ tb := tbm 848 (by rfl) rfl
theorem k_849 : Cond.methodLink RX8 88 yX8_in ∈ tb := tbm 849 (by decide +kernel) rfl
theorem k_850 : Cond.static yX8_in ∈ tb := tbm 850 (by decide +kernel) rfl
set_option maxRecDepth 100000 in
theorem k_851 : Cond.code yX8_in cX8_in 3 (some .boolean) ∈ tb := tbm 851 (by rfl) rfl
theorem k_852 : Cond.methodLink RX8 92 yX8_fits ∈ tb := tbm 852 (by decide +kernel) rfl
theorem k_853 : Cond.static yX8_fits ∈ tb := tbm 853 (by decide +kernel) rfl
set_option maxRecDepth 100000 in
theorem k_854 : Cond.code yX8_fits cX8_fits 2 (some .boolean) ∈ tb := tbm 854 (by rfl) rfl
theorem k_855 : Cond.methodLink RL 40 yX8_clear ∈ tb := tbm 855 (by decide +kernel) rfl
theorem k_856 : Cond.instanceMethod yX8_clear ∈ tb := tbm 856 (by decide +kernel) rfl
theorem k_857 : Cond.selects RX8 yX8_clear yX8_clear ∈ tb := tbm 857 (by decide +kernel) rfl
set_option maxRecDepth 100000 in
theorem k_858 : Cond.code yX8_clear cX8_clear 3 (some .int) ∈ tb := tbm 858 (by rfl) rfl
theorem k_859 : Cond.methodLink RL 44 yX8_push ∈ tb := tbm 859 (by decide +kernel) rfl
theorem k_860 : Cond.instanceMethod yX8_push ∈ tb := tbm 860 (by decide +kernel) rfl
theorem k_861 : Cond.selects RX8 yX8_push yX8_push ∈ tb := tbm 861 (by decide +kernel) rfl
set_option maxRecDepth 100000 in
theorem k_862 : Cond.code yX8_push cX8_push 3 (some .int) ∈ tb := tbm 862 (by rfl) rfl
theorem k_863 : Cond.methodLink RX8 99 yX8_lay ∈ tb := tbm 863 (by decide +kernel) rfl
theorem k_865 : Cond.instanceMethod yX8_lay ∈ tb := tbm 865 (by decide +kernel) rfl
set_option maxRecDepth 100000 in
theorem k_866 : Cond.code yX8_lay cX8_lay 3 none ∈ tb := tbm 866 (by rfl) rfl
theorem k_867 : Cond.methodLink RL 49 yX8_drop ∈ tb := tbm 867 (by decide +kernel) rfl
theorem k_868 : Cond.instanceMethod yX8_drop ∈ tb := tbm 868 (by decide +kernel) rfl
theorem k_869 : Cond.selects RX8 yX8_drop yX8_drop ∈ tb := tbm 869 (by decide +kernel) rfl
set_option maxRecDepth 100000 in
theorem k_870 : Cond.code yX8_drop cX8_drop 2 (some .int) ∈ tb := tbm 870 (by rfl) rfl
theorem k_871 : Cond.methodLink RL 57 yX8_interrupt ∈ tb := tbm 871 (by decide +kernel) rfl
theorem k_872 : Cond.instanceMethod yX8_interrupt ∈ tb := tbm 872 (by decide +kernel) rfl
theorem k_873 : Cond.selects RX8 yX8_interrupt yX8_interrupt ∈ tb := tbm 873 (by decide +kernel) rfl
set_option maxRecDepth 100000 in
theorem k_874 : Cond.code yX8_interrupt cX8_interrupt 2 (some .int) ∈ tb := tbm 874 (by rfl) rfl
theorem k_875 : Cond.methodLink RL 53 yX8_run ∈ tb := tbm 875 (by decide +kernel) rfl
theorem k_876 : Cond.instanceMethod yX8_run ∈ tb := tbm 876 (by decide +kernel) rfl
theorem k_877 : Cond.selects RX8 yX8_run yX8_run ∈ tb := tbm 877 (by decide +kernel) rfl
set_option maxRecDepth 100000 in
theorem k_878 : Cond.code yX8_run cX8_run 3 (some .int) ∈ tb := tbm 878 (by rfl) rfl
theorem k_879 : Cond.methodLink RX8 113 yX8_come ∈ tb := tbm 879 (by decide +kernel) rfl
theorem k_881 : Cond.instanceMethod yX8_come ∈ tb := tbm 881 (by decide +kernel) rfl
set_option maxRecDepth 100000 in
theorem k_882 : Cond.code yX8_come cX8_come 3 none ∈ tb := tbm 882 (by rfl) rfl
theorem k_883 : Cond.methodLink RX8 129 yX8_step ∈ tb := tbm 883 (by decide +kernel) rfl
theorem k_885 : Cond.instanceMethod yX8_step ∈ tb := tbm 885 (by decide +kernel) rfl
set_option maxRecDepth 100000 in
theorem k_886 : Cond.code yX8_step cX8_step 3 none ∈ tb := tbm 886 (by rfl) rfl
theorem k_887 : Cond.methodLink RX8 109 yX8_isSpent ∈ tb := tbm 887 (by decide +kernel) rfl
theorem k_889 : Cond.instanceMethod yX8_isSpent ∈ tb := tbm 889 (by decide +kernel) rfl
set_option maxRecDepth 100000 in
theorem k_890 : Cond.code yX8_isSpent cX8_isSpent 1 (some .boolean) ∈ tb := tbm 890 (by rfl) rfl
theorem k_891 : Cond.methodLink RX8 132 yX8_token_ ∈ tb := tbm 891 (by decide +kernel) rfl
theorem k_893 : Cond.instanceMethod yX8_token_ ∈ tb := tbm 893 (by decide +kernel) rfl
set_option maxRecDepth 100000 in
theorem k_894 : Cond.code yX8_token_ cX8_token_ 4 none ∈ tb := tbm 894 (by rfl) rfl
theorem k_895 : Cond.methodLink RX8 141 yX8_wrong ∈ tb := tbm 895 (by decide +kernel) rfl
theorem k_897 : Cond.instanceMethod yX8_wrong ∈ tb := tbm 897 (by decide +kernel) rfl
set_option maxRecDepth 100000 in
theorem k_898 : Cond.code yX8_wrong cX8_wrong 4 (some .int) ∈ tb := tbm 898 (by rfl) rfl
theorem k_899 : Cond.methodLink RX8 160 yX8_takes ∈ tb := tbm 899 (by decide +kernel) rfl
theorem k_900 : Cond.static yX8_takes ∈ tb := tbm 900 (by decide +kernel) rfl
set_option maxRecDepth 100000 in
theorem k_901 : Cond.code yX8_takes cX8_takes 1 (some .int) ∈ tb := tbm 901 (by rfl) rfl
theorem k_902 : Cond.methodLink RX8 150 yX8_kind ∈ tb := tbm 902 (by decide +kernel) rfl
theorem k_904 : Cond.instanceMethod yX8_kind ∈ tb := tbm 904 (by decide +kernel) rfl
set_option maxRecDepth 100000 in
theorem k_905 : Cond.code yX8_kind cX8_kind 2 (some .int) ∈ tb := tbm 905 (by rfl) rfl
theorem k_906 : Cond.methodLink RX8 153 yX8_number ∈ tb := tbm 906 (by decide +kernel) rfl
theorem k_908 : Cond.instanceMethod yX8_number ∈ tb := tbm 908 (by decide +kernel) rfl
set_option maxRecDepth 100000 in
theorem k_909 : Cond.code yX8_number cX8_number 2 (some .int) ∈ tb := tbm 909 (by rfl) rfl
theorem k_910 : Cond.methodLink RX8 163 yX8_areKinds ∈ tb := tbm 910 (by decide +kernel) rfl
theorem k_912 : Cond.instanceMethod yX8_areKinds ∈ tb := tbm 912 (by decide +kernel) rfl
set_option maxRecDepth 100000 in
theorem k_913 : Cond.code yX8_areKinds cX8_areKinds 2 (some .boolean) ∈ tb := tbm 913 (by rfl) rfl
theorem k_914 : Cond.methodLink RX8 166 yX8_mark ∈ tb := tbm 914 (by decide +kernel) rfl
theorem k_916 : Cond.instanceMethod yX8_mark ∈ tb := tbm 916 (by decide +kernel) rfl
set_option maxRecDepth 100000 in
theorem k_917 : Cond.code yX8_mark cX8_mark 2 (some .int) ∈ tb := tbm 917 (by rfl) rfl
theorem k_918 : Cond.methodLink RX8 170 yX8_isInRange ∈ tb := tbm 918 (by decide +kernel) rfl
theorem k_920 : Cond.instanceMethod yX8_isInRange ∈ tb := tbm 920 (by decide +kernel) rfl
set_option maxRecDepth 100000 in
theorem k_921 : Cond.code yX8_isInRange cX8_isInRange 2 (some .boolean) ∈ tb := tbm 921 (by rfl) rfl
theorem k_922 : Cond.methodLink RX8 156 yX8_isError ∈ tb := tbm 922 (by decide +kernel) rfl
theorem k_923 : Cond.static yX8_isError ∈ tb := tbm 923 (by decide +kernel) rfl
set_option maxRecDepth 100000 in
theorem k_924 : Cond.code yX8_isError cX8_isError 1 (some .boolean) ∈ tb := tbm 924 (by rfl) rfl
theorem k_925 : Cond.methodLink RX8 173 yX8_loop ∈ tb := tbm 925 (by decide +kernel) rfl
theorem k_927 : Cond.instanceMethod yX8_loop ∈ tb := tbm 927 (by decide +kernel) rfl
set_option maxRecDepth 100000 in
theorem k_928 : Cond.code yX8_loop cX8_loop 2 (some .int) ∈ tb := tbm 928 (by rfl) rfl
theorem k_929 : Cond.methodLink RX8 176 yX8_hasFrames ∈ tb := tbm 929 (by decide +kernel) rfl
theorem k_931 : Cond.instanceMethod yX8_hasFrames ∈ tb := tbm 931 (by decide +kernel) rfl
set_option maxRecDepth 100000 in
theorem k_932 : Cond.code yX8_hasFrames cX8_hasFrames 2 (some .boolean) ∈ tb := tbm 932 (by rfl) rfl
theorem k_933 : Cond.methodLink RX8 179 yX8_procedureOf ∈ tb := tbm 933 (by decide +kernel) rfl
theorem k_935 : Cond.instanceMethod yX8_procedureOf ∈ tb := tbm 935 (by decide +kernel) rfl
set_option maxRecDepth 100000 in
theorem k_936 : Cond.code yX8_procedureOf cX8_procedureOf 4 (some .int) ∈ tb := tbm 936 (by rfl) rfl
theorem k_937 : Cond.methodLink RX8 182 yX8_mayBegin ∈ tb := tbm 937 (by decide +kernel) rfl
theorem k_939 : Cond.instanceMethod yX8_mayBegin ∈ tb := tbm 939 (by decide +kernel) rfl
set_option maxRecDepth 100000 in
theorem k_940 : Cond.code yX8_mayBegin cX8_mayBegin 1 (some .boolean) ∈ tb := tbm 940 (by rfl) rfl
theorem k_941 : Cond.methodLink RX8 135 yX8_arise ∈ tb := tbm 941 (by decide +kernel) rfl
theorem k_943 : Cond.instanceMethod yX8_arise ∈ tb := tbm 943 (by decide +kernel) rfl
set_option maxRecDepth 100000 in
theorem k_944 : Cond.code yX8_arise cX8_arise 4 none ∈ tb := tbm 944 (by rfl) rfl
theorem k_945 : Cond.methodLink RX8 119 yX8_stop ∈ tb := tbm 945 (by decide +kernel) rfl
theorem k_947 : Cond.instanceMethod yX8_stop ∈ tb := tbm 947 (by decide +kernel) rfl
set_option maxRecDepth 100000 in
theorem k_948 : Cond.code yX8_stop cX8_stop 2 none ∈ tb := tbm 948 (by rfl) rfl
theorem k_949 : Cond.methodLink RX8 145 yX8_work ∈ tb := tbm 949 (by decide +kernel) rfl
theorem k_951 : Cond.instanceMethod yX8_work ∈ tb := tbm 951 (by decide +kernel) rfl
set_option maxRecDepth 100000 in
theorem k_952 : Cond.code yX8_work cX8_work 2 none ∈ tb := tbm 952 (by rfl) rfl
theorem k_953 : Cond.methodLink RX8 185 yX8_reckon ∈ tb := tbm 953 (by decide +kernel) rfl
theorem k_955 : Cond.instanceMethod yX8_reckon ∈ tb := tbm 955 (by decide +kernel) rfl
set_option maxRecDepth 100000 in
theorem k_956 : Cond.code yX8_reckon cX8_reckon 4 none ∈ tb := tbm 956 (by rfl) rfl
theorem k_957 : Cond.methodLink RX8 188 yX8_handle ∈ tb := tbm 957 (by decide +kernel) rfl
theorem k_959 : Cond.instanceMethod yX8_handle ∈ tb := tbm 959 (by decide +kernel) rfl
set_option maxRecDepth 100000 in
theorem k_960 : Cond.code yX8_handle cX8_handle 7 none ∈ tb := tbm 960 (by rfl) rfl
theorem k_961 : Cond.methodLink RX8 191 yX8_perform ∈ tb := tbm 961 (by decide +kernel) rfl
theorem k_963 : Cond.instanceMethod yX8_perform ∈ tb := tbm 963 (by decide +kernel) rfl
set_option maxRecDepth 100000 in
theorem k_964 : Cond.code yX8_perform cX8_perform 4 none ∈ tb := tbm 964 (by rfl) rfl
theorem k_965 : Cond.methodLink RX8 200 yX8_begin ∈ tb := tbm 965 (by decide +kernel) rfl
theorem k_967 : Cond.instanceMethod yX8_begin ∈ tb := tbm 967 (by decide +kernel) rfl
set_option maxRecDepth 100000 in
theorem k_968 : Cond.code yX8_begin cX8_begin 2 none ∈ tb := tbm 968 (by rfl) rfl
theorem k_969 : Cond.methodLink RX8 194 yX8_loopOf ∈ tb := tbm 969 (by decide +kernel) rfl
theorem k_971 : Cond.instanceMethod yX8_loopOf ∈ tb := tbm 971 (by decide +kernel) rfl
set_option maxRecDepth 100000 in
theorem k_972 : Cond.code yX8_loopOf cX8_loopOf 4 none ∈ tb := tbm 972 (by rfl) rfl
theorem k_973 : Cond.methodLink RX8 197 yX8_govern ∈ tb := tbm 973 (by decide +kernel) rfl
theorem k_975 : Cond.instanceMethod yX8_govern ∈ tb := tbm 975 (by decide +kernel) rfl
set_option maxRecDepth 100000 in
theorem k_976 : Cond.code yX8_govern cX8_govern 3 none ∈ tb := tbm 976 (by rfl) rfl
theorem k_977 : Cond.methodLink RX8 203 yX8_number0 ∈ tb := tbm 977 (by decide +kernel) rfl
theorem k_979 : Cond.instanceMethod yX8_number0 ∈ tb := tbm 979 (by decide +kernel) rfl
set_option maxRecDepth 100000 in
theorem k_980 : Cond.code yX8_number0 cX8_number0 1 (some .int) ∈ tb := tbm 980 (by rfl) rfl
theorem k_981 : Cond.methodLink RX8 206 yX8_told ∈ tb := tbm 981 (by decide +kernel) rfl
theorem k_983 : Cond.instanceMethod yX8_told ∈ tb := tbm 983 (by decide +kernel) rfl
set_option maxRecDepth 100000 in
theorem k_984 : Cond.code yX8_told cX8_told 2 (some .int) ∈ tb := tbm 984 (by rfl) rfl
theorem k_985 : Cond.methodLink RX8 138 yX8_turn ∈ tb := tbm 985 (by decide +kernel) rfl
theorem k_987 : Cond.instanceMethod yX8_turn ∈ tb := tbm 987 (by decide +kernel) rfl
set_option maxRecDepth 100000 in
theorem k_988 : Cond.code yX8_turn cX8_turn 5 none ∈ tb := tbm 988 (by rfl) rfl
theorem k_989 : Cond.constantLong "ErrorNamesModel" 148 (-1 : Int64) ∈ tb := tbm 989 (by decide +kernel) rfl
theorem k_990 : Cond.methodLink RL 61 yX8_size ∈ tb := tbm 990 (by decide +kernel) rfl
theorem k_991 : Cond.instanceMethod yX8_size ∈ tb := tbm 991 (by decide +kernel) rfl
theorem k_992 : Cond.selects RX8 yX8_size yX8_size ∈ tb := tbm 992 (by decide +kernel) rfl
set_option maxRecDepth 100000 in
theorem k_993 : Cond.code yX8_size cX8_size 1 (some .int) ∈ tb := tbm 993 (by rfl) rfl
theorem k_994 : Cond.methodLink RL 67 yX8_value ∈ tb := tbm 994 (by decide +kernel) rfl
theorem k_995 : Cond.instanceMethod yX8_value ∈ tb := tbm 995 (by decide +kernel) rfl
theorem k_996 : Cond.selects RX8 yX8_value yX8_value ∈ tb := tbm 996 (by decide +kernel) rfl
set_option maxRecDepth 100000 in
theorem k_997 : Cond.code yX8_value cX8_value 3 (some .int) ∈ tb := tbm 997 (by rfl) rfl
theorem k_998 : Cond.methodLink RL 74 yX8_record ∈ tb := tbm 998 (by decide +kernel) rfl
theorem k_999 : Cond.instanceMethod yX8_record ∈ tb := tbm 999 (by decide +kernel) rfl
theorem k_1000 : Cond.selects RX8 yX8_record yX8_record ∈ tb := tbm 1000 (by decide +kernel) rfl
set_option maxRecDepth 100000 in
theorem k_1001 : Cond.code yX8_record cX8_record 2 (some .int) ∈ tb := tbm 1001 (by rfl) rfl
theorem k_1002 : Cond.methodLink RL 77 yX8_kept ∈ tb := tbm 1002 (by decide +kernel) rfl
theorem k_1003 : Cond.instanceMethod yX8_kept ∈ tb := tbm 1003 (by decide +kernel) rfl
theorem k_1004 : Cond.selects RX8 yX8_kept yX8_kept ∈ tb := tbm 1004 (by decide +kernel) rfl
set_option maxRecDepth 100000 in
theorem k_1005 : Cond.code yX8_kept cX8_kept 3 (some .int) ∈ tb := tbm 1005 (by rfl) rfl
theorem k_1006 : Cond.methodLink RL 80 yX8_handler ∈ tb := tbm 1006 (by decide +kernel) rfl
theorem k_1007 : Cond.instanceMethod yX8_handler ∈ tb := tbm 1007 (by decide +kernel) rfl
theorem k_1008 : Cond.selects RX8 yX8_handler yX8_handler ∈ tb := tbm 1008 (by decide +kernel) rfl
set_option maxRecDepth 100000 in
theorem k_1009 : Cond.code yX8_handler cX8_handler 2 (some .int) ∈ tb := tbm 1009 (by rfl) rfl
theorem k_1010 : Cond.methodLink RL 83 yX8_named ∈ tb := tbm 1010 (by decide +kernel) rfl
theorem k_1011 : Cond.instanceMethod yX8_named ∈ tb := tbm 1011 (by decide +kernel) rfl
theorem k_1012 : Cond.selects RX8 yX8_named yX8_named ∈ tb := tbm 1012 (by decide +kernel) rfl
set_option maxRecDepth 100000 in
theorem k_1013 : Cond.code yX8_named cX8_named 3 (some .int) ∈ tb := tbm 1013 (by rfl) rfl
theorem k_1014 : Cond.methodLink RL 87 yX8_forget ∈ tb := tbm 1014 (by decide +kernel) rfl
theorem k_1015 : Cond.instanceMethod yX8_forget ∈ tb := tbm 1015 (by decide +kernel) rfl
theorem k_1016 : Cond.selects RX8 yX8_forget yX8_forget ∈ tb := tbm 1016 (by decide +kernel) rfl
set_option maxRecDepth 100000 in
theorem k_1017 : Cond.code yX8_forget cX8_forget 3 (some .int) ∈ tb := tbm 1017 (by rfl) rfl
