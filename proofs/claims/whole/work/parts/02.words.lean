theorem k_0 : Cond.selects RX7 yX7_step yX7_step ∈ tb := tbm 0 (by decide +kernel) rfl
theorem k_1 : Cond.selects RX7 yX7_goOn yX7_goOn ∈ tb := tbm 1 (by decide +kernel) rfl
theorem k_2 : Cond.selects RX4 yX4_hasToken yX4_hasToken ∈ tb := tbm 2 (by decide +kernel) rfl
theorem k_3 : Cond.selects RX7 yX7_operate yX7_operate ∈ tb := tbm 3 (by decide +kernel) rfl
theorem k_4 : Cond.selects RX7 yX7_misfit yX7_misfit ∈ tb := tbm 4 (by decide +kernel) rfl
theorem k_5 : Cond.selects RX7 yX7_execute yX7_execute ∈ tb := tbm 5 (by decide +kernel) rfl
theorem k_6 : Cond.selects RX7 yX7_begin yX7_begin ∈ tb := tbm 6 (by decide +kernel) rfl
theorem k_7 : Cond.selects RX7 yX7_beginIf yX7_beginIf ∈ tb := tbm 7 (by decide +kernel) rfl
theorem k_8 : Cond.selects RX7 yX7_repeat yX7_repeat ∈ tb := tbm 8 (by decide +kernel) rfl
theorem k_9 : Cond.selects RX7 yX7_beginLoop yX7_beginLoop ∈ tb := tbm 9 (by decide +kernel) rfl
theorem k_10 : Cond.selects RX7 yX7_countThrough yX7_countThrough ∈ tb := tbm 10 (by decide +kernel) rfl
theorem k_11 : Cond.selects RX7 yX7_exitLoop yX7_exitLoop ∈ tb := tbm 11 (by decide +kernel) rfl
theorem k_12 : Cond.selects RX7 yX7_stopBy yX7_stopBy ∈ tb := tbm 12 (by decide +kernel) rfl
theorem k_13 : Cond.selects RX7 yX7_guard yX7_guard ∈ tb := tbm 13 (by decide +kernel) rfl
theorem k_14 : Cond.selects RX7 yX7_setHandler yX7_setHandler ∈ tb := tbm 14 (by decide +kernel) rfl
theorem k_15 : Cond.selects RX7 yX7_raise yX7_raise ∈ tb := tbm 15 (by decide +kernel) rfl
theorem k_16 : Cond.selects RX7 yX7_tell yX7_tell ∈ tb := tbm 16 (by decide +kernel) rfl
theorem k_17 : Cond.selects RX3 yX3_reckoned yX3_reckoned ∈ tb := tbm 17 (by decide +kernel) rfl
theorem k_18 : Cond.selects RX3 yX3_divide yX3_divide ∈ tb := tbm 18 (by decide +kernel) rfl
theorem k_19 : Cond.selects RX3 yX3_topTwoAreTheSame yX3_topTwoAreTheSame ∈ tb := tbm 19 (by decide +kernel) rfl
theorem k_20 : Cond.selects RX3 yX3_more yX3_more ∈ tb := tbm 20 (by decide +kernel) rfl
theorem k_21 : Cond.selects RX3 yX3_swap yX3_swap ∈ tb := tbm 21 (by decide +kernel) rfl
theorem k_22 : Cond.selects RX3 yX3_pick yX3_pick ∈ tb := tbm 22 (by decide +kernel) rfl
theorem k_23 : Cond.selects RX3 yX3_countToMark yX3_countToMark ∈ tb := tbm 23 (by decide +kernel) rfl
theorem k_24 : Cond.selects RX3 yX3_clearToMark yX3_clearToMark ∈ tb := tbm 24 (by decide +kernel) rfl
theorem k_25 : Cond.selects RX3 yX3_define yX3_define ∈ tb := tbm 25 (by decide +kernel) rfl
theorem k_26 : Cond.selects RX7 yX7_arise yX7_arise ∈ tb := tbm 26 (by decide +kernel) rfl
theorem k_27 : Cond.selects RX7 yX7_turn yX7_turn ∈ tb := tbm 27 (by decide +kernel) rfl
theorem k_28 : Cond.selects RX7 yX7_endStopped yX7_endStopped ∈ tb := tbm 28 (by decide +kernel) rfl
theorem k_30 : Cond.selects RX8 yX8_clearAll yX8_clearAll ∈ tb := tbm 30 (by decide +kernel) rfl
theorem k_31 : Cond.selects RX8 yX8_lay yX8_lay ∈ tb := tbm 31 (by decide +kernel) rfl
theorem k_32 : Cond.selects RX8 yX8_come yX8_come ∈ tb := tbm 32 (by decide +kernel) rfl
theorem k_33 : Cond.selects RX8 yX8_step yX8_step ∈ tb := tbm 33 (by decide +kernel) rfl
theorem k_34 : Cond.selects RX8 yX8_isSpent yX8_isSpent ∈ tb := tbm 34 (by decide +kernel) rfl
theorem k_35 : Cond.selects RX8 yX8_token_ yX8_token_ ∈ tb := tbm 35 (by decide +kernel) rfl
theorem k_36 : Cond.selects RX8 yX8_wrong yX8_wrong ∈ tb := tbm 36 (by decide +kernel) rfl
theorem k_37 : Cond.selects RX8 yX8_kind yX8_kind ∈ tb := tbm 37 (by decide +kernel) rfl
theorem k_38 : Cond.selects RX8 yX8_number yX8_number ∈ tb := tbm 38 (by decide +kernel) rfl
theorem k_39 : Cond.selects RX8 yX8_areKinds yX8_areKinds ∈ tb := tbm 39 (by decide +kernel) rfl
theorem k_40 : Cond.selects RX8 yX8_mark yX8_mark ∈ tb := tbm 40 (by decide +kernel) rfl
theorem k_41 : Cond.selects RX8 yX8_isInRange yX8_isInRange ∈ tb := tbm 41 (by decide +kernel) rfl
theorem k_42 : Cond.selects RX8 yX8_loop yX8_loop ∈ tb := tbm 42 (by decide +kernel) rfl
theorem k_43 : Cond.selects RX8 yX8_hasFrames yX8_hasFrames ∈ tb := tbm 43 (by decide +kernel) rfl
theorem k_44 : Cond.selects RX8 yX8_procedureOf yX8_procedureOf ∈ tb := tbm 44 (by decide +kernel) rfl
theorem k_45 : Cond.selects RX8 yX8_mayBegin yX8_mayBegin ∈ tb := tbm 45 (by decide +kernel) rfl
theorem k_46 : Cond.selects RX8 yX8_arise yX8_arise ∈ tb := tbm 46 (by decide +kernel) rfl
theorem k_47 : Cond.selects RX8 yX8_stop yX8_stop ∈ tb := tbm 47 (by decide +kernel) rfl
theorem k_48 : Cond.selects RX8 yX8_work yX8_work ∈ tb := tbm 48 (by decide +kernel) rfl
theorem k_49 : Cond.selects RX8 yX8_reckon yX8_reckon ∈ tb := tbm 49 (by decide +kernel) rfl
theorem k_50 : Cond.selects RX8 yX8_handle yX8_handle ∈ tb := tbm 50 (by decide +kernel) rfl
theorem k_51 : Cond.selects RX8 yX8_perform yX8_perform ∈ tb := tbm 51 (by decide +kernel) rfl
theorem k_52 : Cond.selects RX8 yX8_begin yX8_begin ∈ tb := tbm 52 (by decide +kernel) rfl
theorem k_53 : Cond.selects RX8 yX8_loopOf yX8_loopOf ∈ tb := tbm 53 (by decide +kernel) rfl
theorem k_54 : Cond.selects RX8 yX8_govern yX8_govern ∈ tb := tbm 54 (by decide +kernel) rfl
theorem k_55 : Cond.selects RX8 yX8_number0 yX8_number0 ∈ tb := tbm 55 (by decide +kernel) rfl
theorem k_56 : Cond.selects RX8 yX8_told yX8_told ∈ tb := tbm 56 (by decide +kernel) rfl
theorem k_57 : Cond.selects RX8 yX8_turn yX8_turn ∈ tb := tbm 57 (by decide +kernel) rfl
theorem k_58 : Cond.initialized RL ∈ tb := tbm 58 (by decide +kernel) rfl
theorem k_59 : Cond.initialized RX7 ∈ tb := tbm 59 (by decide +kernel) rfl
theorem k_60 : Cond.initialized RX4 ∈ tb := tbm 60 (by decide +kernel) rfl
theorem k_61 : Cond.initialized RX3 ∈ tb := tbm 61 (by decide +kernel) rfl
theorem k_62 : Cond.initialized RX2 ∈ tb := tbm 62 (by decide +kernel) rfl
theorem k_63 : Cond.initialized RX6 ∈ tb := tbm 63 (by decide +kernel) rfl
theorem k_64 : Cond.initialized RJ7 ∈ tb := tbm 64 (by decide +kernel) rfl
theorem k_65 : Cond.initialized RX1 ∈ tb := tbm 65 (by decide +kernel) rfl
theorem k_66 : Cond.initialized RX0 ∈ tb := tbm 66 (by decide +kernel) rfl
theorem k_67 : Cond.initialized RX5 ∈ tb := tbm 67 (by decide +kernel) rfl
theorem k_68 : Cond.initialized RX8 ∈ tb := tbm 68 (by decide +kernel) rfl
theorem k_69 : Cond.initialized "java/lang/Throwable" ∈ tb := tbm 69 (by decide +kernel) rfl
theorem k_70 : Cond.initialized "java/lang/Exception" ∈ tb := tbm 70 (by decide +kernel) rfl
theorem k_71 : Cond.initialized "java/lang/RuntimeException" ∈ tb := tbm 71 (by decide +kernel) rfl
theorem k_72 : Cond.initialized "java/lang/IndexOutOfBoundsException" ∈ tb := tbm 72 (by decide +kernel) rfl
theorem k_73 : Cond.classLink RL 8 RX7 ∈ tb := tbm 73 (by decide +kernel) rfl
theorem k_74 : Cond.instantiable RX7 11 ∈ tb := tbm 74 (by decide +kernel) rfl
theorem k_75 : Cond.methodLink RL 28 yX7_init ∈ tb := tbm 75 (by decide +kernel) rfl
theorem k_76 : Cond.instanceMethod yX7_init ∈ tb := tbm 76 (by decide +kernel) rfl
set_option maxRecDepth 100000 in
theorem k_77 : Cond.code yX7_init cX7_init 1 none ∈ tb := tbm 77 (by rfl) rfl
theorem k_78 : Cond.methodLink RX7 1 objectInit ∈ tb := tbm 78 (by decide +kernel) rfl
theorem k_79 : Cond.instanceMethod objectInit ∈ tb := tbm 79 (by decide +kernel) rfl
set_option maxRecDepth 100000 in
theorem k_80 : Cond.code objectInit ⟨#[0xb1]⟩ 1 none ∈ tb := tbm 80 (by rfl) rfl
theorem k_81 : Cond.classLink RX7 7 RX4 ∈ tb := tbm 81 (by decide +kernel) rfl
theorem k_82 : Cond.instantiable RX4 3 ∈ tb := tbm 82 (by decide +kernel) rfl
theorem k_83 : Cond.methodLinkNest RX7 9 yX4_init "ErrorNames" ∈ lw_tbl := List.mem_of_getElem? (i := 83) (by decide +kernel)
theorem k_84 : Cond.instanceMethod yX4_init ∈ tb := tbm 84 (by decide +kernel) rfl
set_option maxRecDepth 100000 in
theorem k_85 : Cond.code yX4_init cX4_init 1 none ∈ tb := tbm 85 (by rfl) rfl
theorem k_86 : Cond.methodLink RX4 3 objectInit ∈ tb := tbm 86 (by decide +kernel) rfl
theorem k_87 : Cond.fieldLink RX4 9 "ErrorNames$Procedures" "kinds" "[I" ∈ tb := tbm 87 (by decide +kernel) rfl
theorem k_88 : Cond.fieldLink RX4 15 "ErrorNames$Procedures" "numbers" "[I" ∈ tb := tbm 88 (by decide +kernel) rfl
theorem k_89 : Cond.fieldLink RX4 18 "ErrorNames$Procedures" "lengths" "[I" ∈ tb := tbm 89 (by decide +kernel) rfl
theorem k_97 : Cond.arrayClass .int ∈ tb := tbm 97 (by decide +kernel) rfl
theorem k_98 : Cond.classLink RX7 16 RX3 ∈ tb := tbm 98 (by decide +kernel) rfl
theorem k_99 : Cond.instantiable RX3 2 ∈ tb := tbm 99 (by decide +kernel) rfl
theorem k_100 : Cond.methodLinkNest RX7 18 yX3_init "ErrorNames" ∈ lw_tbl := List.mem_of_getElem? (i := 100) (by decide +kernel)
theorem k_101 : Cond.instanceMethod yX3_init ∈ tb := tbm 101 (by decide +kernel) rfl
set_option maxRecDepth 100000 in
theorem k_102 : Cond.code yX3_init cX3_init 1 none ∈ tb := tbm 102 (by rfl) rfl
theorem k_103 : Cond.methodLink RX3 3 objectInit ∈ tb := tbm 103 (by decide +kernel) rfl
theorem k_104 : Cond.classLink RX3 9 RX2 ∈ tb := tbm 104 (by decide +kernel) rfl
theorem k_105 : Cond.instantiable RX2 3 ∈ tb := tbm 105 (by decide +kernel) rfl
theorem k_106 : Cond.methodLinkNest RX3 11 yX2_init "ErrorNames" ∈ lw_tbl := List.mem_of_getElem? (i := 106) (by decide +kernel)
theorem k_107 : Cond.instanceMethod yX2_init ∈ tb := tbm 107 (by decide +kernel) rfl
set_option maxRecDepth 100000 in
theorem k_108 : Cond.code yX2_init cX2_init 1 none ∈ tb := tbm 108 (by rfl) rfl
theorem k_109 : Cond.methodLink RX2 3 objectInit ∈ tb := tbm 109 (by decide +kernel) rfl
theorem k_110 : Cond.fieldLink RX2 9 "ErrorNames$Pile" "kinds" "[I" ∈ tb := tbm 110 (by decide +kernel) rfl
theorem k_111 : Cond.fieldLink RX2 15 "ErrorNames$Pile" "numbers" "[I" ∈ tb := tbm 111 (by decide +kernel) rfl
theorem k_112 : Cond.fieldLink RX2 18 "ErrorNames$Pile" "count" "I" ∈ tb := tbm 112 (by decide +kernel) rfl
theorem k_120 : Cond.classLink RX3 18 RX6 ∈ tb := tbm 120 (by decide +kernel) rfl
theorem k_121 : Cond.instantiable RX6 2 ∈ tb := tbm 121 (by decide +kernel) rfl
theorem k_122 : Cond.methodLink RX3 20 yX6_init ∈ tb := tbm 122 (by decide +kernel) rfl
theorem k_123 : Cond.instanceMethod yX6_init ∈ tb := tbm 123 (by decide +kernel) rfl
set_option maxRecDepth 100000 in
theorem k_124 : Cond.code yX6_init cX6_init 1 none ∈ tb := tbm 124 (by rfl) rfl
theorem k_125 : Cond.methodLink RX6 3 objectInit ∈ tb := tbm 125 (by decide +kernel) rfl
theorem k_126 : Cond.methodLink RX6 18 yJ7_fill_53178 ∈ tb := tbm 126 (by decide +kernel) rfl
theorem k_127 : Cond.static yJ7_fill_53178 ∈ tb := tbm 127 (by decide +kernel) rfl
set_option maxRecDepth 100000 in
theorem k_128 : Cond.code yJ7_fill_53178 cJ7_fill_53178 4 none ∈ tb := tbm 128 (by rfl) rfl
theorem k_129 : Cond.fieldLink RX6 9 "ErrorNames$Table" "kinds" "[I" ∈ tb := tbm 129 (by decide +kernel) rfl
theorem k_130 : Cond.fieldLink RX6 15 "ErrorNames$Table" "numbers" "[I" ∈ tb := tbm 130 (by decide +kernel) rfl
theorem k_136 : Cond.fieldLink RX3 12 "ErrorNames$PileOperators" "pile" "LErrorNames$Pile;" ∈ tb := tbm 136 (by decide +kernel) rfl
theorem k_137 : Cond.fieldLink RX3 21 "ErrorNames$PileOperators" "table" "LErrorNames$Table;" ∈ tb := tbm 137 (by decide +kernel) rfl
theorem k_143 : Cond.methodLink RX7 23 yX3_pile ∈ tb := tbm 143 (by decide +kernel) rfl
theorem k_144 : Cond.instanceMethod yX3_pile ∈ tb := tbm 144 (by decide +kernel) rfl
theorem k_145 : Cond.selects RX3 yX3_pile yX3_pile ∈ tb := tbm 145 (by decide +kernel) rfl
set_option maxRecDepth 100000 in
theorem k_146 : Cond.code yX3_pile cX3_pile 1 (some (.object "ErrorNames$Pile")) ∈ tb := tbm 146 (by rfl) rfl
theorem k_147 : Cond.methodLink RX7 30 yX3_table ∈ tb := tbm 147 (by decide +kernel) rfl
theorem k_148 : Cond.instanceMethod yX3_table ∈ tb := tbm 148 (by decide +kernel) rfl
theorem k_149 : Cond.selects RX3 yX3_table yX3_table ∈ tb := tbm 149 (by decide +kernel) rfl
set_option maxRecDepth 100000 in
theorem k_150 : Cond.code yX3_table cX3_table 1 (some (.object "ErrorNames$Table")) ∈ tb := tbm 150 (by rfl) rfl
theorem k_151 : Cond.classLink RX7 37 RX1 ∈ tb := tbm 151 (by decide +kernel) rfl
theorem k_152 : Cond.instantiable RX1 1 ∈ tb := tbm 152 (by decide +kernel) rfl
theorem k_153 : Cond.methodLink RX7 39 yX1_init ∈ tb := tbm 153 (by decide +kernel) rfl
theorem k_154 : Cond.instanceMethod yX1_init ∈ tb := tbm 154 (by decide +kernel) rfl
set_option maxRecDepth 100000 in
theorem k_155 : Cond.code yX1_init cX1_init 1 none ∈ tb := tbm 155 (by rfl) rfl
theorem k_156 : Cond.methodLink RX1 3 objectInit ∈ tb := tbm 156 (by decide +kernel) rfl
theorem k_157 : Cond.methodLink RX1 15 yJ7_fill_53178 ∈ tb := tbm 157 (by decide +kernel) rfl
theorem k_158 : Cond.fieldLink RX1 9 "ErrorNames$Handlers" "procedures" "[I" ∈ tb := tbm 158 (by decide +kernel) rfl
theorem k_162 : Cond.classLink RX7 44 RX0 ∈ tb := tbm 162 (by decide +kernel) rfl
theorem k_163 : Cond.instantiable RX0 8 ∈ tb := tbm 163 (by decide +kernel) rfl
theorem k_164 : Cond.methodLinkNest RX7 46 yX0_init "ErrorNames" ∈ lw_tbl := List.mem_of_getElem? (i := 164) (by decide +kernel)
theorem k_165 : Cond.instanceMethod yX0_init ∈ tb := tbm 165 (by decide +kernel) rfl
set_option maxRecDepth 100000 in
theorem k_166 : Cond.code yX0_init cX0_init 1 none ∈ tb := tbm 166 (by rfl) rfl
theorem k_167 : Cond.methodLink RX0 3 objectInit ∈ tb := tbm 167 (by decide +kernel) rfl
theorem k_168 : Cond.fieldLink RX0 9 "ErrorNames$Frames" "sorts" "[I" ∈ tb := tbm 168 (by decide +kernel) rfl
theorem k_169 : Cond.fieldLink RX0 15 "ErrorNames$Frames" "subjects" "[I" ∈ tb := tbm 169 (by decide +kernel) rfl
theorem k_170 : Cond.fieldLink RX0 18 "ErrorNames$Frames" "places" "[I" ∈ tb := tbm 170 (by decide +kernel) rfl
theorem k_171 : Cond.fieldLink RX0 21 "ErrorNames$Frames" "nexts" "[J" ∈ tb := tbm 171 (by decide +kernel) rfl
theorem k_172 : Cond.fieldLink RX0 25 "ErrorNames$Frames" "bys" "[I" ∈ tb := tbm 172 (by decide +kernel) rfl
theorem k_173 : Cond.fieldLink RX0 28 "ErrorNames$Frames" "lasts" "[I" ∈ tb := tbm 173 (by decide +kernel) rfl
theorem k_174 : Cond.fieldLink RX0 31 "ErrorNames$Frames" "count" "I" ∈ tb := tbm 174 (by decide +kernel) rfl
theorem k_175 : Cond.fieldLink RX0 35 "ErrorNames$Frames" "most" "I" ∈ tb := tbm 175 (by decide +kernel) rfl
theorem k_193 : Cond.arrayClass .long ∈ tb := tbm 193 (by decide +kernel) rfl
theorem k_194 : Cond.classLink RX7 51 RX5 ∈ tb := tbm 194 (by decide +kernel) rfl
theorem k_195 : Cond.instantiable RX5 6 ∈ tb := tbm 195 (by decide +kernel) rfl
theorem k_196 : Cond.methodLinkNest RX7 53 yX5_init "ErrorNames" ∈ lw_tbl := List.mem_of_getElem? (i := 196) (by decide +kernel)
theorem k_197 : Cond.instanceMethod yX5_init ∈ tb := tbm 197 (by decide +kernel) rfl
set_option maxRecDepth 100000 in
theorem k_198 : Cond.code yX5_init cX5_init 1 none ∈ tb := tbm 198 (by rfl) rfl
theorem k_199 : Cond.methodLink RX5 3 objectInit ∈ tb := tbm 199 (by decide +kernel) rfl
theorem k_200 : Cond.classLink RX5 9 RX2 ∈ tb := tbm 200 (by decide +kernel) rfl
theorem k_201 : Cond.methodLinkNest RX5 11 yX2_init "ErrorNames" ∈ lw_tbl := List.mem_of_getElem? (i := 201) (by decide +kernel)
theorem k_202 : Cond.fieldLink RX5 12 "ErrorNames$Report" "pile" "LErrorNames$Pile;" ∈ tb := tbm 202 (by decide +kernel) rfl
theorem k_203 : Cond.fieldLink RX5 22 "ErrorNames$Report" "error" "I" ∈ tb := tbm 203 (by decide +kernel) rfl
theorem k_204 : Cond.fieldLink RX5 18 "ErrorNames$Report" "command" "I" ∈ tb := tbm 204 (by decide +kernel) rfl
theorem k_205 : Cond.fieldLink RX5 29 "ErrorNames$Report" "within" "I" ∈ tb := tbm 205 (by decide +kernel) rfl
theorem k_206 : Cond.fieldLink RX5 36 "ErrorNames$Report" "inAll" "I" ∈ tb := tbm 206 (by decide +kernel) rfl
theorem k_207 : Cond.fieldLink RX5 25 "ErrorNames$Report" "isNew" "Z" ∈ tb := tbm 207 (by decide +kernel) rfl
theorem k_221 : Cond.fieldLink RX7 10 "ErrorNames" "procedures" "LErrorNames$Procedures;" ∈ tb := tbm 221 (by decide +kernel) rfl
theorem k_222 : Cond.fieldLink RX7 19 "ErrorNames" "pileOperators" "LErrorNames$PileOperators;" ∈ tb := tbm 222 (by decide +kernel) rfl
theorem k_223 : Cond.fieldLink RX7 27 "ErrorNames" "pile" "LErrorNames$Pile;" ∈ tb := tbm 223 (by decide +kernel) rfl
theorem k_224 : Cond.fieldLink RX7 34 "ErrorNames" "table" "LErrorNames$Table;" ∈ tb := tbm 224 (by decide +kernel) rfl
theorem k_225 : Cond.fieldLink RX7 40 "ErrorNames" "handlers" "LErrorNames$Handlers;" ∈ tb := tbm 225 (by decide +kernel) rfl
theorem k_226 : Cond.fieldLink RX7 47 "ErrorNames" "frames" "LErrorNames$Frames;" ∈ tb := tbm 226 (by decide +kernel) rfl
theorem k_227 : Cond.fieldLink RX7 54 "ErrorNames" "report" "LErrorNames$Report;" ∈ tb := tbm 227 (by decide +kernel) rfl
theorem k_228 : Cond.fieldLink RX7 110 "ErrorNames" "interrupted" "Z" ∈ tb := tbm 228 (by decide +kernel) rfl
theorem k_229 : Cond.fieldLink RX7 93 "ErrorNames" "endedBy" "I" ∈ tb := tbm 229 (by decide +kernel) rfl
theorem k_230 : Cond.fieldLink RX7 104 "ErrorNames" "stepsDone" "I" ∈ tb := tbm 230 (by decide +kernel) rfl
theorem k_231 : Cond.fieldLink RX7 97 "ErrorNames" "handlersBegun" "I" ∈ tb := tbm 231 (by decide +kernel) rfl
theorem k_255 : Cond.methodLink RL 32 yX7_token ∈ tb := tbm 255 (by decide +kernel) rfl
theorem k_256 : Cond.instanceMethod yX7_token ∈ tb := tbm 256 (by decide +kernel) rfl
theorem k_257 : Cond.selects RX7 yX7_token yX7_token ∈ tb := tbm 257 (by decide +kernel) rfl
set_option maxRecDepth 100000 in
theorem k_258 : Cond.code yX7_token cX7_token 4 (some .int) ∈ tb := tbm 258 (by rfl) rfl
theorem k_259 : Cond.methodLink RX7 58 yX4_has ∈ tb := tbm 259 (by decide +kernel) rfl
theorem k_260 : Cond.instanceMethod yX4_has ∈ tb := tbm 260 (by decide +kernel) rfl
theorem k_261 : Cond.selects RX4 yX4_has yX4_has ∈ tb := tbm 261 (by decide +kernel) rfl
set_option maxRecDepth 100000 in
theorem k_262 : Cond.code yX4_has cX4_has 2 (some .boolean) ∈ tb := tbm 262 (by rfl) rfl
theorem k_263 : Cond.methodLink RX7 62 yX7_isOfKind ∈ tb := tbm 263 (by decide +kernel) rfl
theorem k_264 : Cond.static yX7_isOfKind ∈ tb := tbm 264 (by decide +kernel) rfl
set_option maxRecDepth 100000 in
theorem k_265 : Cond.code yX7_isOfKind cX7_isOfKind 2 (some .boolean) ∈ tb := tbm 265 (by rfl) rfl
theorem k_266 : Cond.methodLink RX7 66 yX4_length ∈ tb := tbm 266 (by decide +kernel) rfl
theorem k_267 : Cond.instanceMethod yX4_length ∈ tb := tbm 267 (by decide +kernel) rfl
theorem k_268 : Cond.selects RX4 yX4_length yX4_length ∈ tb := tbm 268 (by decide +kernel) rfl
set_option maxRecDepth 100000 in
theorem k_269 : Cond.code yX4_length cX4_length 2 (some .int) ∈ tb := tbm 269 (by rfl) rfl
theorem k_270 : Cond.methodLink RX7 70 yX4_append ∈ tb := tbm 270 (by decide +kernel) rfl
theorem k_271 : Cond.instanceMethod yX4_append ∈ tb := tbm 271 (by decide +kernel) rfl
theorem k_272 : Cond.selects RX4 yX4_append yX4_append ∈ tb := tbm 272 (by decide +kernel) rfl
set_option maxRecDepth 100000 in
theorem k_273 : Cond.code yX4_append cX4_append 5 (some .int) ∈ tb := tbm 273 (by rfl) rfl
theorem k_274 : Cond.methodLink RX4 21 yX4_has ∈ tb := tbm 274 (by decide +kernel) rfl
theorem k_275 : Cond.methodLink RL 37 yX7_clear ∈ tb := tbm 275 (by decide +kernel) rfl
theorem k_276 : Cond.instanceMethod yX7_clear ∈ tb := tbm 276 (by decide +kernel) rfl
theorem k_277 : Cond.selects RX7 yX7_clear yX7_clear ∈ tb := tbm 277 (by decide +kernel) rfl
set_option maxRecDepth 100000 in
theorem k_278 : Cond.code yX7_clear cX7_clear 2 (some .int) ∈ tb := tbm 278 (by rfl) rfl
theorem k_279 : Cond.methodLink RX7 74 yX4_wipe ∈ tb := tbm 279 (by decide +kernel) rfl
theorem k_280 : Cond.instanceMethod yX4_wipe ∈ tb := tbm 280 (by decide +kernel) rfl
theorem k_281 : Cond.selects RX4 yX4_wipe yX4_wipe ∈ tb := tbm 281 (by decide +kernel) rfl
set_option maxRecDepth 100000 in
theorem k_282 : Cond.code yX4_wipe cX4_wipe 3 (some .int) ∈ tb := tbm 282 (by rfl) rfl
theorem k_283 : Cond.methodLink RX4 25 yX4_length ∈ tb := tbm 283 (by decide +kernel) rfl
theorem k_284 : Cond.methodLink RL 41 yX7_push ∈ tb := tbm 284 (by decide +kernel) rfl
theorem k_285 : Cond.instanceMethod yX7_push ∈ tb := tbm 285 (by decide +kernel) rfl
theorem k_286 : Cond.selects RX7 yX7_push yX7_push ∈ tb := tbm 286 (by decide +kernel) rfl
set_option maxRecDepth 100000 in
theorem k_287 : Cond.code yX7_push cX7_push 3 (some .int) ∈ tb := tbm 287 (by rfl) rfl
theorem k_288 : Cond.methodLink RX7 77 yX2_put ∈ tb := tbm 288 (by decide +kernel) rfl
theorem k_289 : Cond.instanceMethod yX2_put ∈ tb := tbm 289 (by decide +kernel) rfl
theorem k_290 : Cond.selects RX2 yX2_put yX2_put ∈ tb := tbm 290 (by decide +kernel) rfl
set_option maxRecDepth 100000 in
theorem k_291 : Cond.code yX2_put cX2_put 3 (some .boolean) ∈ tb := tbm 291 (by rfl) rfl
theorem k_292 : Cond.methodLink RX7 82 yX2_count ∈ tb := tbm 292 (by decide +kernel) rfl
theorem k_293 : Cond.instanceMethod yX2_count ∈ tb := tbm 293 (by decide +kernel) rfl
theorem k_294 : Cond.selects RX2 yX2_count yX2_count ∈ tb := tbm 294 (by decide +kernel) rfl
set_option maxRecDepth 100000 in
theorem k_295 : Cond.code yX2_count cX2_count 1 (some .int) ∈ tb := tbm 295 (by rfl) rfl
theorem k_296 : Cond.methodLink RL 45 yX7_drop ∈ tb := tbm 296 (by decide +kernel) rfl
theorem k_297 : Cond.instanceMethod yX7_drop ∈ tb := tbm 297 (by decide +kernel) rfl
theorem k_298 : Cond.selects RX7 yX7_drop yX7_drop ∈ tb := tbm 298 (by decide +kernel) rfl
set_option maxRecDepth 100000 in
theorem k_299 : Cond.code yX7_drop cX7_drop 2 (some .int) ∈ tb := tbm 299 (by rfl) rfl
theorem k_300 : Cond.methodLink RX7 86 yX2_takeOff ∈ tb := tbm 300 (by decide +kernel) rfl
theorem k_301 : Cond.instanceMethod yX2_takeOff ∈ tb := tbm 301 (by decide +kernel) rfl
theorem k_302 : Cond.selects RX2 yX2_takeOff yX2_takeOff ∈ tb := tbm 302 (by decide +kernel) rfl
set_option maxRecDepth 100000 in
theorem k_303 : Cond.code yX2_takeOff cX2_takeOff 2 none ∈ tb := tbm 303 (by rfl) rfl
theorem k_304 : Cond.methodLink RL 50 yX7_run ∈ tb := tbm 304 (by decide +kernel) rfl
theorem k_305 : Cond.instanceMethod yX7_run ∈ tb := tbm 305 (by decide +kernel) rfl
theorem k_306 : Cond.selects RX7 yX7_run yX7_run ∈ tb := tbm 306 (by decide +kernel) rfl
set_option maxRecDepth 100000 in
theorem k_307 : Cond.code yX7_run cX7_run 4 (some .int) ∈ tb := tbm 307 (by rfl) rfl
theorem k_308 : Cond.methodLink RX7 90 yX0_startWith ∈ tb := tbm 308 (by decide +kernel) rfl
theorem k_309 : Cond.instanceMethod yX0_startWith ∈ tb := tbm 309 (by decide +kernel) rfl
theorem k_310 : Cond.selects RX0 yX0_startWith yX0_startWith ∈ tb := tbm 310 (by decide +kernel) rfl
set_option maxRecDepth 100000 in
theorem k_311 : Cond.code yX0_startWith cX0_startWith 2 none ∈ tb := tbm 311 (by rfl) rfl
theorem k_312 : Cond.methodLink RX0 38 yX0_add ∈ tb := tbm 312 (by decide +kernel) rfl
theorem k_313 : Cond.instanceMethod yX0_add ∈ tb := tbm 313 (by decide +kernel) rfl
theorem k_314 : Cond.selects RX0 yX0_add yX0_add ∈ tb := tbm 314 (by decide +kernel) rfl
set_option maxRecDepth 100000 in
theorem k_315 : Cond.code yX0_add cX0_add 3 none ∈ tb := tbm 315 (by rfl) rfl
theorem k_316 : Cond.methodLink RX7 100 yX0_count ∈ tb := tbm 316 (by decide +kernel) rfl
theorem k_317 : Cond.instanceMethod yX0_count ∈ tb := tbm 317 (by decide +kernel) rfl
theorem k_318 : Cond.selects RX0 yX0_count yX0_count ∈ tb := tbm 318 (by decide +kernel) rfl
set_option maxRecDepth 100000 in
theorem k_319 : Cond.code yX0_count cX0_count 1 (some .int) ∈ tb := tbm 319 (by rfl) rfl
theorem k_320 : Cond.methodLink RX7 101 yX7_step ∈ tb := tbm 320 (by decide +kernel) rfl
theorem k_322 : Cond.instanceMethod yX7_step ∈ tb := tbm 322 (by decide +kernel) rfl
set_option maxRecDepth 100000 in
theorem k_323 : Cond.code yX7_step cX7_step 1 none ∈ tb := tbm 323 (by rfl) rfl
theorem k_324 : Cond.methodLink RX7 165 yX0_topSort ∈ tb := tbm 324 (by decide +kernel) rfl
theorem k_325 : Cond.instanceMethod yX0_topSort ∈ tb := tbm 325 (by decide +kernel) rfl
theorem k_326 : Cond.selects RX0 yX0_topSort yX0_topSort ∈ tb := tbm 326 (by decide +kernel) rfl
set_option maxRecDepth 100000 in
theorem k_327 : Cond.code yX0_topSort cX0_topSort 1 (some .int) ∈ tb := tbm 327 (by rfl) rfl
theorem k_328 : Cond.methodLink RX7 168 yX7_goOn ∈ tb := tbm 328 (by decide +kernel) rfl
theorem k_330 : Cond.instanceMethod yX7_goOn ∈ tb := tbm 330 (by decide +kernel) rfl
set_option maxRecDepth 100000 in
theorem k_331 : Cond.code yX7_goOn cX7_goOn 6 none ∈ tb := tbm 331 (by rfl) rfl
theorem k_332 : Cond.methodLink RX7 180 yX0_topSubject ∈ tb := tbm 332 (by decide +kernel) rfl
theorem k_333 : Cond.instanceMethod yX0_topSubject ∈ tb := tbm 333 (by decide +kernel) rfl
theorem k_334 : Cond.selects RX0 yX0_topSubject yX0_topSubject ∈ tb := tbm 334 (by decide +kernel) rfl
set_option maxRecDepth 100000 in
theorem k_335 : Cond.code yX0_topSubject cX0_topSubject 1 (some .int) ∈ tb := tbm 335 (by rfl) rfl
theorem k_336 : Cond.methodLink RX7 183 yX0_topPlace ∈ tb := tbm 336 (by decide +kernel) rfl
theorem k_337 : Cond.instanceMethod yX0_topPlace ∈ tb := tbm 337 (by decide +kernel) rfl
theorem k_338 : Cond.selects RX0 yX0_topPlace yX0_topPlace ∈ tb := tbm 338 (by decide +kernel) rfl
set_option maxRecDepth 100000 in
theorem k_339 : Cond.code yX0_topPlace cX0_topPlace 1 (some .int) ∈ tb := tbm 339 (by rfl) rfl
theorem k_340 : Cond.methodLink RX7 177 yX0_takeTop ∈ tb := tbm 340 (by decide +kernel) rfl
theorem k_341 : Cond.instanceMethod yX0_takeTop ∈ tb := tbm 341 (by decide +kernel) rfl
theorem k_342 : Cond.selects RX0 yX0_takeTop yX0_takeTop ∈ tb := tbm 342 (by decide +kernel) rfl
set_option maxRecDepth 100000 in
theorem k_343 : Cond.code yX0_takeTop cX0_takeTop 1 none ∈ tb := tbm 343 (by rfl) rfl
theorem k_344 : Cond.methodLink RX7 186 yX0_goBy ∈ tb := tbm 344 (by decide +kernel) rfl
theorem k_345 : Cond.instanceMethod yX0_goBy ∈ tb := tbm 345 (by decide +kernel) rfl
theorem k_346 : Cond.selects RX0 yX0_goBy yX0_goBy ∈ tb := tbm 346 (by decide +kernel) rfl
set_option maxRecDepth 100000 in
theorem k_347 : Cond.code yX0_goBy cX0_goBy 1 none ∈ tb := tbm 347 (by rfl) rfl
theorem k_348 : Cond.methodLink RX7 189 yX4_kindAt ∈ tb := tbm 348 (by decide +kernel) rfl
theorem k_349 : Cond.instanceMethod yX4_kindAt ∈ tb := tbm 349 (by decide +kernel) rfl
theorem k_350 : Cond.selects RX4 yX4_kindAt yX4_kindAt ∈ tb := tbm 350 (by decide +kernel) rfl
set_option maxRecDepth 100000 in
theorem k_351 : Cond.code yX4_kindAt cX4_kindAt 3 (some .int) ∈ tb := tbm 351 (by rfl) rfl
theorem k_352 : Cond.methodLink RX4 29 yX4_hasToken ∈ tb := tbm 352 (by decide +kernel) rfl
theorem k_354 : Cond.instanceMethod yX4_hasToken ∈ tb := tbm 354 (by decide +kernel) rfl
set_option maxRecDepth 100000 in
theorem k_355 : Cond.code yX4_hasToken cX4_hasToken 3 (some .boolean) ∈ tb := tbm 355 (by rfl) rfl
theorem k_356 : Cond.methodLink RX7 192 yX4_numberAt ∈ tb := tbm 356 (by decide +kernel) rfl
theorem k_357 : Cond.instanceMethod yX4_numberAt ∈ tb := tbm 357 (by decide +kernel) rfl
theorem k_358 : Cond.selects RX4 yX4_numberAt yX4_numberAt ∈ tb := tbm 358 (by decide +kernel) rfl
set_option maxRecDepth 100000 in
theorem k_359 : Cond.code yX4_numberAt cX4_numberAt 3 (some .int) ∈ tb := tbm 359 (by rfl) rfl
theorem k_360 : Cond.methodLink RX7 194 yX7_operate ∈ tb := tbm 360 (by decide +kernel) rfl
theorem k_362 : Cond.instanceMethod yX7_operate ∈ tb := tbm 362 (by decide +kernel) rfl
set_option maxRecDepth 100000 in
theorem k_363 : Cond.code yX7_operate cX7_operate 3 (some .int) ∈ tb := tbm 363 (by rfl) rfl
theorem k_364 : Cond.methodLink RX7 240 yX7_misfit ∈ tb := tbm 364 (by decide +kernel) rfl
theorem k_366 : Cond.instanceMethod yX7_misfit ∈ tb := tbm 366 (by decide +kernel) rfl
set_option maxRecDepth 100000 in
theorem k_367 : Cond.code yX7_misfit cX7_misfit 6 (some .int) ∈ tb := tbm 367 (by rfl) rfl
theorem k_368 : Cond.fieldLink RX7 233 "ErrorNames" "TAKES" "[I" ∈ tb := tbm 368 (by decide +kernel) rfl
theorem k_370 : Cond.methodLink RX7 237 yX2_kindUnder ∈ tb := tbm 370 (by decide +kernel) rfl
theorem k_371 : Cond.instanceMethod yX2_kindUnder ∈ tb := tbm 371 (by decide +kernel) rfl
theorem k_372 : Cond.selects RX2 yX2_kindUnder yX2_kindUnder ∈ tb := tbm 372 (by decide +kernel) rfl
set_option maxRecDepth 100000 in
theorem k_373 : Cond.code yX2_kindUnder cX2_kindUnder 2 (some .int) ∈ tb := tbm 373 (by rfl) rfl
theorem k_374 : Cond.methodLink RX7 243 yX7_execute ∈ tb := tbm 374 (by decide +kernel) rfl
theorem k_376 : Cond.instanceMethod yX7_execute ∈ tb := tbm 376 (by decide +kernel) rfl
set_option maxRecDepth 100000 in
theorem k_377 : Cond.code yX7_execute cX7_execute 3 (some .int) ∈ tb := tbm 377 (by rfl) rfl
theorem k_378 : Cond.methodLink RX7 249 yX2_numberUnder ∈ tb := tbm 378 (by decide +kernel) rfl
theorem k_379 : Cond.instanceMethod yX2_numberUnder ∈ tb := tbm 379 (by decide +kernel) rfl
theorem k_380 : Cond.selects RX2 yX2_numberUnder yX2_numberUnder ∈ tb := tbm 380 (by decide +kernel) rfl
set_option maxRecDepth 100000 in
theorem k_381 : Cond.code yX2_numberUnder cX2_numberUnder 2 (some .int) ∈ tb := tbm 381 (by rfl) rfl
theorem k_382 : Cond.methodLink RX7 252 yX7_begin ∈ tb := tbm 382 (by decide +kernel) rfl
theorem k_384 : Cond.instanceMethod yX7_begin ∈ tb := tbm 384 (by decide +kernel) rfl
set_option maxRecDepth 100000 in
theorem k_385 : Cond.code yX7_begin cX7_begin 4 (some .int) ∈ tb := tbm 385 (by rfl) rfl
theorem k_386 : Cond.methodLink RX7 205 yX0_roomFor ∈ tb := tbm 386 (by decide +kernel) rfl
theorem k_387 : Cond.instanceMethod yX0_roomFor ∈ tb := tbm 387 (by decide +kernel) rfl
theorem k_388 : Cond.selects RX0 yX0_roomFor yX0_roomFor ∈ tb := tbm 388 (by decide +kernel) rfl
set_option maxRecDepth 100000 in
theorem k_389 : Cond.code yX0_roomFor cX0_roomFor 2 (some .boolean) ∈ tb := tbm 389 (by rfl) rfl
theorem k_390 : Cond.methodLink RX7 217 yX0_add ∈ tb := tbm 390 (by decide +kernel) rfl
theorem k_391 : Cond.methodLink RX7 154 yX6_kindOf ∈ tb := tbm 391 (by decide +kernel) rfl
theorem k_392 : Cond.instanceMethod yX6_kindOf ∈ tb := tbm 392 (by decide +kernel) rfl
theorem k_393 : Cond.selects RX6 yX6_kindOf yX6_kindOf ∈ tb := tbm 393 (by decide +kernel) rfl
set_option maxRecDepth 100000 in
theorem k_394 : Cond.code yX6_kindOf cX6_kindOf 2 (some .int) ∈ tb := tbm 394 (by rfl) rfl
theorem k_395 : Cond.methodLink RX7 157 yX6_numberOf ∈ tb := tbm 395 (by decide +kernel) rfl
theorem k_396 : Cond.instanceMethod yX6_numberOf ∈ tb := tbm 396 (by decide +kernel) rfl
theorem k_397 : Cond.selects RX6 yX6_numberOf yX6_numberOf ∈ tb := tbm 397 (by decide +kernel) rfl
set_option maxRecDepth 100000 in
theorem k_398 : Cond.code yX6_numberOf cX6_numberOf 2 (some .int) ∈ tb := tbm 398 (by rfl) rfl
theorem k_399 : Cond.methodLink RX7 280 yX3_lookUp ∈ tb := tbm 399 (by decide +kernel) rfl
theorem k_400 : Cond.instanceMethod yX3_lookUp ∈ tb := tbm 400 (by decide +kernel) rfl
theorem k_401 : Cond.selects RX3 yX3_lookUp yX3_lookUp ∈ tb := tbm 401 (by decide +kernel) rfl
set_option maxRecDepth 100000 in
theorem k_402 : Cond.code yX3_lookUp cX3_lookUp 3 (some .int) ∈ tb := tbm 402 (by rfl) rfl
theorem k_403 : Cond.methodLink RX3 76 yX6_kindOf ∈ tb := tbm 403 (by decide +kernel) rfl
theorem k_404 : Cond.methodLink RX3 79 yX6_numberOf ∈ tb := tbm 404 (by decide +kernel) rfl
theorem k_405 : Cond.methodLink RX3 40 yX2_replace ∈ tb := tbm 405 (by decide +kernel) rfl
theorem k_406 : Cond.instanceMethod yX2_replace ∈ tb := tbm 406 (by decide +kernel) rfl
theorem k_407 : Cond.selects RX2 yX2_replace yX2_replace ∈ tb := tbm 407 (by decide +kernel) rfl
set_option maxRecDepth 100000 in
theorem k_408 : Cond.code yX2_replace cX2_replace 4 none ∈ tb := tbm 408 (by rfl) rfl
theorem k_409 : Cond.methodLink RX7 246 yX7_beginIf ∈ tb := tbm 409 (by decide +kernel) rfl
theorem k_411 : Cond.instanceMethod yX7_beginIf ∈ tb := tbm 411 (by decide +kernel) rfl
set_option maxRecDepth 100000 in
theorem k_412 : Cond.code yX7_beginIf cX7_beginIf 1 (some .int) ∈ tb := tbm 412 (by rfl) rfl
theorem k_413 : Cond.methodLink RX7 255 yX7_repeat ∈ tb := tbm 413 (by decide +kernel) rfl
theorem k_415 : Cond.instanceMethod yX7_repeat ∈ tb := tbm 415 (by decide +kernel) rfl
set_option maxRecDepth 100000 in
theorem k_416 : Cond.code yX7_repeat cX7_repeat 2 (some .int) ∈ tb := tbm 416 (by rfl) rfl
theorem k_417 : Cond.methodLink RX7 261 yX7_beginLoop ∈ tb := tbm 417 (by decide +kernel) rfl
theorem k_419 : Cond.instanceMethod yX7_beginLoop ∈ tb := tbm 419 (by decide +kernel) rfl
set_option maxRecDepth 100000 in
theorem k_420 : Cond.code yX7_beginLoop cX7_beginLoop 6 (some .int) ∈ tb := tbm 420 (by rfl) rfl
theorem k_421 : Cond.methodLink RX7 283 yX0_countBy ∈ tb := tbm 421 (by decide +kernel) rfl
theorem k_422 : Cond.instanceMethod yX0_countBy ∈ tb := tbm 422 (by decide +kernel) rfl
theorem k_423 : Cond.selects RX0 yX0_countBy yX0_countBy ∈ tb := tbm 423 (by decide +kernel) rfl
set_option maxRecDepth 100000 in
theorem k_424 : Cond.code yX0_countBy cX0_countBy 4 none ∈ tb := tbm 424 (by rfl) rfl
theorem k_425 : Cond.methodLink RX7 258 yX7_countThrough ∈ tb := tbm 425 (by decide +kernel) rfl
theorem k_427 : Cond.instanceMethod yX7_countThrough ∈ tb := tbm 427 (by decide +kernel) rfl
set_option maxRecDepth 100000 in
theorem k_428 : Cond.code yX7_countThrough cX7_countThrough 4 (some .int) ∈ tb := tbm 428 (by rfl) rfl
theorem k_429 : Cond.methodLink RX7 265 yX7_exitLoop ∈ tb := tbm 429 (by decide +kernel) rfl
theorem k_431 : Cond.instanceMethod yX7_exitLoop ∈ tb := tbm 431 (by decide +kernel) rfl
set_option maxRecDepth 100000 in
theorem k_432 : Cond.code yX7_exitLoop cX7_exitLoop 2 (some .int) ∈ tb := tbm 432 (by rfl) rfl
theorem k_433 : Cond.methodLink RX7 287 yX0_loopToExit ∈ tb := tbm 433 (by decide +kernel) rfl
theorem k_434 : Cond.instanceMethod yX0_loopToExit ∈ tb := tbm 434 (by decide +kernel) rfl
theorem k_435 : Cond.selects RX0 yX0_loopToExit yX0_loopToExit ∈ tb := tbm 435 (by decide +kernel) rfl
set_option maxRecDepth 100000 in
theorem k_436 : Cond.code yX0_loopToExit cX0_loopToExit 2 (some .int) ∈ tb := tbm 436 (by rfl) rfl
theorem k_437 : Cond.methodLink RX7 107 yX0_cutTo ∈ tb := tbm 437 (by decide +kernel) rfl
theorem k_438 : Cond.instanceMethod yX0_cutTo ∈ tb := tbm 438 (by decide +kernel) rfl
theorem k_439 : Cond.selects RX0 yX0_cutTo yX0_cutTo ∈ tb := tbm 439 (by decide +kernel) rfl
set_option maxRecDepth 100000 in
theorem k_440 : Cond.code yX0_cutTo cX0_cutTo 2 none ∈ tb := tbm 440 (by rfl) rfl
theorem k_441 : Cond.methodLink RX7 227 yX7_stopBy ∈ tb := tbm 441 (by decide +kernel) rfl
theorem k_443 : Cond.instanceMethod yX7_stopBy ∈ tb := tbm 443 (by decide +kernel) rfl
set_option maxRecDepth 100000 in
theorem k_444 : Cond.code yX7_stopBy cX7_stopBy 3 none ∈ tb := tbm 444 (by rfl) rfl
theorem k_445 : Cond.methodLink RX7 230 yX0_topmostStopped ∈ tb := tbm 445 (by decide +kernel) rfl
theorem k_446 : Cond.instanceMethod yX0_topmostStopped ∈ tb := tbm 446 (by decide +kernel) rfl
theorem k_447 : Cond.selects RX0 yX0_topmostStopped yX0_topmostStopped ∈ tb := tbm 447 (by decide +kernel) rfl
set_option maxRecDepth 100000 in
theorem k_448 : Cond.code yX0_topmostStopped cX0_topmostStopped 2 (some .int) ∈ tb := tbm 448 (by rfl) rfl
theorem k_449 : Cond.methodLink RX7 208 yX2_full ∈ tb := tbm 449 (by decide +kernel) rfl
theorem k_450 : Cond.instanceMethod yX2_full ∈ tb := tbm 450 (by decide +kernel) rfl
theorem k_451 : Cond.selects RX2 yX2_full yX2_full ∈ tb := tbm 451 (by decide +kernel) rfl
set_option maxRecDepth 100000 in
theorem k_452 : Cond.code yX2_full cX2_full 1 (some .boolean) ∈ tb := tbm 452 (by rfl) rfl
theorem k_453 : Cond.methodLink RX7 268 yX7_guard ∈ tb := tbm 453 (by decide +kernel) rfl
theorem k_455 : Cond.instanceMethod yX7_guard ∈ tb := tbm 455 (by decide +kernel) rfl
set_option maxRecDepth 100000 in
theorem k_456 : Cond.code yX7_guard cX7_guard 1 (some .int) ∈ tb := tbm 456 (by rfl) rfl
theorem k_457 : Cond.methodLink RX7 271 yX7_setHandler ∈ tb := tbm 457 (by decide +kernel) rfl
theorem k_459 : Cond.instanceMethod yX7_setHandler ∈ tb := tbm 459 (by decide +kernel) rfl
set_option maxRecDepth 100000 in
theorem k_460 : Cond.code yX7_setHandler cX7_setHandler 4 (some .int) ∈ tb := tbm 460 (by rfl) rfl
theorem k_461 : Cond.methodLink RX7 290 yX1_takes ∈ tb := tbm 461 (by decide +kernel) rfl
theorem k_462 : Cond.instanceMethod yX1_takes ∈ tb := tbm 462 (by decide +kernel) rfl
theorem k_463 : Cond.selects RX1 yX1_takes yX1_takes ∈ tb := tbm 463 (by decide +kernel) rfl
set_option maxRecDepth 100000 in
theorem k_464 : Cond.code yX1_takes cX1_takes 2 (some .boolean) ∈ tb := tbm 464 (by rfl) rfl
theorem k_465 : Cond.methodLink RX7 293 yX1_set ∈ tb := tbm 465 (by decide +kernel) rfl
theorem k_466 : Cond.instanceMethod yX1_set ∈ tb := tbm 466 (by decide +kernel) rfl
theorem k_467 : Cond.selects RX1 yX1_set yX1_set ∈ tb := tbm 467 (by decide +kernel) rfl
set_option maxRecDepth 100000 in
theorem k_468 : Cond.code yX1_set cX1_set 3 none ∈ tb := tbm 468 (by rfl) rfl
theorem k_469 : Cond.methodLink RX1 21 yX1_takes ∈ tb := tbm 469 (by decide +kernel) rfl
theorem k_470 : Cond.methodLink RX7 274 yX7_raise ∈ tb := tbm 470 (by decide +kernel) rfl
theorem k_472 : Cond.instanceMethod yX7_raise ∈ tb := tbm 472 (by decide +kernel) rfl
set_option maxRecDepth 100000 in
theorem k_473 : Cond.code yX7_raise cX7_raise 2 (some .int) ∈ tb := tbm 473 (by rfl) rfl
theorem k_474 : Cond.methodLink RX7 277 yX7_tell ∈ tb := tbm 474 (by decide +kernel) rfl
theorem k_476 : Cond.instanceMethod yX7_tell ∈ tb := tbm 476 (by decide +kernel) rfl
set_option maxRecDepth 100000 in
theorem k_477 : Cond.code yX7_tell cX7_tell 2 (some .int) ∈ tb := tbm 477 (by rfl) rfl
theorem k_478 : Cond.methodLink RX7 131 yX5_has ∈ tb := tbm 478 (by decide +kernel) rfl
theorem k_479 : Cond.instanceMethod yX5_has ∈ tb := tbm 479 (by decide +kernel) rfl
theorem k_480 : Cond.selects RX5 yX5_has yX5_has ∈ tb := tbm 480 (by decide +kernel) rfl
set_option maxRecDepth 100000 in
theorem k_481 : Cond.code yX5_has cX5_has 2 (some .boolean) ∈ tb := tbm 481 (by rfl) rfl
theorem k_482 : Cond.methodLink RX7 132 yX5_told ∈ tb := tbm 482 (by decide +kernel) rfl
theorem k_483 : Cond.instanceMethod yX5_told ∈ tb := tbm 483 (by decide +kernel) rfl
theorem k_484 : Cond.selects RX5 yX5_told yX5_told ∈ tb := tbm 484 (by decide +kernel) rfl
set_option maxRecDepth 100000 in
theorem k_485 : Cond.code yX5_told cX5_told 2 (some .int) ∈ tb := tbm 485 (by rfl) rfl
theorem k_486 : Cond.methodLink RX5 32 yX2_count ∈ tb := tbm 486 (by decide +kernel) rfl
theorem k_487 : Cond.methodLink RX7 296 yX2_replace ∈ tb := tbm 487 (by decide +kernel) rfl
theorem k_488 : Cond.methodLink RX7 299 yX5_noMoreNew ∈ tb := tbm 488 (by decide +kernel) rfl
theorem k_489 : Cond.instanceMethod yX5_noMoreNew ∈ tb := tbm 489 (by decide +kernel) rfl
theorem k_490 : Cond.selects RX5 yX5_noMoreNew yX5_noMoreNew ∈ tb := tbm 490 (by decide +kernel) rfl
set_option maxRecDepth 100000 in
theorem k_491 : Cond.code yX5_noMoreNew cX5_noMoreNew 1 none ∈ tb := tbm 491 (by rfl) rfl
theorem k_492 : Cond.methodLink RX7 279 yX3_operate ∈ tb := tbm 492 (by decide +kernel) rfl
theorem k_493 : Cond.instanceMethod yX3_operate ∈ tb := tbm 493 (by decide +kernel) rfl
theorem k_494 : Cond.selects RX3 yX3_operate yX3_operate ∈ tb := tbm 494 (by decide +kernel) rfl
set_option maxRecDepth 100000 in
theorem k_495 : Cond.code yX3_operate cX3_operate 2 (some .int) ∈ tb := tbm 495 (by rfl) rfl
theorem k_496 : Cond.methodLink RX3 25 yX2_numberUnder ∈ tb := tbm 496 (by decide +kernel) rfl
theorem k_497 : Cond.methodLink RX3 29 yX3_reckoned ∈ tb := tbm 497 (by decide +kernel) rfl
theorem k_499 : Cond.instanceMethod yX3_reckoned ∈ tb := tbm 499 (by decide +kernel) rfl
set_option maxRecDepth 100000 in
theorem k_500 : Cond.code yX3_reckoned cX3_reckoned 3 (some .int) ∈ tb := tbm 500 (by rfl) rfl
theorem k_501 : Cond.methodLink RX3 33 yX3_divide ∈ tb := tbm 501 (by decide +kernel) rfl
theorem k_503 : Cond.instanceMethod yX3_divide ∈ tb := tbm 503 (by decide +kernel) rfl
set_option maxRecDepth 100000 in
theorem k_504 : Cond.code yX3_divide cX3_divide 3 (some .int) ∈ tb := tbm 504 (by rfl) rfl
theorem k_505 : Cond.methodLink RX3 36 yX3_topTwoAreTheSame ∈ tb := tbm 505 (by decide +kernel) rfl
theorem k_507 : Cond.instanceMethod yX3_topTwoAreTheSame ∈ tb := tbm 507 (by decide +kernel) rfl
set_option maxRecDepth 100000 in
theorem k_508 : Cond.code yX3_topTwoAreTheSame cX3_topTwoAreTheSame 1 (some .boolean) ∈ tb := tbm 508 (by rfl) rfl
theorem k_509 : Cond.methodLink RX3 48 yX2_kindUnder ∈ tb := tbm 509 (by decide +kernel) rfl
theorem k_510 : Cond.methodLink RX3 44 yX2_takeOff ∈ tb := tbm 510 (by decide +kernel) rfl
theorem k_511 : Cond.methodLink RX3 51 yX3_more ∈ tb := tbm 511 (by decide +kernel) rfl
theorem k_513 : Cond.instanceMethod yX3_more ∈ tb := tbm 513 (by decide +kernel) rfl
set_option maxRecDepth 100000 in
theorem k_514 : Cond.code yX3_more cX3_more 3 (some .int) ∈ tb := tbm 514 (by rfl) rfl
theorem k_515 : Cond.methodLink RX3 82 yX2_put ∈ tb := tbm 515 (by decide +kernel) rfl
theorem k_516 : Cond.methodLink RX3 54 yX3_swap ∈ tb := tbm 516 (by decide +kernel) rfl
theorem k_518 : Cond.instanceMethod yX3_swap ∈ tb := tbm 518 (by decide +kernel) rfl
set_option maxRecDepth 100000 in
theorem k_519 : Cond.code yX3_swap cX3_swap 5 (some .int) ∈ tb := tbm 519 (by rfl) rfl
theorem k_520 : Cond.methodLink RX3 58 yX3_pick ∈ tb := tbm 520 (by decide +kernel) rfl
theorem k_522 : Cond.instanceMethod yX3_pick ∈ tb := tbm 522 (by decide +kernel) rfl
set_option maxRecDepth 100000 in
theorem k_523 : Cond.code yX3_pick cX3_pick 2 (some .int) ∈ tb := tbm 523 (by rfl) rfl
theorem k_524 : Cond.methodLink RX3 61 yX2_count ∈ tb := tbm 524 (by decide +kernel) rfl
theorem k_525 : Cond.methodLink RX3 64 yX3_countToMark ∈ tb := tbm 525 (by decide +kernel) rfl
theorem k_527 : Cond.instanceMethod yX3_countToMark ∈ tb := tbm 527 (by decide +kernel) rfl
set_option maxRecDepth 100000 in
theorem k_528 : Cond.code yX3_countToMark cX3_countToMark 2 (some .int) ∈ tb := tbm 528 (by rfl) rfl
theorem k_529 : Cond.methodLink RX3 86 yX2_topmostMark ∈ tb := tbm 529 (by decide +kernel) rfl
theorem k_530 : Cond.instanceMethod yX2_topmostMark ∈ tb := tbm 530 (by decide +kernel) rfl
theorem k_531 : Cond.selects RX2 yX2_topmostMark yX2_topmostMark ∈ tb := tbm 531 (by decide +kernel) rfl
set_option maxRecDepth 100000 in
theorem k_532 : Cond.code yX2_topmostMark cX2_topmostMark 2 (some .int) ∈ tb := tbm 532 (by rfl) rfl
theorem k_533 : Cond.methodLink RX3 67 yX3_clearToMark ∈ tb := tbm 533 (by decide +kernel) rfl
theorem k_535 : Cond.instanceMethod yX3_clearToMark ∈ tb := tbm 535 (by decide +kernel) rfl
set_option maxRecDepth 100000 in
theorem k_536 : Cond.code yX3_clearToMark cX3_clearToMark 2 (some .int) ∈ tb := tbm 536 (by rfl) rfl
theorem k_537 : Cond.methodLink RX3 70 yX3_define ∈ tb := tbm 537 (by decide +kernel) rfl
theorem k_539 : Cond.instanceMethod yX3_define ∈ tb := tbm 539 (by decide +kernel) rfl
set_option maxRecDepth 100000 in
theorem k_540 : Cond.code yX3_define cX3_define 1 (some .int) ∈ tb := tbm 540 (by rfl) rfl
theorem k_541 : Cond.methodLink RX3 89 yX6_give ∈ tb := tbm 541 (by decide +kernel) rfl
theorem k_542 : Cond.instanceMethod yX6_give ∈ tb := tbm 542 (by decide +kernel) rfl
theorem k_543 : Cond.selects RX6 yX6_give yX6_give ∈ tb := tbm 543 (by decide +kernel) rfl
set_option maxRecDepth 100000 in
theorem k_544 : Cond.code yX6_give cX6_give 4 none ∈ tb := tbm 544 (by rfl) rfl
theorem k_545 : Cond.methodLink RX3 73 yX3_lookUp ∈ tb := tbm 545 (by decide +kernel) rfl
theorem k_546 : Cond.methodLink RX7 197 yX7_arise ∈ tb := tbm 546 (by decide +kernel) rfl
theorem k_548 : Cond.instanceMethod yX7_arise ∈ tb := tbm 548 (by decide +kernel) rfl
set_option maxRecDepth 100000 in
theorem k_549 : Cond.code yX7_arise cX7_arise 5 none ∈ tb := tbm 549 (by rfl) rfl
theorem k_550 : Cond.methodLink RX7 220 yX0_errorHandled ∈ tb := tbm 550 (by decide +kernel) rfl
theorem k_551 : Cond.instanceMethod yX0_errorHandled ∈ tb := tbm 551 (by decide +kernel) rfl
theorem k_552 : Cond.selects RX0 yX0_errorHandled yX0_errorHandled ∈ tb := tbm 552 (by decide +kernel) rfl
set_option maxRecDepth 100000 in
theorem k_553 : Cond.code yX0_errorHandled cX0_errorHandled 2 (some .int) ∈ tb := tbm 553 (by rfl) rfl
theorem k_554 : Cond.methodLink RX7 146 yX1_of ∈ tb := tbm 554 (by decide +kernel) rfl
theorem k_555 : Cond.instanceMethod yX1_of ∈ tb := tbm 555 (by decide +kernel) rfl
theorem k_556 : Cond.selects RX1 yX1_of yX1_of ∈ tb := tbm 556 (by decide +kernel) rfl
set_option maxRecDepth 100000 in
theorem k_557 : Cond.code yX1_of cX1_of 2 (some .int) ∈ tb := tbm 557 (by rfl) rfl
theorem k_558 : Cond.methodLink RX7 223 yX5_tell ∈ tb := tbm 558 (by decide +kernel) rfl
theorem k_559 : Cond.instanceMethod yX5_tell ∈ tb := tbm 559 (by decide +kernel) rfl
theorem k_560 : Cond.selects RX5 yX5_tell yX5_tell ∈ tb := tbm 560 (by decide +kernel) rfl
set_option maxRecDepth 100000 in
theorem k_561 : Cond.code yX5_tell cX5_tell 5 none ∈ tb := tbm 561 (by rfl) rfl
theorem k_562 : Cond.methodLink RX5 39 yX2_copy ∈ tb := tbm 562 (by decide +kernel) rfl
theorem k_563 : Cond.instanceMethod yX2_copy ∈ tb := tbm 563 (by decide +kernel) rfl
theorem k_564 : Cond.selects RX2 yX2_copy yX2_copy ∈ tb := tbm 564 (by decide +kernel) rfl
set_option maxRecDepth 100000 in
theorem k_565 : Cond.code yX2_copy cX2_copy 3 none ∈ tb := tbm 565 (by rfl) rfl
theorem k_566 : Cond.methodLink RX7 171 yX7_turn ∈ tb := tbm 566 (by decide +kernel) rfl
theorem k_568 : Cond.instanceMethod yX7_turn ∈ tb := tbm 568 (by decide +kernel) rfl
set_option maxRecDepth 100000 in
theorem k_569 : Cond.code yX7_turn cX7_turn 2 none ∈ tb := tbm 569 (by rfl) rfl
theorem k_570 : Cond.methodLink RX7 201 yX0_loopIsOver ∈ tb := tbm 570 (by decide +kernel) rfl
theorem k_571 : Cond.instanceMethod yX0_loopIsOver ∈ tb := tbm 571 (by decide +kernel) rfl
theorem k_572 : Cond.selects RX0 yX0_loopIsOver yX0_loopIsOver ∈ tb := tbm 572 (by decide +kernel) rfl
set_option maxRecDepth 100000 in
theorem k_573 : Cond.code yX0_loopIsOver cX0_loopIsOver 2 (some .boolean) ∈ tb := tbm 573 (by rfl) rfl
theorem k_574 : Cond.methodLink RX7 211 yX0_loopNumber ∈ tb := tbm 574 (by decide +kernel) rfl
theorem k_575 : Cond.instanceMethod yX0_loopNumber ∈ tb := tbm 575 (by decide +kernel) rfl
theorem k_576 : Cond.selects RX0 yX0_loopNumber yX0_loopNumber ∈ tb := tbm 576 (by decide +kernel) rfl
set_option maxRecDepth 100000 in
theorem k_577 : Cond.code yX0_loopNumber cX0_loopNumber 1 (some .int) ∈ tb := tbm 577 (by rfl) rfl
theorem k_578 : Cond.methodLink RX7 214 yX0_turnLoop ∈ tb := tbm 578 (by decide +kernel) rfl
theorem k_579 : Cond.instanceMethod yX0_turnLoop ∈ tb := tbm 579 (by decide +kernel) rfl
theorem k_580 : Cond.selects RX0 yX0_turnLoop yX0_turnLoop ∈ tb := tbm 580 (by decide +kernel) rfl
set_option maxRecDepth 100000 in
theorem k_581 : Cond.code yX0_turnLoop cX0_turnLoop 1 none ∈ tb := tbm 581 (by rfl) rfl
theorem k_582 : Cond.methodLink RX7 174 yX7_endStopped ∈ tb := tbm 582 (by decide +kernel) rfl
theorem k_584 : Cond.instanceMethod yX7_endStopped ∈ tb := tbm 584 (by decide +kernel) rfl
set_option maxRecDepth 100000 in
theorem k_585 : Cond.code yX7_endStopped cX7_endStopped 1 none ∈ tb := tbm 585 (by rfl) rfl
theorem k_586 : Cond.methodLink RL 54 yX7_interrupt ∈ tb := tbm 586 (by decide +kernel) rfl
theorem k_587 : Cond.instanceMethod yX7_interrupt ∈ tb := tbm 587 (by decide +kernel) rfl
theorem k_588 : Cond.selects RX7 yX7_interrupt yX7_interrupt ∈ tb := tbm 588 (by decide +kernel) rfl
set_option maxRecDepth 100000 in
theorem k_589 : Cond.code yX7_interrupt cX7_interrupt 1 (some .int) ∈ tb := tbm 589 (by rfl) rfl
theorem k_590 : Cond.methodLink RL 58 yX7_size ∈ tb := tbm 590 (by decide +kernel) rfl
theorem k_591 : Cond.instanceMethod yX7_size ∈ tb := tbm 591 (by decide +kernel) rfl
theorem k_592 : Cond.selects RX7 yX7_size yX7_size ∈ tb := tbm 592 (by decide +kernel) rfl
set_option maxRecDepth 100000 in
theorem k_593 : Cond.code yX7_size cX7_size 1 (some .int) ∈ tb := tbm 593 (by rfl) rfl
theorem k_594 : Cond.methodLink RL 84 yX7_forget ∈ tb := tbm 594 (by decide +kernel) rfl
theorem k_595 : Cond.instanceMethod yX7_forget ∈ tb := tbm 595 (by decide +kernel) rfl
theorem k_596 : Cond.selects RX7 yX7_forget yX7_forget ∈ tb := tbm 596 (by decide +kernel) rfl
set_option maxRecDepth 100000 in
theorem k_597 : Cond.code yX7_forget cX7_forget 1 (some .int) ∈ tb := tbm 597 (by rfl) rfl
theorem k_598 : Cond.methodLink RX7 160 yX1_wipe ∈ tb := tbm 598 (by decide +kernel) rfl
theorem k_599 : Cond.instanceMethod yX1_wipe ∈ tb := tbm 599 (by decide +kernel) rfl
theorem k_600 : Cond.selects RX1 yX1_wipe yX1_wipe ∈ tb := tbm 600 (by decide +kernel) rfl
set_option maxRecDepth 100000 in
theorem k_601 : Cond.code yX1_wipe cX1_wipe 1 none ∈ tb := tbm 601 (by rfl) rfl
theorem k_602 : Cond.methodLink RX7 162 yX5_wipe ∈ tb := tbm 602 (by decide +kernel) rfl
theorem k_603 : Cond.instanceMethod yX5_wipe ∈ tb := tbm 603 (by decide +kernel) rfl
theorem k_604 : Cond.selects RX5 yX5_wipe yX5_wipe ∈ tb := tbm 604 (by decide +kernel) rfl
set_option maxRecDepth 100000 in
theorem k_605 : Cond.code yX5_wipe cX5_wipe 1 none ∈ tb := tbm 605 (by rfl) rfl
theorem k_606 : Cond.methodLink RX5 43 yX2_takeOff ∈ tb := tbm 606 (by decide +kernel) rfl
theorem k_607 : Cond.methodLink RX7 163 yX6_wipe ∈ tb := tbm 607 (by decide +kernel) rfl
theorem k_608 : Cond.instanceMethod yX6_wipe ∈ tb := tbm 608 (by decide +kernel) rfl
theorem k_609 : Cond.selects RX6 yX6_wipe yX6_wipe ∈ tb := tbm 609 (by decide +kernel) rfl
set_option maxRecDepth 100000 in
theorem k_610 : Cond.code yX6_wipe cX6_wipe 3 (some .int) ∈ tb := tbm 610 (by rfl) rfl
theorem k_611 : Cond.methodLink RL 62 yL_value ∈ tb := tbm 611 (by decide +kernel) rfl
theorem k_612 : Cond.static yL_value ∈ tb := tbm 612 (by decide +kernel) rfl
theorem k_614 : Cond.classLink RL 13 "java/lang/IndexOutOfBoundsException" ∈ tb := tbm 614 (by decide +kernel) rfl
theorem k_615 : Cond.methodLink RL 7 yX7_value ∈ tb := tbm 615 (by decide +kernel) rfl
theorem k_616 : Cond.instanceMethod yX7_value ∈ tb := tbm 616 (by decide +kernel) rfl
theorem k_617 : Cond.selects RX7 yX7_value yX7_value ∈ tb := tbm 617 (by decide +kernel) rfl
set_option maxRecDepth 100000 in
theorem k_618 : Cond.code yX7_value cX7_value 3 (some .int) ∈ tb := tbm 618 (by rfl) rfl
theorem k_619 : Cond.methodLink RX7 114 yX2_has ∈ tb := tbm 619 (by decide +kernel) rfl
theorem k_620 : Cond.instanceMethod yX2_has ∈ tb := tbm 620 (by decide +kernel) rfl
theorem k_621 : Cond.selects RX2 yX2_has yX2_has ∈ tb := tbm 621 (by decide +kernel) rfl
set_option maxRecDepth 100000 in
theorem k_622 : Cond.code yX2_has cX2_has 2 (some .boolean) ∈ tb := tbm 622 (by rfl) rfl
theorem k_623 : Cond.methodLink RX7 115 yX7_isKindOrNumber ∈ tb := tbm 623 (by decide +kernel) rfl
theorem k_624 : Cond.static yX7_isKindOrNumber ∈ tb := tbm 624 (by decide +kernel) rfl
set_option maxRecDepth 100000 in
theorem k_625 : Cond.code yX7_isKindOrNumber cX7_isKindOrNumber 1 (some .boolean) ∈ tb := tbm 625 (by rfl) rfl
theorem k_626 : Cond.classLink RX7 118 "java/lang/IndexOutOfBoundsException" ∈ tb := tbm 626 (by decide +kernel) rfl
theorem k_627 : Cond.instantiable "java/lang/IndexOutOfBoundsException" 6 ∈ tb := tbm 627 (by decide +kernel) rfl
theorem k_647 : Cond.fieldLink "java/lang/Throwable" 198 "java/lang/Throwable" "backtrace" "Ljava/lang/Object;" ∈ tb := tbm 647 (by decide +kernel) rfl
theorem k_651 : Cond.methodLink "java/lang/Throwable" 1 objectInit ∈ tb := tbm 651 (by decide +kernel) rfl
theorem k_652 : Cond.fieldLink "java/lang/Throwable" 13 "java/lang/Throwable" "UNASSIGNED_STACK" "[Ljava/lang/StackTraceElement;" ∈ tb := tbm 652 (by decide +kernel) rfl
theorem k_654 : Cond.fieldLink "java/lang/Throwable" 20 "java/lang/Throwable" "SUPPRESSED_SENTINEL" "Ljava/util/List;" ∈ tb := tbm 654 (by decide +kernel) rfl
theorem k_663 : Cond.instantiable "java/lang/Throwable" 6 ∈ tb := tbm 663 (by decide +kernel) rfl
theorem k_679 : Cond.fieldLink "java/lang/Throwable" 31 "java/lang/Throwable" "detailMessage" "Ljava/lang/String;" ∈ tb := tbm 679 (by decide +kernel) rfl
theorem k_680 : Cond.fieldLink "java/lang/Throwable" 7 "java/lang/Throwable" "cause" "Ljava/lang/Throwable;" ∈ tb := tbm 680 (by decide +kernel) rfl
theorem k_681 : Cond.fieldLink "java/lang/Throwable" 17 "java/lang/Throwable" "stackTrace" "[Ljava/lang/StackTraceElement;" ∈ tb := tbm 681 (by decide +kernel) rfl
theorem k_682 : Cond.fieldLink "java/lang/Throwable" 24 "java/lang/Throwable" "suppressedExceptions" "Ljava/util/List;" ∈ tb := tbm 682 (by decide +kernel) rfl
theorem k_691 : Cond.arrayClass .byte ∈ tb := tbm 691 (by decide +kernel) rfl
theorem k_692 : Cond.methodLink RX7 125 yX2_kindAt ∈ tb := tbm 692 (by decide +kernel) rfl
theorem k_693 : Cond.instanceMethod yX2_kindAt ∈ tb := tbm 693 (by decide +kernel) rfl
theorem k_694 : Cond.selects RX2 yX2_kindAt yX2_kindAt ∈ tb := tbm 694 (by decide +kernel) rfl
set_option maxRecDepth 100000 in
theorem k_695 : Cond.code yX2_kindAt cX2_kindAt 2 (some .int) ∈ tb := tbm 695 (by rfl) rfl
theorem k_696 : Cond.methodLink RX7 128 yX2_numberAt ∈ tb := tbm 696 (by decide +kernel) rfl
theorem k_697 : Cond.instanceMethod yX2_numberAt ∈ tb := tbm 697 (by decide +kernel) rfl
theorem k_698 : Cond.selects RX2 yX2_numberAt yX2_numberAt ∈ tb := tbm 698 (by decide +kernel) rfl
set_option maxRecDepth 100000 in
theorem k_699 : Cond.code yX2_numberAt cX2_numberAt 2 (some .int) ∈ tb := tbm 699 (by rfl) rfl
theorem k_700 : Cond.methodLink RL 71 yL_record ∈ tb := tbm 700 (by decide +kernel) rfl
theorem k_701 : Cond.static yL_record ∈ tb := tbm 701 (by decide +kernel) rfl
theorem k_703 : Cond.methodLink RL 15 yX7_record ∈ tb := tbm 703 (by decide +kernel) rfl
theorem k_704 : Cond.instanceMethod yX7_record ∈ tb := tbm 704 (by decide +kernel) rfl
theorem k_705 : Cond.selects RX7 yX7_record yX7_record ∈ tb := tbm 705 (by decide +kernel) rfl
set_option maxRecDepth 100000 in
theorem k_706 : Cond.code yX7_record cX7_record 2 (some .int) ∈ tb := tbm 706 (by rfl) rfl
theorem k_707 : Cond.methodLink RX7 135 yX0_most ∈ tb := tbm 707 (by decide +kernel) rfl
theorem k_708 : Cond.instanceMethod yX0_most ∈ tb := tbm 708 (by decide +kernel) rfl
theorem k_709 : Cond.selects RX0 yX0_most yX0_most ∈ tb := tbm 709 (by decide +kernel) rfl
set_option maxRecDepth 100000 in
theorem k_710 : Cond.code yX0_most cX0_most 1 (some .int) ∈ tb := tbm 710 (by rfl) rfl
theorem k_712 : Cond.methodLink RL 75 yL_kept ∈ tb := tbm 712 (by decide +kernel) rfl
theorem k_713 : Cond.static yL_kept ∈ tb := tbm 713 (by decide +kernel) rfl
theorem k_715 : Cond.methodLink RL 19 yX7_kept ∈ tb := tbm 715 (by decide +kernel) rfl
theorem k_716 : Cond.instanceMethod yX7_kept ∈ tb := tbm 716 (by decide +kernel) rfl
theorem k_717 : Cond.selects RX7 yX7_kept yX7_kept ∈ tb := tbm 717 (by decide +kernel) rfl
set_option maxRecDepth 100000 in
theorem k_718 : Cond.code yX7_kept cX7_kept 3 (some .int) ∈ tb := tbm 718 (by rfl) rfl
theorem k_719 : Cond.methodLink RX7 140 yX5_pile ∈ tb := tbm 719 (by decide +kernel) rfl
theorem k_720 : Cond.instanceMethod yX5_pile ∈ tb := tbm 720 (by decide +kernel) rfl
theorem k_721 : Cond.selects RX5 yX5_pile yX5_pile ∈ tb := tbm 721 (by decide +kernel) rfl
set_option maxRecDepth 100000 in
theorem k_722 : Cond.code yX5_pile cX5_pile 1 (some (.object "ErrorNames$Pile")) ∈ tb := tbm 722 (by rfl) rfl
theorem k_724 : Cond.methodLink RL 78 yL_handler ∈ tb := tbm 724 (by decide +kernel) rfl
theorem k_725 : Cond.static yL_handler ∈ tb := tbm 725 (by decide +kernel) rfl
theorem k_727 : Cond.methodLink RL 22 yX7_handler ∈ tb := tbm 727 (by decide +kernel) rfl
theorem k_728 : Cond.instanceMethod yX7_handler ∈ tb := tbm 728 (by decide +kernel) rfl
theorem k_729 : Cond.selects RX7 yX7_handler yX7_handler ∈ tb := tbm 729 (by decide +kernel) rfl
set_option maxRecDepth 100000 in
theorem k_730 : Cond.code yX7_handler cX7_handler 2 (some .int) ∈ tb := tbm 730 (by rfl) rfl
theorem k_731 : Cond.methodLink RX7 143 yX1_has ∈ tb := tbm 731 (by decide +kernel) rfl
theorem k_732 : Cond.instanceMethod yX1_has ∈ tb := tbm 732 (by decide +kernel) rfl
theorem k_733 : Cond.selects RX1 yX1_has yX1_has ∈ tb := tbm 733 (by decide +kernel) rfl
set_option maxRecDepth 100000 in
theorem k_734 : Cond.code yX1_has cX1_has 2 (some .boolean) ∈ tb := tbm 734 (by rfl) rfl
theorem k_736 : Cond.methodLink RL 81 yL_named ∈ tb := tbm 736 (by decide +kernel) rfl
theorem k_737 : Cond.static yL_named ∈ tb := tbm 737 (by decide +kernel) rfl
theorem k_739 : Cond.methodLink RL 25 yX7_named ∈ tb := tbm 739 (by decide +kernel) rfl
theorem k_740 : Cond.instanceMethod yX7_named ∈ tb := tbm 740 (by decide +kernel) rfl
theorem k_741 : Cond.selects RX7 yX7_named yX7_named ∈ tb := tbm 741 (by decide +kernel) rfl
set_option maxRecDepth 100000 in
theorem k_742 : Cond.code yX7_named cX7_named 3 (some .int) ∈ tb := tbm 742 (by rfl) rfl
theorem k_743 : Cond.methodLink RX7 149 yX6_has ∈ tb := tbm 743 (by decide +kernel) rfl
theorem k_744 : Cond.instanceMethod yX6_has ∈ tb := tbm 744 (by decide +kernel) rfl
theorem k_745 : Cond.selects RX6 yX6_has yX6_has ∈ tb := tbm 745 (by decide +kernel) rfl
set_option maxRecDepth 100000 in
theorem k_746 : Cond.code yX6_has cX6_has 2 (some .boolean) ∈ tb := tbm 746 (by rfl) rfl
theorem k_748 : Cond.classLink RL 29 RX8 ∈ tb := tbm 748 (by decide +kernel) rfl
theorem k_749 : Cond.instantiable RX8 30 ∈ tb := tbm 749 (by decide +kernel) rfl
theorem k_750 : Cond.methodLink RL 31 yX8_init ∈ tb := tbm 750 (by decide +kernel) rfl
theorem k_751 : Cond.instanceMethod yX8_init ∈ tb := tbm 751 (by decide +kernel) rfl
set_option maxRecDepth 100000 in
theorem k_752 : Cond.code yX8_init cX8_init 1 none ∈ tb := tbm 752 (by rfl) rfl
theorem k_753 : Cond.methodLink RX8 1 objectInit ∈ tb := tbm 753 (by decide +kernel) rfl
theorem k_754 : Cond.methodLink RX8 59 yX8_clearAll ∈ tb := tbm 754 (by decide +kernel) rfl
theorem k_756 : Cond.instanceMethod yX8_clearAll ∈ tb := tbm 756 (by decide +kernel) rfl
set_option maxRecDepth 100000 in
theorem k_757 : Cond.code yX8_clearAll cX8_clearAll 2 none ∈ tb := tbm 757 (by rfl) rfl
theorem k_758 : Cond.fieldLink RX8 62 "ErrorNamesModel" "thrown" "I" ∈ tb := tbm 758 (by decide +kernel) rfl
theorem k_759 : Cond.fieldLink RX8 7 "ErrorNamesModel" "tokenKinds" "[I" ∈ tb := tbm 759 (by decide +kernel) rfl
theorem k_760 : Cond.fieldLink RX8 13 "ErrorNamesModel" "tokenNumbers" "[I" ∈ tb := tbm 760 (by decide +kernel) rfl
theorem k_761 : Cond.fieldLink RX8 16 "ErrorNamesModel" "tokens" "[I" ∈ tb := tbm 761 (by decide +kernel) rfl
theorem k_762 : Cond.fieldLink RX8 19 "ErrorNamesModel" "kinds" "[I" ∈ tb := tbm 762 (by decide +kernel) rfl
theorem k_763 : Cond.fieldLink RX8 22 "ErrorNamesModel" "numbers" "[I" ∈ tb := tbm 763 (by decide +kernel) rfl
theorem k_764 : Cond.fieldLink RX8 96 "ErrorNamesModel" "size" "I" ∈ tb := tbm 764 (by decide +kernel) rfl
theorem k_765 : Cond.fieldLink RX8 25 "ErrorNamesModel" "tableKinds" "[I" ∈ tb := tbm 765 (by decide +kernel) rfl
theorem k_766 : Cond.fieldLink RX8 28 "ErrorNamesModel" "tableNumbers" "[I" ∈ tb := tbm 766 (by decide +kernel) rfl
theorem k_767 : Cond.fieldLink RX8 31 "ErrorNamesModel" "handlers" "[I" ∈ tb := tbm 767 (by decide +kernel) rfl
theorem k_768 : Cond.fieldLink RX8 66 "ErrorNamesModel" "error" "I" ∈ tb := tbm 768 (by decide +kernel) rfl
theorem k_769 : Cond.fieldLink RX8 69 "ErrorNamesModel" "command" "I" ∈ tb := tbm 769 (by decide +kernel) rfl
theorem k_770 : Cond.fieldLink RX8 72 "ErrorNamesModel" "isNew" "Z" ∈ tb := tbm 770 (by decide +kernel) rfl
theorem k_771 : Cond.fieldLink RX8 76 "ErrorNamesModel" "within" "I" ∈ tb := tbm 771 (by decide +kernel) rfl
theorem k_772 : Cond.fieldLink RX8 34 "ErrorNamesModel" "keptKinds" "[I" ∈ tb := tbm 772 (by decide +kernel) rfl
theorem k_773 : Cond.fieldLink RX8 37 "ErrorNamesModel" "keptNumbers" "[I" ∈ tb := tbm 773 (by decide +kernel) rfl
theorem k_774 : Cond.fieldLink RX8 79 "ErrorNamesModel" "keptSize" "I" ∈ tb := tbm 774 (by decide +kernel) rfl
theorem k_775 : Cond.fieldLink RX8 82 "ErrorNamesModel" "errors" "I" ∈ tb := tbm 775 (by decide +kernel) rfl
theorem k_776 : Cond.fieldLink RX8 85 "ErrorNamesModel" "interrupted" "Z" ∈ tb := tbm 776 (by decide +kernel) rfl
theorem k_777 : Cond.fieldLink RX8 103 "ErrorNamesModel" "frames" "I" ∈ tb := tbm 777 (by decide +kernel) rfl
theorem k_778 : Cond.fieldLink RX8 40 "ErrorNamesModel" "sorts" "[I" ∈ tb := tbm 778 (by decide +kernel) rfl
theorem k_779 : Cond.fieldLink RX8 43 "ErrorNamesModel" "who" "[I" ∈ tb := tbm 779 (by decide +kernel) rfl
theorem k_780 : Cond.fieldLink RX8 46 "ErrorNamesModel" "places" "[I" ∈ tb := tbm 780 (by decide +kernel) rfl
theorem k_781 : Cond.fieldLink RX8 49 "ErrorNamesModel" "nexts" "[J" ∈ tb := tbm 781 (by decide +kernel) rfl
theorem k_782 : Cond.fieldLink RX8 53 "ErrorNamesModel" "bys" "[I" ∈ tb := tbm 782 (by decide +kernel) rfl
theorem k_783 : Cond.fieldLink RX8 56 "ErrorNamesModel" "limits" "[I" ∈ tb := tbm 783 (by decide +kernel) rfl
theorem k_784 : Cond.fieldLink RX8 126 "ErrorNamesModel" "steps" "I" ∈ tb := tbm 784 (by decide +kernel) rfl
theorem k_785 : Cond.fieldLink RX8 106 "ErrorNamesModel" "most" "I" ∈ tb := tbm 785 (by decide +kernel) rfl
theorem k_786 : Cond.fieldLink RX8 123 "ErrorNamesModel" "handled" "I" ∈ tb := tbm 786 (by decide +kernel) rfl
theorem k_787 : Cond.fieldLink RX8 116 "ErrorNamesModel" "ended" "I" ∈ tb := tbm 787 (by decide +kernel) rfl
theorem k_849 : Cond.methodLink RL 68 yX8_thrown ∈ tb := tbm 849 (by decide +kernel) rfl
theorem k_850 : Cond.instanceMethod yX8_thrown ∈ tb := tbm 850 (by decide +kernel) rfl
theorem k_851 : Cond.selects RX8 yX8_thrown yX8_thrown ∈ tb := tbm 851 (by decide +kernel) rfl
set_option maxRecDepth 100000 in
theorem k_852 : Cond.code yX8_thrown cX8_thrown 1 (some .int) ∈ tb := tbm 852 (by rfl) rfl
theorem k_853 : Cond.methodLink RL 36 yX8_token ∈ tb := tbm 853 (by decide +kernel) rfl
theorem k_854 : Cond.instanceMethod yX8_token ∈ tb := tbm 854 (by decide +kernel) rfl
theorem k_855 : Cond.selects RX8 yX8_token yX8_token ∈ tb := tbm 855 (by decide +kernel) rfl
set_option maxRecDepth 100000 in
theorem k_856 : Cond.code yX8_token cX8_token 5 (some .int) ∈ tb := tbm 856 (by rfl) rfl
theorem k_857 : Cond.methodLink RX8 88 yX8_in ∈ tb := tbm 857 (by decide +kernel) rfl
theorem k_858 : Cond.static yX8_in ∈ tb := tbm 858 (by decide +kernel) rfl
set_option maxRecDepth 100000 in
theorem k_859 : Cond.code yX8_in cX8_in 3 (some .boolean) ∈ tb := tbm 859 (by rfl) rfl
theorem k_860 : Cond.methodLink RX8 92 yX8_fits ∈ tb := tbm 860 (by decide +kernel) rfl
theorem k_861 : Cond.static yX8_fits ∈ tb := tbm 861 (by decide +kernel) rfl
set_option maxRecDepth 100000 in
theorem k_862 : Cond.code yX8_fits cX8_fits 2 (some .boolean) ∈ tb := tbm 862 (by rfl) rfl
theorem k_863 : Cond.methodLink RL 40 yX8_clear ∈ tb := tbm 863 (by decide +kernel) rfl
theorem k_864 : Cond.instanceMethod yX8_clear ∈ tb := tbm 864 (by decide +kernel) rfl
theorem k_865 : Cond.selects RX8 yX8_clear yX8_clear ∈ tb := tbm 865 (by decide +kernel) rfl
set_option maxRecDepth 100000 in
theorem k_866 : Cond.code yX8_clear cX8_clear 3 (some .int) ∈ tb := tbm 866 (by rfl) rfl
theorem k_867 : Cond.methodLink RL 44 yX8_push ∈ tb := tbm 867 (by decide +kernel) rfl
theorem k_868 : Cond.instanceMethod yX8_push ∈ tb := tbm 868 (by decide +kernel) rfl
theorem k_869 : Cond.selects RX8 yX8_push yX8_push ∈ tb := tbm 869 (by decide +kernel) rfl
set_option maxRecDepth 100000 in
theorem k_870 : Cond.code yX8_push cX8_push 3 (some .int) ∈ tb := tbm 870 (by rfl) rfl
theorem k_871 : Cond.methodLink RX8 99 yX8_lay ∈ tb := tbm 871 (by decide +kernel) rfl
theorem k_873 : Cond.instanceMethod yX8_lay ∈ tb := tbm 873 (by decide +kernel) rfl
set_option maxRecDepth 100000 in
theorem k_874 : Cond.code yX8_lay cX8_lay 3 none ∈ tb := tbm 874 (by rfl) rfl
theorem k_875 : Cond.methodLink RL 49 yX8_drop ∈ tb := tbm 875 (by decide +kernel) rfl
theorem k_876 : Cond.instanceMethod yX8_drop ∈ tb := tbm 876 (by decide +kernel) rfl
theorem k_877 : Cond.selects RX8 yX8_drop yX8_drop ∈ tb := tbm 877 (by decide +kernel) rfl
set_option maxRecDepth 100000 in
theorem k_878 : Cond.code yX8_drop cX8_drop 2 (some .int) ∈ tb := tbm 878 (by rfl) rfl
theorem k_879 : Cond.methodLink RL 57 yX8_interrupt ∈ tb := tbm 879 (by decide +kernel) rfl
theorem k_880 : Cond.instanceMethod yX8_interrupt ∈ tb := tbm 880 (by decide +kernel) rfl
theorem k_881 : Cond.selects RX8 yX8_interrupt yX8_interrupt ∈ tb := tbm 881 (by decide +kernel) rfl
set_option maxRecDepth 100000 in
theorem k_882 : Cond.code yX8_interrupt cX8_interrupt 2 (some .int) ∈ tb := tbm 882 (by rfl) rfl
theorem k_883 : Cond.methodLink RL 53 yX8_run ∈ tb := tbm 883 (by decide +kernel) rfl
theorem k_884 : Cond.instanceMethod yX8_run ∈ tb := tbm 884 (by decide +kernel) rfl
theorem k_885 : Cond.selects RX8 yX8_run yX8_run ∈ tb := tbm 885 (by decide +kernel) rfl
set_option maxRecDepth 100000 in
theorem k_886 : Cond.code yX8_run cX8_run 3 (some .int) ∈ tb := tbm 886 (by rfl) rfl
theorem k_887 : Cond.methodLink RX8 113 yX8_come ∈ tb := tbm 887 (by decide +kernel) rfl
theorem k_889 : Cond.instanceMethod yX8_come ∈ tb := tbm 889 (by decide +kernel) rfl
set_option maxRecDepth 100000 in
theorem k_890 : Cond.code yX8_come cX8_come 3 none ∈ tb := tbm 890 (by rfl) rfl
theorem k_891 : Cond.methodLink RX8 129 yX8_step ∈ tb := tbm 891 (by decide +kernel) rfl
theorem k_893 : Cond.instanceMethod yX8_step ∈ tb := tbm 893 (by decide +kernel) rfl
set_option maxRecDepth 100000 in
theorem k_894 : Cond.code yX8_step cX8_step 3 none ∈ tb := tbm 894 (by rfl) rfl
theorem k_895 : Cond.methodLink RX8 109 yX8_isSpent ∈ tb := tbm 895 (by decide +kernel) rfl
theorem k_897 : Cond.instanceMethod yX8_isSpent ∈ tb := tbm 897 (by decide +kernel) rfl
set_option maxRecDepth 100000 in
theorem k_898 : Cond.code yX8_isSpent cX8_isSpent 1 (some .boolean) ∈ tb := tbm 898 (by rfl) rfl
theorem k_899 : Cond.methodLink RX8 132 yX8_token_ ∈ tb := tbm 899 (by decide +kernel) rfl
theorem k_901 : Cond.instanceMethod yX8_token_ ∈ tb := tbm 901 (by decide +kernel) rfl
set_option maxRecDepth 100000 in
theorem k_902 : Cond.code yX8_token_ cX8_token_ 4 none ∈ tb := tbm 902 (by rfl) rfl
theorem k_903 : Cond.methodLink RX8 141 yX8_wrong ∈ tb := tbm 903 (by decide +kernel) rfl
theorem k_905 : Cond.instanceMethod yX8_wrong ∈ tb := tbm 905 (by decide +kernel) rfl
set_option maxRecDepth 100000 in
theorem k_906 : Cond.code yX8_wrong cX8_wrong 4 (some .int) ∈ tb := tbm 906 (by rfl) rfl
theorem k_907 : Cond.methodLink RX8 160 yX8_takes ∈ tb := tbm 907 (by decide +kernel) rfl
theorem k_908 : Cond.static yX8_takes ∈ tb := tbm 908 (by decide +kernel) rfl
set_option maxRecDepth 100000 in
theorem k_909 : Cond.code yX8_takes cX8_takes 1 (some .int) ∈ tb := tbm 909 (by rfl) rfl
theorem k_910 : Cond.methodLink RX8 150 yX8_kind ∈ tb := tbm 910 (by decide +kernel) rfl
theorem k_912 : Cond.instanceMethod yX8_kind ∈ tb := tbm 912 (by decide +kernel) rfl
set_option maxRecDepth 100000 in
theorem k_913 : Cond.code yX8_kind cX8_kind 2 (some .int) ∈ tb := tbm 913 (by rfl) rfl
theorem k_914 : Cond.methodLink RX8 153 yX8_number ∈ tb := tbm 914 (by decide +kernel) rfl
theorem k_916 : Cond.instanceMethod yX8_number ∈ tb := tbm 916 (by decide +kernel) rfl
set_option maxRecDepth 100000 in
theorem k_917 : Cond.code yX8_number cX8_number 2 (some .int) ∈ tb := tbm 917 (by rfl) rfl
theorem k_918 : Cond.methodLink RX8 163 yX8_areKinds ∈ tb := tbm 918 (by decide +kernel) rfl
theorem k_920 : Cond.instanceMethod yX8_areKinds ∈ tb := tbm 920 (by decide +kernel) rfl
set_option maxRecDepth 100000 in
theorem k_921 : Cond.code yX8_areKinds cX8_areKinds 2 (some .boolean) ∈ tb := tbm 921 (by rfl) rfl
theorem k_922 : Cond.methodLink RX8 166 yX8_mark ∈ tb := tbm 922 (by decide +kernel) rfl
theorem k_924 : Cond.instanceMethod yX8_mark ∈ tb := tbm 924 (by decide +kernel) rfl
set_option maxRecDepth 100000 in
theorem k_925 : Cond.code yX8_mark cX8_mark 2 (some .int) ∈ tb := tbm 925 (by rfl) rfl
theorem k_926 : Cond.methodLink RX8 170 yX8_isInRange ∈ tb := tbm 926 (by decide +kernel) rfl
theorem k_928 : Cond.instanceMethod yX8_isInRange ∈ tb := tbm 928 (by decide +kernel) rfl
set_option maxRecDepth 100000 in
theorem k_929 : Cond.code yX8_isInRange cX8_isInRange 2 (some .boolean) ∈ tb := tbm 929 (by rfl) rfl
theorem k_930 : Cond.methodLink RX8 156 yX8_isError ∈ tb := tbm 930 (by decide +kernel) rfl
theorem k_931 : Cond.static yX8_isError ∈ tb := tbm 931 (by decide +kernel) rfl
set_option maxRecDepth 100000 in
theorem k_932 : Cond.code yX8_isError cX8_isError 1 (some .boolean) ∈ tb := tbm 932 (by rfl) rfl
theorem k_933 : Cond.methodLink RX8 173 yX8_loop ∈ tb := tbm 933 (by decide +kernel) rfl
theorem k_935 : Cond.instanceMethod yX8_loop ∈ tb := tbm 935 (by decide +kernel) rfl
set_option maxRecDepth 100000 in
theorem k_936 : Cond.code yX8_loop cX8_loop 2 (some .int) ∈ tb := tbm 936 (by rfl) rfl
theorem k_937 : Cond.methodLink RX8 176 yX8_hasFrames ∈ tb := tbm 937 (by decide +kernel) rfl
theorem k_939 : Cond.instanceMethod yX8_hasFrames ∈ tb := tbm 939 (by decide +kernel) rfl
set_option maxRecDepth 100000 in
theorem k_940 : Cond.code yX8_hasFrames cX8_hasFrames 2 (some .boolean) ∈ tb := tbm 940 (by rfl) rfl
theorem k_941 : Cond.methodLink RX8 179 yX8_procedureOf ∈ tb := tbm 941 (by decide +kernel) rfl
theorem k_943 : Cond.instanceMethod yX8_procedureOf ∈ tb := tbm 943 (by decide +kernel) rfl
set_option maxRecDepth 100000 in
theorem k_944 : Cond.code yX8_procedureOf cX8_procedureOf 4 (some .int) ∈ tb := tbm 944 (by rfl) rfl
theorem k_945 : Cond.methodLink RX8 182 yX8_mayBegin ∈ tb := tbm 945 (by decide +kernel) rfl
theorem k_947 : Cond.instanceMethod yX8_mayBegin ∈ tb := tbm 947 (by decide +kernel) rfl
set_option maxRecDepth 100000 in
theorem k_948 : Cond.code yX8_mayBegin cX8_mayBegin 1 (some .boolean) ∈ tb := tbm 948 (by rfl) rfl
theorem k_949 : Cond.methodLink RX8 135 yX8_arise ∈ tb := tbm 949 (by decide +kernel) rfl
theorem k_951 : Cond.instanceMethod yX8_arise ∈ tb := tbm 951 (by decide +kernel) rfl
set_option maxRecDepth 100000 in
theorem k_952 : Cond.code yX8_arise cX8_arise 4 none ∈ tb := tbm 952 (by rfl) rfl
theorem k_953 : Cond.methodLink RX8 119 yX8_stop ∈ tb := tbm 953 (by decide +kernel) rfl
theorem k_955 : Cond.instanceMethod yX8_stop ∈ tb := tbm 955 (by decide +kernel) rfl
set_option maxRecDepth 100000 in
theorem k_956 : Cond.code yX8_stop cX8_stop 2 none ∈ tb := tbm 956 (by rfl) rfl
theorem k_957 : Cond.methodLink RX8 145 yX8_work ∈ tb := tbm 957 (by decide +kernel) rfl
theorem k_959 : Cond.instanceMethod yX8_work ∈ tb := tbm 959 (by decide +kernel) rfl
set_option maxRecDepth 100000 in
theorem k_960 : Cond.code yX8_work cX8_work 2 none ∈ tb := tbm 960 (by rfl) rfl
theorem k_961 : Cond.methodLink RX8 185 yX8_reckon ∈ tb := tbm 961 (by decide +kernel) rfl
theorem k_963 : Cond.instanceMethod yX8_reckon ∈ tb := tbm 963 (by decide +kernel) rfl
set_option maxRecDepth 100000 in
theorem k_964 : Cond.code yX8_reckon cX8_reckon 4 none ∈ tb := tbm 964 (by rfl) rfl
theorem k_965 : Cond.methodLink RX8 188 yX8_handle ∈ tb := tbm 965 (by decide +kernel) rfl
theorem k_967 : Cond.instanceMethod yX8_handle ∈ tb := tbm 967 (by decide +kernel) rfl
set_option maxRecDepth 100000 in
theorem k_968 : Cond.code yX8_handle cX8_handle 7 none ∈ tb := tbm 968 (by rfl) rfl
theorem k_969 : Cond.methodLink RX8 191 yX8_perform ∈ tb := tbm 969 (by decide +kernel) rfl
theorem k_971 : Cond.instanceMethod yX8_perform ∈ tb := tbm 971 (by decide +kernel) rfl
set_option maxRecDepth 100000 in
theorem k_972 : Cond.code yX8_perform cX8_perform 4 none ∈ tb := tbm 972 (by rfl) rfl
theorem k_973 : Cond.methodLink RX8 200 yX8_begin ∈ tb := tbm 973 (by decide +kernel) rfl
theorem k_975 : Cond.instanceMethod yX8_begin ∈ tb := tbm 975 (by decide +kernel) rfl
set_option maxRecDepth 100000 in
theorem k_976 : Cond.code yX8_begin cX8_begin 2 none ∈ tb := tbm 976 (by rfl) rfl
theorem k_977 : Cond.methodLink RX8 194 yX8_loopOf ∈ tb := tbm 977 (by decide +kernel) rfl
theorem k_979 : Cond.instanceMethod yX8_loopOf ∈ tb := tbm 979 (by decide +kernel) rfl
set_option maxRecDepth 100000 in
theorem k_980 : Cond.code yX8_loopOf cX8_loopOf 4 none ∈ tb := tbm 980 (by rfl) rfl
theorem k_981 : Cond.methodLink RX8 197 yX8_govern ∈ tb := tbm 981 (by decide +kernel) rfl
theorem k_983 : Cond.instanceMethod yX8_govern ∈ tb := tbm 983 (by decide +kernel) rfl
set_option maxRecDepth 100000 in
theorem k_984 : Cond.code yX8_govern cX8_govern 3 none ∈ tb := tbm 984 (by rfl) rfl
theorem k_985 : Cond.methodLink RX8 203 yX8_number0 ∈ tb := tbm 985 (by decide +kernel) rfl
theorem k_987 : Cond.instanceMethod yX8_number0 ∈ tb := tbm 987 (by decide +kernel) rfl
set_option maxRecDepth 100000 in
theorem k_988 : Cond.code yX8_number0 cX8_number0 1 (some .int) ∈ tb := tbm 988 (by rfl) rfl
theorem k_989 : Cond.methodLink RX8 206 yX8_told ∈ tb := tbm 989 (by decide +kernel) rfl
theorem k_991 : Cond.instanceMethod yX8_told ∈ tb := tbm 991 (by decide +kernel) rfl
set_option maxRecDepth 100000 in
theorem k_992 : Cond.code yX8_told cX8_told 2 (some .int) ∈ tb := tbm 992 (by rfl) rfl
theorem k_993 : Cond.methodLink RX8 138 yX8_turn ∈ tb := tbm 993 (by decide +kernel) rfl
theorem k_995 : Cond.instanceMethod yX8_turn ∈ tb := tbm 995 (by decide +kernel) rfl
set_option maxRecDepth 100000 in
theorem k_996 : Cond.code yX8_turn cX8_turn 5 none ∈ tb := tbm 996 (by rfl) rfl
theorem k_997 : Cond.constantLong "ErrorNamesModel" 148 (-1 : Int64) ∈ tb := tbm 997 (by decide +kernel) rfl
theorem k_998 : Cond.methodLink RL 61 yX8_size ∈ tb := tbm 998 (by decide +kernel) rfl
theorem k_999 : Cond.instanceMethod yX8_size ∈ tb := tbm 999 (by decide +kernel) rfl
theorem k_1000 : Cond.selects RX8 yX8_size yX8_size ∈ tb := tbm 1000 (by decide +kernel) rfl
set_option maxRecDepth 100000 in
theorem k_1001 : Cond.code yX8_size cX8_size 1 (some .int) ∈ tb := tbm 1001 (by rfl) rfl
theorem k_1002 : Cond.methodLink RL 67 yX8_value ∈ tb := tbm 1002 (by decide +kernel) rfl
theorem k_1003 : Cond.instanceMethod yX8_value ∈ tb := tbm 1003 (by decide +kernel) rfl
theorem k_1004 : Cond.selects RX8 yX8_value yX8_value ∈ tb := tbm 1004 (by decide +kernel) rfl
set_option maxRecDepth 100000 in
theorem k_1005 : Cond.code yX8_value cX8_value 3 (some .int) ∈ tb := tbm 1005 (by rfl) rfl
theorem k_1006 : Cond.methodLink RL 74 yX8_record ∈ tb := tbm 1006 (by decide +kernel) rfl
theorem k_1007 : Cond.instanceMethod yX8_record ∈ tb := tbm 1007 (by decide +kernel) rfl
theorem k_1008 : Cond.selects RX8 yX8_record yX8_record ∈ tb := tbm 1008 (by decide +kernel) rfl
set_option maxRecDepth 100000 in
theorem k_1009 : Cond.code yX8_record cX8_record 2 (some .int) ∈ tb := tbm 1009 (by rfl) rfl
theorem k_1010 : Cond.methodLink RL 77 yX8_kept ∈ tb := tbm 1010 (by decide +kernel) rfl
theorem k_1011 : Cond.instanceMethod yX8_kept ∈ tb := tbm 1011 (by decide +kernel) rfl
theorem k_1012 : Cond.selects RX8 yX8_kept yX8_kept ∈ tb := tbm 1012 (by decide +kernel) rfl
set_option maxRecDepth 100000 in
theorem k_1013 : Cond.code yX8_kept cX8_kept 3 (some .int) ∈ tb := tbm 1013 (by rfl) rfl
theorem k_1014 : Cond.methodLink RL 80 yX8_handler ∈ tb := tbm 1014 (by decide +kernel) rfl
theorem k_1015 : Cond.instanceMethod yX8_handler ∈ tb := tbm 1015 (by decide +kernel) rfl
theorem k_1016 : Cond.selects RX8 yX8_handler yX8_handler ∈ tb := tbm 1016 (by decide +kernel) rfl
set_option maxRecDepth 100000 in
theorem k_1017 : Cond.code yX8_handler cX8_handler 2 (some .int) ∈ tb := tbm 1017 (by rfl) rfl
theorem k_1018 : Cond.methodLink RL 83 yX8_named ∈ tb := tbm 1018 (by decide +kernel) rfl
theorem k_1019 : Cond.instanceMethod yX8_named ∈ tb := tbm 1019 (by decide +kernel) rfl
theorem k_1020 : Cond.selects RX8 yX8_named yX8_named ∈ tb := tbm 1020 (by decide +kernel) rfl
set_option maxRecDepth 100000 in
theorem k_1021 : Cond.code yX8_named cX8_named 3 (some .int) ∈ tb := tbm 1021 (by rfl) rfl
theorem k_1022 : Cond.methodLink RL 87 yX8_forget ∈ tb := tbm 1022 (by decide +kernel) rfl
theorem k_1023 : Cond.instanceMethod yX8_forget ∈ tb := tbm 1023 (by decide +kernel) rfl
theorem k_1024 : Cond.selects RX8 yX8_forget yX8_forget ∈ tb := tbm 1024 (by decide +kernel) rfl
set_option maxRecDepth 100000 in
theorem k_1025 : Cond.code yX8_forget cX8_forget 3 (some .int) ∈ tb := tbm 1025 (by rfl) rfl
