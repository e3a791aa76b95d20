def R_law : String := "ErrorNamesLaw"
def lw_P (b : Addr) (xs : List Int32) (args : Array Value) (s : State) : Prop := args = #[.ref b] ∧ s.IntsAt b xs ∧ xs.length ≤ 2048 ∧ (Jvm.Cond.and given_1 narrow_1).before args s = true
def lw_Q (_ : Array Value) (s : State) (o : Outcome) (t : State) : Prop := o = .returned (some (.int 1)) ∧ Framed s o t [] 1072 11276
def lw_Z (below : List Frame) (a : Array Value) (s : State) : State → Prop := fun t => ∃ o, t.status = .running ∧ Ended t below o ∧ lw_Q a s o t
/-- the law's own end, with 1 on the stack, nothing written that was there before, its room as the claim has it -/
theorem lw_ret {p : Program} {l : Launch} {e : Env} {s : State} {m : MethodId} {below : List Frame} {meth : Method} {c : Code} {b : Nat} (hx : p.tables.exec = Jvm.exec) (hb : c.code = code) (hr : meth.sig.returnType = ret) (hlocks : meth.locks = false) {pc : Nat} {H : Heap} {ls : Array Slot} (hdg : decode code pc = .ok (.ireturn, 1)) : W p l e room_1 s m #[Value.ref b] below meth c H [] 1072 11276 (lw_Z below #[Value.ref b] s) (F0 m pc ls [.int 1]) := by
  intro T hT X
  obtain ⟨fs, hret, hrun, hended, hW, hframe⟩ := X.leave (v := some (.int 1)) (hlocks := hlocks) (fun h => by rw [hr] at h; cases h)
  have hmeth' : T.vm.method? m = some meth := X.method'
  refine ⟨T.setFrames fs, ?_, .returned (some (.int 1)), hrun, hended, rfl, ⟨_, rfl⟩, hW, hframe⟩
  jvm_step X.here [X.here.top, hx, hb, hdg, hmeth', hr, ret, narrow_b1]
  (try refine ⟨rfl, ?_⟩); (try refine ⟨rfl, ?_⟩)
  first | (intro acts; rw [hret _ acts rfl rfl rfl]) | rw [hret _ _ rfl rfl rfl]
  exact Steps.refl _
/-- what holds at the law's entry: the machine, the code, the tables' words (any of lw_tbl by 'hts w (by decide +kernel)'), the script of L ints xs at the cell b, what the Statement gives of the start (any of its parts by flat_of_before) -/
def lw_At (p : Program) (s : State) (m : MethodId) (meth : Method) (c : Code) (b L : Nat) (xs : Nat → Int32) : Prop :=
  p.tables.exec = Jvm.exec ∧ c.code = code ∧ meth.sig.returnType = ret ∧ c.maxLocals = 7 ∧ s.vm.findClass R_law = some m.cls ∧ (∀ w ∈ lw_tbl, w.before #[Value.ref b] s = true) ∧ va_X b L xs s s.heap ∧ b < s.heap.size ∧ meth.locks = false ∧ (Jvm.Cond.and given_1 narrow_1).before #[Value.ref b] s = true
/-- what operators take: the table of the class -/
def tkL : List Int32 := [0, 0, -3, -3, 0, 0, -3, -3, 0, 0, -3, -3, 0, 0, -3, -3, -2, -2, -3, -3, 0, 0, -3, -3, 1, -3, -3, -3, -2, -3, -3, -3, -2, -3, -3, -3, -2, -2, -3, -3, 0, -3, -3, -3, -3, -3, -3, -3, -3, -3, -3, -3, -3, -3, -3, -3, -2, 2, -3, -3, 2, -3, -3, -3, -2, -3, -3, -3, 4, 1, -3, -3, 4, 4, 1, -3, 4, 0, -3, -3, 4, 0, 0, 0, 4, -3, -3, -3, -3, -3, -3, -3, -3, -3, -3, -3, 4, -3, -3, -3, -2, 0, -3, -3, 0, -3, -3, -3, 0, -3, -3, -3]
def tkF (j : Nat) : Int32 := tkL.getD j 0
/-- the class throws where the reference says so, and else answers as it does -/
def sameX (x : Option Int32) (y : Int32) (T : St) : Prop := match x with
  | none => T.1 0 0 = 1
  | some v => T.1 0 0 = 0 ∧ v = y
/-- class and reference answer alike, and go on alike -/
def Sim (R : St → St → Prop) : Prop :=
  (∀ (p1 p2 p3 : Int32) (S T : St), R S T → ∃ (v : Int32) (S1 T1 : St), fX7_token_0 p1 p2 p3 S = some (v, S1) ∧ fX8_token_0 p1 p2 p3 T = some (v, T1) ∧ R S1 T1) ∧
  (∀ (p1 : Int32) (S T : St), R S T → ∃ (v : Int32) (S1 T1 : St), fX7_clear_0 p1 S = some (v, S1) ∧ fX8_clear_0 p1 T = some (v, T1) ∧ R S1 T1) ∧
  (∀ (p1 p2 : Int32) (S T : St), R S T → ∃ (v : Int32) (S1 T1 : St), fX7_push_0 p1 p2 S = some (v, S1) ∧ fX8_push_0 p1 p2 T = some (v, T1) ∧ R S1 T1) ∧
  (∀ (S T : St), R S T → ∃ (v : Int32) (S1 T1 : St), fX7_drop_0 S = some (v, S1) ∧ fX8_drop_0 T = some (v, T1) ∧ R S1 T1) ∧
  (∀ (p1 p2 : Int32) (S T : St), R S T → ∃ (v : Int32) (S1 T1 : St), fX7_run_0 tkF p1 p2 S = some (v, S1) ∧ fX8_run_0 p1 p2 T = some (v, T1) ∧ R S1 T1) ∧
  (∀ (S T : St), R S T → ∃ (v : Int32) (S1 T1 : St), fX7_interrupt_0 S = some (v, S1) ∧ fX8_interrupt_0 T = some (v, T1) ∧ R S1 T1) ∧
  (∀ (S T : St), R S T → ∃ (v : Int32) (S1 T1 : St), fX7_size_0 S = some (v, S1) ∧ fX8_size_0 T = some (v, T1) ∧ R S1 T1) ∧
  (∀ (p1 p2 : Int32) (S T : St), R S T → ∃ (x : Option Int32) (S1 : St) (y : Int32) (T1 : St), fX7_value_0 p1 p2 S = some (x, S1) ∧ fX8_value_0 p1 p2 T = some (y, T1) ∧ R S1 T1 ∧ sameX x y T1) ∧
  (∀ (p1 : Int32) (S T : St), R S T → ∃ (x : Option Int32) (S1 : St) (y : Int32) (T1 : St), fX7_record_0 p1 S = some (x, S1) ∧ fX8_record_0 p1 T = some (y, T1) ∧ R S1 T1 ∧ sameX x y T1) ∧
  (∀ (p1 p2 : Int32) (S T : St), R S T → ∃ (x : Option Int32) (S1 : St) (y : Int32) (T1 : St), fX7_kept_0 p1 p2 S = some (x, S1) ∧ fX8_kept_0 p1 p2 T = some (y, T1) ∧ R S1 T1 ∧ sameX x y T1) ∧
  (∀ (p1 : Int32) (S T : St), R S T → ∃ (x : Option Int32) (S1 : St) (y : Int32) (T1 : St), fX7_handler_0 p1 S = some (x, S1) ∧ fX8_handler_0 p1 T = some (y, T1) ∧ R S1 T1 ∧ sameX x y T1) ∧
  (∀ (p1 p2 : Int32) (S T : St), R S T → ∃ (x : Option Int32) (S1 : St) (y : Int32) (T1 : St), fX7_named_0 p1 p2 S = some (x, S1) ∧ fX8_named_0 p1 p2 T = some (y, T1) ∧ R S1 T1 ∧ sameX x y T1) ∧
  (∀ (S T : St), R S T → ∃ (v : Int32) (S1 T1 : St), fX7_forget_0 S = some (v, S1) ∧ fX8_forget_0 T = some (v, T1) ∧ R S1 T1)
theorem lw_lt {L i : Nat} (hL : L ≤ 2048) (hi : i ≤ 2048) : (Int32.ofNat L - 4 < nI i) ↔ ¬ i + 4 ≤ L := by
  have e4 : (4 : Int32) = nI 4 := rfl
  have h1 := pk_sub_toInt (a := L) (b := 4) (by omega) (by omega)
  rw [show Int32.ofNat L = nI L from rfl, e4, Int32.lt_iff_toInt_lt, h1, nI_toInt (by omega)]
  omega
theorem lw_ix {L i k : Nat} {x : Int32} (hL : L ≤ 2048) (hx : x = nI i) (h : i + k < L) : vp_in (x + nI k) L := by
  rw [hx, nI_add]; exact vp_in_nI h (by omega)
theorem lw_cmp {g : Nat → Int64} {v y : Int32} (h : v = y) : lg_cmp (vp_updL g 0 v.toInt64 (0 : Int32).toNatClampNeg) y.toInt64 = 0 := by
  subst h
  have e : vp_updL g 0 v.toInt64 (0 : Int32).toNatClampNeg = v.toInt64 := by unfold vp_updL; rfl
  rw [e]
  simp [lg_cmp]
theorem dL_law_0 : decode cL_law 0 = .ok (.new 8, 3) := by decide +kernel
theorem dL_law_3 : decode cL_law 3 = .ok (.dup, 1) := by decide +kernel
theorem dL_law_4 : decode cL_law 4 = .ok (.invokespecial 28, 3) := by decide +kernel
theorem dL_law_7 : decode cL_law 7 = .ok (.astore_n 1, 1) := by decide +kernel
theorem dL_law_8 : decode cL_law 8 = .ok (.new 29, 3) := by decide +kernel
theorem dL_law_11 : decode cL_law 11 = .ok (.dup, 1) := by decide +kernel
theorem dL_law_12 : decode cL_law 12 = .ok (.invokespecial 31, 3) := by decide +kernel
theorem dL_law_15 : decode cL_law 15 = .ok (.astore_n 2, 1) := by decide +kernel
theorem dL_law_16 : decode cL_law 16 = .ok (.iconst 1, 1) := by decide +kernel
theorem dL_law_17 : decode cL_law 17 = .ok (.newarray .long, 2) := by decide +kernel
theorem dL_law_19 : decode cL_law 19 = .ok (.astore_n 3, 1) := by decide +kernel
theorem dL_law_20 : decode cL_law 20 = .ok (.iconst 0, 1) := by decide +kernel
theorem dL_law_21 : decode cL_law 21 = .ok (.istore 4, 2) := by decide +kernel
theorem dL_law_23 : decode cL_law 23 = .ok (.iload 4, 2) := by decide +kernel
theorem dL_law_25 : decode cL_law 25 = .ok (.aload_n 0, 1) := by decide +kernel
theorem dL_law_26 : decode cL_law 26 = .ok (.arraylength, 1) := by decide +kernel
theorem dL_law_27 : decode cL_law 27 = .ok (.iconst 4, 1) := by decide +kernel
theorem dL_law_28 : decode cL_law 28 = .ok (.isub, 1) := by decide +kernel
theorem dL_law_29 : decode cL_law 29 = .ok (.if_icmp .gt 597, 3) := by decide +kernel
theorem dL_law_32 : decode cL_law 32 = .ok (.aload_n 0, 1) := by decide +kernel
theorem dL_law_33 : decode cL_law 33 = .ok (.iload 4, 2) := by decide +kernel
theorem dL_law_35 : decode cL_law 35 = .ok (.iaload, 1) := by decide +kernel
theorem dL_law_36 : decode cL_law 36 = .ok (.bipush 15, 2) := by decide +kernel
theorem dL_law_38 : decode cL_law 38 = .ok (.iand, 1) := by decide +kernel
theorem dL_law_39 : decode cL_law 39 = .ok (.tableswitch 581 0 12 #[65, 114, 139, 176, 189, 226, 239, 252, 320, 376, 444, 500, 568], 65) := by decide +kernel
theorem dL_law_104 : decode cL_law 104 = .ok (.aload_n 1, 1) := by decide +kernel
theorem dL_law_105 : decode cL_law 105 = .ok (.aload_n 0, 1) := by decide +kernel
theorem dL_law_106 : decode cL_law 106 = .ok (.iload 4, 2) := by decide +kernel
theorem dL_law_108 : decode cL_law 108 = .ok (.iconst 1, 1) := by decide +kernel
theorem dL_law_109 : decode cL_law 109 = .ok (.iadd, 1) := by decide +kernel
theorem dL_law_110 : decode cL_law 110 = .ok (.iaload, 1) := by decide +kernel
theorem dL_law_111 : decode cL_law 111 = .ok (.aload_n 0, 1) := by decide +kernel
theorem dL_law_112 : decode cL_law 112 = .ok (.iload 4, 2) := by decide +kernel
theorem dL_law_114 : decode cL_law 114 = .ok (.iconst 2, 1) := by decide +kernel
theorem dL_law_115 : decode cL_law 115 = .ok (.iadd, 1) := by decide +kernel
theorem dL_law_116 : decode cL_law 116 = .ok (.iaload, 1) := by decide +kernel
theorem dL_law_117 : decode cL_law 117 = .ok (.aload_n 0, 1) := by decide +kernel
theorem dL_law_118 : decode cL_law 118 = .ok (.iload 4, 2) := by decide +kernel
theorem dL_law_120 : decode cL_law 120 = .ok (.iconst 3, 1) := by decide +kernel
theorem dL_law_121 : decode cL_law 121 = .ok (.iadd, 1) := by decide +kernel
theorem dL_law_122 : decode cL_law 122 = .ok (.iaload, 1) := by decide +kernel
theorem dL_law_123 : decode cL_law 123 = .ok (.invokevirtual 32, 3) := by decide +kernel
theorem dL_law_126 : decode cL_law 126 = .ok (.aload_n 2, 1) := by decide +kernel
theorem dL_law_127 : decode cL_law 127 = .ok (.aload_n 0, 1) := by decide +kernel
theorem dL_law_128 : decode cL_law 128 = .ok (.iload 4, 2) := by decide +kernel
theorem dL_law_130 : decode cL_law 130 = .ok (.iconst 1, 1) := by decide +kernel
theorem dL_law_131 : decode cL_law 131 = .ok (.iadd, 1) := by decide +kernel
theorem dL_law_132 : decode cL_law 132 = .ok (.iaload, 1) := by decide +kernel
theorem dL_law_133 : decode cL_law 133 = .ok (.aload_n 0, 1) := by decide +kernel
theorem dL_law_134 : decode cL_law 134 = .ok (.iload 4, 2) := by decide +kernel
theorem dL_law_136 : decode cL_law 136 = .ok (.iconst 2, 1) := by decide +kernel
theorem dL_law_137 : decode cL_law 137 = .ok (.iadd, 1) := by decide +kernel
theorem dL_law_138 : decode cL_law 138 = .ok (.iaload, 1) := by decide +kernel
theorem dL_law_139 : decode cL_law 139 = .ok (.aload_n 0, 1) := by decide +kernel
theorem dL_law_140 : decode cL_law 140 = .ok (.iload 4, 2) := by decide +kernel
theorem dL_law_142 : decode cL_law 142 = .ok (.iconst 3, 1) := by decide +kernel
theorem dL_law_143 : decode cL_law 143 = .ok (.iadd, 1) := by decide +kernel
theorem dL_law_144 : decode cL_law 144 = .ok (.iaload, 1) := by decide +kernel
theorem dL_law_145 : decode cL_law 145 = .ok (.invokevirtual 36, 3) := by decide +kernel
theorem dL_law_148 : decode cL_law 148 = .ok (.if_icmp .eq 472, 3) := by decide +kernel
theorem dL_law_151 : decode cL_law 151 = .ok (.iconst 0, 1) := by decide +kernel
theorem dL_law_152 : decode cL_law 152 = .ok (.ireturn, 1) := by decide +kernel
theorem dL_law_153 : decode cL_law 153 = .ok (.aload_n 1, 1) := by decide +kernel
theorem dL_law_154 : decode cL_law 154 = .ok (.aload_n 0, 1) := by decide +kernel
theorem dL_law_155 : decode cL_law 155 = .ok (.iload 4, 2) := by decide +kernel
theorem dL_law_157 : decode cL_law 157 = .ok (.iconst 1, 1) := by decide +kernel
theorem dL_law_158 : decode cL_law 158 = .ok (.iadd, 1) := by decide +kernel
theorem dL_law_159 : decode cL_law 159 = .ok (.iaload, 1) := by decide +kernel
theorem dL_law_160 : decode cL_law 160 = .ok (.invokevirtual 37, 3) := by decide +kernel
theorem dL_law_163 : decode cL_law 163 = .ok (.aload_n 2, 1) := by decide +kernel
theorem dL_law_164 : decode cL_law 164 = .ok (.aload_n 0, 1) := by decide +kernel
theorem dL_law_165 : decode cL_law 165 = .ok (.iload 4, 2) := by decide +kernel
theorem dL_law_167 : decode cL_law 167 = .ok (.iconst 1, 1) := by decide +kernel
theorem dL_law_168 : decode cL_law 168 = .ok (.iadd, 1) := by decide +kernel
theorem dL_law_169 : decode cL_law 169 = .ok (.iaload, 1) := by decide +kernel
theorem dL_law_170 : decode cL_law 170 = .ok (.invokevirtual 40, 3) := by decide +kernel
theorem dL_law_173 : decode cL_law 173 = .ok (.if_icmp .eq 447, 3) := by decide +kernel
theorem dL_law_176 : decode cL_law 176 = .ok (.iconst 0, 1) := by decide +kernel
theorem dL_law_177 : decode cL_law 177 = .ok (.ireturn, 1) := by decide +kernel
theorem dL_law_178 : decode cL_law 178 = .ok (.aload_n 1, 1) := by decide +kernel
theorem dL_law_179 : decode cL_law 179 = .ok (.aload_n 0, 1) := by decide +kernel
theorem dL_law_180 : decode cL_law 180 = .ok (.iload 4, 2) := by decide +kernel
theorem dL_law_182 : decode cL_law 182 = .ok (.iconst 1, 1) := by decide +kernel
theorem dL_law_183 : decode cL_law 183 = .ok (.iadd, 1) := by decide +kernel
theorem dL_law_184 : decode cL_law 184 = .ok (.iaload, 1) := by decide +kernel
theorem dL_law_185 : decode cL_law 185 = .ok (.aload_n 0, 1) := by decide +kernel
theorem dL_law_186 : decode cL_law 186 = .ok (.iload 4, 2) := by decide +kernel
theorem dL_law_188 : decode cL_law 188 = .ok (.iconst 2, 1) := by decide +kernel
theorem dL_law_189 : decode cL_law 189 = .ok (.iadd, 1) := by decide +kernel
theorem dL_law_190 : decode cL_law 190 = .ok (.iaload, 1) := by decide +kernel
theorem dL_law_191 : decode cL_law 191 = .ok (.invokevirtual 41, 3) := by decide +kernel
theorem dL_law_194 : decode cL_law 194 = .ok (.aload_n 2, 1) := by decide +kernel
theorem dL_law_195 : decode cL_law 195 = .ok (.aload_n 0, 1) := by decide +kernel
theorem dL_law_196 : decode cL_law 196 = .ok (.iload 4, 2) := by decide +kernel
theorem dL_law_198 : decode cL_law 198 = .ok (.iconst 1, 1) := by decide +kernel
theorem dL_law_199 : decode cL_law 199 = .ok (.iadd, 1) := by decide +kernel
theorem dL_law_200 : decode cL_law 200 = .ok (.iaload, 1) := by decide +kernel
theorem dL_law_201 : decode cL_law 201 = .ok (.aload_n 0, 1) := by decide +kernel
theorem dL_law_202 : decode cL_law 202 = .ok (.iload 4, 2) := by decide +kernel
theorem dL_law_204 : decode cL_law 204 = .ok (.iconst 2, 1) := by decide +kernel
theorem dL_law_205 : decode cL_law 205 = .ok (.iadd, 1) := by decide +kernel
theorem dL_law_206 : decode cL_law 206 = .ok (.iaload, 1) := by decide +kernel
theorem dL_law_207 : decode cL_law 207 = .ok (.invokevirtual 44, 3) := by decide +kernel
theorem dL_law_210 : decode cL_law 210 = .ok (.if_icmp .eq 410, 3) := by decide +kernel
theorem dL_law_213 : decode cL_law 213 = .ok (.iconst 0, 1) := by decide +kernel
theorem dL_law_214 : decode cL_law 214 = .ok (.ireturn, 1) := by decide +kernel
theorem dL_law_215 : decode cL_law 215 = .ok (.aload_n 1, 1) := by decide +kernel
theorem dL_law_216 : decode cL_law 216 = .ok (.invokevirtual 45, 3) := by decide +kernel
theorem dL_law_219 : decode cL_law 219 = .ok (.aload_n 2, 1) := by decide +kernel
theorem dL_law_220 : decode cL_law 220 = .ok (.invokevirtual 49, 3) := by decide +kernel
theorem dL_law_223 : decode cL_law 223 = .ok (.if_icmp .eq 397, 3) := by decide +kernel
theorem dL_law_226 : decode cL_law 226 = .ok (.iconst 0, 1) := by decide +kernel
theorem dL_law_227 : decode cL_law 227 = .ok (.ireturn, 1) := by decide +kernel
theorem dL_law_228 : decode cL_law 228 = .ok (.aload_n 1, 1) := by decide +kernel
theorem dL_law_229 : decode cL_law 229 = .ok (.aload_n 0, 1) := by decide +kernel
theorem dL_law_230 : decode cL_law 230 = .ok (.iload 4, 2) := by decide +kernel
theorem dL_law_232 : decode cL_law 232 = .ok (.iconst 1, 1) := by decide +kernel
theorem dL_law_233 : decode cL_law 233 = .ok (.iadd, 1) := by decide +kernel
theorem dL_law_234 : decode cL_law 234 = .ok (.iaload, 1) := by decide +kernel
theorem dL_law_235 : decode cL_law 235 = .ok (.aload_n 0, 1) := by decide +kernel
theorem dL_law_236 : decode cL_law 236 = .ok (.iload 4, 2) := by decide +kernel
theorem dL_law_238 : decode cL_law 238 = .ok (.iconst 2, 1) := by decide +kernel
theorem dL_law_239 : decode cL_law 239 = .ok (.iadd, 1) := by decide +kernel
theorem dL_law_240 : decode cL_law 240 = .ok (.iaload, 1) := by decide +kernel
theorem dL_law_241 : decode cL_law 241 = .ok (.invokevirtual 50, 3) := by decide +kernel
theorem dL_law_244 : decode cL_law 244 = .ok (.aload_n 2, 1) := by decide +kernel
theorem dL_law_245 : decode cL_law 245 = .ok (.aload_n 0, 1) := by decide +kernel
theorem dL_law_246 : decode cL_law 246 = .ok (.iload 4, 2) := by decide +kernel
theorem dL_law_248 : decode cL_law 248 = .ok (.iconst 1, 1) := by decide +kernel
theorem dL_law_249 : decode cL_law 249 = .ok (.iadd, 1) := by decide +kernel
theorem dL_law_250 : decode cL_law 250 = .ok (.iaload, 1) := by decide +kernel
theorem dL_law_251 : decode cL_law 251 = .ok (.aload_n 0, 1) := by decide +kernel
theorem dL_law_252 : decode cL_law 252 = .ok (.iload 4, 2) := by decide +kernel
theorem dL_law_254 : decode cL_law 254 = .ok (.iconst 2, 1) := by decide +kernel
theorem dL_law_255 : decode cL_law 255 = .ok (.iadd, 1) := by decide +kernel
theorem dL_law_256 : decode cL_law 256 = .ok (.iaload, 1) := by decide +kernel
theorem dL_law_257 : decode cL_law 257 = .ok (.invokevirtual 53, 3) := by decide +kernel
theorem dL_law_260 : decode cL_law 260 = .ok (.if_icmp .eq 360, 3) := by decide +kernel
theorem dL_law_263 : decode cL_law 263 = .ok (.iconst 0, 1) := by decide +kernel
theorem dL_law_264 : decode cL_law 264 = .ok (.ireturn, 1) := by decide +kernel
theorem dL_law_265 : decode cL_law 265 = .ok (.aload_n 1, 1) := by decide +kernel
theorem dL_law_266 : decode cL_law 266 = .ok (.invokevirtual 54, 3) := by decide +kernel
theorem dL_law_269 : decode cL_law 269 = .ok (.aload_n 2, 1) := by decide +kernel
theorem dL_law_270 : decode cL_law 270 = .ok (.invokevirtual 57, 3) := by decide +kernel
theorem dL_law_273 : decode cL_law 273 = .ok (.if_icmp .eq 347, 3) := by decide +kernel
theorem dL_law_276 : decode cL_law 276 = .ok (.iconst 0, 1) := by decide +kernel
theorem dL_law_277 : decode cL_law 277 = .ok (.ireturn, 1) := by decide +kernel
theorem dL_law_278 : decode cL_law 278 = .ok (.aload_n 1, 1) := by decide +kernel
theorem dL_law_279 : decode cL_law 279 = .ok (.invokevirtual 58, 3) := by decide +kernel
theorem dL_law_282 : decode cL_law 282 = .ok (.aload_n 2, 1) := by decide +kernel
theorem dL_law_283 : decode cL_law 283 = .ok (.invokevirtual 61, 3) := by decide +kernel
theorem dL_law_286 : decode cL_law 286 = .ok (.if_icmp .eq 334, 3) := by decide +kernel
theorem dL_law_289 : decode cL_law 289 = .ok (.iconst 0, 1) := by decide +kernel
theorem dL_law_290 : decode cL_law 290 = .ok (.ireturn, 1) := by decide +kernel
theorem dL_law_291 : decode cL_law 291 = .ok (.aload_n 1, 1) := by decide +kernel
theorem dL_law_292 : decode cL_law 292 = .ok (.aload_n 0, 1) := by decide +kernel
theorem dL_law_293 : decode cL_law 293 = .ok (.iload 4, 2) := by decide +kernel
theorem dL_law_295 : decode cL_law 295 = .ok (.iconst 1, 1) := by decide +kernel
theorem dL_law_296 : decode cL_law 296 = .ok (.iadd, 1) := by decide +kernel
theorem dL_law_297 : decode cL_law 297 = .ok (.iaload, 1) := by decide +kernel
theorem dL_law_298 : decode cL_law 298 = .ok (.aload_n 0, 1) := by decide +kernel
theorem dL_law_299 : decode cL_law 299 = .ok (.iload 4, 2) := by decide +kernel
theorem dL_law_301 : decode cL_law 301 = .ok (.iconst 2, 1) := by decide +kernel
theorem dL_law_302 : decode cL_law 302 = .ok (.iadd, 1) := by decide +kernel
theorem dL_law_303 : decode cL_law 303 = .ok (.iaload, 1) := by decide +kernel
theorem dL_law_304 : decode cL_law 304 = .ok (.aload_n 3, 1) := by decide +kernel
theorem dL_law_305 : decode cL_law 305 = .ok (.invokestatic 62, 3) := by decide +kernel
theorem dL_law_308 : decode cL_law 308 = .ok (.istore 5, 2) := by decide +kernel
theorem dL_law_310 : decode cL_law 310 = .ok (.aload_n 2, 1) := by decide +kernel
theorem dL_law_311 : decode cL_law 311 = .ok (.aload_n 0, 1) := by decide +kernel
theorem dL_law_312 : decode cL_law 312 = .ok (.iload 4, 2) := by decide +kernel
theorem dL_law_314 : decode cL_law 314 = .ok (.iconst 1, 1) := by decide +kernel
theorem dL_law_315 : decode cL_law 315 = .ok (.iadd, 1) := by decide +kernel
theorem dL_law_316 : decode cL_law 316 = .ok (.iaload, 1) := by decide +kernel
theorem dL_law_317 : decode cL_law 317 = .ok (.aload_n 0, 1) := by decide +kernel
theorem dL_law_318 : decode cL_law 318 = .ok (.iload 4, 2) := by decide +kernel
theorem dL_law_320 : decode cL_law 320 = .ok (.iconst 2, 1) := by decide +kernel
theorem dL_law_321 : decode cL_law 321 = .ok (.iadd, 1) := by decide +kernel
theorem dL_law_322 : decode cL_law 322 = .ok (.iaload, 1) := by decide +kernel
theorem dL_law_323 : decode cL_law 323 = .ok (.invokevirtual 67, 3) := by decide +kernel
theorem dL_law_326 : decode cL_law 326 = .ok (.istore 6, 2) := by decide +kernel
theorem dL_law_328 : decode cL_law 328 = .ok (.aload_n 2, 1) := by decide +kernel
theorem dL_law_329 : decode cL_law 329 = .ok (.invokevirtual 68, 3) := by decide +kernel
theorem dL_law_332 : decode cL_law 332 = .ok (.iload 5, 2) := by decide +kernel
theorem dL_law_334 : decode cL_law 334 = .ok (.if_icmp .eq 5, 3) := by decide +kernel
theorem dL_law_337 : decode cL_law 337 = .ok (.iconst 0, 1) := by decide +kernel
theorem dL_law_338 : decode cL_law 338 = .ok (.ireturn, 1) := by decide +kernel
theorem dL_law_339 : decode cL_law 339 = .ok (.iload 5, 2) := by decide +kernel
theorem dL_law_341 : decode cL_law 341 = .ok (.ifCond .ne 15, 3) := by decide +kernel
theorem dL_law_344 : decode cL_law 344 = .ok (.aload_n 3, 1) := by decide +kernel
theorem dL_law_345 : decode cL_law 345 = .ok (.iconst 0, 1) := by decide +kernel
theorem dL_law_346 : decode cL_law 346 = .ok (.laload, 1) := by decide +kernel
theorem dL_law_347 : decode cL_law 347 = .ok (.iload 6, 2) := by decide +kernel
theorem dL_law_349 : decode cL_law 349 = .ok (.i2l, 1) := by decide +kernel
theorem dL_law_350 : decode cL_law 350 = .ok (.lcmp, 1) := by decide +kernel
theorem dL_law_351 : decode cL_law 351 = .ok (.ifCond .eq 5, 3) := by decide +kernel
theorem dL_law_354 : decode cL_law 354 = .ok (.iconst 0, 1) := by decide +kernel
theorem dL_law_355 : decode cL_law 355 = .ok (.ireturn, 1) := by decide +kernel
theorem dL_law_356 : decode cL_law 356 = .ok (.goto 264, 3) := by decide +kernel
theorem dL_law_359 : decode cL_law 359 = .ok (.aload_n 1, 1) := by decide +kernel
theorem dL_law_360 : decode cL_law 360 = .ok (.aload_n 0, 1) := by decide +kernel
theorem dL_law_361 : decode cL_law 361 = .ok (.iload 4, 2) := by decide +kernel
theorem dL_law_363 : decode cL_law 363 = .ok (.iconst 1, 1) := by decide +kernel
theorem dL_law_364 : decode cL_law 364 = .ok (.iadd, 1) := by decide +kernel
theorem dL_law_365 : decode cL_law 365 = .ok (.iaload, 1) := by decide +kernel
theorem dL_law_366 : decode cL_law 366 = .ok (.aload_n 3, 1) := by decide +kernel
theorem dL_law_367 : decode cL_law 367 = .ok (.invokestatic 71, 3) := by decide +kernel
theorem dL_law_370 : decode cL_law 370 = .ok (.istore 5, 2) := by decide +kernel
theorem dL_law_372 : decode cL_law 372 = .ok (.aload_n 2, 1) := by decide +kernel
theorem dL_law_373 : decode cL_law 373 = .ok (.aload_n 0, 1) := by decide +kernel
theorem dL_law_374 : decode cL_law 374 = .ok (.iload 4, 2) := by decide +kernel
theorem dL_law_376 : decode cL_law 376 = .ok (.iconst 1, 1) := by decide +kernel
theorem dL_law_377 : decode cL_law 377 = .ok (.iadd, 1) := by decide +kernel
theorem dL_law_378 : decode cL_law 378 = .ok (.iaload, 1) := by decide +kernel
theorem dL_law_379 : decode cL_law 379 = .ok (.invokevirtual 74, 3) := by decide +kernel
theorem dL_law_382 : decode cL_law 382 = .ok (.istore 6, 2) := by decide +kernel
theorem dL_law_384 : decode cL_law 384 = .ok (.aload_n 2, 1) := by decide +kernel
theorem dL_law_385 : decode cL_law 385 = .ok (.invokevirtual 68, 3) := by decide +kernel
theorem dL_law_388 : decode cL_law 388 = .ok (.iload 5, 2) := by decide +kernel
theorem dL_law_390 : decode cL_law 390 = .ok (.if_icmp .eq 5, 3) := by decide +kernel
theorem dL_law_393 : decode cL_law 393 = .ok (.iconst 0, 1) := by decide +kernel
theorem dL_law_394 : decode cL_law 394 = .ok (.ireturn, 1) := by decide +kernel
theorem dL_law_395 : decode cL_law 395 = .ok (.iload 5, 2) := by decide +kernel
theorem dL_law_397 : decode cL_law 397 = .ok (.ifCond .ne 15, 3) := by decide +kernel
theorem dL_law_400 : decode cL_law 400 = .ok (.aload_n 3, 1) := by decide +kernel
theorem dL_law_401 : decode cL_law 401 = .ok (.iconst 0, 1) := by decide +kernel
theorem dL_law_402 : decode cL_law 402 = .ok (.laload, 1) := by decide +kernel
theorem dL_law_403 : decode cL_law 403 = .ok (.iload 6, 2) := by decide +kernel
theorem dL_law_405 : decode cL_law 405 = .ok (.i2l, 1) := by decide +kernel
theorem dL_law_406 : decode cL_law 406 = .ok (.lcmp, 1) := by decide +kernel
theorem dL_law_407 : decode cL_law 407 = .ok (.ifCond .eq 5, 3) := by decide +kernel
theorem dL_law_410 : decode cL_law 410 = .ok (.iconst 0, 1) := by decide +kernel
theorem dL_law_411 : decode cL_law 411 = .ok (.ireturn, 1) := by decide +kernel
theorem dL_law_412 : decode cL_law 412 = .ok (.goto 208, 3) := by decide +kernel
theorem dL_law_415 : decode cL_law 415 = .ok (.aload_n 1, 1) := by decide +kernel
theorem dL_law_416 : decode cL_law 416 = .ok (.aload_n 0, 1) := by decide +kernel
theorem dL_law_417 : decode cL_law 417 = .ok (.iload 4, 2) := by decide +kernel
theorem dL_law_419 : decode cL_law 419 = .ok (.iconst 1, 1) := by decide +kernel
theorem dL_law_420 : decode cL_law 420 = .ok (.iadd, 1) := by decide +kernel
theorem dL_law_421 : decode cL_law 421 = .ok (.iaload, 1) := by decide +kernel
theorem dL_law_422 : decode cL_law 422 = .ok (.aload_n 0, 1) := by decide +kernel
theorem dL_law_423 : decode cL_law 423 = .ok (.iload 4, 2) := by decide +kernel
theorem dL_law_425 : decode cL_law 425 = .ok (.iconst 2, 1) := by decide +kernel
theorem dL_law_426 : decode cL_law 426 = .ok (.iadd, 1) := by decide +kernel
theorem dL_law_427 : decode cL_law 427 = .ok (.iaload, 1) := by decide +kernel
theorem dL_law_428 : decode cL_law 428 = .ok (.aload_n 3, 1) := by decide +kernel
theorem dL_law_429 : decode cL_law 429 = .ok (.invokestatic 75, 3) := by decide +kernel
theorem dL_law_432 : decode cL_law 432 = .ok (.istore 5, 2) := by decide +kernel
theorem dL_law_434 : decode cL_law 434 = .ok (.aload_n 2, 1) := by decide +kernel
theorem dL_law_435 : decode cL_law 435 = .ok (.aload_n 0, 1) := by decide +kernel
theorem dL_law_436 : decode cL_law 436 = .ok (.iload 4, 2) := by decide +kernel
theorem dL_law_438 : decode cL_law 438 = .ok (.iconst 1, 1) := by decide +kernel
theorem dL_law_439 : decode cL_law 439 = .ok (.iadd, 1) := by decide +kernel
theorem dL_law_440 : decode cL_law 440 = .ok (.iaload, 1) := by decide +kernel
theorem dL_law_441 : decode cL_law 441 = .ok (.aload_n 0, 1) := by decide +kernel
theorem dL_law_442 : decode cL_law 442 = .ok (.iload 4, 2) := by decide +kernel
theorem dL_law_444 : decode cL_law 444 = .ok (.iconst 2, 1) := by decide +kernel
theorem dL_law_445 : decode cL_law 445 = .ok (.iadd, 1) := by decide +kernel
theorem dL_law_446 : decode cL_law 446 = .ok (.iaload, 1) := by decide +kernel
theorem dL_law_447 : decode cL_law 447 = .ok (.invokevirtual 77, 3) := by decide +kernel
theorem dL_law_450 : decode cL_law 450 = .ok (.istore 6, 2) := by decide +kernel
theorem dL_law_452 : decode cL_law 452 = .ok (.aload_n 2, 1) := by decide +kernel
theorem dL_law_453 : decode cL_law 453 = .ok (.invokevirtual 68, 3) := by decide +kernel
theorem dL_law_456 : decode cL_law 456 = .ok (.iload 5, 2) := by decide +kernel
theorem dL_law_458 : decode cL_law 458 = .ok (.if_icmp .eq 5, 3) := by decide +kernel
theorem dL_law_461 : decode cL_law 461 = .ok (.iconst 0, 1) := by decide +kernel
theorem dL_law_462 : decode cL_law 462 = .ok (.ireturn, 1) := by decide +kernel
theorem dL_law_463 : decode cL_law 463 = .ok (.iload 5, 2) := by decide +kernel
theorem dL_law_465 : decode cL_law 465 = .ok (.ifCond .ne 15, 3) := by decide +kernel
theorem dL_law_468 : decode cL_law 468 = .ok (.aload_n 3, 1) := by decide +kernel
theorem dL_law_469 : decode cL_law 469 = .ok (.iconst 0, 1) := by decide +kernel
theorem dL_law_470 : decode cL_law 470 = .ok (.laload, 1) := by decide +kernel
theorem dL_law_471 : decode cL_law 471 = .ok (.iload 6, 2) := by decide +kernel
theorem dL_law_473 : decode cL_law 473 = .ok (.i2l, 1) := by decide +kernel
theorem dL_law_474 : decode cL_law 474 = .ok (.lcmp, 1) := by decide +kernel
theorem dL_law_475 : decode cL_law 475 = .ok (.ifCond .eq 5, 3) := by decide +kernel
theorem dL_law_478 : decode cL_law 478 = .ok (.iconst 0, 1) := by decide +kernel
theorem dL_law_479 : decode cL_law 479 = .ok (.ireturn, 1) := by decide +kernel
theorem dL_law_480 : decode cL_law 480 = .ok (.goto 140, 3) := by decide +kernel
theorem dL_law_483 : decode cL_law 483 = .ok (.aload_n 1, 1) := by decide +kernel
theorem dL_law_484 : decode cL_law 484 = .ok (.aload_n 0, 1) := by decide +kernel
theorem dL_law_485 : decode cL_law 485 = .ok (.iload 4, 2) := by decide +kernel
theorem dL_law_487 : decode cL_law 487 = .ok (.iconst 1, 1) := by decide +kernel
theorem dL_law_488 : decode cL_law 488 = .ok (.iadd, 1) := by decide +kernel
theorem dL_law_489 : decode cL_law 489 = .ok (.iaload, 1) := by decide +kernel
theorem dL_law_490 : decode cL_law 490 = .ok (.aload_n 3, 1) := by decide +kernel
theorem dL_law_491 : decode cL_law 491 = .ok (.invokestatic 78, 3) := by decide +kernel
theorem dL_law_494 : decode cL_law 494 = .ok (.istore 5, 2) := by decide +kernel
theorem dL_law_496 : decode cL_law 496 = .ok (.aload_n 2, 1) := by decide +kernel
theorem dL_law_497 : decode cL_law 497 = .ok (.aload_n 0, 1) := by decide +kernel
theorem dL_law_498 : decode cL_law 498 = .ok (.iload 4, 2) := by decide +kernel
theorem dL_law_500 : decode cL_law 500 = .ok (.iconst 1, 1) := by decide +kernel
theorem dL_law_501 : decode cL_law 501 = .ok (.iadd, 1) := by decide +kernel
theorem dL_law_502 : decode cL_law 502 = .ok (.iaload, 1) := by decide +kernel
theorem dL_law_503 : decode cL_law 503 = .ok (.invokevirtual 80, 3) := by decide +kernel
theorem dL_law_506 : decode cL_law 506 = .ok (.istore 6, 2) := by decide +kernel
theorem dL_law_508 : decode cL_law 508 = .ok (.aload_n 2, 1) := by decide +kernel
theorem dL_law_509 : decode cL_law 509 = .ok (.invokevirtual 68, 3) := by decide +kernel
theorem dL_law_512 : decode cL_law 512 = .ok (.iload 5, 2) := by decide +kernel
theorem dL_law_514 : decode cL_law 514 = .ok (.if_icmp .eq 5, 3) := by decide +kernel
theorem dL_law_517 : decode cL_law 517 = .ok (.iconst 0, 1) := by decide +kernel
theorem dL_law_518 : decode cL_law 518 = .ok (.ireturn, 1) := by decide +kernel
theorem dL_law_519 : decode cL_law 519 = .ok (.iload 5, 2) := by decide +kernel
theorem dL_law_521 : decode cL_law 521 = .ok (.ifCond .ne 15, 3) := by decide +kernel
theorem dL_law_524 : decode cL_law 524 = .ok (.aload_n 3, 1) := by decide +kernel
theorem dL_law_525 : decode cL_law 525 = .ok (.iconst 0, 1) := by decide +kernel
theorem dL_law_526 : decode cL_law 526 = .ok (.laload, 1) := by decide +kernel
theorem dL_law_527 : decode cL_law 527 = .ok (.iload 6, 2) := by decide +kernel
theorem dL_law_529 : decode cL_law 529 = .ok (.i2l, 1) := by decide +kernel
theorem dL_law_530 : decode cL_law 530 = .ok (.lcmp, 1) := by decide +kernel
theorem dL_law_531 : decode cL_law 531 = .ok (.ifCond .eq 5, 3) := by decide +kernel
theorem dL_law_534 : decode cL_law 534 = .ok (.iconst 0, 1) := by decide +kernel
theorem dL_law_535 : decode cL_law 535 = .ok (.ireturn, 1) := by decide +kernel
theorem dL_law_536 : decode cL_law 536 = .ok (.goto 84, 3) := by decide +kernel
theorem dL_law_539 : decode cL_law 539 = .ok (.aload_n 1, 1) := by decide +kernel
theorem dL_law_540 : decode cL_law 540 = .ok (.aload_n 0, 1) := by decide +kernel
theorem dL_law_541 : decode cL_law 541 = .ok (.iload 4, 2) := by decide +kernel
theorem dL_law_543 : decode cL_law 543 = .ok (.iconst 1, 1) := by decide +kernel
theorem dL_law_544 : decode cL_law 544 = .ok (.iadd, 1) := by decide +kernel
theorem dL_law_545 : decode cL_law 545 = .ok (.iaload, 1) := by decide +kernel
theorem dL_law_546 : decode cL_law 546 = .ok (.aload_n 0, 1) := by decide +kernel
theorem dL_law_547 : decode cL_law 547 = .ok (.iload 4, 2) := by decide +kernel
theorem dL_law_549 : decode cL_law 549 = .ok (.iconst 2, 1) := by decide +kernel
theorem dL_law_550 : decode cL_law 550 = .ok (.iadd, 1) := by decide +kernel
theorem dL_law_551 : decode cL_law 551 = .ok (.iaload, 1) := by decide +kernel
theorem dL_law_552 : decode cL_law 552 = .ok (.aload_n 3, 1) := by decide +kernel
theorem dL_law_553 : decode cL_law 553 = .ok (.invokestatic 81, 3) := by decide +kernel
theorem dL_law_556 : decode cL_law 556 = .ok (.istore 5, 2) := by decide +kernel
theorem dL_law_558 : decode cL_law 558 = .ok (.aload_n 2, 1) := by decide +kernel
theorem dL_law_559 : decode cL_law 559 = .ok (.aload_n 0, 1) := by decide +kernel
theorem dL_law_560 : decode cL_law 560 = .ok (.iload 4, 2) := by decide +kernel
theorem dL_law_562 : decode cL_law 562 = .ok (.iconst 1, 1) := by decide +kernel
theorem dL_law_563 : decode cL_law 563 = .ok (.iadd, 1) := by decide +kernel
theorem dL_law_564 : decode cL_law 564 = .ok (.iaload, 1) := by decide +kernel
theorem dL_law_565 : decode cL_law 565 = .ok (.aload_n 0, 1) := by decide +kernel
theorem dL_law_566 : decode cL_law 566 = .ok (.iload 4, 2) := by decide +kernel
theorem dL_law_568 : decode cL_law 568 = .ok (.iconst 2, 1) := by decide +kernel
theorem dL_law_569 : decode cL_law 569 = .ok (.iadd, 1) := by decide +kernel
theorem dL_law_570 : decode cL_law 570 = .ok (.iaload, 1) := by decide +kernel
theorem dL_law_571 : decode cL_law 571 = .ok (.invokevirtual 83, 3) := by decide +kernel
theorem dL_law_574 : decode cL_law 574 = .ok (.istore 6, 2) := by decide +kernel
theorem dL_law_576 : decode cL_law 576 = .ok (.aload_n 2, 1) := by decide +kernel
theorem dL_law_577 : decode cL_law 577 = .ok (.invokevirtual 68, 3) := by decide +kernel
theorem dL_law_580 : decode cL_law 580 = .ok (.iload 5, 2) := by decide +kernel
theorem dL_law_582 : decode cL_law 582 = .ok (.if_icmp .eq 5, 3) := by decide +kernel
theorem dL_law_585 : decode cL_law 585 = .ok (.iconst 0, 1) := by decide +kernel
theorem dL_law_586 : decode cL_law 586 = .ok (.ireturn, 1) := by decide +kernel
theorem dL_law_587 : decode cL_law 587 = .ok (.iload 5, 2) := by decide +kernel
theorem dL_law_589 : decode cL_law 589 = .ok (.ifCond .ne 15, 3) := by decide +kernel
theorem dL_law_592 : decode cL_law 592 = .ok (.aload_n 3, 1) := by decide +kernel
theorem dL_law_593 : decode cL_law 593 = .ok (.iconst 0, 1) := by decide +kernel
theorem dL_law_594 : decode cL_law 594 = .ok (.laload, 1) := by decide +kernel
theorem dL_law_595 : decode cL_law 595 = .ok (.iload 6, 2) := by decide +kernel
theorem dL_law_597 : decode cL_law 597 = .ok (.i2l, 1) := by decide +kernel
theorem dL_law_598 : decode cL_law 598 = .ok (.lcmp, 1) := by decide +kernel
theorem dL_law_599 : decode cL_law 599 = .ok (.ifCond .eq 5, 3) := by decide +kernel
theorem dL_law_602 : decode cL_law 602 = .ok (.iconst 0, 1) := by decide +kernel
theorem dL_law_603 : decode cL_law 603 = .ok (.ireturn, 1) := by decide +kernel
theorem dL_law_604 : decode cL_law 604 = .ok (.goto 16, 3) := by decide +kernel
theorem dL_law_607 : decode cL_law 607 = .ok (.aload_n 1, 1) := by decide +kernel
theorem dL_law_608 : decode cL_law 608 = .ok (.invokevirtual 84, 3) := by decide +kernel
theorem dL_law_611 : decode cL_law 611 = .ok (.aload_n 2, 1) := by decide +kernel
theorem dL_law_612 : decode cL_law 612 = .ok (.invokevirtual 87, 3) := by decide +kernel
theorem dL_law_615 : decode cL_law 615 = .ok (.if_icmp .eq 5, 3) := by decide +kernel
theorem dL_law_618 : decode cL_law 618 = .ok (.iconst 0, 1) := by decide +kernel
theorem dL_law_619 : decode cL_law 619 = .ok (.ireturn, 1) := by decide +kernel
theorem dL_law_620 : decode cL_law 620 = .ok (.iinc 4 4, 3) := by decide +kernel
theorem dL_law_623 : decode cL_law 623 = .ok (.goto (-600), 3) := by decide +kernel
theorem dL_law_626 : decode cL_law 626 = .ok (.iconst 1, 1) := by decide +kernel
theorem dL_law_627 : decode cL_law 627 = .ok (.ireturn, 1) := by decide +kernel
set_option maxRecDepth 100000 in
set_option maxHeartbeats 4000000 in
theorem lw_case_token {p : Program} {l : Launch} {e : Env} {s : State} {m : MethodId} {below : List Frame} {meth : Method} {c : Code} {D : va_G} {cI cJ : ClassId} {tk : Nat} {a b : Nat → Nat} {o sc L : Nat} {xs : Nat → Int32} {R : St → St → Prop} (hSim : Sim R) (C : Cx p s m #[Value.ref sc] meth c RL cL_law 7 D cI cJ tk tkF (fun q : Nat => s.heap.size ≤ q)) (hr : meth.sig.returnType = ret) (hX : va_X sc L xs s s.heap) (hsc : sc < s.heap.size) (hL : L ≤ 2048) (hlx : l.stackTraces = false) (Xvalue : TX 120 "no such place of the pile, or what" (fun q : Nat => s.heap.size ≤ q) s) (Xrecord : TX 138 "no such what" (fun q : Nat => s.heap.size ≤ q) s) (Xkept : TX 141 "no such place of the record's pile, or what" (fun q : Nat => s.heap.size ≤ q) s) (Xhandler : TX 144 "no such error" (fun q : Nat => s.heap.size ≤ q) s) (Xnamed : TX 152 "no such name, or what" (fun q : Nat => s.heap.size ≤ q) s) {j : Nat} (x4 : Int32) (hj : 4 * j + 4 ≤ L) (hx4 : x4 = nI (4 * j)) (S T : St) (g : Nat → Int64) (hR : R S T) (H : Heap) (locs : List Loc) (ls : Array Slot) (G : Wl D (fun q : Nat => s.heap.size ≤ q) s (wL a b cI cJ o S T g) H locs) (hl : lv_has ls 7 [(0, .ref sc), (1, .ref (a 0)), (2, .ref (b 0)), (3, .ref o), (4, .int x4)])
    (kk : ∀ (S T : St) (g : Nat → Int64) (H : Heap) (locs : List Loc) (ls : Array Slot), R S T → Wl D (fun q : Nat => s.heap.size ≤ q) s (wL a b cI cJ o S T g) H locs → lv_has ls 7 [(0, .ref sc), (1, .ref (a 0)), (2, .ref (b 0)), (3, .ref o), (4, .int x4)] → W p l e room_1 s m #[Value.ref sc] below meth c H locs (43 + (j + 1)) (3054 + 6 * (j + 1)) (lw_Z below #[Value.ref sc] s) (F0 m 620 ls [])) : W p l e room_1 s m #[Value.ref sc] below meth c H locs (43 + j) (3054 + 6 * j) (lw_Z below #[Value.ref sc] s) (F0 m 104 ls []) := by
  have hA : ∀ q : Nat, s.heap.size ≤ q → (fun q : Nat => s.heap.size ≤ q) q := fun _ h => h
  have hscA : ¬ (fun q : Nat => s.heap.size ≤ q) sc := Nat.not_le.mpr hsc
  have i1 : vp_in (x4 + 1) L := lw_ix (k := 1) hL hx4 (by omega)
  have i2 : vp_in (x4 + 2) L := lw_ix (k := 2) hL hx4 (by omega)
  have i3 : vp_in (x4 + 3) L := lw_ix (k := 3) hL hx4 (by omega)
  obtain ⟨v, S1, T1, hE, hM, hR1⟩ := hSim.1 (xs (x4 + 1).toNatClampNeg) (xs (x4 + 2).toNatClampNeg) (xs (x4 + 3).toNatClampNeg) S T hR
  refine lv_aload_n C.1 C.2.1 dL_law_104 rfl (lv_at hl 1 rfl) ?_
  refine lv_aload_n C.1 C.2.1 dL_law_105 rfl (lv_at hl 0 rfl) ?_
  refine lv_iload C.1 C.2.1 dL_law_106 (lv_at hl 4 rfl) ?_
  refine lv_iconst (v := 1) C.1 C.2.1 dL_law_108 (by decide) ?_
  refine lv_iadd C.1 C.2.1 dL_law_109 ?_
  refine va_sld C.1 C.2.1 hX hsc hscA G.2.2 i1 dL_law_110 ?_
  refine lv_aload_n C.1 C.2.1 dL_law_111 rfl (lv_at hl 0 rfl) ?_
  refine lv_iload C.1 C.2.1 dL_law_112 (lv_at hl 4 rfl) ?_
  refine lv_iconst (v := 2) C.1 C.2.1 dL_law_114 (by decide) ?_
  refine lv_iadd C.1 C.2.1 dL_law_115 ?_
  refine va_sld C.1 C.2.1 hX hsc hscA G.2.2 i2 dL_law_116 ?_
  refine lv_aload_n C.1 C.2.1 dL_law_117 rfl (lv_at hl 0 rfl) ?_
  refine lv_iload C.1 C.2.1 dL_law_118 (lv_at hl 4 rfl) ?_
  refine lv_iconst (v := 3) C.1 C.2.1 dL_law_120 (by decide) ?_
  refine lv_iadd C.1 C.2.1 dL_law_121 ?_
  refine va_sld C.1 C.2.1 hX hsc hscA G.2.2 i3 dL_law_122 ?_
  refine LE_i (As := [.int (xs (x4 + 1).toNatClampNeg), .int (xs (x4 + 2).toNatClampNeg), .int (xs (x4 + 3).toNatClampNeg)]) (na := 3) C hA G (mX7_token_0 l D a cI cJ tk tkF (xs (x4 + 1).toNatClampNeg) (xs (x4 + 2).toNatClampNeg) (xs (x4 + 3).toNatClampNeg) S _ hE) k_255 k_256 k_257 k_258 (by decide +kernel) ⟨Nat.le_of_ble_eq_true rfl, Nat.le_of_ble_eq_true rfl⟩ rfl rfl ⟨by show _ ≤ 1072; omega, by show _ ≤ 11276; omega⟩ rfl hl.1 rfl (Nat.le_of_ble_eq_true rfl) dL_law_123 (fun H locs G => ?_)
  refine lv_aload_n C.1 C.2.1 dL_law_126 rfl (lv_at hl 2 rfl) ?_
  refine lv_aload_n C.1 C.2.1 dL_law_127 rfl (lv_at hl 0 rfl) ?_
  refine lv_iload C.1 C.2.1 dL_law_128 (lv_at hl 4 rfl) ?_
  refine lv_iconst (v := 1) C.1 C.2.1 dL_law_130 (by decide) ?_
  refine lv_iadd C.1 C.2.1 dL_law_131 ?_
  refine va_sld C.1 C.2.1 hX hsc hscA G.2.2 i1 dL_law_132 ?_
  refine lv_aload_n C.1 C.2.1 dL_law_133 rfl (lv_at hl 0 rfl) ?_
  refine lv_iload C.1 C.2.1 dL_law_134 (lv_at hl 4 rfl) ?_
  refine lv_iconst (v := 2) C.1 C.2.1 dL_law_136 (by decide) ?_
  refine lv_iadd C.1 C.2.1 dL_law_137 ?_
  refine va_sld C.1 C.2.1 hX hsc hscA G.2.2 i2 dL_law_138 ?_
  refine lv_aload_n C.1 C.2.1 dL_law_139 rfl (lv_at hl 0 rfl) ?_
  refine lv_iload C.1 C.2.1 dL_law_140 (lv_at hl 4 rfl) ?_
  refine lv_iconst (v := 3) C.1 C.2.1 dL_law_142 (by decide) ?_
  refine lv_iadd C.1 C.2.1 dL_law_143 ?_
  refine va_sld C.1 C.2.1 hX hsc hscA G.2.2 i3 dL_law_144 ?_
  refine LM_i (As := [.int (xs (x4 + 1).toNatClampNeg), .int (xs (x4 + 2).toNatClampNeg), .int (xs (x4 + 3).toNatClampNeg)]) (na := 3) C hA G (mX8_token_0 l D b cI cJ tk tkF (xs (x4 + 1).toNatClampNeg) (xs (x4 + 2).toNatClampNeg) (xs (x4 + 3).toNatClampNeg) T _ hM) k_853 k_854 k_855 k_856 (by decide +kernel) ⟨Nat.le_of_ble_eq_true rfl, Nat.le_of_ble_eq_true rfl⟩ rfl rfl ⟨by show _ ≤ 1072; omega, by show _ ≤ 11276; omega⟩ rfl hl.1 rfl (Nat.le_of_ble_eq_true rfl) dL_law_145 (fun H locs G => ?_)
  refine lv_icmp_eq (tgt := 620) C.1 C.2.1 dL_law_148 (by decide) (fun _ => ?_) (fun h9 => absurd rfl h9)
  exact W.widen (by omega) (by omega) (kk S1 T1 g H locs ls hR1 G (lv_sub hl [0, 1, 2, 3, 4] rfl))
set_option maxRecDepth 100000 in
set_option maxHeartbeats 4000000 in
theorem lw_case_clear {p : Program} {l : Launch} {e : Env} {s : State} {m : MethodId} {below : List Frame} {meth : Method} {c : Code} {D : va_G} {cI cJ : ClassId} {tk : Nat} {a b : Nat → Nat} {o sc L : Nat} {xs : Nat → Int32} {R : St → St → Prop} (hSim : Sim R) (C : Cx p s m #[Value.ref sc] meth c RL cL_law 7 D cI cJ tk tkF (fun q : Nat => s.heap.size ≤ q)) (hr : meth.sig.returnType = ret) (hX : va_X sc L xs s s.heap) (hsc : sc < s.heap.size) (hL : L ≤ 2048) (hlx : l.stackTraces = false) (Xvalue : TX 120 "no such place of the pile, or what" (fun q : Nat => s.heap.size ≤ q) s) (Xrecord : TX 138 "no such what" (fun q : Nat => s.heap.size ≤ q) s) (Xkept : TX 141 "no such place of the record's pile, or what" (fun q : Nat => s.heap.size ≤ q) s) (Xhandler : TX 144 "no such error" (fun q : Nat => s.heap.size ≤ q) s) (Xnamed : TX 152 "no such name, or what" (fun q : Nat => s.heap.size ≤ q) s) {j : Nat} (x4 : Int32) (hj : 4 * j + 4 ≤ L) (hx4 : x4 = nI (4 * j)) (S T : St) (g : Nat → Int64) (hR : R S T) (H : Heap) (locs : List Loc) (ls : Array Slot) (G : Wl D (fun q : Nat => s.heap.size ≤ q) s (wL a b cI cJ o S T g) H locs) (hl : lv_has ls 7 [(0, .ref sc), (1, .ref (a 0)), (2, .ref (b 0)), (3, .ref o), (4, .int x4)])
    (kk : ∀ (S T : St) (g : Nat → Int64) (H : Heap) (locs : List Loc) (ls : Array Slot), R S T → Wl D (fun q : Nat => s.heap.size ≤ q) s (wL a b cI cJ o S T g) H locs → lv_has ls 7 [(0, .ref sc), (1, .ref (a 0)), (2, .ref (b 0)), (3, .ref o), (4, .int x4)] → W p l e room_1 s m #[Value.ref sc] below meth c H locs (43 + (j + 1)) (3054 + 6 * (j + 1)) (lw_Z below #[Value.ref sc] s) (F0 m 620 ls [])) : W p l e room_1 s m #[Value.ref sc] below meth c H locs (43 + j) (3054 + 6 * j) (lw_Z below #[Value.ref sc] s) (F0 m 153 ls []) := by
  have hA : ∀ q : Nat, s.heap.size ≤ q → (fun q : Nat => s.heap.size ≤ q) q := fun _ h => h
  have hscA : ¬ (fun q : Nat => s.heap.size ≤ q) sc := Nat.not_le.mpr hsc
  have i1 : vp_in (x4 + 1) L := lw_ix (k := 1) hL hx4 (by omega)
  have i2 : vp_in (x4 + 2) L := lw_ix (k := 2) hL hx4 (by omega)
  have i3 : vp_in (x4 + 3) L := lw_ix (k := 3) hL hx4 (by omega)
  obtain ⟨v, S1, T1, hE, hM, hR1⟩ := hSim.2.1 (xs (x4 + 1).toNatClampNeg) S T hR
  refine lv_aload_n C.1 C.2.1 dL_law_153 rfl (lv_at hl 1 rfl) ?_
  refine lv_aload_n C.1 C.2.1 dL_law_154 rfl (lv_at hl 0 rfl) ?_
  refine lv_iload C.1 C.2.1 dL_law_155 (lv_at hl 4 rfl) ?_
  refine lv_iconst (v := 1) C.1 C.2.1 dL_law_157 (by decide) ?_
  refine lv_iadd C.1 C.2.1 dL_law_158 ?_
  refine va_sld C.1 C.2.1 hX hsc hscA G.2.2 i1 dL_law_159 ?_
  refine LE_i (As := [.int (xs (x4 + 1).toNatClampNeg)]) (na := 1) C hA G (mX7_clear_0 l D a cI cJ tk tkF (xs (x4 + 1).toNatClampNeg) S _ hE) k_275 k_276 k_277 k_278 (by decide +kernel) ⟨Nat.le_of_ble_eq_true rfl, Nat.le_of_ble_eq_true rfl⟩ rfl rfl ⟨by show _ ≤ 1072; omega, by show _ ≤ 11276; omega⟩ rfl hl.1 rfl (Nat.le_of_ble_eq_true rfl) dL_law_160 (fun H locs G => ?_)
  refine lv_aload_n C.1 C.2.1 dL_law_163 rfl (lv_at hl 2 rfl) ?_
  refine lv_aload_n C.1 C.2.1 dL_law_164 rfl (lv_at hl 0 rfl) ?_
  refine lv_iload C.1 C.2.1 dL_law_165 (lv_at hl 4 rfl) ?_
  refine lv_iconst (v := 1) C.1 C.2.1 dL_law_167 (by decide) ?_
  refine lv_iadd C.1 C.2.1 dL_law_168 ?_
  refine va_sld C.1 C.2.1 hX hsc hscA G.2.2 i1 dL_law_169 ?_
  refine LM_i (As := [.int (xs (x4 + 1).toNatClampNeg)]) (na := 1) C hA G (mX8_clear_0 l D b cI cJ tk tkF (xs (x4 + 1).toNatClampNeg) T _ hM) k_863 k_864 k_865 k_866 (by decide +kernel) ⟨Nat.le_of_ble_eq_true rfl, Nat.le_of_ble_eq_true rfl⟩ rfl rfl ⟨by show _ ≤ 1072; omega, by show _ ≤ 11276; omega⟩ rfl hl.1 rfl (Nat.le_of_ble_eq_true rfl) dL_law_170 (fun H locs G => ?_)
  refine lv_icmp_eq (tgt := 620) C.1 C.2.1 dL_law_173 (by decide) (fun _ => ?_) (fun h9 => absurd rfl h9)
  exact W.widen (by omega) (by omega) (kk S1 T1 g H locs ls hR1 G (lv_sub hl [0, 1, 2, 3, 4] rfl))
set_option maxRecDepth 100000 in
set_option maxHeartbeats 4000000 in
theorem lw_case_push {p : Program} {l : Launch} {e : Env} {s : State} {m : MethodId} {below : List Frame} {meth : Method} {c : Code} {D : va_G} {cI cJ : ClassId} {tk : Nat} {a b : Nat → Nat} {o sc L : Nat} {xs : Nat → Int32} {R : St → St → Prop} (hSim : Sim R) (C : Cx p s m #[Value.ref sc] meth c RL cL_law 7 D cI cJ tk tkF (fun q : Nat => s.heap.size ≤ q)) (hr : meth.sig.returnType = ret) (hX : va_X sc L xs s s.heap) (hsc : sc < s.heap.size) (hL : L ≤ 2048) (hlx : l.stackTraces = false) (Xvalue : TX 120 "no such place of the pile, or what" (fun q : Nat => s.heap.size ≤ q) s) (Xrecord : TX 138 "no such what" (fun q : Nat => s.heap.size ≤ q) s) (Xkept : TX 141 "no such place of the record's pile, or what" (fun q : Nat => s.heap.size ≤ q) s) (Xhandler : TX 144 "no such error" (fun q : Nat => s.heap.size ≤ q) s) (Xnamed : TX 152 "no such name, or what" (fun q : Nat => s.heap.size ≤ q) s) {j : Nat} (x4 : Int32) (hj : 4 * j + 4 ≤ L) (hx4 : x4 = nI (4 * j)) (S T : St) (g : Nat → Int64) (hR : R S T) (H : Heap) (locs : List Loc) (ls : Array Slot) (G : Wl D (fun q : Nat => s.heap.size ≤ q) s (wL a b cI cJ o S T g) H locs) (hl : lv_has ls 7 [(0, .ref sc), (1, .ref (a 0)), (2, .ref (b 0)), (3, .ref o), (4, .int x4)])
    (kk : ∀ (S T : St) (g : Nat → Int64) (H : Heap) (locs : List Loc) (ls : Array Slot), R S T → Wl D (fun q : Nat => s.heap.size ≤ q) s (wL a b cI cJ o S T g) H locs → lv_has ls 7 [(0, .ref sc), (1, .ref (a 0)), (2, .ref (b 0)), (3, .ref o), (4, .int x4)] → W p l e room_1 s m #[Value.ref sc] below meth c H locs (43 + (j + 1)) (3054 + 6 * (j + 1)) (lw_Z below #[Value.ref sc] s) (F0 m 620 ls [])) : W p l e room_1 s m #[Value.ref sc] below meth c H locs (43 + j) (3054 + 6 * j) (lw_Z below #[Value.ref sc] s) (F0 m 178 ls []) := by
  have hA : ∀ q : Nat, s.heap.size ≤ q → (fun q : Nat => s.heap.size ≤ q) q := fun _ h => h
  have hscA : ¬ (fun q : Nat => s.heap.size ≤ q) sc := Nat.not_le.mpr hsc
  have i1 : vp_in (x4 + 1) L := lw_ix (k := 1) hL hx4 (by omega)
  have i2 : vp_in (x4 + 2) L := lw_ix (k := 2) hL hx4 (by omega)
  have i3 : vp_in (x4 + 3) L := lw_ix (k := 3) hL hx4 (by omega)
  obtain ⟨v, S1, T1, hE, hM, hR1⟩ := hSim.2.2.1 (xs (x4 + 1).toNatClampNeg) (xs (x4 + 2).toNatClampNeg) S T hR
  refine lv_aload_n C.1 C.2.1 dL_law_178 rfl (lv_at hl 1 rfl) ?_
  refine lv_aload_n C.1 C.2.1 dL_law_179 rfl (lv_at hl 0 rfl) ?_
  refine lv_iload C.1 C.2.1 dL_law_180 (lv_at hl 4 rfl) ?_
  refine lv_iconst (v := 1) C.1 C.2.1 dL_law_182 (by decide) ?_
  refine lv_iadd C.1 C.2.1 dL_law_183 ?_
  refine va_sld C.1 C.2.1 hX hsc hscA G.2.2 i1 dL_law_184 ?_
  refine lv_aload_n C.1 C.2.1 dL_law_185 rfl (lv_at hl 0 rfl) ?_
  refine lv_iload C.1 C.2.1 dL_law_186 (lv_at hl 4 rfl) ?_
  refine lv_iconst (v := 2) C.1 C.2.1 dL_law_188 (by decide) ?_
  refine lv_iadd C.1 C.2.1 dL_law_189 ?_
  refine va_sld C.1 C.2.1 hX hsc hscA G.2.2 i2 dL_law_190 ?_
  refine LE_i (As := [.int (xs (x4 + 1).toNatClampNeg), .int (xs (x4 + 2).toNatClampNeg)]) (na := 2) C hA G (mX7_push_0 l D a cI cJ tk tkF (xs (x4 + 1).toNatClampNeg) (xs (x4 + 2).toNatClampNeg) S _ hE) k_284 k_285 k_286 k_287 (by decide +kernel) ⟨Nat.le_of_ble_eq_true rfl, Nat.le_of_ble_eq_true rfl⟩ rfl rfl ⟨by show _ ≤ 1072; omega, by show _ ≤ 11276; omega⟩ rfl hl.1 rfl (Nat.le_of_ble_eq_true rfl) dL_law_191 (fun H locs G => ?_)
  refine lv_aload_n C.1 C.2.1 dL_law_194 rfl (lv_at hl 2 rfl) ?_
  refine lv_aload_n C.1 C.2.1 dL_law_195 rfl (lv_at hl 0 rfl) ?_
  refine lv_iload C.1 C.2.1 dL_law_196 (lv_at hl 4 rfl) ?_
  refine lv_iconst (v := 1) C.1 C.2.1 dL_law_198 (by decide) ?_
  refine lv_iadd C.1 C.2.1 dL_law_199 ?_
  refine va_sld C.1 C.2.1 hX hsc hscA G.2.2 i1 dL_law_200 ?_
  refine lv_aload_n C.1 C.2.1 dL_law_201 rfl (lv_at hl 0 rfl) ?_
  refine lv_iload C.1 C.2.1 dL_law_202 (lv_at hl 4 rfl) ?_
  refine lv_iconst (v := 2) C.1 C.2.1 dL_law_204 (by decide) ?_
  refine lv_iadd C.1 C.2.1 dL_law_205 ?_
  refine va_sld C.1 C.2.1 hX hsc hscA G.2.2 i2 dL_law_206 ?_
  refine LM_i (As := [.int (xs (x4 + 1).toNatClampNeg), .int (xs (x4 + 2).toNatClampNeg)]) (na := 2) C hA G (mX8_push_0 l D b cI cJ tk tkF (xs (x4 + 1).toNatClampNeg) (xs (x4 + 2).toNatClampNeg) T _ hM) k_867 k_868 k_869 k_870 (by decide +kernel) ⟨Nat.le_of_ble_eq_true rfl, Nat.le_of_ble_eq_true rfl⟩ rfl rfl ⟨by show _ ≤ 1072; omega, by show _ ≤ 11276; omega⟩ rfl hl.1 rfl (Nat.le_of_ble_eq_true rfl) dL_law_207 (fun H locs G => ?_)
  refine lv_icmp_eq (tgt := 620) C.1 C.2.1 dL_law_210 (by decide) (fun _ => ?_) (fun h9 => absurd rfl h9)
  exact W.widen (by omega) (by omega) (kk S1 T1 g H locs ls hR1 G (lv_sub hl [0, 1, 2, 3, 4] rfl))
set_option maxRecDepth 100000 in
set_option maxHeartbeats 4000000 in
theorem lw_case_drop {p : Program} {l : Launch} {e : Env} {s : State} {m : MethodId} {below : List Frame} {meth : Method} {c : Code} {D : va_G} {cI cJ : ClassId} {tk : Nat} {a b : Nat → Nat} {o sc L : Nat} {xs : Nat → Int32} {R : St → St → Prop} (hSim : Sim R) (C : Cx p s m #[Value.ref sc] meth c RL cL_law 7 D cI cJ tk tkF (fun q : Nat => s.heap.size ≤ q)) (hr : meth.sig.returnType = ret) (hX : va_X sc L xs s s.heap) (hsc : sc < s.heap.size) (hL : L ≤ 2048) (hlx : l.stackTraces = false) (Xvalue : TX 120 "no such place of the pile, or what" (fun q : Nat => s.heap.size ≤ q) s) (Xrecord : TX 138 "no such what" (fun q : Nat => s.heap.size ≤ q) s) (Xkept : TX 141 "no such place of the record's pile, or what" (fun q : Nat => s.heap.size ≤ q) s) (Xhandler : TX 144 "no such error" (fun q : Nat => s.heap.size ≤ q) s) (Xnamed : TX 152 "no such name, or what" (fun q : Nat => s.heap.size ≤ q) s) {j : Nat} (x4 : Int32) (hj : 4 * j + 4 ≤ L) (hx4 : x4 = nI (4 * j)) (S T : St) (g : Nat → Int64) (hR : R S T) (H : Heap) (locs : List Loc) (ls : Array Slot) (G : Wl D (fun q : Nat => s.heap.size ≤ q) s (wL a b cI cJ o S T g) H locs) (hl : lv_has ls 7 [(0, .ref sc), (1, .ref (a 0)), (2, .ref (b 0)), (3, .ref o), (4, .int x4)])
    (kk : ∀ (S T : St) (g : Nat → Int64) (H : Heap) (locs : List Loc) (ls : Array Slot), R S T → Wl D (fun q : Nat => s.heap.size ≤ q) s (wL a b cI cJ o S T g) H locs → lv_has ls 7 [(0, .ref sc), (1, .ref (a 0)), (2, .ref (b 0)), (3, .ref o), (4, .int x4)] → W p l e room_1 s m #[Value.ref sc] below meth c H locs (43 + (j + 1)) (3054 + 6 * (j + 1)) (lw_Z below #[Value.ref sc] s) (F0 m 620 ls [])) : W p l e room_1 s m #[Value.ref sc] below meth c H locs (43 + j) (3054 + 6 * j) (lw_Z below #[Value.ref sc] s) (F0 m 215 ls []) := by
  have hA : ∀ q : Nat, s.heap.size ≤ q → (fun q : Nat => s.heap.size ≤ q) q := fun _ h => h
  have hscA : ¬ (fun q : Nat => s.heap.size ≤ q) sc := Nat.not_le.mpr hsc
  have i1 : vp_in (x4 + 1) L := lw_ix (k := 1) hL hx4 (by omega)
  have i2 : vp_in (x4 + 2) L := lw_ix (k := 2) hL hx4 (by omega)
  have i3 : vp_in (x4 + 3) L := lw_ix (k := 3) hL hx4 (by omega)
  obtain ⟨v, S1, T1, hE, hM, hR1⟩ := hSim.2.2.2.1 S T hR
  refine lv_aload_n C.1 C.2.1 dL_law_215 rfl (lv_at hl 1 rfl) ?_
  refine LE_i (As := []) (na := 0) C hA G (mX7_drop_0 l D a cI cJ tk tkF S _ hE) k_296 k_297 k_298 k_299 (by decide +kernel) ⟨Nat.le_of_ble_eq_true rfl, Nat.le_of_ble_eq_true rfl⟩ rfl rfl ⟨by show _ ≤ 1072; omega, by show _ ≤ 11276; omega⟩ rfl hl.1 rfl (Nat.le_of_ble_eq_true rfl) dL_law_216 (fun H locs G => ?_)
  refine lv_aload_n C.1 C.2.1 dL_law_219 rfl (lv_at hl 2 rfl) ?_
  refine LM_i (As := []) (na := 0) C hA G (mX8_drop_0 l D b cI cJ tk tkF T _ hM) k_875 k_876 k_877 k_878 (by decide +kernel) ⟨Nat.le_of_ble_eq_true rfl, Nat.le_of_ble_eq_true rfl⟩ rfl rfl ⟨by show _ ≤ 1072; omega, by show _ ≤ 11276; omega⟩ rfl hl.1 rfl (Nat.le_of_ble_eq_true rfl) dL_law_220 (fun H locs G => ?_)
  refine lv_icmp_eq (tgt := 620) C.1 C.2.1 dL_law_223 (by decide) (fun _ => ?_) (fun h9 => absurd rfl h9)
  exact W.widen (by omega) (by omega) (kk S1 T1 g H locs ls hR1 G (lv_sub hl [0, 1, 2, 3, 4] rfl))
set_option maxRecDepth 100000 in
set_option maxHeartbeats 4000000 in
theorem lw_case_run {p : Program} {l : Launch} {e : Env} {s : State} {m : MethodId} {below : List Frame} {meth : Method} {c : Code} {D : va_G} {cI cJ : ClassId} {tk : Nat} {a b : Nat → Nat} {o sc L : Nat} {xs : Nat → Int32} {R : St → St → Prop} (hSim : Sim R) (C : Cx p s m #[Value.ref sc] meth c RL cL_law 7 D cI cJ tk tkF (fun q : Nat => s.heap.size ≤ q)) (hr : meth.sig.returnType = ret) (hX : va_X sc L xs s s.heap) (hsc : sc < s.heap.size) (hL : L ≤ 2048) (hlx : l.stackTraces = false) (Xvalue : TX 120 "no such place of the pile, or what" (fun q : Nat => s.heap.size ≤ q) s) (Xrecord : TX 138 "no such what" (fun q : Nat => s.heap.size ≤ q) s) (Xkept : TX 141 "no such place of the record's pile, or what" (fun q : Nat => s.heap.size ≤ q) s) (Xhandler : TX 144 "no such error" (fun q : Nat => s.heap.size ≤ q) s) (Xnamed : TX 152 "no such name, or what" (fun q : Nat => s.heap.size ≤ q) s) {j : Nat} (x4 : Int32) (hj : 4 * j + 4 ≤ L) (hx4 : x4 = nI (4 * j)) (S T : St) (g : Nat → Int64) (hR : R S T) (H : Heap) (locs : List Loc) (ls : Array Slot) (G : Wl D (fun q : Nat => s.heap.size ≤ q) s (wL a b cI cJ o S T g) H locs) (hl : lv_has ls 7 [(0, .ref sc), (1, .ref (a 0)), (2, .ref (b 0)), (3, .ref o), (4, .int x4)])
    (kk : ∀ (S T : St) (g : Nat → Int64) (H : Heap) (locs : List Loc) (ls : Array Slot), R S T → Wl D (fun q : Nat => s.heap.size ≤ q) s (wL a b cI cJ o S T g) H locs → lv_has ls 7 [(0, .ref sc), (1, .ref (a 0)), (2, .ref (b 0)), (3, .ref o), (4, .int x4)] → W p l e room_1 s m #[Value.ref sc] below meth c H locs (43 + (j + 1)) (3054 + 6 * (j + 1)) (lw_Z below #[Value.ref sc] s) (F0 m 620 ls [])) : W p l e room_1 s m #[Value.ref sc] below meth c H locs (43 + j) (3054 + 6 * j) (lw_Z below #[Value.ref sc] s) (F0 m 228 ls []) := by
  have hA : ∀ q : Nat, s.heap.size ≤ q → (fun q : Nat => s.heap.size ≤ q) q := fun _ h => h
  have hscA : ¬ (fun q : Nat => s.heap.size ≤ q) sc := Nat.not_le.mpr hsc
  have i1 : vp_in (x4 + 1) L := lw_ix (k := 1) hL hx4 (by omega)
  have i2 : vp_in (x4 + 2) L := lw_ix (k := 2) hL hx4 (by omega)
  have i3 : vp_in (x4 + 3) L := lw_ix (k := 3) hL hx4 (by omega)
  obtain ⟨v, S1, T1, hE, hM, hR1⟩ := hSim.2.2.2.2.1 (xs (x4 + 1).toNatClampNeg) (xs (x4 + 2).toNatClampNeg) S T hR
  refine lv_aload_n C.1 C.2.1 dL_law_228 rfl (lv_at hl 1 rfl) ?_
  refine lv_aload_n C.1 C.2.1 dL_law_229 rfl (lv_at hl 0 rfl) ?_
  refine lv_iload C.1 C.2.1 dL_law_230 (lv_at hl 4 rfl) ?_
  refine lv_iconst (v := 1) C.1 C.2.1 dL_law_232 (by decide) ?_
  refine lv_iadd C.1 C.2.1 dL_law_233 ?_
  refine va_sld C.1 C.2.1 hX hsc hscA G.2.2 i1 dL_law_234 ?_
  refine lv_aload_n C.1 C.2.1 dL_law_235 rfl (lv_at hl 0 rfl) ?_
  refine lv_iload C.1 C.2.1 dL_law_236 (lv_at hl 4 rfl) ?_
  refine lv_iconst (v := 2) C.1 C.2.1 dL_law_238 (by decide) ?_
  refine lv_iadd C.1 C.2.1 dL_law_239 ?_
  refine va_sld C.1 C.2.1 hX hsc hscA G.2.2 i2 dL_law_240 ?_
  refine LE_i (As := [.int (xs (x4 + 1).toNatClampNeg), .int (xs (x4 + 2).toNatClampNeg)]) (na := 2) C hA G (mX7_run_0 l D a cI cJ tk tkF (xs (x4 + 1).toNatClampNeg) (xs (x4 + 2).toNatClampNeg) S _ hE) k_304 k_305 k_306 k_307 (by decide +kernel) ⟨Nat.le_of_ble_eq_true rfl, Nat.le_of_ble_eq_true rfl⟩ rfl rfl ⟨by show _ ≤ 1072; omega, by show _ ≤ 11276; omega⟩ rfl hl.1 rfl (Nat.le_of_ble_eq_true rfl) dL_law_241 (fun H locs G => ?_)
  refine lv_aload_n C.1 C.2.1 dL_law_244 rfl (lv_at hl 2 rfl) ?_
  refine lv_aload_n C.1 C.2.1 dL_law_245 rfl (lv_at hl 0 rfl) ?_
  refine lv_iload C.1 C.2.1 dL_law_246 (lv_at hl 4 rfl) ?_
  refine lv_iconst (v := 1) C.1 C.2.1 dL_law_248 (by decide) ?_
  refine lv_iadd C.1 C.2.1 dL_law_249 ?_
  refine va_sld C.1 C.2.1 hX hsc hscA G.2.2 i1 dL_law_250 ?_
  refine lv_aload_n C.1 C.2.1 dL_law_251 rfl (lv_at hl 0 rfl) ?_
  refine lv_iload C.1 C.2.1 dL_law_252 (lv_at hl 4 rfl) ?_
  refine lv_iconst (v := 2) C.1 C.2.1 dL_law_254 (by decide) ?_
  refine lv_iadd C.1 C.2.1 dL_law_255 ?_
  refine va_sld C.1 C.2.1 hX hsc hscA G.2.2 i2 dL_law_256 ?_
  refine LM_i (As := [.int (xs (x4 + 1).toNatClampNeg), .int (xs (x4 + 2).toNatClampNeg)]) (na := 2) C hA G (mX8_run_0 l D b cI cJ tk tkF (xs (x4 + 1).toNatClampNeg) (xs (x4 + 2).toNatClampNeg) T _ hM) k_883 k_884 k_885 k_886 (by decide +kernel) ⟨Nat.le_of_ble_eq_true rfl, Nat.le_of_ble_eq_true rfl⟩ rfl rfl ⟨by show _ ≤ 1072; omega, by show _ ≤ 11276; omega⟩ rfl hl.1 rfl (Nat.le_of_ble_eq_true rfl) dL_law_257 (fun H locs G => ?_)
  refine lv_icmp_eq (tgt := 620) C.1 C.2.1 dL_law_260 (by decide) (fun _ => ?_) (fun h9 => absurd rfl h9)
  exact W.widen (by omega) (by omega) (kk S1 T1 g H locs ls hR1 G (lv_sub hl [0, 1, 2, 3, 4] rfl))
set_option maxRecDepth 100000 in
set_option maxHeartbeats 4000000 in
theorem lw_case_interrupt {p : Program} {l : Launch} {e : Env} {s : State} {m : MethodId} {below : List Frame} {meth : Method} {c : Code} {D : va_G} {cI cJ : ClassId} {tk : Nat} {a b : Nat → Nat} {o sc L : Nat} {xs : Nat → Int32} {R : St → St → Prop} (hSim : Sim R) (C : Cx p s m #[Value.ref sc] meth c RL cL_law 7 D cI cJ tk tkF (fun q : Nat => s.heap.size ≤ q)) (hr : meth.sig.returnType = ret) (hX : va_X sc L xs s s.heap) (hsc : sc < s.heap.size) (hL : L ≤ 2048) (hlx : l.stackTraces = false) (Xvalue : TX 120 "no such place of the pile, or what" (fun q : Nat => s.heap.size ≤ q) s) (Xrecord : TX 138 "no such what" (fun q : Nat => s.heap.size ≤ q) s) (Xkept : TX 141 "no such place of the record's pile, or what" (fun q : Nat => s.heap.size ≤ q) s) (Xhandler : TX 144 "no such error" (fun q : Nat => s.heap.size ≤ q) s) (Xnamed : TX 152 "no such name, or what" (fun q : Nat => s.heap.size ≤ q) s) {j : Nat} (x4 : Int32) (hj : 4 * j + 4 ≤ L) (hx4 : x4 = nI (4 * j)) (S T : St) (g : Nat → Int64) (hR : R S T) (H : Heap) (locs : List Loc) (ls : Array Slot) (G : Wl D (fun q : Nat => s.heap.size ≤ q) s (wL a b cI cJ o S T g) H locs) (hl : lv_has ls 7 [(0, .ref sc), (1, .ref (a 0)), (2, .ref (b 0)), (3, .ref o), (4, .int x4)])
    (kk : ∀ (S T : St) (g : Nat → Int64) (H : Heap) (locs : List Loc) (ls : Array Slot), R S T → Wl D (fun q : Nat => s.heap.size ≤ q) s (wL a b cI cJ o S T g) H locs → lv_has ls 7 [(0, .ref sc), (1, .ref (a 0)), (2, .ref (b 0)), (3, .ref o), (4, .int x4)] → W p l e room_1 s m #[Value.ref sc] below meth c H locs (43 + (j + 1)) (3054 + 6 * (j + 1)) (lw_Z below #[Value.ref sc] s) (F0 m 620 ls [])) : W p l e room_1 s m #[Value.ref sc] below meth c H locs (43 + j) (3054 + 6 * j) (lw_Z below #[Value.ref sc] s) (F0 m 265 ls []) := by
  have hA : ∀ q : Nat, s.heap.size ≤ q → (fun q : Nat => s.heap.size ≤ q) q := fun _ h => h
  have hscA : ¬ (fun q : Nat => s.heap.size ≤ q) sc := Nat.not_le.mpr hsc
  have i1 : vp_in (x4 + 1) L := lw_ix (k := 1) hL hx4 (by omega)
  have i2 : vp_in (x4 + 2) L := lw_ix (k := 2) hL hx4 (by omega)
  have i3 : vp_in (x4 + 3) L := lw_ix (k := 3) hL hx4 (by omega)
  obtain ⟨v, S1, T1, hE, hM, hR1⟩ := hSim.2.2.2.2.2.1 S T hR
  refine lv_aload_n C.1 C.2.1 dL_law_265 rfl (lv_at hl 1 rfl) ?_
  refine LE_i (As := []) (na := 0) C hA G (mX7_interrupt_0 l D a cI cJ tk tkF S _ hE) k_586 k_587 k_588 k_589 (by decide +kernel) ⟨Nat.le_of_ble_eq_true rfl, Nat.le_of_ble_eq_true rfl⟩ rfl rfl ⟨by show _ ≤ 1072; omega, by show _ ≤ 11276; omega⟩ rfl hl.1 rfl (Nat.le_of_ble_eq_true rfl) dL_law_266 (fun H locs G => ?_)
  refine lv_aload_n C.1 C.2.1 dL_law_269 rfl (lv_at hl 2 rfl) ?_
  refine LM_i (As := []) (na := 0) C hA G (mX8_interrupt_0 l D b cI cJ tk tkF T _ hM) k_879 k_880 k_881 k_882 (by decide +kernel) ⟨Nat.le_of_ble_eq_true rfl, Nat.le_of_ble_eq_true rfl⟩ rfl rfl ⟨by show _ ≤ 1072; omega, by show _ ≤ 11276; omega⟩ rfl hl.1 rfl (Nat.le_of_ble_eq_true rfl) dL_law_270 (fun H locs G => ?_)
  refine lv_icmp_eq (tgt := 620) C.1 C.2.1 dL_law_273 (by decide) (fun _ => ?_) (fun h9 => absurd rfl h9)
  exact W.widen (by omega) (by omega) (kk S1 T1 g H locs ls hR1 G (lv_sub hl [0, 1, 2, 3, 4] rfl))
set_option maxRecDepth 100000 in
set_option maxHeartbeats 4000000 in
theorem lw_case_size {p : Program} {l : Launch} {e : Env} {s : State} {m : MethodId} {below : List Frame} {meth : Method} {c : Code} {D : va_G} {cI cJ : ClassId} {tk : Nat} {a b : Nat → Nat} {o sc L : Nat} {xs : Nat → Int32} {R : St → St → Prop} (hSim : Sim R) (C : Cx p s m #[Value.ref sc] meth c RL cL_law 7 D cI cJ tk tkF (fun q : Nat => s.heap.size ≤ q)) (hr : meth.sig.returnType = ret) (hX : va_X sc L xs s s.heap) (hsc : sc < s.heap.size) (hL : L ≤ 2048) (hlx : l.stackTraces = false) (Xvalue : TX 120 "no such place of the pile, or what" (fun q : Nat => s.heap.size ≤ q) s) (Xrecord : TX 138 "no such what" (fun q : Nat => s.heap.size ≤ q) s) (Xkept : TX 141 "no such place of the record's pile, or what" (fun q : Nat => s.heap.size ≤ q) s) (Xhandler : TX 144 "no such error" (fun q : Nat => s.heap.size ≤ q) s) (Xnamed : TX 152 "no such name, or what" (fun q : Nat => s.heap.size ≤ q) s) {j : Nat} (x4 : Int32) (hj : 4 * j + 4 ≤ L) (hx4 : x4 = nI (4 * j)) (S T : St) (g : Nat → Int64) (hR : R S T) (H : Heap) (locs : List Loc) (ls : Array Slot) (G : Wl D (fun q : Nat => s.heap.size ≤ q) s (wL a b cI cJ o S T g) H locs) (hl : lv_has ls 7 [(0, .ref sc), (1, .ref (a 0)), (2, .ref (b 0)), (3, .ref o), (4, .int x4)])
    (kk : ∀ (S T : St) (g : Nat → Int64) (H : Heap) (locs : List Loc) (ls : Array Slot), R S T → Wl D (fun q : Nat => s.heap.size ≤ q) s (wL a b cI cJ o S T g) H locs → lv_has ls 7 [(0, .ref sc), (1, .ref (a 0)), (2, .ref (b 0)), (3, .ref o), (4, .int x4)] → W p l e room_1 s m #[Value.ref sc] below meth c H locs (43 + (j + 1)) (3054 + 6 * (j + 1)) (lw_Z below #[Value.ref sc] s) (F0 m 620 ls [])) : W p l e room_1 s m #[Value.ref sc] below meth c H locs (43 + j) (3054 + 6 * j) (lw_Z below #[Value.ref sc] s) (F0 m 278 ls []) := by
  have hA : ∀ q : Nat, s.heap.size ≤ q → (fun q : Nat => s.heap.size ≤ q) q := fun _ h => h
  have hscA : ¬ (fun q : Nat => s.heap.size ≤ q) sc := Nat.not_le.mpr hsc
  have i1 : vp_in (x4 + 1) L := lw_ix (k := 1) hL hx4 (by omega)
  have i2 : vp_in (x4 + 2) L := lw_ix (k := 2) hL hx4 (by omega)
  have i3 : vp_in (x4 + 3) L := lw_ix (k := 3) hL hx4 (by omega)
  obtain ⟨v, S1, T1, hE, hM, hR1⟩ := hSim.2.2.2.2.2.2.1 S T hR
  refine lv_aload_n C.1 C.2.1 dL_law_278 rfl (lv_at hl 1 rfl) ?_
  refine LE_i (As := []) (na := 0) C hA G (mX7_size_0 l D a cI cJ tk tkF S _ hE) k_590 k_591 k_592 k_593 (by decide +kernel) ⟨Nat.le_of_ble_eq_true rfl, Nat.le_of_ble_eq_true rfl⟩ rfl rfl ⟨by show _ ≤ 1072; omega, by show _ ≤ 11276; omega⟩ rfl hl.1 rfl (Nat.le_of_ble_eq_true rfl) dL_law_279 (fun H locs G => ?_)
  refine lv_aload_n C.1 C.2.1 dL_law_282 rfl (lv_at hl 2 rfl) ?_
  refine LM_i (As := []) (na := 0) C hA G (mX8_size_0 l D b cI cJ tk tkF T _ hM) k_998 k_999 k_1000 k_1001 (by decide +kernel) ⟨Nat.le_of_ble_eq_true rfl, Nat.le_of_ble_eq_true rfl⟩ rfl rfl ⟨by show _ ≤ 1072; omega, by show _ ≤ 11276; omega⟩ rfl hl.1 rfl (Nat.le_of_ble_eq_true rfl) dL_law_283 (fun H locs G => ?_)
  refine lv_icmp_eq (tgt := 620) C.1 C.2.1 dL_law_286 (by decide) (fun _ => ?_) (fun h9 => absurd rfl h9)
  exact W.widen (by omega) (by omega) (kk S1 T1 g H locs ls hR1 G (lv_sub hl [0, 1, 2, 3, 4] rfl))
set_option maxRecDepth 100000 in
set_option maxHeartbeats 4000000 in
theorem lw_case_value {p : Program} {l : Launch} {e : Env} {s : State} {m : MethodId} {below : List Frame} {meth : Method} {c : Code} {D : va_G} {cI cJ : ClassId} {tk : Nat} {a b : Nat → Nat} {o sc L : Nat} {xs : Nat → Int32} {R : St → St → Prop} (hSim : Sim R) (C : Cx p s m #[Value.ref sc] meth c RL cL_law 7 D cI cJ tk tkF (fun q : Nat => s.heap.size ≤ q)) (hr : meth.sig.returnType = ret) (hX : va_X sc L xs s s.heap) (hsc : sc < s.heap.size) (hL : L ≤ 2048) (hlx : l.stackTraces = false) (Xvalue : TX 120 "no such place of the pile, or what" (fun q : Nat => s.heap.size ≤ q) s) (Xrecord : TX 138 "no such what" (fun q : Nat => s.heap.size ≤ q) s) (Xkept : TX 141 "no such place of the record's pile, or what" (fun q : Nat => s.heap.size ≤ q) s) (Xhandler : TX 144 "no such error" (fun q : Nat => s.heap.size ≤ q) s) (Xnamed : TX 152 "no such name, or what" (fun q : Nat => s.heap.size ≤ q) s) {j : Nat} (x4 : Int32) (hj : 4 * j + 4 ≤ L) (hx4 : x4 = nI (4 * j)) (S T : St) (g : Nat → Int64) (hR : R S T) (H : Heap) (locs : List Loc) (ls : Array Slot) (G : Wl D (fun q : Nat => s.heap.size ≤ q) s (wL a b cI cJ o S T g) H locs) (hl : lv_has ls 7 [(0, .ref sc), (1, .ref (a 0)), (2, .ref (b 0)), (3, .ref o), (4, .int x4)])
    (kk : ∀ (S T : St) (g : Nat → Int64) (H : Heap) (locs : List Loc) (ls : Array Slot), R S T → Wl D (fun q : Nat => s.heap.size ≤ q) s (wL a b cI cJ o S T g) H locs → lv_has ls 7 [(0, .ref sc), (1, .ref (a 0)), (2, .ref (b 0)), (3, .ref o), (4, .int x4)] → W p l e room_1 s m #[Value.ref sc] below meth c H locs (43 + (j + 1)) (3054 + 6 * (j + 1)) (lw_Z below #[Value.ref sc] s) (F0 m 620 ls [])) : W p l e room_1 s m #[Value.ref sc] below meth c H locs (43 + j) (3054 + 6 * j) (lw_Z below #[Value.ref sc] s) (F0 m 291 ls []) := by
  have hA : ∀ q : Nat, s.heap.size ≤ q → (fun q : Nat => s.heap.size ≤ q) q := fun _ h => h
  have hscA : ¬ (fun q : Nat => s.heap.size ≤ q) sc := Nat.not_le.mpr hsc
  have i1 : vp_in (x4 + 1) L := lw_ix (k := 1) hL hx4 (by omega)
  have i2 : vp_in (x4 + 2) L := lw_ix (k := 2) hL hx4 (by omega)
  have i3 : vp_in (x4 + 3) L := lw_ix (k := 3) hL hx4 (by omega)
  obtain ⟨x, S1, y, T1, hE, hM, hR1, hs⟩ := hSim.2.2.2.2.2.2.2.1 (xs (x4 + 1).toNatClampNeg) (xs (x4 + 2).toNatClampNeg) S T hR
  cases x with
  | none =>
    refine lv_aload_n C.1 C.2.1 dL_law_291 rfl (lv_at hl 1 rfl) ?_
    refine lv_aload_n C.1 C.2.1 dL_law_292 rfl (lv_at hl 0 rfl) ?_
    refine lv_iload C.1 C.2.1 dL_law_293 (lv_at hl 4 rfl) ?_
    refine lv_iconst (v := 1) C.1 C.2.1 dL_law_295 (by decide) ?_
    refine lv_iadd C.1 C.2.1 dL_law_296 ?_
    refine va_sld C.1 C.2.1 hX hsc hscA G.2.2 i1 dL_law_297 ?_
    refine lv_aload_n C.1 C.2.1 dL_law_298 rfl (lv_at hl 0 rfl) ?_
    refine lv_iload C.1 C.2.1 dL_law_299 (lv_at hl 4 rfl) ?_
    refine lv_iconst (v := 2) C.1 C.2.1 dL_law_301 (by decide) ?_
    refine lv_iadd C.1 C.2.1 dL_law_302 ?_
    refine va_sld C.1 C.2.1 hX hsc hscA G.2.2 i2 dL_law_303 ?_
    refine lv_aload_n C.1 C.2.1 dL_law_304 rfl (lv_at hl 3 rfl) ?_
    refine LW_i (As := [.ref (a 0), .int (xs (x4 + 1).toNatClampNeg), .int (xs (x4 + 2).toNatClampNeg), .ref o]) (na := 4) (x := (none, S1)) C Xvalue hA G (mL_value l D a cI cJ tk tkF o (xs (x4 + 1).toNatClampNeg) (xs (x4 + 2).toNatClampNeg) S g _ hE hlx) k_611 k_612 k_58 kw_value (by decide +kernel) ⟨Nat.le_of_ble_eq_true rfl, Nat.le_of_ble_eq_true rfl⟩ rfl rfl ⟨by show _ ≤ 1072; omega, by show _ ≤ 11276; omega⟩ rfl hl.1 rfl (Nat.le_of_ble_eq_true rfl) dL_law_305 (fun H locs G => ?_)
    replace G : Wl D (fun q : Nat => s.heap.size ≤ q) s (wL a b cI cJ o S1 T g) H locs := G
    refine W.eq (g2 := F0 m 308 ls [.int 1]) rfl ?_
    refine lv_istore (lv' := [(5, .int 1), (0, .ref sc), (1, .ref (a 0)), (2, .ref (b 0)), (3, .ref o), (4, .int x4)]) C.1 C.2.1 dL_law_308 hl (by decide) rfl (fun ls hl => ?_)
    refine lv_aload_n C.1 C.2.1 dL_law_310 rfl (lv_at hl 3 rfl) ?_
    refine lv_aload_n C.1 C.2.1 dL_law_311 rfl (lv_at hl 1 rfl) ?_
    refine lv_iload C.1 C.2.1 dL_law_312 (lv_at hl 5 rfl) ?_
    refine lv_iconst (v := 1) C.1 C.2.1 dL_law_314 (by decide) ?_
    refine lv_iadd C.1 C.2.1 dL_law_315 ?_
    refine va_sld C.1 C.2.1 hX hsc hscA G.2.2 i1 dL_law_316 ?_
    refine lv_aload_n C.1 C.2.1 dL_law_317 rfl (lv_at hl 1 rfl) ?_
    refine lv_iload C.1 C.2.1 dL_law_318 (lv_at hl 5 rfl) ?_
    refine lv_iconst (v := 2) C.1 C.2.1 dL_law_320 (by decide) ?_
    refine lv_iadd C.1 C.2.1 dL_law_321 ?_
    refine va_sld C.1 C.2.1 hX hsc hscA G.2.2 i2 dL_law_322 ?_
    refine LM_i (As := [.int (xs (x4 + 1).toNatClampNeg), .int (xs (x4 + 2).toNatClampNeg)]) (na := 2) C hA G (mX8_value_0 l D b cI cJ tk tkF (xs (x4 + 1).toNatClampNeg) (xs (x4 + 2).toNatClampNeg) T _ hM) k_1002 k_1003 k_1004 k_1005 (by decide +kernel) ⟨Nat.le_of_ble_eq_true rfl, Nat.le_of_ble_eq_true rfl⟩ rfl rfl ⟨by show _ ≤ 1072; omega, by show _ ≤ 11276; omega⟩ rfl hl.1 rfl (Nat.le_of_ble_eq_true rfl) dL_law_323 (fun H locs G => ?_)
    refine lv_istore (lv' := [(6, .int y), (5, .int 1), (0, .ref sc), (1, .ref (a 0)), (2, .ref (b 0)), (3, .ref o), (4, .int x4)]) C.1 C.2.1 dL_law_326 hl (by decide) rfl (fun ls hl => ?_)
    refine lv_aload_n C.1 C.2.1 dL_law_328 rfl (lv_at hl 4 rfl) ?_
    refine LM_i (As := []) (na := 0) (r := T1.1 0 0) (T1 := T1) C hA G (mX8_thrown_0 l D b cI cJ tk tkF T1 _ rfl) k_849 k_850 k_851 k_852 (by decide +kernel) ⟨Nat.le_of_ble_eq_true rfl, Nat.le_of_ble_eq_true rfl⟩ rfl rfl ⟨by show _ ≤ 1072; omega, by show _ ≤ 11276; omega⟩ rfl hl.1 rfl (Nat.le_of_ble_eq_true rfl) dL_law_329 (fun H locs G => ?_)
    refine nm_i (y := 1) hs.symm ?_
    refine lv_iload C.1 C.2.1 dL_law_332 (lv_at hl 1 rfl) ?_
    refine lv_icmp_eq (tgt := 339) C.1 C.2.1 dL_law_334 (by decide) (fun _ => ?_) (fun h9 => absurd rfl h9)
    refine lv_iload C.1 C.2.1 dL_law_339 (lv_at hl 1 rfl) ?_
    refine lv_if_ne (tgt := 356) C.1 C.2.1 dL_law_341 (by decide) (fun _ => ?_) (fun h9 => absurd h9 (by decide))
    refine lv_goto (tgt := 620) C.1 C.2.1 dL_law_356 (by decide) ?_
    exact kk S1 T1 g H locs ls hR1 G (lv_sub hl [2, 3, 4, 5, 6] rfl)
  | some v =>
    refine lv_aload_n C.1 C.2.1 dL_law_291 rfl (lv_at hl 1 rfl) ?_
    refine lv_aload_n C.1 C.2.1 dL_law_292 rfl (lv_at hl 0 rfl) ?_
    refine lv_iload C.1 C.2.1 dL_law_293 (lv_at hl 4 rfl) ?_
    refine lv_iconst (v := 1) C.1 C.2.1 dL_law_295 (by decide) ?_
    refine lv_iadd C.1 C.2.1 dL_law_296 ?_
    refine va_sld C.1 C.2.1 hX hsc hscA G.2.2 i1 dL_law_297 ?_
    refine lv_aload_n C.1 C.2.1 dL_law_298 rfl (lv_at hl 0 rfl) ?_
    refine lv_iload C.1 C.2.1 dL_law_299 (lv_at hl 4 rfl) ?_
    refine lv_iconst (v := 2) C.1 C.2.1 dL_law_301 (by decide) ?_
    refine lv_iadd C.1 C.2.1 dL_law_302 ?_
    refine va_sld C.1 C.2.1 hX hsc hscA G.2.2 i2 dL_law_303 ?_
    refine lv_aload_n C.1 C.2.1 dL_law_304 rfl (lv_at hl 3 rfl) ?_
    refine LW_i (As := [.ref (a 0), .int (xs (x4 + 1).toNatClampNeg), .int (xs (x4 + 2).toNatClampNeg), .ref o]) (na := 4) (x := (some v, S1)) C Xvalue hA G (mL_value l D a cI cJ tk tkF o (xs (x4 + 1).toNatClampNeg) (xs (x4 + 2).toNatClampNeg) S g _ hE hlx) k_611 k_612 k_58 kw_value (by decide +kernel) ⟨Nat.le_of_ble_eq_true rfl, Nat.le_of_ble_eq_true rfl⟩ rfl rfl ⟨by show _ ≤ 1072; omega, by show _ ≤ 11276; omega⟩ rfl hl.1 rfl (Nat.le_of_ble_eq_true rfl) dL_law_305 (fun H locs G => ?_)
    replace G : Wl D (fun q : Nat => s.heap.size ≤ q) s (wL a b cI cJ o S1 T (vp_updL g 0 v.toInt64)) H locs := G
    refine W.eq (g2 := F0 m 308 ls [.int 0]) rfl ?_
    refine lv_istore (lv' := [(5, .int 0), (0, .ref sc), (1, .ref (a 0)), (2, .ref (b 0)), (3, .ref o), (4, .int x4)]) C.1 C.2.1 dL_law_308 hl (by decide) rfl (fun ls hl => ?_)
    refine lv_aload_n C.1 C.2.1 dL_law_310 rfl (lv_at hl 3 rfl) ?_
    refine lv_aload_n C.1 C.2.1 dL_law_311 rfl (lv_at hl 1 rfl) ?_
    refine lv_iload C.1 C.2.1 dL_law_312 (lv_at hl 5 rfl) ?_
    refine lv_iconst (v := 1) C.1 C.2.1 dL_law_314 (by decide) ?_
    refine lv_iadd C.1 C.2.1 dL_law_315 ?_
    refine va_sld C.1 C.2.1 hX hsc hscA G.2.2 i1 dL_law_316 ?_
    refine lv_aload_n C.1 C.2.1 dL_law_317 rfl (lv_at hl 1 rfl) ?_
    refine lv_iload C.1 C.2.1 dL_law_318 (lv_at hl 5 rfl) ?_
    refine lv_iconst (v := 2) C.1 C.2.1 dL_law_320 (by decide) ?_
    refine lv_iadd C.1 C.2.1 dL_law_321 ?_
    refine va_sld C.1 C.2.1 hX hsc hscA G.2.2 i2 dL_law_322 ?_
    refine LM_i (As := [.int (xs (x4 + 1).toNatClampNeg), .int (xs (x4 + 2).toNatClampNeg)]) (na := 2) C hA G (mX8_value_0 l D b cI cJ tk tkF (xs (x4 + 1).toNatClampNeg) (xs (x4 + 2).toNatClampNeg) T _ hM) k_1002 k_1003 k_1004 k_1005 (by decide +kernel) ⟨Nat.le_of_ble_eq_true rfl, Nat.le_of_ble_eq_true rfl⟩ rfl rfl ⟨by show _ ≤ 1072; omega, by show _ ≤ 11276; omega⟩ rfl hl.1 rfl (Nat.le_of_ble_eq_true rfl) dL_law_323 (fun H locs G => ?_)
    refine lv_istore (lv' := [(6, .int y), (5, .int 0), (0, .ref sc), (1, .ref (a 0)), (2, .ref (b 0)), (3, .ref o), (4, .int x4)]) C.1 C.2.1 dL_law_326 hl (by decide) rfl (fun ls hl => ?_)
    refine lv_aload_n C.1 C.2.1 dL_law_328 rfl (lv_at hl 4 rfl) ?_
    refine LM_i (As := []) (na := 0) (r := T1.1 0 0) (T1 := T1) C hA G (mX8_thrown_0 l D b cI cJ tk tkF T1 _ rfl) k_849 k_850 k_851 k_852 (by decide +kernel) ⟨Nat.le_of_ble_eq_true rfl, Nat.le_of_ble_eq_true rfl⟩ rfl rfl ⟨by show _ ≤ 1072; omega, by show _ ≤ 11276; omega⟩ rfl hl.1 rfl (Nat.le_of_ble_eq_true rfl) dL_law_329 (fun H locs G => ?_)
    refine nm_i (y := 0) hs.1.symm ?_
    refine lv_iload C.1 C.2.1 dL_law_332 (lv_at hl 1 rfl) ?_
    refine lv_icmp_eq (tgt := 339) C.1 C.2.1 dL_law_334 (by decide) (fun _ => ?_) (fun h9 => absurd rfl h9)
    refine lv_iload C.1 C.2.1 dL_law_339 (lv_at hl 1 rfl) ?_
    refine lv_if_ne (tgt := 356) C.1 C.2.1 dL_law_341 (by decide) (fun h9 => absurd rfl h9) (fun _ => ?_)
    refine lv_aload_n C.1 C.2.1 dL_law_344 rfl (lv_at hl 5 rfl) ?_
    refine lv_iconst (v := 0) C.1 C.2.1 dL_law_345 (by decide) ?_
    refine va_lald C.1 C.2.1 C.2.2.2.2.2.1 G.1 42 1 rfl rfl (show vq 0 1 by decide) dL_law_346 ?_
    refine lv_iload C.1 C.2.1 dL_law_347 (lv_at hl 0 rfl) ?_
    refine lv_i2l C.1 C.2.1 dL_law_349 rfl ?_
    refine W.lcmp C.1 C.2.1 dL_law_350 ?_
    refine lv_if_eq (tgt := 356) C.1 C.2.1 dL_law_351 (by decide) (fun _ => ?_) (fun h9 => absurd (lw_cmp hs.2) h9)
    refine lv_goto (tgt := 620) C.1 C.2.1 dL_law_356 (by decide) ?_
    exact kk S1 T1 (vp_updL g 0 v.toInt64) H locs ls hR1 G (lv_sub hl [2, 3, 4, 5, 6] rfl)
set_option maxRecDepth 100000 in
set_option maxHeartbeats 4000000 in
theorem lw_case_record {p : Program} {l : Launch} {e : Env} {s : State} {m : MethodId} {below : List Frame} {meth : Method} {c : Code} {D : va_G} {cI cJ : ClassId} {tk : Nat} {a b : Nat → Nat} {o sc L : Nat} {xs : Nat → Int32} {R : St → St → Prop} (hSim : Sim R) (C : Cx p s m #[Value.ref sc] meth c RL cL_law 7 D cI cJ tk tkF (fun q : Nat => s.heap.size ≤ q)) (hr : meth.sig.returnType = ret) (hX : va_X sc L xs s s.heap) (hsc : sc < s.heap.size) (hL : L ≤ 2048) (hlx : l.stackTraces = false) (Xvalue : TX 120 "no such place of the pile, or what" (fun q : Nat => s.heap.size ≤ q) s) (Xrecord : TX 138 "no such what" (fun q : Nat => s.heap.size ≤ q) s) (Xkept : TX 141 "no such place of the record's pile, or what" (fun q : Nat => s.heap.size ≤ q) s) (Xhandler : TX 144 "no such error" (fun q : Nat => s.heap.size ≤ q) s) (Xnamed : TX 152 "no such name, or what" (fun q : Nat => s.heap.size ≤ q) s) {j : Nat} (x4 : Int32) (hj : 4 * j + 4 ≤ L) (hx4 : x4 = nI (4 * j)) (S T : St) (g : Nat → Int64) (hR : R S T) (H : Heap) (locs : List Loc) (ls : Array Slot) (G : Wl D (fun q : Nat => s.heap.size ≤ q) s (wL a b cI cJ o S T g) H locs) (hl : lv_has ls 7 [(0, .ref sc), (1, .ref (a 0)), (2, .ref (b 0)), (3, .ref o), (4, .int x4)])
    (kk : ∀ (S T : St) (g : Nat → Int64) (H : Heap) (locs : List Loc) (ls : Array Slot), R S T → Wl D (fun q : Nat => s.heap.size ≤ q) s (wL a b cI cJ o S T g) H locs → lv_has ls 7 [(0, .ref sc), (1, .ref (a 0)), (2, .ref (b 0)), (3, .ref o), (4, .int x4)] → W p l e room_1 s m #[Value.ref sc] below meth c H locs (43 + (j + 1)) (3054 + 6 * (j + 1)) (lw_Z below #[Value.ref sc] s) (F0 m 620 ls [])) : W p l e room_1 s m #[Value.ref sc] below meth c H locs (43 + j) (3054 + 6 * j) (lw_Z below #[Value.ref sc] s) (F0 m 359 ls []) := by
  have hA : ∀ q : Nat, s.heap.size ≤ q → (fun q : Nat => s.heap.size ≤ q) q := fun _ h => h
  have hscA : ¬ (fun q : Nat => s.heap.size ≤ q) sc := Nat.not_le.mpr hsc
  have i1 : vp_in (x4 + 1) L := lw_ix (k := 1) hL hx4 (by omega)
  have i2 : vp_in (x4 + 2) L := lw_ix (k := 2) hL hx4 (by omega)
  have i3 : vp_in (x4 + 3) L := lw_ix (k := 3) hL hx4 (by omega)
  obtain ⟨x, S1, y, T1, hE, hM, hR1, hs⟩ := hSim.2.2.2.2.2.2.2.2.1 (xs (x4 + 1).toNatClampNeg) S T hR
  cases x with
  | none =>
    refine lv_aload_n C.1 C.2.1 dL_law_359 rfl (lv_at hl 1 rfl) ?_
    refine lv_aload_n C.1 C.2.1 dL_law_360 rfl (lv_at hl 0 rfl) ?_
    refine lv_iload C.1 C.2.1 dL_law_361 (lv_at hl 4 rfl) ?_
    refine lv_iconst (v := 1) C.1 C.2.1 dL_law_363 (by decide) ?_
    refine lv_iadd C.1 C.2.1 dL_law_364 ?_
    refine va_sld C.1 C.2.1 hX hsc hscA G.2.2 i1 dL_law_365 ?_
    refine lv_aload_n C.1 C.2.1 dL_law_366 rfl (lv_at hl 3 rfl) ?_
    refine LW_i (As := [.ref (a 0), .int (xs (x4 + 1).toNatClampNeg), .ref o]) (na := 3) (x := (none, S1)) C Xrecord hA G (mL_record l D a cI cJ tk tkF o (xs (x4 + 1).toNatClampNeg) S g _ hE hlx) k_700 k_701 k_58 kw_record (by decide +kernel) ⟨Nat.le_of_ble_eq_true rfl, Nat.le_of_ble_eq_true rfl⟩ rfl rfl ⟨by show _ ≤ 1072; omega, by show _ ≤ 11276; omega⟩ rfl hl.1 rfl (Nat.le_of_ble_eq_true rfl) dL_law_367 (fun H locs G => ?_)
    replace G : Wl D (fun q : Nat => s.heap.size ≤ q) s (wL a b cI cJ o S1 T g) H locs := G
    refine W.eq (g2 := F0 m 370 ls [.int 1]) rfl ?_
    refine lv_istore (lv' := [(5, .int 1), (0, .ref sc), (1, .ref (a 0)), (2, .ref (b 0)), (3, .ref o), (4, .int x4)]) C.1 C.2.1 dL_law_370 hl (by decide) rfl (fun ls hl => ?_)
    refine lv_aload_n C.1 C.2.1 dL_law_372 rfl (lv_at hl 3 rfl) ?_
    refine lv_aload_n C.1 C.2.1 dL_law_373 rfl (lv_at hl 1 rfl) ?_
    refine lv_iload C.1 C.2.1 dL_law_374 (lv_at hl 5 rfl) ?_
    refine lv_iconst (v := 1) C.1 C.2.1 dL_law_376 (by decide) ?_
    refine lv_iadd C.1 C.2.1 dL_law_377 ?_
    refine va_sld C.1 C.2.1 hX hsc hscA G.2.2 i1 dL_law_378 ?_
    refine LM_i (As := [.int (xs (x4 + 1).toNatClampNeg)]) (na := 1) C hA G (mX8_record_0 l D b cI cJ tk tkF (xs (x4 + 1).toNatClampNeg) T _ hM) k_1006 k_1007 k_1008 k_1009 (by decide +kernel) ⟨Nat.le_of_ble_eq_true rfl, Nat.le_of_ble_eq_true rfl⟩ rfl rfl ⟨by show _ ≤ 1072; omega, by show _ ≤ 11276; omega⟩ rfl hl.1 rfl (Nat.le_of_ble_eq_true rfl) dL_law_379 (fun H locs G => ?_)
    refine lv_istore (lv' := [(6, .int y), (5, .int 1), (0, .ref sc), (1, .ref (a 0)), (2, .ref (b 0)), (3, .ref o), (4, .int x4)]) C.1 C.2.1 dL_law_382 hl (by decide) rfl (fun ls hl => ?_)
    refine lv_aload_n C.1 C.2.1 dL_law_384 rfl (lv_at hl 4 rfl) ?_
    refine LM_i (As := []) (na := 0) (r := T1.1 0 0) (T1 := T1) C hA G (mX8_thrown_0 l D b cI cJ tk tkF T1 _ rfl) k_849 k_850 k_851 k_852 (by decide +kernel) ⟨Nat.le_of_ble_eq_true rfl, Nat.le_of_ble_eq_true rfl⟩ rfl rfl ⟨by show _ ≤ 1072; omega, by show _ ≤ 11276; omega⟩ rfl hl.1 rfl (Nat.le_of_ble_eq_true rfl) dL_law_385 (fun H locs G => ?_)
    refine nm_i (y := 1) hs.symm ?_
    refine lv_iload C.1 C.2.1 dL_law_388 (lv_at hl 1 rfl) ?_
    refine lv_icmp_eq (tgt := 395) C.1 C.2.1 dL_law_390 (by decide) (fun _ => ?_) (fun h9 => absurd rfl h9)
    refine lv_iload C.1 C.2.1 dL_law_395 (lv_at hl 1 rfl) ?_
    refine lv_if_ne (tgt := 412) C.1 C.2.1 dL_law_397 (by decide) (fun _ => ?_) (fun h9 => absurd h9 (by decide))
    refine lv_goto (tgt := 620) C.1 C.2.1 dL_law_412 (by decide) ?_
    exact kk S1 T1 g H locs ls hR1 G (lv_sub hl [2, 3, 4, 5, 6] rfl)
  | some v =>
    refine lv_aload_n C.1 C.2.1 dL_law_359 rfl (lv_at hl 1 rfl) ?_
    refine lv_aload_n C.1 C.2.1 dL_law_360 rfl (lv_at hl 0 rfl) ?_
    refine lv_iload C.1 C.2.1 dL_law_361 (lv_at hl 4 rfl) ?_
    refine lv_iconst (v := 1) C.1 C.2.1 dL_law_363 (by decide) ?_
    refine lv_iadd C.1 C.2.1 dL_law_364 ?_
    refine va_sld C.1 C.2.1 hX hsc hscA G.2.2 i1 dL_law_365 ?_
    refine lv_aload_n C.1 C.2.1 dL_law_366 rfl (lv_at hl 3 rfl) ?_
    refine LW_i (As := [.ref (a 0), .int (xs (x4 + 1).toNatClampNeg), .ref o]) (na := 3) (x := (some v, S1)) C Xrecord hA G (mL_record l D a cI cJ tk tkF o (xs (x4 + 1).toNatClampNeg) S g _ hE hlx) k_700 k_701 k_58 kw_record (by decide +kernel) ⟨Nat.le_of_ble_eq_true rfl, Nat.le_of_ble_eq_true rfl⟩ rfl rfl ⟨by show _ ≤ 1072; omega, by show _ ≤ 11276; omega⟩ rfl hl.1 rfl (Nat.le_of_ble_eq_true rfl) dL_law_367 (fun H locs G => ?_)
    replace G : Wl D (fun q : Nat => s.heap.size ≤ q) s (wL a b cI cJ o S1 T (vp_updL g 0 v.toInt64)) H locs := G
    refine W.eq (g2 := F0 m 370 ls [.int 0]) rfl ?_
    refine lv_istore (lv' := [(5, .int 0), (0, .ref sc), (1, .ref (a 0)), (2, .ref (b 0)), (3, .ref o), (4, .int x4)]) C.1 C.2.1 dL_law_370 hl (by decide) rfl (fun ls hl => ?_)
    refine lv_aload_n C.1 C.2.1 dL_law_372 rfl (lv_at hl 3 rfl) ?_
    refine lv_aload_n C.1 C.2.1 dL_law_373 rfl (lv_at hl 1 rfl) ?_
    refine lv_iload C.1 C.2.1 dL_law_374 (lv_at hl 5 rfl) ?_
    refine lv_iconst (v := 1) C.1 C.2.1 dL_law_376 (by decide) ?_
    refine lv_iadd C.1 C.2.1 dL_law_377 ?_
    refine va_sld C.1 C.2.1 hX hsc hscA G.2.2 i1 dL_law_378 ?_
    refine LM_i (As := [.int (xs (x4 + 1).toNatClampNeg)]) (na := 1) C hA G (mX8_record_0 l D b cI cJ tk tkF (xs (x4 + 1).toNatClampNeg) T _ hM) k_1006 k_1007 k_1008 k_1009 (by decide +kernel) ⟨Nat.le_of_ble_eq_true rfl, Nat.le_of_ble_eq_true rfl⟩ rfl rfl ⟨by show _ ≤ 1072; omega, by show _ ≤ 11276; omega⟩ rfl hl.1 rfl (Nat.le_of_ble_eq_true rfl) dL_law_379 (fun H locs G => ?_)
    refine lv_istore (lv' := [(6, .int y), (5, .int 0), (0, .ref sc), (1, .ref (a 0)), (2, .ref (b 0)), (3, .ref o), (4, .int x4)]) C.1 C.2.1 dL_law_382 hl (by decide) rfl (fun ls hl => ?_)
    refine lv_aload_n C.1 C.2.1 dL_law_384 rfl (lv_at hl 4 rfl) ?_
    refine LM_i (As := []) (na := 0) (r := T1.1 0 0) (T1 := T1) C hA G (mX8_thrown_0 l D b cI cJ tk tkF T1 _ rfl) k_849 k_850 k_851 k_852 (by decide +kernel) ⟨Nat.le_of_ble_eq_true rfl, Nat.le_of_ble_eq_true rfl⟩ rfl rfl ⟨by show _ ≤ 1072; omega, by show _ ≤ 11276; omega⟩ rfl hl.1 rfl (Nat.le_of_ble_eq_true rfl) dL_law_385 (fun H locs G => ?_)
    refine nm_i (y := 0) hs.1.symm ?_
    refine lv_iload C.1 C.2.1 dL_law_388 (lv_at hl 1 rfl) ?_
    refine lv_icmp_eq (tgt := 395) C.1 C.2.1 dL_law_390 (by decide) (fun _ => ?_) (fun h9 => absurd rfl h9)
    refine lv_iload C.1 C.2.1 dL_law_395 (lv_at hl 1 rfl) ?_
    refine lv_if_ne (tgt := 412) C.1 C.2.1 dL_law_397 (by decide) (fun h9 => absurd rfl h9) (fun _ => ?_)
    refine lv_aload_n C.1 C.2.1 dL_law_400 rfl (lv_at hl 5 rfl) ?_
    refine lv_iconst (v := 0) C.1 C.2.1 dL_law_401 (by decide) ?_
    refine va_lald C.1 C.2.1 C.2.2.2.2.2.1 G.1 42 1 rfl rfl (show vq 0 1 by decide) dL_law_402 ?_
    refine lv_iload C.1 C.2.1 dL_law_403 (lv_at hl 0 rfl) ?_
    refine lv_i2l C.1 C.2.1 dL_law_405 rfl ?_
    refine W.lcmp C.1 C.2.1 dL_law_406 ?_
    refine lv_if_eq (tgt := 412) C.1 C.2.1 dL_law_407 (by decide) (fun _ => ?_) (fun h9 => absurd (lw_cmp hs.2) h9)
    refine lv_goto (tgt := 620) C.1 C.2.1 dL_law_412 (by decide) ?_
    exact kk S1 T1 (vp_updL g 0 v.toInt64) H locs ls hR1 G (lv_sub hl [2, 3, 4, 5, 6] rfl)
set_option maxRecDepth 100000 in
set_option maxHeartbeats 4000000 in
theorem lw_case_kept {p : Program} {l : Launch} {e : Env} {s : State} {m : MethodId} {below : List Frame} {meth : Method} {c : Code} {D : va_G} {cI cJ : ClassId} {tk : Nat} {a b : Nat → Nat} {o sc L : Nat} {xs : Nat → Int32} {R : St → St → Prop} (hSim : Sim R) (C : Cx p s m #[Value.ref sc] meth c RL cL_law 7 D cI cJ tk tkF (fun q : Nat => s.heap.size ≤ q)) (hr : meth.sig.returnType = ret) (hX : va_X sc L xs s s.heap) (hsc : sc < s.heap.size) (hL : L ≤ 2048) (hlx : l.stackTraces = false) (Xvalue : TX 120 "no such place of the pile, or what" (fun q : Nat => s.heap.size ≤ q) s) (Xrecord : TX 138 "no such what" (fun q : Nat => s.heap.size ≤ q) s) (Xkept : TX 141 "no such place of the record's pile, or what" (fun q : Nat => s.heap.size ≤ q) s) (Xhandler : TX 144 "no such error" (fun q : Nat => s.heap.size ≤ q) s) (Xnamed : TX 152 "no such name, or what" (fun q : Nat => s.heap.size ≤ q) s) {j : Nat} (x4 : Int32) (hj : 4 * j + 4 ≤ L) (hx4 : x4 = nI (4 * j)) (S T : St) (g : Nat → Int64) (hR : R S T) (H : Heap) (locs : List Loc) (ls : Array Slot) (G : Wl D (fun q : Nat => s.heap.size ≤ q) s (wL a b cI cJ o S T g) H locs) (hl : lv_has ls 7 [(0, .ref sc), (1, .ref (a 0)), (2, .ref (b 0)), (3, .ref o), (4, .int x4)])
    (kk : ∀ (S T : St) (g : Nat → Int64) (H : Heap) (locs : List Loc) (ls : Array Slot), R S T → Wl D (fun q : Nat => s.heap.size ≤ q) s (wL a b cI cJ o S T g) H locs → lv_has ls 7 [(0, .ref sc), (1, .ref (a 0)), (2, .ref (b 0)), (3, .ref o), (4, .int x4)] → W p l e room_1 s m #[Value.ref sc] below meth c H locs (43 + (j + 1)) (3054 + 6 * (j + 1)) (lw_Z below #[Value.ref sc] s) (F0 m 620 ls [])) : W p l e room_1 s m #[Value.ref sc] below meth c H locs (43 + j) (3054 + 6 * j) (lw_Z below #[Value.ref sc] s) (F0 m 415 ls []) := by
  have hA : ∀ q : Nat, s.heap.size ≤ q → (fun q : Nat => s.heap.size ≤ q) q := fun _ h => h
  have hscA : ¬ (fun q : Nat => s.heap.size ≤ q) sc := Nat.not_le.mpr hsc
  have i1 : vp_in (x4 + 1) L := lw_ix (k := 1) hL hx4 (by omega)
  have i2 : vp_in (x4 + 2) L := lw_ix (k := 2) hL hx4 (by omega)
  have i3 : vp_in (x4 + 3) L := lw_ix (k := 3) hL hx4 (by omega)
  obtain ⟨x, S1, y, T1, hE, hM, hR1, hs⟩ := hSim.2.2.2.2.2.2.2.2.2.1 (xs (x4 + 1).toNatClampNeg) (xs (x4 + 2).toNatClampNeg) S T hR
  cases x with
  | none =>
    refine lv_aload_n C.1 C.2.1 dL_law_415 rfl (lv_at hl 1 rfl) ?_
    refine lv_aload_n C.1 C.2.1 dL_law_416 rfl (lv_at hl 0 rfl) ?_
    refine lv_iload C.1 C.2.1 dL_law_417 (lv_at hl 4 rfl) ?_
    refine lv_iconst (v := 1) C.1 C.2.1 dL_law_419 (by decide) ?_
    refine lv_iadd C.1 C.2.1 dL_law_420 ?_
    refine va_sld C.1 C.2.1 hX hsc hscA G.2.2 i1 dL_law_421 ?_
    refine lv_aload_n C.1 C.2.1 dL_law_422 rfl (lv_at hl 0 rfl) ?_
    refine lv_iload C.1 C.2.1 dL_law_423 (lv_at hl 4 rfl) ?_
    refine lv_iconst (v := 2) C.1 C.2.1 dL_law_425 (by decide) ?_
    refine lv_iadd C.1 C.2.1 dL_law_426 ?_
    refine va_sld C.1 C.2.1 hX hsc hscA G.2.2 i2 dL_law_427 ?_
    refine lv_aload_n C.1 C.2.1 dL_law_428 rfl (lv_at hl 3 rfl) ?_
    refine LW_i (As := [.ref (a 0), .int (xs (x4 + 1).toNatClampNeg), .int (xs (x4 + 2).toNatClampNeg), .ref o]) (na := 4) (x := (none, S1)) C Xkept hA G (mL_kept l D a cI cJ tk tkF o (xs (x4 + 1).toNatClampNeg) (xs (x4 + 2).toNatClampNeg) S g _ hE hlx) k_712 k_713 k_58 kw_kept (by decide +kernel) ⟨Nat.le_of_ble_eq_true rfl, Nat.le_of_ble_eq_true rfl⟩ rfl rfl ⟨by show _ ≤ 1072; omega, by show _ ≤ 11276; omega⟩ rfl hl.1 rfl (Nat.le_of_ble_eq_true rfl) dL_law_429 (fun H locs G => ?_)
    replace G : Wl D (fun q : Nat => s.heap.size ≤ q) s (wL a b cI cJ o S1 T g) H locs := G
    refine W.eq (g2 := F0 m 432 ls [.int 1]) rfl ?_
    refine lv_istore (lv' := [(5, .int 1), (0, .ref sc), (1, .ref (a 0)), (2, .ref (b 0)), (3, .ref o), (4, .int x4)]) C.1 C.2.1 dL_law_432 hl (by decide) rfl (fun ls hl => ?_)
    refine lv_aload_n C.1 C.2.1 dL_law_434 rfl (lv_at hl 3 rfl) ?_
    refine lv_aload_n C.1 C.2.1 dL_law_435 rfl (lv_at hl 1 rfl) ?_
    refine lv_iload C.1 C.2.1 dL_law_436 (lv_at hl 5 rfl) ?_
    refine lv_iconst (v := 1) C.1 C.2.1 dL_law_438 (by decide) ?_
    refine lv_iadd C.1 C.2.1 dL_law_439 ?_
    refine va_sld C.1 C.2.1 hX hsc hscA G.2.2 i1 dL_law_440 ?_
    refine lv_aload_n C.1 C.2.1 dL_law_441 rfl (lv_at hl 1 rfl) ?_
    refine lv_iload C.1 C.2.1 dL_law_442 (lv_at hl 5 rfl) ?_
    refine lv_iconst (v := 2) C.1 C.2.1 dL_law_444 (by decide) ?_
    refine lv_iadd C.1 C.2.1 dL_law_445 ?_
    refine va_sld C.1 C.2.1 hX hsc hscA G.2.2 i2 dL_law_446 ?_
    refine LM_i (As := [.int (xs (x4 + 1).toNatClampNeg), .int (xs (x4 + 2).toNatClampNeg)]) (na := 2) C hA G (mX8_kept_0 l D b cI cJ tk tkF (xs (x4 + 1).toNatClampNeg) (xs (x4 + 2).toNatClampNeg) T _ hM) k_1010 k_1011 k_1012 k_1013 (by decide +kernel) ⟨Nat.le_of_ble_eq_true rfl, Nat.le_of_ble_eq_true rfl⟩ rfl rfl ⟨by show _ ≤ 1072; omega, by show _ ≤ 11276; omega⟩ rfl hl.1 rfl (Nat.le_of_ble_eq_true rfl) dL_law_447 (fun H locs G => ?_)
    refine lv_istore (lv' := [(6, .int y), (5, .int 1), (0, .ref sc), (1, .ref (a 0)), (2, .ref (b 0)), (3, .ref o), (4, .int x4)]) C.1 C.2.1 dL_law_450 hl (by decide) rfl (fun ls hl => ?_)
    refine lv_aload_n C.1 C.2.1 dL_law_452 rfl (lv_at hl 4 rfl) ?_
    refine LM_i (As := []) (na := 0) (r := T1.1 0 0) (T1 := T1) C hA G (mX8_thrown_0 l D b cI cJ tk tkF T1 _ rfl) k_849 k_850 k_851 k_852 (by decide +kernel) ⟨Nat.le_of_ble_eq_true rfl, Nat.le_of_ble_eq_true rfl⟩ rfl rfl ⟨by show _ ≤ 1072; omega, by show _ ≤ 11276; omega⟩ rfl hl.1 rfl (Nat.le_of_ble_eq_true rfl) dL_law_453 (fun H locs G => ?_)
    refine nm_i (y := 1) hs.symm ?_
    refine lv_iload C.1 C.2.1 dL_law_456 (lv_at hl 1 rfl) ?_
    refine lv_icmp_eq (tgt := 463) C.1 C.2.1 dL_law_458 (by decide) (fun _ => ?_) (fun h9 => absurd rfl h9)
    refine lv_iload C.1 C.2.1 dL_law_463 (lv_at hl 1 rfl) ?_
    refine lv_if_ne (tgt := 480) C.1 C.2.1 dL_law_465 (by decide) (fun _ => ?_) (fun h9 => absurd h9 (by decide))
    refine lv_goto (tgt := 620) C.1 C.2.1 dL_law_480 (by decide) ?_
    exact kk S1 T1 g H locs ls hR1 G (lv_sub hl [2, 3, 4, 5, 6] rfl)
  | some v =>
    refine lv_aload_n C.1 C.2.1 dL_law_415 rfl (lv_at hl 1 rfl) ?_
    refine lv_aload_n C.1 C.2.1 dL_law_416 rfl (lv_at hl 0 rfl) ?_
    refine lv_iload C.1 C.2.1 dL_law_417 (lv_at hl 4 rfl) ?_
    refine lv_iconst (v := 1) C.1 C.2.1 dL_law_419 (by decide) ?_
    refine lv_iadd C.1 C.2.1 dL_law_420 ?_
    refine va_sld C.1 C.2.1 hX hsc hscA G.2.2 i1 dL_law_421 ?_
    refine lv_aload_n C.1 C.2.1 dL_law_422 rfl (lv_at hl 0 rfl) ?_
    refine lv_iload C.1 C.2.1 dL_law_423 (lv_at hl 4 rfl) ?_
    refine lv_iconst (v := 2) C.1 C.2.1 dL_law_425 (by decide) ?_
    refine lv_iadd C.1 C.2.1 dL_law_426 ?_
    refine va_sld C.1 C.2.1 hX hsc hscA G.2.2 i2 dL_law_427 ?_
    refine lv_aload_n C.1 C.2.1 dL_law_428 rfl (lv_at hl 3 rfl) ?_
    refine LW_i (As := [.ref (a 0), .int (xs (x4 + 1).toNatClampNeg), .int (xs (x4 + 2).toNatClampNeg), .ref o]) (na := 4) (x := (some v, S1)) C Xkept hA G (mL_kept l D a cI cJ tk tkF o (xs (x4 + 1).toNatClampNeg) (xs (x4 + 2).toNatClampNeg) S g _ hE hlx) k_712 k_713 k_58 kw_kept (by decide +kernel) ⟨Nat.le_of_ble_eq_true rfl, Nat.le_of_ble_eq_true rfl⟩ rfl rfl ⟨by show _ ≤ 1072; omega, by show _ ≤ 11276; omega⟩ rfl hl.1 rfl (Nat.le_of_ble_eq_true rfl) dL_law_429 (fun H locs G => ?_)
    replace G : Wl D (fun q : Nat => s.heap.size ≤ q) s (wL a b cI cJ o S1 T (vp_updL g 0 v.toInt64)) H locs := G
    refine W.eq (g2 := F0 m 432 ls [.int 0]) rfl ?_
    refine lv_istore (lv' := [(5, .int 0), (0, .ref sc), (1, .ref (a 0)), (2, .ref (b 0)), (3, .ref o), (4, .int x4)]) C.1 C.2.1 dL_law_432 hl (by decide) rfl (fun ls hl => ?_)
    refine lv_aload_n C.1 C.2.1 dL_law_434 rfl (lv_at hl 3 rfl) ?_
    refine lv_aload_n C.1 C.2.1 dL_law_435 rfl (lv_at hl 1 rfl) ?_
    refine lv_iload C.1 C.2.1 dL_law_436 (lv_at hl 5 rfl) ?_
    refine lv_iconst (v := 1) C.1 C.2.1 dL_law_438 (by decide) ?_
    refine lv_iadd C.1 C.2.1 dL_law_439 ?_
    refine va_sld C.1 C.2.1 hX hsc hscA G.2.2 i1 dL_law_440 ?_
    refine lv_aload_n C.1 C.2.1 dL_law_441 rfl (lv_at hl 1 rfl) ?_
    refine lv_iload C.1 C.2.1 dL_law_442 (lv_at hl 5 rfl) ?_
    refine lv_iconst (v := 2) C.1 C.2.1 dL_law_444 (by decide) ?_
    refine lv_iadd C.1 C.2.1 dL_law_445 ?_
    refine va_sld C.1 C.2.1 hX hsc hscA G.2.2 i2 dL_law_446 ?_
    refine LM_i (As := [.int (xs (x4 + 1).toNatClampNeg), .int (xs (x4 + 2).toNatClampNeg)]) (na := 2) C hA G (mX8_kept_0 l D b cI cJ tk tkF (xs (x4 + 1).toNatClampNeg) (xs (x4 + 2).toNatClampNeg) T _ hM) k_1010 k_1011 k_1012 k_1013 (by decide +kernel) ⟨Nat.le_of_ble_eq_true rfl, Nat.le_of_ble_eq_true rfl⟩ rfl rfl ⟨by show _ ≤ 1072; omega, by show _ ≤ 11276; omega⟩ rfl hl.1 rfl (Nat.le_of_ble_eq_true rfl) dL_law_447 (fun H locs G => ?_)
    refine lv_istore (lv' := [(6, .int y), (5, .int 0), (0, .ref sc), (1, .ref (a 0)), (2, .ref (b 0)), (3, .ref o), (4, .int x4)]) C.1 C.2.1 dL_law_450 hl (by decide) rfl (fun ls hl => ?_)
    refine lv_aload_n C.1 C.2.1 dL_law_452 rfl (lv_at hl 4 rfl) ?_
    refine LM_i (As := []) (na := 0) (r := T1.1 0 0) (T1 := T1) C hA G (mX8_thrown_0 l D b cI cJ tk tkF T1 _ rfl) k_849 k_850 k_851 k_852 (by decide +kernel) ⟨Nat.le_of_ble_eq_true rfl, Nat.le_of_ble_eq_true rfl⟩ rfl rfl ⟨by show _ ≤ 1072; omega, by show _ ≤ 11276; omega⟩ rfl hl.1 rfl (Nat.le_of_ble_eq_true rfl) dL_law_453 (fun H locs G => ?_)
    refine nm_i (y := 0) hs.1.symm ?_
    refine lv_iload C.1 C.2.1 dL_law_456 (lv_at hl 1 rfl) ?_
    refine lv_icmp_eq (tgt := 463) C.1 C.2.1 dL_law_458 (by decide) (fun _ => ?_) (fun h9 => absurd rfl h9)
    refine lv_iload C.1 C.2.1 dL_law_463 (lv_at hl 1 rfl) ?_
    refine lv_if_ne (tgt := 480) C.1 C.2.1 dL_law_465 (by decide) (fun h9 => absurd rfl h9) (fun _ => ?_)
    refine lv_aload_n C.1 C.2.1 dL_law_468 rfl (lv_at hl 5 rfl) ?_
    refine lv_iconst (v := 0) C.1 C.2.1 dL_law_469 (by decide) ?_
    refine va_lald C.1 C.2.1 C.2.2.2.2.2.1 G.1 42 1 rfl rfl (show vq 0 1 by decide) dL_law_470 ?_
    refine lv_iload C.1 C.2.1 dL_law_471 (lv_at hl 0 rfl) ?_
    refine lv_i2l C.1 C.2.1 dL_law_473 rfl ?_
    refine W.lcmp C.1 C.2.1 dL_law_474 ?_
    refine lv_if_eq (tgt := 480) C.1 C.2.1 dL_law_475 (by decide) (fun _ => ?_) (fun h9 => absurd (lw_cmp hs.2) h9)
    refine lv_goto (tgt := 620) C.1 C.2.1 dL_law_480 (by decide) ?_
    exact kk S1 T1 (vp_updL g 0 v.toInt64) H locs ls hR1 G (lv_sub hl [2, 3, 4, 5, 6] rfl)
set_option maxRecDepth 100000 in
set_option maxHeartbeats 4000000 in
theorem lw_case_handler {p : Program} {l : Launch} {e : Env} {s : State} {m : MethodId} {below : List Frame} {meth : Method} {c : Code} {D : va_G} {cI cJ : ClassId} {tk : Nat} {a b : Nat → Nat} {o sc L : Nat} {xs : Nat → Int32} {R : St → St → Prop} (hSim : Sim R) (C : Cx p s m #[Value.ref sc] meth c RL cL_law 7 D cI cJ tk tkF (fun q : Nat => s.heap.size ≤ q)) (hr : meth.sig.returnType = ret) (hX : va_X sc L xs s s.heap) (hsc : sc < s.heap.size) (hL : L ≤ 2048) (hlx : l.stackTraces = false) (Xvalue : TX 120 "no such place of the pile, or what" (fun q : Nat => s.heap.size ≤ q) s) (Xrecord : TX 138 "no such what" (fun q : Nat => s.heap.size ≤ q) s) (Xkept : TX 141 "no such place of the record's pile, or what" (fun q : Nat => s.heap.size ≤ q) s) (Xhandler : TX 144 "no such error" (fun q : Nat => s.heap.size ≤ q) s) (Xnamed : TX 152 "no such name, or what" (fun q : Nat => s.heap.size ≤ q) s) {j : Nat} (x4 : Int32) (hj : 4 * j + 4 ≤ L) (hx4 : x4 = nI (4 * j)) (S T : St) (g : Nat → Int64) (hR : R S T) (H : Heap) (locs : List Loc) (ls : Array Slot) (G : Wl D (fun q : Nat => s.heap.size ≤ q) s (wL a b cI cJ o S T g) H locs) (hl : lv_has ls 7 [(0, .ref sc), (1, .ref (a 0)), (2, .ref (b 0)), (3, .ref o), (4, .int x4)])
    (kk : ∀ (S T : St) (g : Nat → Int64) (H : Heap) (locs : List Loc) (ls : Array Slot), R S T → Wl D (fun q : Nat => s.heap.size ≤ q) s (wL a b cI cJ o S T g) H locs → lv_has ls 7 [(0, .ref sc), (1, .ref (a 0)), (2, .ref (b 0)), (3, .ref o), (4, .int x4)] → W p l e room_1 s m #[Value.ref sc] below meth c H locs (43 + (j + 1)) (3054 + 6 * (j + 1)) (lw_Z below #[Value.ref sc] s) (F0 m 620 ls [])) : W p l e room_1 s m #[Value.ref sc] below meth c H locs (43 + j) (3054 + 6 * j) (lw_Z below #[Value.ref sc] s) (F0 m 483 ls []) := by
  have hA : ∀ q : Nat, s.heap.size ≤ q → (fun q : Nat => s.heap.size ≤ q) q := fun _ h => h
  have hscA : ¬ (fun q : Nat => s.heap.size ≤ q) sc := Nat.not_le.mpr hsc
  have i1 : vp_in (x4 + 1) L := lw_ix (k := 1) hL hx4 (by omega)
  have i2 : vp_in (x4 + 2) L := lw_ix (k := 2) hL hx4 (by omega)
  have i3 : vp_in (x4 + 3) L := lw_ix (k := 3) hL hx4 (by omega)
  obtain ⟨x, S1, y, T1, hE, hM, hR1, hs⟩ := hSim.2.2.2.2.2.2.2.2.2.2.1 (xs (x4 + 1).toNatClampNeg) S T hR
  cases x with
  | none =>
    refine lv_aload_n C.1 C.2.1 dL_law_483 rfl (lv_at hl 1 rfl) ?_
    refine lv_aload_n C.1 C.2.1 dL_law_484 rfl (lv_at hl 0 rfl) ?_
    refine lv_iload C.1 C.2.1 dL_law_485 (lv_at hl 4 rfl) ?_
    refine lv_iconst (v := 1) C.1 C.2.1 dL_law_487 (by decide) ?_
    refine lv_iadd C.1 C.2.1 dL_law_488 ?_
    refine va_sld C.1 C.2.1 hX hsc hscA G.2.2 i1 dL_law_489 ?_
    refine lv_aload_n C.1 C.2.1 dL_law_490 rfl (lv_at hl 3 rfl) ?_
    refine LW_i (As := [.ref (a 0), .int (xs (x4 + 1).toNatClampNeg), .ref o]) (na := 3) (x := (none, S1)) C Xhandler hA G (mL_handler l D a cI cJ tk tkF o (xs (x4 + 1).toNatClampNeg) S g _ hE hlx) k_724 k_725 k_58 kw_handler (by decide +kernel) ⟨Nat.le_of_ble_eq_true rfl, Nat.le_of_ble_eq_true rfl⟩ rfl rfl ⟨by show _ ≤ 1072; omega, by show _ ≤ 11276; omega⟩ rfl hl.1 rfl (Nat.le_of_ble_eq_true rfl) dL_law_491 (fun H locs G => ?_)
    replace G : Wl D (fun q : Nat => s.heap.size ≤ q) s (wL a b cI cJ o S1 T g) H locs := G
    refine W.eq (g2 := F0 m 494 ls [.int 1]) rfl ?_
    refine lv_istore (lv' := [(5, .int 1), (0, .ref sc), (1, .ref (a 0)), (2, .ref (b 0)), (3, .ref o), (4, .int x4)]) C.1 C.2.1 dL_law_494 hl (by decide) rfl (fun ls hl => ?_)
    refine lv_aload_n C.1 C.2.1 dL_law_496 rfl (lv_at hl 3 rfl) ?_
    refine lv_aload_n C.1 C.2.1 dL_law_497 rfl (lv_at hl 1 rfl) ?_
    refine lv_iload C.1 C.2.1 dL_law_498 (lv_at hl 5 rfl) ?_
    refine lv_iconst (v := 1) C.1 C.2.1 dL_law_500 (by decide) ?_
    refine lv_iadd C.1 C.2.1 dL_law_501 ?_
    refine va_sld C.1 C.2.1 hX hsc hscA G.2.2 i1 dL_law_502 ?_
    refine LM_i (As := [.int (xs (x4 + 1).toNatClampNeg)]) (na := 1) C hA G (mX8_handler_0 l D b cI cJ tk tkF (xs (x4 + 1).toNatClampNeg) T _ hM) k_1014 k_1015 k_1016 k_1017 (by decide +kernel) ⟨Nat.le_of_ble_eq_true rfl, Nat.le_of_ble_eq_true rfl⟩ rfl rfl ⟨by show _ ≤ 1072; omega, by show _ ≤ 11276; omega⟩ rfl hl.1 rfl (Nat.le_of_ble_eq_true rfl) dL_law_503 (fun H locs G => ?_)
    refine lv_istore (lv' := [(6, .int y), (5, .int 1), (0, .ref sc), (1, .ref (a 0)), (2, .ref (b 0)), (3, .ref o), (4, .int x4)]) C.1 C.2.1 dL_law_506 hl (by decide) rfl (fun ls hl => ?_)
    refine lv_aload_n C.1 C.2.1 dL_law_508 rfl (lv_at hl 4 rfl) ?_
    refine LM_i (As := []) (na := 0) (r := T1.1 0 0) (T1 := T1) C hA G (mX8_thrown_0 l D b cI cJ tk tkF T1 _ rfl) k_849 k_850 k_851 k_852 (by decide +kernel) ⟨Nat.le_of_ble_eq_true rfl, Nat.le_of_ble_eq_true rfl⟩ rfl rfl ⟨by show _ ≤ 1072; omega, by show _ ≤ 11276; omega⟩ rfl hl.1 rfl (Nat.le_of_ble_eq_true rfl) dL_law_509 (fun H locs G => ?_)
    refine nm_i (y := 1) hs.symm ?_
    refine lv_iload C.1 C.2.1 dL_law_512 (lv_at hl 1 rfl) ?_
    refine lv_icmp_eq (tgt := 519) C.1 C.2.1 dL_law_514 (by decide) (fun _ => ?_) (fun h9 => absurd rfl h9)
    refine lv_iload C.1 C.2.1 dL_law_519 (lv_at hl 1 rfl) ?_
    refine lv_if_ne (tgt := 536) C.1 C.2.1 dL_law_521 (by decide) (fun _ => ?_) (fun h9 => absurd h9 (by decide))
    refine lv_goto (tgt := 620) C.1 C.2.1 dL_law_536 (by decide) ?_
    exact kk S1 T1 g H locs ls hR1 G (lv_sub hl [2, 3, 4, 5, 6] rfl)
  | some v =>
    refine lv_aload_n C.1 C.2.1 dL_law_483 rfl (lv_at hl 1 rfl) ?_
    refine lv_aload_n C.1 C.2.1 dL_law_484 rfl (lv_at hl 0 rfl) ?_
    refine lv_iload C.1 C.2.1 dL_law_485 (lv_at hl 4 rfl) ?_
    refine lv_iconst (v := 1) C.1 C.2.1 dL_law_487 (by decide) ?_
    refine lv_iadd C.1 C.2.1 dL_law_488 ?_
    refine va_sld C.1 C.2.1 hX hsc hscA G.2.2 i1 dL_law_489 ?_
    refine lv_aload_n C.1 C.2.1 dL_law_490 rfl (lv_at hl 3 rfl) ?_
    refine LW_i (As := [.ref (a 0), .int (xs (x4 + 1).toNatClampNeg), .ref o]) (na := 3) (x := (some v, S1)) C Xhandler hA G (mL_handler l D a cI cJ tk tkF o (xs (x4 + 1).toNatClampNeg) S g _ hE hlx) k_724 k_725 k_58 kw_handler (by decide +kernel) ⟨Nat.le_of_ble_eq_true rfl, Nat.le_of_ble_eq_true rfl⟩ rfl rfl ⟨by show _ ≤ 1072; omega, by show _ ≤ 11276; omega⟩ rfl hl.1 rfl (Nat.le_of_ble_eq_true rfl) dL_law_491 (fun H locs G => ?_)
    replace G : Wl D (fun q : Nat => s.heap.size ≤ q) s (wL a b cI cJ o S1 T (vp_updL g 0 v.toInt64)) H locs := G
    refine W.eq (g2 := F0 m 494 ls [.int 0]) rfl ?_
    refine lv_istore (lv' := [(5, .int 0), (0, .ref sc), (1, .ref (a 0)), (2, .ref (b 0)), (3, .ref o), (4, .int x4)]) C.1 C.2.1 dL_law_494 hl (by decide) rfl (fun ls hl => ?_)
    refine lv_aload_n C.1 C.2.1 dL_law_496 rfl (lv_at hl 3 rfl) ?_
    refine lv_aload_n C.1 C.2.1 dL_law_497 rfl (lv_at hl 1 rfl) ?_
    refine lv_iload C.1 C.2.1 dL_law_498 (lv_at hl 5 rfl) ?_
    refine lv_iconst (v := 1) C.1 C.2.1 dL_law_500 (by decide) ?_
    refine lv_iadd C.1 C.2.1 dL_law_501 ?_
    refine va_sld C.1 C.2.1 hX hsc hscA G.2.2 i1 dL_law_502 ?_
    refine LM_i (As := [.int (xs (x4 + 1).toNatClampNeg)]) (na := 1) C hA G (mX8_handler_0 l D b cI cJ tk tkF (xs (x4 + 1).toNatClampNeg) T _ hM) k_1014 k_1015 k_1016 k_1017 (by decide +kernel) ⟨Nat.le_of_ble_eq_true rfl, Nat.le_of_ble_eq_true rfl⟩ rfl rfl ⟨by show _ ≤ 1072; omega, by show _ ≤ 11276; omega⟩ rfl hl.1 rfl (Nat.le_of_ble_eq_true rfl) dL_law_503 (fun H locs G => ?_)
    refine lv_istore (lv' := [(6, .int y), (5, .int 0), (0, .ref sc), (1, .ref (a 0)), (2, .ref (b 0)), (3, .ref o), (4, .int x4)]) C.1 C.2.1 dL_law_506 hl (by decide) rfl (fun ls hl => ?_)
    refine lv_aload_n C.1 C.2.1 dL_law_508 rfl (lv_at hl 4 rfl) ?_
    refine LM_i (As := []) (na := 0) (r := T1.1 0 0) (T1 := T1) C hA G (mX8_thrown_0 l D b cI cJ tk tkF T1 _ rfl) k_849 k_850 k_851 k_852 (by decide +kernel) ⟨Nat.le_of_ble_eq_true rfl, Nat.le_of_ble_eq_true rfl⟩ rfl rfl ⟨by show _ ≤ 1072; omega, by show _ ≤ 11276; omega⟩ rfl hl.1 rfl (Nat.le_of_ble_eq_true rfl) dL_law_509 (fun H locs G => ?_)
    refine nm_i (y := 0) hs.1.symm ?_
    refine lv_iload C.1 C.2.1 dL_law_512 (lv_at hl 1 rfl) ?_
    refine lv_icmp_eq (tgt := 519) C.1 C.2.1 dL_law_514 (by decide) (fun _ => ?_) (fun h9 => absurd rfl h9)
    refine lv_iload C.1 C.2.1 dL_law_519 (lv_at hl 1 rfl) ?_
    refine lv_if_ne (tgt := 536) C.1 C.2.1 dL_law_521 (by decide) (fun h9 => absurd rfl h9) (fun _ => ?_)
    refine lv_aload_n C.1 C.2.1 dL_law_524 rfl (lv_at hl 5 rfl) ?_
    refine lv_iconst (v := 0) C.1 C.2.1 dL_law_525 (by decide) ?_
    refine va_lald C.1 C.2.1 C.2.2.2.2.2.1 G.1 42 1 rfl rfl (show vq 0 1 by decide) dL_law_526 ?_
    refine lv_iload C.1 C.2.1 dL_law_527 (lv_at hl 0 rfl) ?_
    refine lv_i2l C.1 C.2.1 dL_law_529 rfl ?_
    refine W.lcmp C.1 C.2.1 dL_law_530 ?_
    refine lv_if_eq (tgt := 536) C.1 C.2.1 dL_law_531 (by decide) (fun _ => ?_) (fun h9 => absurd (lw_cmp hs.2) h9)
    refine lv_goto (tgt := 620) C.1 C.2.1 dL_law_536 (by decide) ?_
    exact kk S1 T1 (vp_updL g 0 v.toInt64) H locs ls hR1 G (lv_sub hl [2, 3, 4, 5, 6] rfl)
set_option maxRecDepth 100000 in
set_option maxHeartbeats 4000000 in
theorem lw_case_named {p : Program} {l : Launch} {e : Env} {s : State} {m : MethodId} {below : List Frame} {meth : Method} {c : Code} {D : va_G} {cI cJ : ClassId} {tk : Nat} {a b : Nat → Nat} {o sc L : Nat} {xs : Nat → Int32} {R : St → St → Prop} (hSim : Sim R) (C : Cx p s m #[Value.ref sc] meth c RL cL_law 7 D cI cJ tk tkF (fun q : Nat => s.heap.size ≤ q)) (hr : meth.sig.returnType = ret) (hX : va_X sc L xs s s.heap) (hsc : sc < s.heap.size) (hL : L ≤ 2048) (hlx : l.stackTraces = false) (Xvalue : TX 120 "no such place of the pile, or what" (fun q : Nat => s.heap.size ≤ q) s) (Xrecord : TX 138 "no such what" (fun q : Nat => s.heap.size ≤ q) s) (Xkept : TX 141 "no such place of the record's pile, or what" (fun q : Nat => s.heap.size ≤ q) s) (Xhandler : TX 144 "no such error" (fun q : Nat => s.heap.size ≤ q) s) (Xnamed : TX 152 "no such name, or what" (fun q : Nat => s.heap.size ≤ q) s) {j : Nat} (x4 : Int32) (hj : 4 * j + 4 ≤ L) (hx4 : x4 = nI (4 * j)) (S T : St) (g : Nat → Int64) (hR : R S T) (H : Heap) (locs : List Loc) (ls : Array Slot) (G : Wl D (fun q : Nat => s.heap.size ≤ q) s (wL a b cI cJ o S T g) H locs) (hl : lv_has ls 7 [(0, .ref sc), (1, .ref (a 0)), (2, .ref (b 0)), (3, .ref o), (4, .int x4)])
    (kk : ∀ (S T : St) (g : Nat → Int64) (H : Heap) (locs : List Loc) (ls : Array Slot), R S T → Wl D (fun q : Nat => s.heap.size ≤ q) s (wL a b cI cJ o S T g) H locs → lv_has ls 7 [(0, .ref sc), (1, .ref (a 0)), (2, .ref (b 0)), (3, .ref o), (4, .int x4)] → W p l e room_1 s m #[Value.ref sc] below meth c H locs (43 + (j + 1)) (3054 + 6 * (j + 1)) (lw_Z below #[Value.ref sc] s) (F0 m 620 ls [])) : W p l e room_1 s m #[Value.ref sc] below meth c H locs (43 + j) (3054 + 6 * j) (lw_Z below #[Value.ref sc] s) (F0 m 539 ls []) := by
  have hA : ∀ q : Nat, s.heap.size ≤ q → (fun q : Nat => s.heap.size ≤ q) q := fun _ h => h
  have hscA : ¬ (fun q : Nat => s.heap.size ≤ q) sc := Nat.not_le.mpr hsc
  have i1 : vp_in (x4 + 1) L := lw_ix (k := 1) hL hx4 (by omega)
  have i2 : vp_in (x4 + 2) L := lw_ix (k := 2) hL hx4 (by omega)
  have i3 : vp_in (x4 + 3) L := lw_ix (k := 3) hL hx4 (by omega)
  obtain ⟨x, S1, y, T1, hE, hM, hR1, hs⟩ := hSim.2.2.2.2.2.2.2.2.2.2.2.1 (xs (x4 + 1).toNatClampNeg) (xs (x4 + 2).toNatClampNeg) S T hR
  cases x with
  | none =>
    refine lv_aload_n C.1 C.2.1 dL_law_539 rfl (lv_at hl 1 rfl) ?_
    refine lv_aload_n C.1 C.2.1 dL_law_540 rfl (lv_at hl 0 rfl) ?_
    refine lv_iload C.1 C.2.1 dL_law_541 (lv_at hl 4 rfl) ?_
    refine lv_iconst (v := 1) C.1 C.2.1 dL_law_543 (by decide) ?_
    refine lv_iadd C.1 C.2.1 dL_law_544 ?_
    refine va_sld C.1 C.2.1 hX hsc hscA G.2.2 i1 dL_law_545 ?_
    refine lv_aload_n C.1 C.2.1 dL_law_546 rfl (lv_at hl 0 rfl) ?_
    refine lv_iload C.1 C.2.1 dL_law_547 (lv_at hl 4 rfl) ?_
    refine lv_iconst (v := 2) C.1 C.2.1 dL_law_549 (by decide) ?_
    refine lv_iadd C.1 C.2.1 dL_law_550 ?_
    refine va_sld C.1 C.2.1 hX hsc hscA G.2.2 i2 dL_law_551 ?_
    refine lv_aload_n C.1 C.2.1 dL_law_552 rfl (lv_at hl 3 rfl) ?_
    refine LW_i (As := [.ref (a 0), .int (xs (x4 + 1).toNatClampNeg), .int (xs (x4 + 2).toNatClampNeg), .ref o]) (na := 4) (x := (none, S1)) C Xnamed hA G (mL_named l D a cI cJ tk tkF o (xs (x4 + 1).toNatClampNeg) (xs (x4 + 2).toNatClampNeg) S g _ hE hlx) k_736 k_737 k_58 kw_named (by decide +kernel) ⟨Nat.le_of_ble_eq_true rfl, Nat.le_of_ble_eq_true rfl⟩ rfl rfl ⟨by show _ ≤ 1072; omega, by show _ ≤ 11276; omega⟩ rfl hl.1 rfl (Nat.le_of_ble_eq_true rfl) dL_law_553 (fun H locs G => ?_)
    replace G : Wl D (fun q : Nat => s.heap.size ≤ q) s (wL a b cI cJ o S1 T g) H locs := G
    refine W.eq (g2 := F0 m 556 ls [.int 1]) rfl ?_
    refine lv_istore (lv' := [(5, .int 1), (0, .ref sc), (1, .ref (a 0)), (2, .ref (b 0)), (3, .ref o), (4, .int x4)]) C.1 C.2.1 dL_law_556 hl (by decide) rfl (fun ls hl => ?_)
    refine lv_aload_n C.1 C.2.1 dL_law_558 rfl (lv_at hl 3 rfl) ?_
    refine lv_aload_n C.1 C.2.1 dL_law_559 rfl (lv_at hl 1 rfl) ?_
    refine lv_iload C.1 C.2.1 dL_law_560 (lv_at hl 5 rfl) ?_
    refine lv_iconst (v := 1) C.1 C.2.1 dL_law_562 (by decide) ?_
    refine lv_iadd C.1 C.2.1 dL_law_563 ?_
    refine va_sld C.1 C.2.1 hX hsc hscA G.2.2 i1 dL_law_564 ?_
    refine lv_aload_n C.1 C.2.1 dL_law_565 rfl (lv_at hl 1 rfl) ?_
    refine lv_iload C.1 C.2.1 dL_law_566 (lv_at hl 5 rfl) ?_
    refine lv_iconst (v := 2) C.1 C.2.1 dL_law_568 (by decide) ?_
    refine lv_iadd C.1 C.2.1 dL_law_569 ?_
    refine va_sld C.1 C.2.1 hX hsc hscA G.2.2 i2 dL_law_570 ?_
    refine LM_i (As := [.int (xs (x4 + 1).toNatClampNeg), .int (xs (x4 + 2).toNatClampNeg)]) (na := 2) C hA G (mX8_named_0 l D b cI cJ tk tkF (xs (x4 + 1).toNatClampNeg) (xs (x4 + 2).toNatClampNeg) T _ hM) k_1018 k_1019 k_1020 k_1021 (by decide +kernel) ⟨Nat.le_of_ble_eq_true rfl, Nat.le_of_ble_eq_true rfl⟩ rfl rfl ⟨by show _ ≤ 1072; omega, by show _ ≤ 11276; omega⟩ rfl hl.1 rfl (Nat.le_of_ble_eq_true rfl) dL_law_571 (fun H locs G => ?_)
    refine lv_istore (lv' := [(6, .int y), (5, .int 1), (0, .ref sc), (1, .ref (a 0)), (2, .ref (b 0)), (3, .ref o), (4, .int x4)]) C.1 C.2.1 dL_law_574 hl (by decide) rfl (fun ls hl => ?_)
    refine lv_aload_n C.1 C.2.1 dL_law_576 rfl (lv_at hl 4 rfl) ?_
    refine LM_i (As := []) (na := 0) (r := T1.1 0 0) (T1 := T1) C hA G (mX8_thrown_0 l D b cI cJ tk tkF T1 _ rfl) k_849 k_850 k_851 k_852 (by decide +kernel) ⟨Nat.le_of_ble_eq_true rfl, Nat.le_of_ble_eq_true rfl⟩ rfl rfl ⟨by show _ ≤ 1072; omega, by show _ ≤ 11276; omega⟩ rfl hl.1 rfl (Nat.le_of_ble_eq_true rfl) dL_law_577 (fun H locs G => ?_)
    refine nm_i (y := 1) hs.symm ?_
    refine lv_iload C.1 C.2.1 dL_law_580 (lv_at hl 1 rfl) ?_
    refine lv_icmp_eq (tgt := 587) C.1 C.2.1 dL_law_582 (by decide) (fun _ => ?_) (fun h9 => absurd rfl h9)
    refine lv_iload C.1 C.2.1 dL_law_587 (lv_at hl 1 rfl) ?_
    refine lv_if_ne (tgt := 604) C.1 C.2.1 dL_law_589 (by decide) (fun _ => ?_) (fun h9 => absurd h9 (by decide))
    refine lv_goto (tgt := 620) C.1 C.2.1 dL_law_604 (by decide) ?_
    exact kk S1 T1 g H locs ls hR1 G (lv_sub hl [2, 3, 4, 5, 6] rfl)
  | some v =>
    refine lv_aload_n C.1 C.2.1 dL_law_539 rfl (lv_at hl 1 rfl) ?_
    refine lv_aload_n C.1 C.2.1 dL_law_540 rfl (lv_at hl 0 rfl) ?_
    refine lv_iload C.1 C.2.1 dL_law_541 (lv_at hl 4 rfl) ?_
    refine lv_iconst (v := 1) C.1 C.2.1 dL_law_543 (by decide) ?_
    refine lv_iadd C.1 C.2.1 dL_law_544 ?_
    refine va_sld C.1 C.2.1 hX hsc hscA G.2.2 i1 dL_law_545 ?_
    refine lv_aload_n C.1 C.2.1 dL_law_546 rfl (lv_at hl 0 rfl) ?_
    refine lv_iload C.1 C.2.1 dL_law_547 (lv_at hl 4 rfl) ?_
    refine lv_iconst (v := 2) C.1 C.2.1 dL_law_549 (by decide) ?_
    refine lv_iadd C.1 C.2.1 dL_law_550 ?_
    refine va_sld C.1 C.2.1 hX hsc hscA G.2.2 i2 dL_law_551 ?_
    refine lv_aload_n C.1 C.2.1 dL_law_552 rfl (lv_at hl 3 rfl) ?_
    refine LW_i (As := [.ref (a 0), .int (xs (x4 + 1).toNatClampNeg), .int (xs (x4 + 2).toNatClampNeg), .ref o]) (na := 4) (x := (some v, S1)) C Xnamed hA G (mL_named l D a cI cJ tk tkF o (xs (x4 + 1).toNatClampNeg) (xs (x4 + 2).toNatClampNeg) S g _ hE hlx) k_736 k_737 k_58 kw_named (by decide +kernel) ⟨Nat.le_of_ble_eq_true rfl, Nat.le_of_ble_eq_true rfl⟩ rfl rfl ⟨by show _ ≤ 1072; omega, by show _ ≤ 11276; omega⟩ rfl hl.1 rfl (Nat.le_of_ble_eq_true rfl) dL_law_553 (fun H locs G => ?_)
    replace G : Wl D (fun q : Nat => s.heap.size ≤ q) s (wL a b cI cJ o S1 T (vp_updL g 0 v.toInt64)) H locs := G
    refine W.eq (g2 := F0 m 556 ls [.int 0]) rfl ?_
    refine lv_istore (lv' := [(5, .int 0), (0, .ref sc), (1, .ref (a 0)), (2, .ref (b 0)), (3, .ref o), (4, .int x4)]) C.1 C.2.1 dL_law_556 hl (by decide) rfl (fun ls hl => ?_)
    refine lv_aload_n C.1 C.2.1 dL_law_558 rfl (lv_at hl 3 rfl) ?_
    refine lv_aload_n C.1 C.2.1 dL_law_559 rfl (lv_at hl 1 rfl) ?_
    refine lv_iload C.1 C.2.1 dL_law_560 (lv_at hl 5 rfl) ?_
    refine lv_iconst (v := 1) C.1 C.2.1 dL_law_562 (by decide) ?_
    refine lv_iadd C.1 C.2.1 dL_law_563 ?_
    refine va_sld C.1 C.2.1 hX hsc hscA G.2.2 i1 dL_law_564 ?_
    refine lv_aload_n C.1 C.2.1 dL_law_565 rfl (lv_at hl 1 rfl) ?_
    refine lv_iload C.1 C.2.1 dL_law_566 (lv_at hl 5 rfl) ?_
    refine lv_iconst (v := 2) C.1 C.2.1 dL_law_568 (by decide) ?_
    refine lv_iadd C.1 C.2.1 dL_law_569 ?_
    refine va_sld C.1 C.2.1 hX hsc hscA G.2.2 i2 dL_law_570 ?_
    refine LM_i (As := [.int (xs (x4 + 1).toNatClampNeg), .int (xs (x4 + 2).toNatClampNeg)]) (na := 2) C hA G (mX8_named_0 l D b cI cJ tk tkF (xs (x4 + 1).toNatClampNeg) (xs (x4 + 2).toNatClampNeg) T _ hM) k_1018 k_1019 k_1020 k_1021 (by decide +kernel) ⟨Nat.le_of_ble_eq_true rfl, Nat.le_of_ble_eq_true rfl⟩ rfl rfl ⟨by show _ ≤ 1072; omega, by show _ ≤ 11276; omega⟩ rfl hl.1 rfl (Nat.le_of_ble_eq_true rfl) dL_law_571 (fun H locs G => ?_)
    refine lv_istore (lv' := [(6, .int y), (5, .int 0), (0, .ref sc), (1, .ref (a 0)), (2, .ref (b 0)), (3, .ref o), (4, .int x4)]) C.1 C.2.1 dL_law_574 hl (by decide) rfl (fun ls hl => ?_)
    refine lv_aload_n C.1 C.2.1 dL_law_576 rfl (lv_at hl 4 rfl) ?_
    refine LM_i (As := []) (na := 0) (r := T1.1 0 0) (T1 := T1) C hA G (mX8_thrown_0 l D b cI cJ tk tkF T1 _ rfl) k_849 k_850 k_851 k_852 (by decide +kernel) ⟨Nat.le_of_ble_eq_true rfl, Nat.le_of_ble_eq_true rfl⟩ rfl rfl ⟨by show _ ≤ 1072; omega, by show _ ≤ 11276; omega⟩ rfl hl.1 rfl (Nat.le_of_ble_eq_true rfl) dL_law_577 (fun H locs G => ?_)
    refine nm_i (y := 0) hs.1.symm ?_
    refine lv_iload C.1 C.2.1 dL_law_580 (lv_at hl 1 rfl) ?_
    refine lv_icmp_eq (tgt := 587) C.1 C.2.1 dL_law_582 (by decide) (fun _ => ?_) (fun h9 => absurd rfl h9)
    refine lv_iload C.1 C.2.1 dL_law_587 (lv_at hl 1 rfl) ?_
    refine lv_if_ne (tgt := 604) C.1 C.2.1 dL_law_589 (by decide) (fun h9 => absurd rfl h9) (fun _ => ?_)
    refine lv_aload_n C.1 C.2.1 dL_law_592 rfl (lv_at hl 5 rfl) ?_
    refine lv_iconst (v := 0) C.1 C.2.1 dL_law_593 (by decide) ?_
    refine va_lald C.1 C.2.1 C.2.2.2.2.2.1 G.1 42 1 rfl rfl (show vq 0 1 by decide) dL_law_594 ?_
    refine lv_iload C.1 C.2.1 dL_law_595 (lv_at hl 0 rfl) ?_
    refine lv_i2l C.1 C.2.1 dL_law_597 rfl ?_
    refine W.lcmp C.1 C.2.1 dL_law_598 ?_
    refine lv_if_eq (tgt := 604) C.1 C.2.1 dL_law_599 (by decide) (fun _ => ?_) (fun h9 => absurd (lw_cmp hs.2) h9)
    refine lv_goto (tgt := 620) C.1 C.2.1 dL_law_604 (by decide) ?_
    exact kk S1 T1 (vp_updL g 0 v.toInt64) H locs ls hR1 G (lv_sub hl [2, 3, 4, 5, 6] rfl)
set_option maxRecDepth 100000 in
set_option maxHeartbeats 4000000 in
theorem lw_case_forget {p : Program} {l : Launch} {e : Env} {s : State} {m : MethodId} {below : List Frame} {meth : Method} {c : Code} {D : va_G} {cI cJ : ClassId} {tk : Nat} {a b : Nat → Nat} {o sc L : Nat} {xs : Nat → Int32} {R : St → St → Prop} (hSim : Sim R) (C : Cx p s m #[Value.ref sc] meth c RL cL_law 7 D cI cJ tk tkF (fun q : Nat => s.heap.size ≤ q)) (hr : meth.sig.returnType = ret) (hX : va_X sc L xs s s.heap) (hsc : sc < s.heap.size) (hL : L ≤ 2048) (hlx : l.stackTraces = false) (Xvalue : TX 120 "no such place of the pile, or what" (fun q : Nat => s.heap.size ≤ q) s) (Xrecord : TX 138 "no such what" (fun q : Nat => s.heap.size ≤ q) s) (Xkept : TX 141 "no such place of the record's pile, or what" (fun q : Nat => s.heap.size ≤ q) s) (Xhandler : TX 144 "no such error" (fun q : Nat => s.heap.size ≤ q) s) (Xnamed : TX 152 "no such name, or what" (fun q : Nat => s.heap.size ≤ q) s) {j : Nat} (x4 : Int32) (hj : 4 * j + 4 ≤ L) (hx4 : x4 = nI (4 * j)) (S T : St) (g : Nat → Int64) (hR : R S T) (H : Heap) (locs : List Loc) (ls : Array Slot) (G : Wl D (fun q : Nat => s.heap.size ≤ q) s (wL a b cI cJ o S T g) H locs) (hl : lv_has ls 7 [(0, .ref sc), (1, .ref (a 0)), (2, .ref (b 0)), (3, .ref o), (4, .int x4)])
    (kk : ∀ (S T : St) (g : Nat → Int64) (H : Heap) (locs : List Loc) (ls : Array Slot), R S T → Wl D (fun q : Nat => s.heap.size ≤ q) s (wL a b cI cJ o S T g) H locs → lv_has ls 7 [(0, .ref sc), (1, .ref (a 0)), (2, .ref (b 0)), (3, .ref o), (4, .int x4)] → W p l e room_1 s m #[Value.ref sc] below meth c H locs (43 + (j + 1)) (3054 + 6 * (j + 1)) (lw_Z below #[Value.ref sc] s) (F0 m 620 ls [])) : W p l e room_1 s m #[Value.ref sc] below meth c H locs (43 + j) (3054 + 6 * j) (lw_Z below #[Value.ref sc] s) (F0 m 607 ls []) := by
  have hA : ∀ q : Nat, s.heap.size ≤ q → (fun q : Nat => s.heap.size ≤ q) q := fun _ h => h
  have hscA : ¬ (fun q : Nat => s.heap.size ≤ q) sc := Nat.not_le.mpr hsc
  have i1 : vp_in (x4 + 1) L := lw_ix (k := 1) hL hx4 (by omega)
  have i2 : vp_in (x4 + 2) L := lw_ix (k := 2) hL hx4 (by omega)
  have i3 : vp_in (x4 + 3) L := lw_ix (k := 3) hL hx4 (by omega)
  obtain ⟨v, S1, T1, hE, hM, hR1⟩ := hSim.2.2.2.2.2.2.2.2.2.2.2.2 S T hR
  refine lv_aload_n C.1 C.2.1 dL_law_607 rfl (lv_at hl 1 rfl) ?_
  refine LE_i (As := []) (na := 0) C hA G (mX7_forget_0 l D a cI cJ tk tkF S _ hE) k_594 k_595 k_596 k_597 (by decide +kernel) ⟨Nat.le_of_ble_eq_true rfl, Nat.le_of_ble_eq_true rfl⟩ rfl rfl ⟨by show _ ≤ 1072; omega, by show _ ≤ 11276; omega⟩ rfl hl.1 rfl (Nat.le_of_ble_eq_true rfl) dL_law_608 (fun H locs G => ?_)
  refine lv_aload_n C.1 C.2.1 dL_law_611 rfl (lv_at hl 2 rfl) ?_
  refine LM_i (As := []) (na := 0) C hA G (mX8_forget_0 l D b cI cJ tk tkF T _ hM) k_1022 k_1023 k_1024 k_1025 (by decide +kernel) ⟨Nat.le_of_ble_eq_true rfl, Nat.le_of_ble_eq_true rfl⟩ rfl rfl ⟨by show _ ≤ 1072; omega, by show _ ≤ 11276; omega⟩ rfl hl.1 rfl (Nat.le_of_ble_eq_true rfl) dL_law_612 (fun H locs G => ?_)
  refine lv_icmp_eq (tgt := 620) C.1 C.2.1 dL_law_615 (by decide) (fun _ => ?_) (fun h9 => absurd rfl h9)
  exact W.widen (by omega) (by omega) (kk S1 T1 g H locs ls hR1 G (lv_sub hl [0, 1, 2, 3, 4] rfl))
set_option maxRecDepth 100000 in
set_option maxHeartbeats 4000000 in
/-- THE LAW'S LOOP, over the relation R that the pure part keeps -/
theorem law_loop {p : Program} {l : Launch} {e : Env} {s : State} {m : MethodId} {below : List Frame} {meth : Method} {c : Code} {D : va_G} {cI cJ : ClassId} {tk : Nat} {a b : Nat → Nat} {o sc L : Nat} {xs : Nat → Int32} {R : St → St → Prop} (hSim : Sim R) (C : Cx p s m #[Value.ref sc] meth c RL cL_law 7 D cI cJ tk tkF (fun q : Nat => s.heap.size ≤ q)) (hr : meth.sig.returnType = ret) (hX : va_X sc L xs s s.heap) (hsc : sc < s.heap.size) (hL : L ≤ 2048) (hlx : l.stackTraces = false) (Xvalue : TX 120 "no such place of the pile, or what" (fun q : Nat => s.heap.size ≤ q) s) (Xrecord : TX 138 "no such what" (fun q : Nat => s.heap.size ≤ q) s) (Xkept : TX 141 "no such place of the record's pile, or what" (fun q : Nat => s.heap.size ≤ q) s) (Xhandler : TX 144 "no such error" (fun q : Nat => s.heap.size ≤ q) s) (Xnamed : TX 152 "no such name, or what" (fun q : Nat => s.heap.size ≤ q) s) : ∀ (n j : Nat) (x4 : Int32), 4 * j ≤ L → 513 ≤ j + n → x4 = nI (4 * j) → ∀ (S T : St) (g : Nat → Int64), R S T → ∀ (H : Heap) (locs : List Loc) (ls : Array Slot), Wl D (fun q : Nat => s.heap.size ≤ q) s (wL a b cI cJ o S T g) H locs → lv_has ls 7 [(0, .ref sc), (1, .ref (a 0)), (2, .ref (b 0)), (3, .ref o), (4, .int x4)] → W p l e room_1 s m #[Value.ref sc] below meth c H locs (43 + j) (3054 + 6 * j) (lw_Z below #[Value.ref sc] s) (F0 m 23 ls []) := by
  have hscA : ¬ (fun q : Nat => s.heap.size ≤ q) sc := Nat.not_le.mpr hsc
  intro n
  induction n with
  | zero => intro j x4 h1 h2; exact absurd h2 (by omega)
  | succ n ih =>
    intro j x4 hj hn hx4 S T g hR H locs ls G hl
    refine lv_iload C.1 C.2.1 dL_law_23 (lv_at hl 4 rfl) ?_
    refine lv_aload_n C.1 C.2.1 dL_law_25 rfl (lv_at hl 0 rfl) ?_
    refine va_slen C.1 C.2.1 hX hsc hscA G.2.2 dL_law_26 ?_
    refine lv_iconst (v := 4) C.1 C.2.1 dL_law_27 (by decide) ?_
    refine lv_isub C.1 C.2.1 dL_law_28 ?_
    refine lv_icmp_gt (tgt := 626) C.1 C.2.1 dL_law_29 (by decide) (fun c1 => ?_) (fun c1 => ?_)
    · refine lv_iconst (v := 1) C.1 C.2.1 dL_law_626 (by decide) ?_
      refine va_forget (fun q hq => G.2.2.2.2 q hq) ?_
      refine W.widen (k := 1072) (n := 11276) (by omega) (by omega) ?_
      exact lw_ret C.1 C.2.1 hr C.2.2.2.2.2.2.1 dL_law_627
    · have hj4 : 4 * j + 4 ≤ L := by
        rw [hx4, lw_lt hL (by omega)] at c1
        exact Decidable.not_not.mp c1
      have i0 : vp_in x4 L := by rw [hx4]; exact vp_in_nI (by omega) (by omega)
      refine lv_aload_n C.1 C.2.1 dL_law_32 rfl (lv_at hl 0 rfl) ?_
      refine lv_iload C.1 C.2.1 dL_law_33 (lv_at hl 4 rfl) ?_
      refine va_sld C.1 C.2.1 hX hsc hscA G.2.2 i0 dL_law_35 ?_
      refine lv_bipush (v := 15) C.1 C.2.1 dL_law_36 (by decide) ?_
      refine lv_iand C.1 C.2.1 dL_law_38 ?_
      have tail : ∀ (S T : St) (g : Nat → Int64) (H : Heap) (locs : List Loc) (ls : Array Slot), R S T → Wl D (fun q : Nat => s.heap.size ≤ q) s (wL a b cI cJ o S T g) H locs → lv_has ls 7 [(0, .ref sc), (1, .ref (a 0)), (2, .ref (b 0)), (3, .ref o), (4, .int x4)] → W p l e room_1 s m #[Value.ref sc] below meth c H locs (43 + (j + 1)) (3054 + 6 * (j + 1)) (lw_Z below #[Value.ref sc] s) (F0 m 620 ls []) := by
        intro S T g H locs ls hR G hl
        obtain ⟨z4, ez4⟩ : ∃ z : Int32, z = x4 + 4 := ⟨_, rfl⟩
        refine lv_iinc (v := z4) (lv' := [(4, .int z4), (0, .ref sc), (1, .ref (a 0)), (2, .ref (b 0)), (3, .ref o)]) C.1 C.2.1 dL_law_620 hl (k := 4) rfl (by rw [ez4]; rfl) (by decide) rfl (fun ls hl => ?_)
        refine lv_goto (tgt := 23) C.1 C.2.1 dL_law_623 (by decide) ?_
        exact ih (j + 1) z4 (by omega) (by omega) (by rw [ez4, hx4, show (4 : Int32) = nI 4 from rfl, nI_add]; rfl) S T g hR H locs ls G (lv_sub hl [1, 2, 3, 4, 0] rfl)
      by_cases c2 : xs x4.toNatClampNeg &&& 15 = (0 : Int32)
      · refine lv_tableIn (tgt := 104) C.1 C.2.1 dL_law_39 (by rw [c2]; decide) (by rw [c2]; decide) (by rw [c2]; rfl) (by decide) ?_
        exact lw_case_token hSim C hr hX hsc hL hlx Xvalue Xrecord Xkept Xhandler Xnamed x4 hj4 hx4 S T g hR H locs ls G hl tail
      by_cases c3 : xs x4.toNatClampNeg &&& 15 = (1 : Int32)
      · refine lv_tableIn (tgt := 153) C.1 C.2.1 dL_law_39 (by rw [c3]; decide) (by rw [c3]; decide) (by rw [c3]; rfl) (by decide) ?_
        exact lw_case_clear hSim C hr hX hsc hL hlx Xvalue Xrecord Xkept Xhandler Xnamed x4 hj4 hx4 S T g hR H locs ls G hl tail
      by_cases c4 : xs x4.toNatClampNeg &&& 15 = (2 : Int32)
      · refine lv_tableIn (tgt := 178) C.1 C.2.1 dL_law_39 (by rw [c4]; decide) (by rw [c4]; decide) (by rw [c4]; rfl) (by decide) ?_
        exact lw_case_push hSim C hr hX hsc hL hlx Xvalue Xrecord Xkept Xhandler Xnamed x4 hj4 hx4 S T g hR H locs ls G hl tail
      by_cases c5 : xs x4.toNatClampNeg &&& 15 = (3 : Int32)
      · refine lv_tableIn (tgt := 215) C.1 C.2.1 dL_law_39 (by rw [c5]; decide) (by rw [c5]; decide) (by rw [c5]; rfl) (by decide) ?_
        exact lw_case_drop hSim C hr hX hsc hL hlx Xvalue Xrecord Xkept Xhandler Xnamed x4 hj4 hx4 S T g hR H locs ls G hl tail
      by_cases c6 : xs x4.toNatClampNeg &&& 15 = (4 : Int32)
      · refine lv_tableIn (tgt := 228) C.1 C.2.1 dL_law_39 (by rw [c6]; decide) (by rw [c6]; decide) (by rw [c6]; rfl) (by decide) ?_
        exact lw_case_run hSim C hr hX hsc hL hlx Xvalue Xrecord Xkept Xhandler Xnamed x4 hj4 hx4 S T g hR H locs ls G hl tail
      by_cases c7 : xs x4.toNatClampNeg &&& 15 = (5 : Int32)
      · refine lv_tableIn (tgt := 265) C.1 C.2.1 dL_law_39 (by rw [c7]; decide) (by rw [c7]; decide) (by rw [c7]; rfl) (by decide) ?_
        exact lw_case_interrupt hSim C hr hX hsc hL hlx Xvalue Xrecord Xkept Xhandler Xnamed x4 hj4 hx4 S T g hR H locs ls G hl tail
      by_cases c8 : xs x4.toNatClampNeg &&& 15 = (6 : Int32)
      · refine lv_tableIn (tgt := 278) C.1 C.2.1 dL_law_39 (by rw [c8]; decide) (by rw [c8]; decide) (by rw [c8]; rfl) (by decide) ?_
        exact lw_case_size hSim C hr hX hsc hL hlx Xvalue Xrecord Xkept Xhandler Xnamed x4 hj4 hx4 S T g hR H locs ls G hl tail
      by_cases c9 : xs x4.toNatClampNeg &&& 15 = (7 : Int32)
      · refine lv_tableIn (tgt := 291) C.1 C.2.1 dL_law_39 (by rw [c9]; decide) (by rw [c9]; decide) (by rw [c9]; rfl) (by decide) ?_
        exact lw_case_value hSim C hr hX hsc hL hlx Xvalue Xrecord Xkept Xhandler Xnamed x4 hj4 hx4 S T g hR H locs ls G hl tail
      by_cases c10 : xs x4.toNatClampNeg &&& 15 = (8 : Int32)
      · refine lv_tableIn (tgt := 359) C.1 C.2.1 dL_law_39 (by rw [c10]; decide) (by rw [c10]; decide) (by rw [c10]; rfl) (by decide) ?_
        exact lw_case_record hSim C hr hX hsc hL hlx Xvalue Xrecord Xkept Xhandler Xnamed x4 hj4 hx4 S T g hR H locs ls G hl tail
      by_cases c11 : xs x4.toNatClampNeg &&& 15 = (9 : Int32)
      · refine lv_tableIn (tgt := 415) C.1 C.2.1 dL_law_39 (by rw [c11]; decide) (by rw [c11]; decide) (by rw [c11]; rfl) (by decide) ?_
        exact lw_case_kept hSim C hr hX hsc hL hlx Xvalue Xrecord Xkept Xhandler Xnamed x4 hj4 hx4 S T g hR H locs ls G hl tail
      by_cases c12 : xs x4.toNatClampNeg &&& 15 = (10 : Int32)
      · refine lv_tableIn (tgt := 483) C.1 C.2.1 dL_law_39 (by rw [c12]; decide) (by rw [c12]; decide) (by rw [c12]; rfl) (by decide) ?_
        exact lw_case_handler hSim C hr hX hsc hL hlx Xvalue Xrecord Xkept Xhandler Xnamed x4 hj4 hx4 S T g hR H locs ls G hl tail
      by_cases c13 : xs x4.toNatClampNeg &&& 15 = (11 : Int32)
      · refine lv_tableIn (tgt := 539) C.1 C.2.1 dL_law_39 (by rw [c13]; decide) (by rw [c13]; decide) (by rw [c13]; rfl) (by decide) ?_
        exact lw_case_named hSim C hr hX hsc hL hlx Xvalue Xrecord Xkept Xhandler Xnamed x4 hj4 hx4 S T g hR H locs ls G hl tail
      by_cases c14 : xs x4.toNatClampNeg &&& 15 = (12 : Int32)
      · refine lv_tableIn (tgt := 607) C.1 C.2.1 dL_law_39 (by rw [c14]; decide) (by rw [c14]; decide) (by rw [c14]; rfl) (by decide) ?_
        exact lw_case_forget hSim C hr hX hsc hL hlx Xvalue Xrecord Xkept Xhandler Xnamed x4 hj4 hx4 S T g hR H locs ls G hl tail
      have nc2 : (xs x4.toNatClampNeg &&& 15).toInt ≠ 0 := nti c2
      have nc3 : (xs x4.toNatClampNeg &&& 15).toInt ≠ 1 := nti c3
      have nc4 : (xs x4.toNatClampNeg &&& 15).toInt ≠ 2 := nti c4
      have nc5 : (xs x4.toNatClampNeg &&& 15).toInt ≠ 3 := nti c5
      have nc6 : (xs x4.toNatClampNeg &&& 15).toInt ≠ 4 := nti c6
      have nc7 : (xs x4.toNatClampNeg &&& 15).toInt ≠ 5 := nti c7
      have nc8 : (xs x4.toNatClampNeg &&& 15).toInt ≠ 6 := nti c8
      have nc9 : (xs x4.toNatClampNeg &&& 15).toInt ≠ 7 := nti c9
      have nc10 : (xs x4.toNatClampNeg &&& 15).toInt ≠ 8 := nti c10
      have nc11 : (xs x4.toNatClampNeg &&& 15).toInt ≠ 9 := nti c11
      have nc12 : (xs x4.toNatClampNeg &&& 15).toInt ≠ 10 := nti c12
      have nc13 : (xs x4.toNatClampNeg &&& 15).toInt ≠ 11 := nti c13
      have nc14 : (xs x4.toNatClampNeg &&& 15).toInt ≠ 12 := nti c14
      refine lv_tableOut (tgt := 620) C.1 C.2.1 dL_law_39 (by omega) (by decide) ?_
      exact W.widen (by omega) (by omega) (tail S T g H locs ls hR G hl)
