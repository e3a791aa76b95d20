/-! methods that answer an int or throw IndexOutOfBoundsException with a written text -/
abbrev ioob : String := "java/lang/IndexOutOfBoundsException"
/-- what a throw needs of the state beyond the words: two statics of Throwable, words that speak of the tables as they are, the text -/
def TX (is : Nat) (text : String) (A : Nat → Prop) (U : State) : Prop :=
  vx_Zq Bundle.tN "UNASSIGNED_STACK" Bundle.steD A U U.heap ∧ vx_Zq Bundle.tN "SUPPRESSED_SENTINEL" Bundle.listD A U U.heap ∧ va_Nw (.castable ioob ioob) U ∧ va_Nw (.declares (Bundle.initS "java/lang/RuntimeException")) U ∧ va_Nw (.declares (Bundle.initS "java/lang/Exception")) U ∧ va_Nw (.declares (Bundle.initS Bundle.tN)) U ∧ ∃ sa, vk_R RX7 is text sa U
theorem TX.moved {is : Nat} {text : String} {A B : Nat → Prop} {s U : State} {locs : List Loc} (h : TX is text A s) (hS : va_S A s.heap U.heap locs) (hW : s.WarmedH U.vm) (hAB : ∀ q, B q → A q) : TX is text B U := by
  obtain ⟨h1, h2, h3, h4, h5, h6, sa, h7⟩ := h
  have hq : ∀ a : Nat, a < s.heap.size → ¬ A a → U.heap[a]? = s.heap[a]? := fun a h1 h2 => hS.2.1 a h1 h2
  exact ⟨((h1.kept hq).moved hW.alike).narrow hAB, ((h2.kept hq).moved hW.alike).narrow hAB, h3.warmC hW, h4.warmD hW, h5.warmD hW, h6.warmD hW, sa, h7.warm hW⟩
theorem tx_good : ∀ w ∈ (vx_atS RX7 122 ioob ["java/lang/RuntimeException", "java/lang/Exception"]).filter goodWord, w ∈ tb := fun w h => List.mem_filter.mpr ⟨(by decide +kernel : ∀ w ∈ (vx_atS RX7 122 ioob ["java/lang/RuntimeException", "java/lang/Exception"]).filter goodWord, w ∈ lw_tbl) w h, (List.mem_filter.mp h).2⟩
theorem tx_rest : ∀ w ∈ (vx_atS RX7 122 ioob ["java/lang/RuntimeException", "java/lang/Exception"]).filter (fun w => !goodWord w), w ∈ [Cond.castable ioob ioob, Cond.declares (Bundle.initS "java/lang/RuntimeException"), Cond.declares (Bundle.initS "java/lang/Exception"), Cond.declares (Bundle.initS Bundle.tN)] := by decide +kernel
theorem tx_ot : ∀ w ∈ Cond.classLink RX7 118 ioob :: Cond.initialized ioob :: vx_atS RX7 122 ioob ["java/lang/RuntimeException", "java/lang/Exception"], vx_ot w = true := by decide +kernel
abbrev Qo (D : va_G) (w : St → va_W) (A : Nat → Prop) (x : Option Int32 × St) : Array Value → State → Outcome → State → Prop := va_Qi (fun (r : Int32) (u : St) => (some r, u) = x) (Bo D w A) A
abbrev Xo (D : va_G) (w : St → va_W) (A : Nat → Prop) (x : Option Int32 × St) : String → State → State → Prop := vx_X (fun (u : St) => ((none : Option Int32), u) = x) (fun (E : String) (u : St) (t : State) => E = ioob ∧ Bo D w A u t) A
/-- the contract of a method that answers or throws -/
def Mx (l : Launch) (D : va_G) (w : St → va_W) (a : Nat → Nat) (n : Nat) (cI cJ : ClassId) (tk : Nat) (tf : Nat → Int32) (is : Nat) (text : String) (y : MethodName) (cc : ByteArray) (mL : Nat) (ret : Option FieldType) (rm : Room) (As : List Value) (S : St) (x : Option Int32 × St) : Prop :=
  ∀ sz, vx_Met l y (.code y cc mL ret :: tb) rm (va_Pc As (fun U => Pr D w a n cI cJ tk tf sz S U ∧ TX is text (AR a n sz) U)) (Qo D w (AR a n sz) x) (Xo D w (AR a n sz) x) 1 6 (AR a n sz)
section RT
variable {p : Program} {l : Launch} {e : Env} {R : Room} {s : State} {m : MethodId} {args : Array Value} {below : List Frame} {meth : Method} {c : Code} {H : Heap} {locs : List Loc} {cells slots : Nat} {Q : State → Prop}
variable {cc : ByteArray} {nL : Nat} {D : va_G} {cI cJ : ClassId} {tk : Nat} {tf : Nat → Int32} {A : Nat → Prop} {w : St → va_W} {S : St} {pc : Nat} {ls : Array Slot} {rest : List Value}
theorem r_xret {own : String} {x : Option Int32 × St} {v : Int32} {XC : String → State → State → Prop} (C : Cx p s m args meth c own cc nL D cI cJ tk tf A) (hr : meth.sig.returnType = some .int) (G : Wd D w A s S H locs) (hf : some (some v, S) = some x) (hdg : decode cc pc = .ok (.ireturn, 1)) (hz : cells ≤ 1 ∧ slots ≤ 6) : W p l e R s m args below meth c H locs cells slots (vx_MQ below (Qo D w A x) XC args s 1 6 A) (F0 m pc ls [.int v]) := by
  obtain ⟨hx, hb, -, -, -, -, hlocks, -⟩ := C
  refine vx_ret (W.widen (k := 1) (n := 6) hz.1 hz.2 ?_)
  exact W.iret hx hb hr (fun t ht _ => ⟨⟨v, S, rfl, Option.some.inj hf, by rw [ht]; exact G.1, G.2.1⟩, G.2.2.F ht⟩) G.2.2.2.2 hdg hlocks
theorem r_thr {x : Option Int32 × St} {is : Nat} {text : String} {Qc : Array Value → State → Outcome → State → Prop} (hlx : l.stackTraces = false) (C : Cx p s m args meth c RX7 cc nL D cI cJ tk tf A) (hno : ∀ z ∈ c.exceptionTable.toList, False) (X : TX is text A s) (G : Wd D w A s S H locs) (hf : some ((none : Option Int32), S) = some x) (hsize : ls.size = nL)
    (d0 : decode cc pc = .ok (.new 118, 3)) (d3 : decode cc (pc + 3) = .ok (.dup, 1)) (d4 : decode cc (pc + 4) = .ok (.ldc is, 2)) (d6 : decode cc (pc + 6) = .ok (.invokespecial 122, 3)) (d9 : decode cc (pc + 9) = .ok (.athrow, 1))
    (hRf : 5 < R.frames) (hRl : (rest.map fun v => v.category).sum + 82 ≤ R.locals) (hRc : cells + 1 ≤ R.cells) (hRs : slots + 6 ≤ R.slots) (hz : cells = 0 ∧ slots = 0) :
    W p l e R s m args below meth c H locs cells slots (vx_MQ below Qc (Xo D w A x) args s 1 6 A) (F0 m pc ls rest) := by
  obtain ⟨hx, hb, hml, hown, hts, -, hlocks, -⟩ := C
  obtain ⟨hU, hN, x1, x2, x3, x4, sa, hstr⟩ := X
  obtain ⟨rfl, rfl⟩ := hz
  refine vx_throwS (own := RX7) (cls := ioob) (names := ["java/lang/RuntimeException", "java/lang/Exception"]) (A := A) hx hb hlx hown (by decide +kernel) (by decide +kernel) (hts _ k_626) (hts _ k_72) hstr
    (vx_hat (fun w hw => hts w (tx_good w hw)) tx_rest (vx_c (va_Nw.use rfl x1) (vx_c (va_Nw.use rfl x2) (vx_c (va_Nw.use rfl x3) (vx_c (va_Nw.use rfl x4) vx_n))))) tx_ot hU hN G.2.2 (by rw [hsize, hml]) d0 d3 d4 d6 d9 (fun z hz => (hno z hz).elim) hRf hRl hRc hRs hlocks
    (fun t hal hsz hk => ⟨S, Option.some.inj hf, ⟨rfl, G.1.kept (fun k q hq => hk q.1 (G.1 k q hq).lt), G.2.1⟩, Nat.le_trans G.2.2.1 hsz, fun q h1 h2 => by rw [hk q (Nat.lt_of_lt_of_le h1 G.2.2.1)]; exact G.2.2.2.1 q h1 h2⟩) G.2.2.2.2 (Nat.le_refl _) (Nat.le_refl _)
end RT
theorem TX.blind {is : Nat} {text : String} {A : Nat → Prop} {U : State} {g : JFrame} {mk : MethodId} {v : Array Value} (h : TX is text A U) : TX is text A (U.calling g mk v) := by
  obtain ⟨h1, h2, h3, h4, h5, h6, sa, h7⟩ := h
  have al : U.vm.Alike (U.calling g mk v).vm := Vm.Alike.refl U.vm
  exact ⟨h1.moved al, h2.moved al, h3.same rfl rfl, h4.same rfl rfl, h5.same rfl rfl, h6.same rfl rfl, sa, h7.same rfl⟩
theorem opn_x {l : Launch} {D : va_G} {w : St → va_W} {a : Nat → Nat} {n : Nat} {cI cJ : ClassId} {tk : Nat} {tf : Nat → Int32} {is : Nat} {text : String} {y : MethodName} {cc : ByteArray} {mL : Nat} {ret : Option FieldType} {rm : Room} {As : List Value} {S : St} {x : Option Int32 × St} (hy : plainName y.cls = true) (hn : (lg_sl As).length ≤ mL)
    (h : ∀ (p : Program) (e : Env) (s : State) (m : MethodId) (below : List Frame) (meth : Method) (c : Code), Cx p s m As.toArray meth c y.cls cc mL D cI cJ tk tf (AR a n s.heap.size) → TX is text (AR a n s.heap.size) s → (∀ z ∈ c.exceptionTable.toList, False) → meth.sig.returnType = ret → Wd D w (AR a n s.heap.size) s S s.heap [] → ∀ ls, lv_has ls mL (lv_args 0 As) →
      W p l e rm s m As.toArray below meth c s.heap [] 0 0 (vx_MQ below (Qo D w (AR a n s.heap.size) x) (Xo D w (AR a n s.heap.size) x) As.toArray s 1 6 (AR a n s.heap.size)) (F0 m 0 ls [])) : Mx l D w a n cI cJ tk tf is text y cc mL ret rm As S x := by
  intro sz
  refine vx_ofW (cc := cc) (maxL := mL) (ret := ret) hy rfl ?_
  intro p e s m args below meth c s₁ B hml hno hv
  obtain ⟨rfl, ⟨hsz, hP, hK, hD, hT⟩, hX⟩ := hv
  subst hsz
  rw [lg_entry_eq]
  exact h p e s m below meth c ⟨B.exec, B.bytes, hml, findClass_of_methodNamed B.named, fun w hw => atoms_spec (ws := .code y cc mL ret :: tb) B.pre w (List.mem_cons_of_mem _ hw), hK, B.notSynchronized, hT⟩ hX hno B.returns ⟨hP, hD, va_S.rf⟩ _ (lv_entry As hn)
