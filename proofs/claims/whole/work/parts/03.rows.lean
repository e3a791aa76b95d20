/-! a store: ints by cell and slot; the one row of longs -/
abbrev St : Type := (Nat → Nat → Int32) × (Nat → Int64)
def si (S : St) (c k : Nat) (v : Int32) : St := (fun c' => if c' = c then upd (S.1 c) k v else S.1 c', S.2)
def sl (S : St) (k : Nat) (v : Int64) : St := (S.1, vp_updL S.2 k v)
/-- an index within a row of n places (vp_in, as simp and 'if' can decide it) -/
abbrev vq (i : Int32) (n : Nat) : Prop := ¬ (i < 0 ∨ n ≤ i.toNatClampNeg)
/-- a step that changes the store -/
def stp {α : Type} (S : St) (k : St → Option α) : Option α := k S
/-- a value gets a name -/
def stv {α : Type} (v : Int32) (k : Int32 → Option α) : Option α := k v
def stw {α : Type} (v : Int64) (k : Int64 → Option α) : Option α := k v
/-- a call -/
def bnd {α : Type} (o : Option (Int32 × St)) (k : Int32 → St → Option α) : Option α := match o with
  | none => none
  | some (r, S) => k r S
theorem stp_e {α : Type} {S : St} {k : St → Option α} {x : α} (h : stp S k = some x) : ∃ S1, S1 = S ∧ k S1 = some x := ⟨S, rfl, h⟩
theorem stv_e {α : Type} {v : Int32} {k : Int32 → Option α} {x : α} (h : stv v k = some x) : ∃ y, y = v ∧ k y = some x := ⟨v, rfl, h⟩
theorem stw_e {α : Type} {v : Int64} {k : Int64 → Option α} {x : α} (h : stw v k = some x) : ∃ y, y = v ∧ k y = some x := ⟨v, rfl, h⟩
theorem bnd_e {α : Type} {o : Option (Int32 × St)} {k : Int32 → St → Option α} {x : α} (h : bnd o k = some x) : ∃ r S1, o = some (r, S1) ∧ k r S1 = some x := by
  cases o with
  | none => cases h
  | some q => exact ⟨q.1, q.2, rfl, h⟩
theorem ifp {α : Type} {c : Prop} [Decidable c] {t e : Option α} {x : α} (h : c) (hf : (if c then t else e) = some x) : t = some x := by rwa [if_pos h] at hf
theorem ifq {α : Type} {c : Prop} [Decidable c] {t e : Option α} {x : α} (h : ¬ c) (hf : (if c then t else e) = some x) : e = some x := by rwa [if_neg h] at hf
theorem ifn {α : Type} {c : Prop} [Decidable c] {t : Option α} {x : α} (hf : (if c then t else none) = some x) : c ∧ t = some x := by
  by_cases h : c
  · exact ⟨h, by rwa [if_pos h] at hf⟩
  · rw [if_neg h] at hf; cases hf
theorem nti {x y : Int32} (h : ¬ x = y) : x.toInt ≠ y.toInt := fun e => h (Int32.toInt_inj.mp e)
/-- the cells that a method of a world of n cells may change -/
def AR (a : Nat → Nat) (n sz : Nat) : Nat → Prop := fun q => (∃ i, i < n ∧ q = a i) ∨ sz ≤ q
theorem AR.up {a : Nat → Nat} {n sz sz' : Nat} (h : sz ≤ sz') : ∀ q, AR a n sz' q → AR a n sz q := fun _ hq => hq.elim Or.inl (fun h1 => Or.inr (Nat.le_trans h h1))
/-- the table of what operators take: where it lies, what it holds -/
def TK (tk : Nat) (tf : Nat → Int32) (A : Nat → Prop) (U : State) : Prop := va_Z "ErrorNames" "TAKES" "[I" (.ref tk) A U U.heap ∧ va_T .int tk 112 (fun j => .int (tf j)) A U U.heap
/-- what holds throughout a method's walk -/
def Cx (p : Program) (s : State) (m : MethodId) (args : Array Value) (meth : Method) (c : Code) (own : String) (cc : ByteArray) (nL : Nat) (D : va_G) (cI cJ : ClassId) (tk : Nat) (tf : Nat → Int32) (A : Nat → Prop) : Prop :=
  p.tables.exec = Jvm.exec ∧ c.code = cc ∧ c.maxLocals = nL ∧ s.vm.findClass own = some m.cls ∧ (∀ w ∈ tb, w.before args s = true) ∧ va_K D vwCl [(cI, .int), (cJ, .long)] s ∧ meth.locks = false ∧ TK tk tf A s
/-- the world at a point of the walk -/
def Wd (D : va_G) (w : St → va_W) (A : Nat → Prop) (s : State) (S : St) (H : Heap) (locs : List Loc) : Prop := va_P D vwCl (w S) H ∧ va_D A (w S) ∧ va_S A s.heap H locs
def Pr (D : va_G) (w : St → va_W) (a : Nat → Nat) (n : Nat) (cI cJ : ClassId) (tk : Nat) (tf : Nat → Int32) (sz : Nat) (S : St) (U : State) : Prop :=
  U.heap.size = sz ∧ va_P D vwCl (w S) U.heap ∧ va_K D vwCl [(cI, .int), (cJ, .long)] U ∧ va_D (AR a n sz) (w S) ∧ TK tk tf (AR a n sz) U
def Bo (D : va_G) (w : St → va_W) (A : Nat → Prop) (u : St) (t : State) : Prop := va_P D vwCl (w u) t.heap ∧ va_D A (w u)
abbrev Qi (D : va_G) (w : St → va_W) (A : Nat → Prop) (x : Int32 × St) : Array Value → State → Outcome → State → Prop := va_Qi (fun (r : Int32) (u : St) => (r, u) = x) (Bo D w A) A
abbrev Qv (D : va_G) (w : St → va_W) (A : Nat → Prop) (x : Int32 × St) : Array Value → State → Outcome → State → Prop := va_Qv (fun (u : St) => ((0 : Int32), u) = x) (Bo D w A) A
/-- a method's contract: an int comes back -/
def Mi (l : Launch) (D : va_G) (w : St → va_W) (a : Nat → Nat) (n : Nat) (cI cJ : ClassId) (tk : Nat) (tf : Nat → Int32) (y : MethodName) (cc : ByteArray) (mL : Nat) (ret : Option FieldType) (rm : Room) (As : List Value) (S : St) (x : Int32 × St) : Prop :=
  ∀ sz, Met l y (.code y cc mL ret :: tb) rm (va_Pc As (Pr D w a n cI cJ tk tf sz S)) (Qi D w (AR a n sz) x) 0 0 (AR a n sz)
def Mv (l : Launch) (D : va_G) (w : St → va_W) (a : Nat → Nat) (n : Nat) (cI cJ : ClassId) (tk : Nat) (tf : Nat → Int32) (y : MethodName) (cc : ByteArray) (mL : Nat) (rm : Room) (As : List Value) (S : St) (x : Int32 × St) : Prop :=
  ∀ sz, Met l y (.code y cc mL none :: tb) rm (va_Pc As (Pr D w a n cI cJ tk tf sz S)) (Qv D w (AR a n sz) x) 0 0 (AR a n sz)
theorem TK.moved {tk : Nat} {tf : Nat → Int32} {A B : Nat → Prop} {s U : State} {locs : List Loc} {H0 : Heap} (h : TK tk tf A s) (h0 : H0 = s.heap) (hS : va_S A H0 U.heap locs) (hvm : s.vm.Alike U.vm) (hAB : ∀ q, B q → A q) : TK tk tf B U := by
  subst h0
  have hq : ∀ a : Nat, a < s.heap.size → ¬ A a → U.heap[a]? = s.heap[a]? := fun a h1 h2 => hS.2.1 a h1 h2
  exact ⟨((h.1.kept hq).moved hvm).narrow hAB, ((h.2.kept hq).moved hvm).narrow hAB⟩
theorem Pr.blind {D : va_G} {w : St → va_W} {a : Nat → Nat} {n : Nat} {cI cJ : ClassId} {tk : Nat} {tf : Nat → Int32} {sz : Nat} {S : St} {As : List Value} : FrameBlind (va_Pc As (Pr D w a n cI cJ tk tf sz S)) := by
  intro v U g mk hq
  obtain ⟨h1, h2, h3, h4, h5, h6, h7⟩ := hq
  exact ⟨h1, h2, h3, va_K.moved (u := U) (U := U.calling g mk v) (Vm.Alike.refl U.vm) h4, h5, va_Z.moved (u := U) (U := U.calling g mk v) (Vm.Alike.refl U.vm) h6, va_T.moved (u := U) (U := U.calling g mk v) (Vm.Alike.refl U.vm) h7⟩
section RR
variable {p : Program} {l : Launch} {e : Env} {R : Room} {s : State} {m : MethodId} {args : Array Value} {below : List Frame} {meth : Method} {c : Code} {H : Heap} {locs : List Loc} {cells slots : Nat} {Q : State → Prop}
variable {own : String} {cc : ByteArray} {nL : Nat} {D : va_G} {cI cJ : ClassId} {tk : Nat} {tf : Nat → Int32} {A : Nat → Prop} {w : St → va_W} {S : St} {pc : Nat} {ls : Array Slot} {rest : List Value}
theorem nm_i {x y : Int32} (h : y = x) (k : W p l e R s m args below meth c H locs cells slots Q (F0 m pc ls (.int y :: rest))) : W p l e R s m args below meth c H locs cells slots Q (F0 m pc ls (.int x :: rest)) := h ▸ k
theorem nm_l {x y : Int64} (h : y = x) (k : W p l e R s m args below meth c H locs cells slots Q (F0 m pc ls (.long y :: rest))) : W p l e R s m args below meth c H locs cells slots Q (F0 m pc ls (.long x :: rest)) := h ▸ k
theorem r_get (C : Cx p s m args meth c own cc nL D cI cJ tk tf A) (G : Wd D w A s S H locs) {Cn ref : String} {T : u_T} {N ci index q0 k a : Nat} {fs : List Value} {v : Value} (hin : ∀ w' ∈ u_ws Cn T N, w' ∈ tb) (he : (w S)[q0]? = some (a, .inr (ci, fs))) (hc : vwCl[ci]? = some (Cn, T, N)) (hk : k < N) (hl : Cond.fieldLink own index ref (T k).2.1 (T k).2.2.1 ∈ tb) (hr : (T k).1 = ref) (hv : fs[k]? = some v) (hdg : decode cc pc = .ok (.getfield index, 3))
    (kk : W p l e R s m args below meth c H locs cells slots Q (F0 m (pc + 3) ls (v :: rest))) : W p l e R s m args below meth c H locs cells slots Q (F0 m pc ls (.ref a :: rest)) := by
  obtain ⟨hx, hb, -, hown, hts, hK, -, -⟩ := C
  subst hr
  exact va_get (ci := ci) (v := v) (C := Cn) (T := T) (N := N) hx hb hts hin hown hK G.1 q0 he hc k hk (hts _ hl) (fun _ h9 => h9) hv hdg kk
theorem r_put (C : Cx p s m args meth c own cc nL D cI cJ tk tf A) (G : Wd D w A s S H locs) {Cn ref : String} {T : u_T} {N ci index q0 k a : Nat} {fs : List Value} {v : Value} {S' : St} {ty : FieldType} (hin : ∀ w' ∈ u_ws Cn T N, w' ∈ tb) (ty0 : Nat → FieldType) (hty : ∀ k, k < N → parseFieldDescriptor (T k).2.2.1 = some (ty0 k)) (hnm : ∀ a, a < N → ∀ b, b < N → a ≠ b → (T a).2.1 ≠ (T b).2.1) (he : (w S)[q0]? = some (a, .inr (ci, fs))) (hc : vwCl[ci]? = some (Cn, T, N)) (hk : k < N) (hl : Cond.fieldLink own index ref (T k).2.1 (T k).2.2.1 ∈ tb) (hr : (T k).1 = ref) (hfin : (T k).2.2.2 = false) (hd : parseFieldDescriptor (T k).2.2.1 = some ty) (hn : narrow ty v = v) (hfit : fits ty v = true) (hlen : k < fs.length) (hset : (w S).set q0 (a, .inr (ci, fs.set k v)) = w S') (hdg : decode cc pc = .ok (.putfield index, 3))
    (kk : ∀ (H : Heap) (locs : List Loc), Wd D w A s S' H locs → W p l e R s m args below meth c H locs cells slots Q (F0 m (pc + 3) ls rest)) : W p l e R s m args below meth c H locs cells slots Q (F0 m pc ls (v :: .ref a :: rest)) := by
  obtain ⟨hx, hb, -, hown, hts, hK, -, -⟩ := C
  subst hr
  refine va_put (ci := ci) (v := v) (ty := ty) (C := Cn) (T := T) (N := N) hx hb hts hin ty0 hty hnm hown hK G.1 G.2.1 G.2.2 q0 he hc k hk (hts _ hl) (fun _ h9 => h9) hfin hd hn hfit hlen hdg (fun H1 locs1 hP hD hS => ?_)
  rw [hset] at hP hD
  exact kk H1 locs1 ⟨hP, hD, hS⟩
theorem r_iald (C : Cx p s m args meth c own cc nL D cI cJ tk tf A) (G : Wd D w A s S H locs) {q0 a n : Nat} {f : Nat → Int32} {i : Int32} (he : (w S)[q0]? = some (a, .inl (cI, n, .inl f))) (hin : vp_in i n) (hdg : decode cc pc = .ok (.iaload, 1))
    (kk : W p l e R s m args below meth c H locs cells slots Q (F0 m (pc + 1) ls (.int (f i.toNatClampNeg) :: rest))) : W p l e R s m args below meth c H locs cells slots Q (F0 m pc ls (.int i :: .ref a :: rest)) := by
  obtain ⟨hx, hb, -, -, -, hK, -, -⟩ := C
  exact va_iald hx hb hK G.1 q0 0 he rfl hin hdg kk
theorem r_lald (C : Cx p s m args meth c own cc nL D cI cJ tk tf A) (G : Wd D w A s S H locs) {q0 a n : Nat} {f : Nat → Int64} {i : Int32} (he : (w S)[q0]? = some (a, .inl (cJ, n, .inr (.inl f)))) (hin : vp_in i n) (hdg : decode cc pc = .ok (.laload, 1))
    (kk : W p l e R s m args below meth c H locs cells slots Q (F0 m (pc + 1) ls (.long (f i.toNatClampNeg) :: rest))) : W p l e R s m args below meth c H locs cells slots Q (F0 m pc ls (.int i :: .ref a :: rest)) := by
  obtain ⟨hx, hb, -, -, -, hK, -, -⟩ := C
  exact va_lald hx hb hK G.1 q0 1 he rfl hin hdg kk
theorem r_iast (C : Cx p s m args meth c own cc nL D cI cJ tk tf A) (G : Wd D w A s S H locs) {q0 a n : Nat} {f : Nat → Int32} {i x : Int32} {S' : St} (he : (w S)[q0]? = some (a, .inl (cI, n, .inl f))) (hin : vp_in i n) (hset : (w S).set q0 (a, .inl (cI, n, .inl (upd f i.toNatClampNeg x))) = w S') (hdg : decode cc pc = .ok (.iastore, 1))
    (kk : ∀ (H : Heap) (locs : List Loc), Wd D w A s S' H locs → W p l e R s m args below meth c H locs cells slots Q (F0 m (pc + 1) ls rest)) : W p l e R s m args below meth c H locs cells slots Q (F0 m pc ls (.int x :: .int i :: .ref a :: rest)) := by
  obtain ⟨hx, hb, -, -, -, hK, -, -⟩ := C
  refine va_iast hx hb hK G.1 G.2.1 G.2.2 q0 0 he rfl hin hdg (fun H1 locs1 hP hD hS => ?_)
  rw [hset] at hP hD
  exact kk H1 locs1 ⟨hP, hD, hS⟩
theorem r_last (C : Cx p s m args meth c own cc nL D cI cJ tk tf A) (G : Wd D w A s S H locs) {q0 a n : Nat} {f : Nat → Int64} {i : Int32} {x : Int64} {S' : St} (he : (w S)[q0]? = some (a, .inl (cJ, n, .inr (.inl f)))) (hin : vp_in i n) (hset : (w S).set q0 (a, .inl (cJ, n, .inr (.inl (vp_updL f i.toNatClampNeg x)))) = w S') (hdg : decode cc pc = .ok (.lastore, 1))
    (kk : ∀ (H : Heap) (locs : List Loc), Wd D w A s S' H locs → W p l e R s m args below meth c H locs cells slots Q (F0 m (pc + 1) ls rest)) : W p l e R s m args below meth c H locs cells slots Q (F0 m pc ls (.long x :: .int i :: .ref a :: rest)) := by
  obtain ⟨hx, hb, -, -, -, hK, -, -⟩ := C
  refine va_last hx hb hK G.1 G.2.1 G.2.2 q0 1 he rfl hin hdg (fun H1 locs1 hP hD hS => ?_)
  rw [hset] at hP hD
  exact kk H1 locs1 ⟨hP, hD, hS⟩
theorem r_alen (C : Cx p s m args meth c own cc nL D cI cJ tk tf A) (G : Wd D w A s S H locs) {q0 a n : Nat} {f : Nat → Int32} {v : Int32} (he : (w S)[q0]? = some (a, .inl (cI, n, .inl f))) (hv : Int32.ofNat n = v) (hdg : decode cc pc = .ok (.arraylength, 1))
    (kk : W p l e R s m args below meth c H locs cells slots Q (F0 m (pc + 1) ls (.int v :: rest))) : W p l e R s m args below meth c H locs cells slots Q (F0 m pc ls (.ref a :: rest)) := by
  obtain ⟨hx, hb, -, -, -, hK, -, -⟩ := C
  exact va_alen hx hb hK G.1 q0 0 he (ty := .int) rfl hv hdg kk
theorem r_iret {x : Int32 × St} {v : Int32} (C : Cx p s m args meth c own cc nL D cI cJ tk tf A) (hr : meth.sig.returnType = some .int) (G : Wd D w A s S H locs) (hf : some (v, S) = some x) (hdg : decode cc pc = .ok (.ireturn, 1)) : W p l e R s m args below meth c H locs cells slots (MQ below (Qi D w A x) args s cells slots A) (F0 m pc ls [.int v]) := by
  obtain ⟨hx, hb, -, -, -, -, hlocks, -⟩ := C
  exact W.iret hx hb hr (fun t ht _ => ⟨⟨v, S, rfl, Option.some.inj hf, by rw [ht]; exact G.1, G.2.1⟩, G.2.2.F ht⟩) G.2.2.2.2 hdg hlocks
theorem r_zret {x : Int32 × St} {v : Int32} (C : Cx p s m args meth c own cc nL D cI cJ tk tf A) (hr : meth.sig.returnType = some .boolean) (hv : v = 0 ∨ v = 1) (G : Wd D w A s S H locs) (hf : some (v, S) = some x) (hdg : decode cc pc = .ok (.ireturn, 1)) : W p l e R s m args below meth c H locs cells slots (MQ below (Qi D w A x) args s cells slots A) (F0 m pc ls [.int v]) := by
  obtain ⟨hx, hb, -, -, -, -, hlocks, -⟩ := C
  exact W.zret hx hb hr (by rcases hv with rfl | rfl <;> decide +kernel) (fun t ht _ => ⟨⟨v, S, rfl, Option.some.inj hf, by rw [ht]; exact G.1, G.2.1⟩, G.2.2.F ht⟩) G.2.2.2.2 hdg hlocks
theorem r_vret {x : Int32 × St} (C : Cx p s m args meth c own cc nL D cI cJ tk tf A) (hr : meth.sig.returnType = none) (G : Wd D w A s S H locs) (hf : some ((0 : Int32), S) = some x) (hdg : decode cc pc = .ok (.return_, 1)) : W p l e R s m args below meth c H locs cells slots (MQ below (Qv D w A x) args s cells slots A) (F0 m pc ls []) := by
  obtain ⟨hx, hb, -, -, -, -, hlocks, -⟩ := C
  exact W.vret hx hb hr (fun t ht _ => ⟨⟨S, rfl, Option.some.inj hf, by rw [ht]; exact G.1, G.2.1⟩, G.2.2.F ht⟩) G.2.2.2.2 hdg hlocks
/-- the world's cells lie at the addresses a 0 .. a (n - 1) -/
def Ad (w : St → va_W) (a : Nat → Nat) (n : Nat) : Prop := ∀ (S : St) (k : Nat) (q : Nat × va_E), (w S)[k]? = some q → ∃ i, i < n ∧ q.1 = a i
theorem Ad_D {a : Nat → Nat} {n sz : Nat} {B : Nat → Prop} (h : Ad w a n) (hD : va_D B (w S)) : va_D (AR a n sz) (w S) := ⟨hD.1, fun k q hq => Or.inl (h S k q hq)⟩
theorem r_pre {a : Nat → Nat} {n : Nat} {As : List Value} (C : Cx p s m args meth c own cc nL D cI cJ tk tf (AR a n s.heap.size)) (hw : Ad w a n) (G : Wd D w (AR a n s.heap.size) s S H locs) : ∀ U : State, U.heap = H → s.WarmedH U.vm → va_Pc As (Pr D w a n cI cJ tk tf H.size S) As.toArray U := by
  intro U hU hW
  obtain ⟨-, -, -, -, -, hK, -, hT⟩ := C
  exact ⟨rfl, by rw [hU], by rw [hU]; exact G.1, va_K.moved hW.alike hK, Ad_D hw G.2.1, hT.moved rfl (by rw [hU]; exact G.2.2) hW.alike (AR.up G.2.2.1)⟩
theorem r_cali {a : Nat → Nat} {n : Nat} {y : MethodName} {bytes : ByteArray} {mL na index q0 ci b N : Nat} {ret : Option FieldType} {rm : Room} {As : List Value} {r : Int32} {S1 : St} {fs : List Value} {Cn : String} {T : u_T} {st : List Value}
    (C : Cx p s m args meth c own cc nL D cI cJ tk tf (AR a n s.heap.size)) (hw : Ad w a n) (G : Wd D w (AR a n s.heap.size) s S H locs) (hM : Mi l D w a n cI cJ tk tf y bytes mL ret rm (.ref b :: As) S (r, S1))
    (h1 : Cond.methodLink own index y ∈ tb) (h2 : Cond.instanceMethod y ∈ tb) (h3 : Cond.selects Cn y y ∈ tb) (h4 : Cond.initialized Cn ∈ tb) (h5 : Cond.code y bytes mL ret ∈ tb)
    (he : (w S)[q0]? = some (b, .inr (ci, fs))) (hc : vwCl[ci]? = some (Cn, T, N))
    (hd : y.cls = Cn ∧ y.cls ≠ "java/lang/invoke/MethodHandle" ∧ y.cls ≠ "java/lang/invoke/VarHandle" ∧ (parseMethodDescriptor y.desc).map (fun d => d.parameters.length) = some na) (hR : rm.frames + 1 ≤ R.frames ∧ 8 + (mL + 11) + rm.locals ≤ R.locals) (hrc : rm.cells = 0) (hrs : rm.slots = 0)
    (hz : cells ≤ R.cells ∧ slots ≤ R.slots) (hna : As.length = na) (hsize : ls.size = nL) (hst : st = As.reverse ++ .ref b :: rest) (hW : (rest.map fun v => v.category).sum ≤ 8) (hdg : decode cc pc = .ok (.invokevirtual index, 3))
    (kk : ∀ (H : Heap) (locs : List Loc), Wd D w (AR a n s.heap.size) s S1 H locs → W p l e R s m args below meth c H locs cells slots Q (F0 m (pc + 3) ls (.int r :: rest))) : W p l e R s m args below meth c H locs cells slots Q (F0 m pc ls st) := by
  have hpre := r_pre (As := .ref b :: As) C hw G
  obtain ⟨hx, hb, hml, hown, hts, hK, -, -⟩ := C
  refine va_calli (va_runV (g := F0 m pc ls st) (As := As) (rest := rest) ⟨hx, hb, hml, hown, hts⟩ (hM H.size) (cwV na hts (gdV (fun _ h => h) h1 h2 h3 h4 h5) rfl hrc hrs hd hR) ⟨Pr.blind, va_recv hK G.1 hc he, hpre⟩ rfl hna hsize hst (lv_room hW) hdg hz) G.2.2 (fun q _ h => AR.up G.2.2.1 q h) (AR.up G.2.2.1) (fun r' u t H1 locs1 ht hvm hp hB _ _ hS1 => ?_)
  cases hp
  exact kk H1 locs1 ⟨ht ▸ hB.1, ⟨hB.2.1, fun k q hq => AR.up G.2.2.1 _ (hB.2.2 k q hq)⟩, hS1⟩
theorem r_calv {a : Nat → Nat} {n : Nat} {y : MethodName} {bytes : ByteArray} {mL na index q0 ci b N : Nat} {rm : Room} {As : List Value} {r : Int32} {S1 : St} {fs : List Value} {Cn : String} {T : u_T} {st : List Value}
    (C : Cx p s m args meth c own cc nL D cI cJ tk tf (AR a n s.heap.size)) (hw : Ad w a n) (G : Wd D w (AR a n s.heap.size) s S H locs) (hM : Mv l D w a n cI cJ tk tf y bytes mL rm (.ref b :: As) S (r, S1))
    (h1 : Cond.methodLink own index y ∈ tb) (h2 : Cond.instanceMethod y ∈ tb) (h3 : Cond.selects Cn y y ∈ tb) (h4 : Cond.initialized Cn ∈ tb) (h5 : Cond.code y bytes mL none ∈ tb)
    (he : (w S)[q0]? = some (b, .inr (ci, fs))) (hc : vwCl[ci]? = some (Cn, T, N))
    (hd : y.cls = Cn ∧ y.cls ≠ "java/lang/invoke/MethodHandle" ∧ y.cls ≠ "java/lang/invoke/VarHandle" ∧ (parseMethodDescriptor y.desc).map (fun d => d.parameters.length) = some na) (hR : rm.frames + 1 ≤ R.frames ∧ 8 + (mL + 11) + rm.locals ≤ R.locals) (hrc : rm.cells = 0) (hrs : rm.slots = 0)
    (hz : cells ≤ R.cells ∧ slots ≤ R.slots) (hna : As.length = na) (hsize : ls.size = nL) (hst : st = As.reverse ++ .ref b :: rest) (hW : (rest.map fun v => v.category).sum ≤ 8) (hdg : decode cc pc = .ok (.invokevirtual index, 3))
    (kk : ∀ (H : Heap) (locs : List Loc), Wd D w (AR a n s.heap.size) s S1 H locs → W p l e R s m args below meth c H locs cells slots Q (F0 m (pc + 3) ls rest)) : W p l e R s m args below meth c H locs cells slots Q (F0 m pc ls st) := by
  have hpre := r_pre (As := .ref b :: As) C hw G
  obtain ⟨hx, hb, hml, hown, hts, hK, -, -⟩ := C
  refine va_callv (va_runV (g := F0 m pc ls st) (As := As) (rest := rest) ⟨hx, hb, hml, hown, hts⟩ (hM H.size) (cwV na hts (gdV (fun _ h => h) h1 h2 h3 h4 h5) rfl hrc hrs hd hR) ⟨Pr.blind, va_recv hK G.1 hc he, hpre⟩ rfl hna hsize hst (lv_room hW) hdg hz) G.2.2 (fun q _ h => AR.up G.2.2.1 q h) (AR.up G.2.2.1) (fun u t H1 locs1 ht hvm hp hB _ _ hS1 => ?_)
  cases hp
  exact kk H1 locs1 ⟨ht ▸ hB.1, ⟨hB.2.1, fun k q hq => AR.up G.2.2.1 _ (hB.2.2 k q hq)⟩, hS1⟩
theorem gdS {big : List Cond} (hb : ∀ w ∈ tb, w ∈ big) {own : String} {idx n : Nat} {y : MethodName} {bytes : ByteArray} {ret : Option FieldType} (h1 : Cond.methodLink own idx y ∈ tb) (h2 : Cond.static y ∈ tb) (h4 : Cond.initialized y.cls ∈ tb) (h5 : Cond.code y bytes n ret ∈ tb) : GoodIn big (va_wsS own idx y (.code y bytes n ret :: tb)) :=
  gdc hb h1 (gdc hb h2 (gdc hb h4 (gd hb h5)))
theorem r_cals {a : Nat → Nat} {n : Nat} {y : MethodName} {bytes : ByteArray} {mL na index : Nat} {ret : Option FieldType} {rm : Room} {As : List Value} {r : Int32} {S1 : St} {st : List Value}
    (C : Cx p s m args meth c own cc nL D cI cJ tk tf (AR a n s.heap.size)) (hw : Ad w a n) (G : Wd D w (AR a n s.heap.size) s S H locs) (hM : Mi l D w a n cI cJ tk tf y bytes mL ret rm As S (r, S1))
    (h1 : Cond.methodLink own index y ∈ tb) (h2 : Cond.static y ∈ tb) (h4 : Cond.initialized y.cls ∈ tb) (h5 : Cond.code y bytes mL ret ∈ tb)
    (hd : y.cls ≠ "java/lang/invoke/MethodHandle" ∧ y.cls ≠ "java/lang/invoke/VarHandle" ∧ (parseMethodDescriptor y.desc).map (fun d => d.parameters.length) = some na) (hR : rm.frames + 1 ≤ R.frames ∧ 8 + (mL + 11) + rm.locals ≤ R.locals) (hrc : rm.cells = 0) (hrs : rm.slots = 0)
    (hz : cells ≤ R.cells ∧ slots ≤ R.slots) (hna : As.length = na) (hsize : ls.size = nL) (hst : st = As.reverse ++ rest) (hW : (rest.map fun v => v.category).sum ≤ 8) (hdg : decode cc pc = .ok (.invokestatic index, 3))
    (kk : ∀ (H : Heap) (locs : List Loc), Wd D w (AR a n s.heap.size) s S1 H locs → W p l e R s m args below meth c H locs cells slots Q (F0 m (pc + 3) ls (.int r :: rest))) : W p l e R s m args below meth c H locs cells slots Q (F0 m pc ls st) := by
  have hpre := r_pre (As := As) C hw G
  obtain ⟨hx, hb, hml, hown, hts, hK, -, -⟩ := C
  refine va_calli (va_runS (g := F0 m pc ls st) (As := As) (rest := rest) ⟨hx, hb, hml, hown, hts⟩ (hM H.size) (va_cwS na hts (gdS (fun _ h => h) h1 h2 h4 h5) rfl hrc hrs hd hR) ⟨Pr.blind, hpre⟩ rfl hna hsize hst (lv_room hW) hdg hz) G.2.2 (fun q _ h => AR.up G.2.2.1 q h) (AR.up G.2.2.1) (fun r' u t H1 locs1 ht hvm hp hB _ _ hS1 => ?_)
  cases hp
  exact kk H1 locs1 ⟨ht ▸ hB.1, ⟨hB.2.1, fun k q hq => AR.up G.2.2.1 _ (hB.2.2 k q hq)⟩, hS1⟩
theorem r_calsv {a : Nat → Nat} {n : Nat} {y : MethodName} {bytes : ByteArray} {mL na index : Nat} {rm : Room} {As : List Value} {r : Int32} {S1 : St} {st : List Value}
    (C : Cx p s m args meth c own cc nL D cI cJ tk tf (AR a n s.heap.size)) (hw : Ad w a n) (G : Wd D w (AR a n s.heap.size) s S H locs) (hM : Mv l D w a n cI cJ tk tf y bytes mL rm As S (r, S1))
    (h1 : Cond.methodLink own index y ∈ tb) (h2 : Cond.static y ∈ tb) (h4 : Cond.initialized y.cls ∈ tb) (h5 : Cond.code y bytes mL none ∈ tb)
    (hd : y.cls ≠ "java/lang/invoke/MethodHandle" ∧ y.cls ≠ "java/lang/invoke/VarHandle" ∧ (parseMethodDescriptor y.desc).map (fun d => d.parameters.length) = some na) (hR : rm.frames + 1 ≤ R.frames ∧ 8 + (mL + 11) + rm.locals ≤ R.locals) (hrc : rm.cells = 0) (hrs : rm.slots = 0)
    (hz : cells ≤ R.cells ∧ slots ≤ R.slots) (hna : As.length = na) (hsize : ls.size = nL) (hst : st = As.reverse ++ rest) (hW : (rest.map fun v => v.category).sum ≤ 8) (hdg : decode cc pc = .ok (.invokestatic index, 3))
    (kk : ∀ (H : Heap) (locs : List Loc), Wd D w (AR a n s.heap.size) s S1 H locs → W p l e R s m args below meth c H locs cells slots Q (F0 m (pc + 3) ls rest)) : W p l e R s m args below meth c H locs cells slots Q (F0 m pc ls st) := by
  have hpre := r_pre (As := As) C hw G
  obtain ⟨hx, hb, hml, hown, hts, hK, -, -⟩ := C
  refine va_callv (va_runS (g := F0 m pc ls st) (As := As) (rest := rest) ⟨hx, hb, hml, hown, hts⟩ (hM H.size) (va_cwS na hts (gdS (fun _ h => h) h1 h2 h4 h5) rfl hrc hrs hd hR) ⟨Pr.blind, hpre⟩ rfl hna hsize hst (lv_room hW) hdg hz) G.2.2 (fun q _ h => AR.up G.2.2.1 q h) (AR.up G.2.2.1) (fun u t H1 locs1 ht hvm hp hB _ _ hS1 => ?_)
  cases hp
  exact kk H1 locs1 ⟨ht ▸ hB.1, ⟨hB.2.1, fun k q hq => AR.up G.2.2.1 _ (hB.2.2 k q hq)⟩, hS1⟩
theorem r_tk (C : Cx p s m args meth c own cc nL D cI cJ tk tf A) (G : Wd D w A s S H locs) {index : Nat} (hl : Cond.fieldLink own index "ErrorNames" "TAKES" "[I" ∈ tb) (hdg : decode cc pc = .ok (.getstatic index, 3))
    (kk : W p l e R s m args below meth c H locs cells slots Q (F0 m (pc + 3) ls (.ref tk :: rest))) : W p l e R s m args below meth c H locs cells slots Q (F0 m pc ls rest) := by
  obtain ⟨hx, hb, -, hown, hts, -, -, hT⟩ := C
  exact va_gets hx hb hT.1 G.2.2 hown (hts _ hl) (fun _ h => h) hdg kk
theorem r_tkl (C : Cx p s m args meth c own cc nL D cI cJ tk tf A) (G : Wd D w A s S H locs) (hdg : decode cc pc = .ok (.arraylength, 1))
    (kk : W p l e R s m args below meth c H locs cells slots Q (F0 m (pc + 1) ls (.int 112 :: rest))) : W p l e R s m args below meth c H locs cells slots Q (F0 m pc ls (.ref tk :: rest)) := by
  obtain ⟨hx, hb, -, hown, hts, -, -, hT⟩ := C
  exact va_tlen hx hb hT.2 G.2.2 rfl hdg kk
theorem r_tki (C : Cx p s m args meth c own cc nL D cI cJ tk tf A) (G : Wd D w A s S H locs) {i : Int32} (hin : vp_in i 112) (hdg : decode cc pc = .ok (.iaload, 1))
    (kk : W p l e R s m args below meth c H locs cells slots Q (F0 m (pc + 1) ls (.int (tf i.toNatClampNeg) :: rest))) : W p l e R s m args below meth c H locs cells slots Q (F0 m pc ls (.int i :: .ref tk :: rest)) := by
  obtain ⟨hx, hb, -, hown, hts, -, -, hT⟩ := C
  exact va_ti hx hb hT.2 G.2.2 hin rfl hdg kk
end RR
/-- the opening of a method's walk -/
theorem opn_i {l : Launch} {D : va_G} {w : St → va_W} {a : Nat → Nat} {n : Nat} {cI cJ : ClassId} {tk : Nat} {tf : Nat → Int32} {y : MethodName} {cc : ByteArray} {mL : Nat} {ret : Option FieldType} {rm : Room} {As : List Value} {S : St} {x : Int32 × St} (hy : plainName y.cls = true) (hn : (lg_sl As).length ≤ mL)
    (h : ∀ (p : Program) (e : Env) (s : State) (m : MethodId) (below : List Frame) (meth : Method) (c : Code), Cx p s m As.toArray meth c y.cls cc mL D cI cJ tk tf (AR a n s.heap.size) → meth.sig.returnType = ret → Wd D w (AR a n s.heap.size) s S s.heap [] → ∀ ls, lv_has ls mL (lv_args 0 As) →
      W p l e rm s m As.toArray below meth c s.heap [] 0 0 (MQ below (Qi D w (AR a n s.heap.size) x) As.toArray s 0 0 (AR a n s.heap.size)) (F0 m 0 ls [])) : Mi l D w a n cI cJ tk tf y cc mL ret rm As S x := by
  intro sz
  refine Met.ofW (cc := cc) (maxL := mL) (ret := ret) hy rfl ?_
  intro p e s m args below meth c s₁ B hml hv
  obtain ⟨rfl, hsz, hP, hK, hD, hT⟩ := hv
  subst hsz
  rw [lg_entry_eq]
  exact h p e s m below meth c ⟨B.exec, B.bytes, hml, findClass_of_methodNamed B.named, fun w hw => atoms_spec (ws := .code y cc mL ret :: tb) B.pre w (List.mem_cons_of_mem _ hw), hK, B.notSynchronized, hT⟩ B.returns ⟨hP, hD, va_S.rf⟩ _ (lv_entry As hn)
theorem opn_v {l : Launch} {D : va_G} {w : St → va_W} {a : Nat → Nat} {n : Nat} {cI cJ : ClassId} {tk : Nat} {tf : Nat → Int32} {y : MethodName} {cc : ByteArray} {mL : Nat} {rm : Room} {As : List Value} {S : St} {x : Int32 × St} (hy : plainName y.cls = true) (hn : (lg_sl As).length ≤ mL)
    (h : ∀ (p : Program) (e : Env) (s : State) (m : MethodId) (below : List Frame) (meth : Method) (c : Code), Cx p s m As.toArray meth c y.cls cc mL D cI cJ tk tf (AR a n s.heap.size) → meth.sig.returnType = none → Wd D w (AR a n s.heap.size) s S s.heap [] → ∀ ls, lv_has ls mL (lv_args 0 As) →
      W p l e rm s m As.toArray below meth c s.heap [] 0 0 (MQ below (Qv D w (AR a n s.heap.size) x) As.toArray s 0 0 (AR a n s.heap.size)) (F0 m 0 ls [])) : Mv l D w a n cI cJ tk tf y cc mL rm As S x := by
  intro sz
  refine Met.ofW (cc := cc) (maxL := mL) (ret := none) hy rfl ?_
  intro p e s m args below meth c s₁ B hml hv
  obtain ⟨rfl, hsz, hP, hK, hD, hT⟩ := hv
  subst hsz
  rw [lg_entry_eq]
  exact h p e s m below meth c ⟨B.exec, B.bytes, hml, findClass_of_methodNamed B.named, fun w hw => atoms_spec (ws := .code y cc mL none :: tb) B.pre w (List.mem_cons_of_mem _ hw), hK, B.notSynchronized, hT⟩ B.returns ⟨hP, hD, va_S.rf⟩ _ (lv_entry As hn)
/-- an answer that is the world's own cell b -/
abbrev Qr (b : Nat) (D : va_G) (w : St → va_W) (A : Nat → Prop) (x : Int32 × St) : Array Value → State → Outcome → State → Prop := va_Qr (fun (u : St) => ((0 : Int32), u) = x) (fun (u : St) (ra : Nat) (t : State) => ra = b ∧ Bo D w A u t) A
def Mr (b : Nat) (l : Launch) (D : va_G) (w : St → va_W) (a : Nat → Nat) (n : Nat) (cI cJ : ClassId) (tk : Nat) (tf : Nat → Int32) (y : MethodName) (cc : ByteArray) (mL : Nat) (ret : Option FieldType) (rm : Room) (As : List Value) (S : St) (x : Int32 × St) : Prop :=
  ∀ sz, Met l y (.code y cc mL ret :: tb) rm (va_Pc As (Pr D w a n cI cJ tk tf sz S)) (Qr b D w (AR a n sz) x) 0 0 (AR a n sz)
section RS
variable {p : Program} {l : Launch} {e : Env} {R : Room} {s : State} {m : MethodId} {args : Array Value} {below : List Frame} {meth : Method} {c : Code} {H : Heap} {locs : List Loc} {cells slots : Nat} {Q : State → Prop}
variable {own : String} {cc : ByteArray} {nL : Nat} {D : va_G} {cI cJ : ClassId} {tk : Nat} {tf : Nat → Int32} {A : Nat → Prop} {w : St → va_W} {S : St} {pc : Nat} {ls : Array Slot} {rest : List Value}
theorem r_aret {x : Int32 × St} {b : Nat} {cn : String} (C : Cx p s m args meth c own cc nL D cI cJ tk tf A) (hr : meth.sig.returnType = some (.object cn)) (G : Wd D w A s S H locs) (hf : some ((0 : Int32), S) = some x) (hdg : decode cc pc = .ok (.areturn, 1)) : W p l e R s m args below meth c H locs cells slots (MQ below (Qr b D w A x) args s cells slots A) (F0 m pc ls [.ref b]) := by
  obtain ⟨hx, hb, -, -, -, -, hlocks, -⟩ := C
  exact W.aret hx hb hr (Or.inl ⟨_, rfl⟩) (Or.inr ⟨_, rfl⟩) (fun t ht _ => ⟨⟨S, b, rfl, Option.some.inj hf, rfl, by rw [ht]; exact G.1, G.2.1⟩, G.2.2.F ht⟩) G.2.2.2.2 hdg hlocks
theorem r_calr {a : Nat → Nat} {n : Nat} {y : MethodName} {bytes : ByteArray} {mL na index q0 ci b b' N : Nat} {ret : Option FieldType} {rm : Room} {As : List Value} {r : Int32} {S1 : St} {fs : List Value} {Cn : String} {T : u_T} {st : List Value}
    (C : Cx p s m args meth c own cc nL D cI cJ tk tf (AR a n s.heap.size)) (hw : Ad w a n) (G : Wd D w (AR a n s.heap.size) s S H locs) (hM : Mr b' l D w a n cI cJ tk tf y bytes mL ret rm (.ref b :: As) S (r, S1))
    (h1 : Cond.methodLink own index y ∈ tb) (h2 : Cond.instanceMethod y ∈ tb) (h3 : Cond.selects Cn y y ∈ tb) (h4 : Cond.initialized Cn ∈ tb) (h5 : Cond.code y bytes mL ret ∈ tb)
    (he : (w S)[q0]? = some (b, .inr (ci, fs))) (hc : vwCl[ci]? = some (Cn, T, N))
    (hd : y.cls = Cn ∧ y.cls ≠ "java/lang/invoke/MethodHandle" ∧ y.cls ≠ "java/lang/invoke/VarHandle" ∧ (parseMethodDescriptor y.desc).map (fun d => d.parameters.length) = some na) (hR : rm.frames + 1 ≤ R.frames ∧ 8 + (mL + 11) + rm.locals ≤ R.locals) (hrc : rm.cells = 0) (hrs : rm.slots = 0)
    (hz : cells ≤ R.cells ∧ slots ≤ R.slots) (hna : As.length = na) (hsize : ls.size = nL) (hst : st = As.reverse ++ .ref b :: rest) (hW : (rest.map fun v => v.category).sum ≤ 8) (hdg : decode cc pc = .ok (.invokevirtual index, 3))
    (kk : ∀ (H : Heap) (locs : List Loc), Wd D w (AR a n s.heap.size) s S1 H locs → W p l e R s m args below meth c H locs cells slots Q (F0 m (pc + 3) ls (.ref b' :: rest))) : W p l e R s m args below meth c H locs cells slots Q (F0 m pc ls st) := by
  have hpre := r_pre (As := .ref b :: As) C hw G
  obtain ⟨hx, hb, hml, hown, hts, hK, -, -⟩ := C
  refine va_callr (va_runV (g := F0 m pc ls st) (As := As) (rest := rest) ⟨hx, hb, hml, hown, hts⟩ (hM H.size) (cwV na hts (gdV (fun _ h => h) h1 h2 h3 h4 h5) rfl hrc hrs hd hR) ⟨Pr.blind, va_recv hK G.1 hc he, hpre⟩ rfl hna hsize hst (lv_room hW) hdg hz) G.2.2 (fun q _ h => AR.up G.2.2.1 q h) (AR.up G.2.2.1) (fun u ra t H1 locs1 ht hvm hp hB _ _ hS1 => ?_)
  cases hp
  obtain ⟨rfl, hB⟩ := hB
  exact kk H1 locs1 ⟨ht ▸ hB.1, ⟨hB.2.1, fun k q hq => AR.up G.2.2.1 _ (hB.2.2 k q hq)⟩, hS1⟩
end RS
theorem opn_r {b : Nat} {l : Launch} {D : va_G} {w : St → va_W} {a : Nat → Nat} {n : Nat} {cI cJ : ClassId} {tk : Nat} {tf : Nat → Int32} {y : MethodName} {cc : ByteArray} {mL : Nat} {ret : Option FieldType} {rm : Room} {As : List Value} {S : St} {x : Int32 × St} (hy : plainName y.cls = true) (hn : (lg_sl As).length ≤ mL)
    (h : ∀ (p : Program) (e : Env) (s : State) (m : MethodId) (below : List Frame) (meth : Method) (c : Code), Cx p s m As.toArray meth c y.cls cc mL D cI cJ tk tf (AR a n s.heap.size) → meth.sig.returnType = ret → Wd D w (AR a n s.heap.size) s S s.heap [] → ∀ ls, lv_has ls mL (lv_args 0 As) →
      W p l e rm s m As.toArray below meth c s.heap [] 0 0 (MQ below (Qr b D w (AR a n s.heap.size) x) As.toArray s 0 0 (AR a n s.heap.size)) (F0 m 0 ls [])) : Mr b l D w a n cI cJ tk tf y cc mL ret rm As S x := by
  intro sz
  refine Met.ofW (cc := cc) (maxL := mL) (ret := ret) hy rfl ?_
  intro p e s m args below meth c s₁ B hml hv
  obtain ⟨rfl, hsz, hP, hK, hD, hT⟩ := hv
  subst hsz
  rw [lg_entry_eq]
  exact h p e s m below meth c ⟨B.exec, B.bytes, hml, findClass_of_methodNamed B.named, fun w hw => atoms_spec (ws := .code y cc mL ret :: tb) B.pre w (List.mem_cons_of_mem _ hw), hK, B.notSynchronized, hT⟩ B.returns ⟨hP, hD, va_S.rf⟩ _ (lv_entry As hn)
