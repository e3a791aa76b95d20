/-! walks over a world that is a plain list of cells: constructors, the law -/
def Wl (D : va_G) (A : Nat → Prop) (s : State) (ws : va_W) (H : Heap) (locs : List Loc) : Prop := va_P D vwCl ws H ∧ va_D A ws ∧ va_S A s.heap H locs
/-- a constructor's start, over the cells ws0 -/
def Pk (D : va_G) (cI cJ : ClassId) (tk : Nat) (tf : Nat → Int32) (sz : Nat) (ws0 : va_W) (U : State) : Prop :=
  U.heap.size = sz ∧ va_P D vwCl ws0 U.heap ∧ va_K D vwCl [(cI, .int), (cJ, .long)] U ∧ va_D (va_A ws0 sz) ws0 ∧ TK tk tf (va_A ws0 sz) U ∧ NL U
/-- a constructor's contract: the cells behind it, by the addresses of the new ones -/
def Mk (l : Launch) (D : va_G) (cI cJ : ClassId) (tk : Nat) (tf : Nat → Int32) (y : MethodName) (cc : ByteArray) (mL : Nat) (rm : Room) (As : List Value) (ws0 : va_W) (post : (Nat → Nat) → va_W) (mc ms : Nat) : Prop :=
  ∀ sz, Met l y (.code y cc mL none :: tb) rm (va_Pc As (Pk D cI cJ tk tf sz ws0)) (va_Qv (fun _ : Nat → Nat => True) (fun b t => va_P D vwCl (post b) t.heap ∧ va_D (va_A ws0 sz) (post b)) (va_A ws0 sz)) mc ms (va_A ws0 sz)
/-- a getter's contract, over the receiver's own cell: it hands out b -/
def Mg (l : Launch) (D : va_G) (cI cJ : ClassId) (tk : Nat) (tf : Nat → Int32) (y : MethodName) (cc : ByteArray) (mL : Nat) (ret : Option FieldType) (rm : Room) (As : List Value) (ws0 : va_W) (b : Nat) : Prop :=
  ∀ sz, Met l y (.code y cc mL ret :: tb) rm (va_Pc As (Pk D cI cJ tk tf sz ws0)) (va_Qr (fun _ : Unit => True) (fun (_ : Unit) (ra : Nat) (t : State) => ra = b ∧ va_P D vwCl ws0 t.heap ∧ va_D (va_A ws0 sz) ws0) (va_A ws0 sz)) 0 0 (va_A ws0 sz)
theorem Pk.blind {D : va_G} {cI cJ : ClassId} {tk : Nat} {tf : Nat → Int32} {sz : Nat} {ws0 : va_W} {As : List Value} : FrameBlind (va_Pc As (Pk D cI cJ tk tf sz ws0)) := by
  intro v U g mk hq
  obtain ⟨h1, h2, h3, h4, h5, ⟨h6, h7⟩, h8⟩ := hq
  exact ⟨h1, h2, h3, va_K.moved (u := U) (U := U.calling g mk v) (Vm.Alike.refl U.vm) h4, h5, ⟨va_Z.moved (u := U) (U := U.calling g mk v) (Vm.Alike.refl U.vm) h6, va_T.moved (u := U) (U := U.calling g mk v) (Vm.Alike.refl U.vm) h7⟩, h8.blind⟩
theorem ar_same {D : va_G} {cI cJ cA : ClassId} {s : State} (h : va_K D vwCl ([(cI, .int), (cJ, .long)] ++ [(cA, .int)]) s) : cA = cI := by
  have h1 : s.vm.findClass ("[" ++ FieldType.int.toString) = some cI := (h.2 0 _ rfl).2
  have h2 : s.vm.findClass ("[" ++ FieldType.int.toString) = some cA := (h.2 2 _ rfl).2
  exact Option.some.inj (h2.symm.trans h1)
theorem ar_sameJ {D : va_G} {cI cJ cA : ClassId} {s : State} (h : va_K D vwCl ([(cI, .int), (cJ, .long)] ++ [(cA, .long)]) s) : cA = cJ := by
  have h1 : s.vm.findClass ("[" ++ FieldType.long.toString) = some cJ := (h.2 1 _ rfl).2
  have h2 : s.vm.findClass ("[" ++ FieldType.long.toString) = some cA := (h.2 2 _ rfl).2
  exact Option.some.inj (h2.symm.trans h1)
section LW
variable {p : Program} {l : Launch} {e : Env} {R : Room} {s : State} {m : MethodId} {args : Array Value} {below : List Frame} {meth : Method} {c : Code} {H : Heap} {locs : List Loc} {cells slots : Nat} {Q : State → Prop}
variable {own : String} {cc : ByteArray} {nL : Nat} {D : va_G} {cI cJ : ClassId} {tk : Nat} {tf : Nat → Int32} {A : Nat → Prop} {ws : va_W} {pc : Nat} {ls : Array Slot} {rest : List Value}
theorem l_newI (C : Cx p s m args meth c own cc nL D cI cJ tk tf A) (hA : ∀ q, s.heap.size ≤ q → A q) (G : Wl D A s ws H locs) {n : Int32} (N : Nat) (hn : ¬ n < 0) (hN : n.toNatClampNeg = N) (hby : N * componentBytes .int ≤ 536870912) (hc : cells + 1 ≤ R.cells) (hs : slots + N ≤ R.slots) (hdg : decode cc pc = .ok (.newarray .int, 2))
    (kk : ∀ (q : Nat) (H : Heap), Wl D A s (ws ++ [(q, .inl (cI, N, .inl (fun _ => 0)))]) H locs → W p l e R s m args below meth c H locs (cells + 1) (slots + N) Q (F0 m (pc + 2) ls (.ref q :: rest))) : W p l e R s m args below meth c H locs cells slots Q (F0 m pc ls (.int n :: rest)) := by
  obtain ⟨hx, hb, -, -, hts, hK, -, -⟩ := C
  refine va_newa (atype := .int) (ty := .int) (a0 := (N, .inl (fun _ => 0))) hx hb (hts _ k_97) rfl hK G.1 G.2.1 G.2.2 hA (fun _ => rfl) hn hN hby hc hs hdg (fun q cA H1 hK1 hP hD hS => ?_)
  obtain rfl := ar_same hK1
  exact kk q H1 ⟨hP, hD, hS⟩
theorem l_newJ (C : Cx p s m args meth c own cc nL D cI cJ tk tf A) (hA : ∀ q, s.heap.size ≤ q → A q) (G : Wl D A s ws H locs) {n : Int32} (N : Nat) (hn : ¬ n < 0) (hN : n.toNatClampNeg = N) (hby : N * componentBytes .long ≤ 536870912) (hc : cells + 1 ≤ R.cells) (hs : slots + N ≤ R.slots) (hdg : decode cc pc = .ok (.newarray .long, 2))
    (kk : ∀ (q : Nat) (H : Heap), Wl D A s (ws ++ [(q, .inl (cJ, N, .inr (.inl (fun _ => 0))))]) H locs → W p l e R s m args below meth c H locs (cells + 1) (slots + N) Q (F0 m (pc + 2) ls (.ref q :: rest))) : W p l e R s m args below meth c H locs cells slots Q (F0 m pc ls (.int n :: rest)) := by
  obtain ⟨hx, hb, -, -, hts, hK, -, -⟩ := C
  refine va_newa (atype := .long) (ty := .long) (a0 := (N, .inr (.inl (fun _ => 0)))) hx hb (hts _ k_193) rfl hK G.1 G.2.1 G.2.2 hA (fun _ => rfl) hn hN hby hc hs hdg (fun q cA H1 hK1 hP hD hS => ?_)
  obtain rfl := ar_sameJ hK1
  exact kk q H1 ⟨hP, hD, hS⟩
theorem l_new (C : Cx p s m args meth c own cc nL D cI cJ tk tf A) (hA : ∀ q, s.heap.size ≤ q → A q) (G : Wl D A s ws H locs) {Cn : String} {T : u_T} {N ci index : Nat} {fs : List Value} (hin : ∀ w' ∈ u_ws Cn T N, w' ∈ tb) (ty0 : Nat → FieldType) (hty : ∀ k, k < N → parseFieldDescriptor (T k).2.2.1 = some (ty0 k)) (h1 : Cond.classLink own index Cn ∈ tb) (h2 : Cond.instantiable Cn N ∈ tb) (h3 : Cond.initialized Cn ∈ tb) (hci : vwCl[ci]? = some (Cn, T, N)) (hfs : ∀ j, j < N → defaultValue (ty0 j) = vp_V fs j) (hc : cells + 1 ≤ R.cells) (hs : slots + N ≤ R.slots) (hdg : decode cc pc = .ok (.new index, 3))
    (kk : ∀ (q : Nat) (H : Heap), Wl D A s (ws ++ [(q, .inr (ci, fs))]) H locs → W p l e R s m args below meth c H locs (cells + 1) (slots + N) Q (F0 m (pc + 3) ls (.ref q :: rest))) : W p l e R s m args below meth c H locs cells slots Q (F0 m pc ls rest) := by
  obtain ⟨hx, hb, -, hown, hts, hK, -, -⟩ := C
  exact va_new (C := Cn) (T := T) (N := N) (fs := fs) hx hb hts hin ty0 hty hown (hts _ h1) (hts _ h2) (hts _ h3) hK G.1 G.2.1 G.2.2 hA hci hfs hc hs hdg (fun q H1 hP hD hS => kk q H1 ⟨hP, hD, hS⟩)
theorem l_get (C : Cx p s m args meth c own cc nL D cI cJ tk tf A) (G : Wl D A s ws H locs) {Cn ref : String} {T : u_T} {N ci index a : Nat} (q0 k : Nat) {fs : List Value} {v : Value} (hin : ∀ w' ∈ u_ws Cn T N, w' ∈ tb) (he : ws[q0]? = some (a, .inr (ci, fs))) (hc : vwCl[ci]? = some (Cn, T, N)) (hk : k < N) (hl : Cond.fieldLink own index ref (T k).2.1 (T k).2.2.1 ∈ tb) (hr : (T k).1 = ref) (hv : fs[k]? = some v) (hdg : decode cc pc = .ok (.getfield index, 3))
    (kk : W p l e R s m args below meth c H locs cells slots Q (F0 m (pc + 3) ls (v :: rest))) : W p l e R s m args below meth c H locs cells slots Q (F0 m pc ls (.ref a :: rest)) := by
  obtain ⟨hx, hb, -, hown, hts, hK, -, -⟩ := C
  subst hr
  exact va_get (ci := ci) (v := v) (C := Cn) (T := T) (N := N) hx hb hts hin hown hK G.1 q0 he hc k hk (hts _ hl) (fun _ h9 => h9) hv hdg kk
theorem l_putF (C : Cx p s m args meth c own cc nL D cI cJ tk tf A) (hin2 : meth.name = "<init>") (G : Wl D A s ws H locs) {Cn ref : String} {T : u_T} {N ci index a : Nat} (q0 k : Nat) {fs : List Value} {v : Value} {ws' : va_W} {ty : FieldType} (hin : ∀ w' ∈ u_ws Cn T N, w' ∈ tb) (ty0 : Nat → FieldType) (hty : ∀ k, k < N → parseFieldDescriptor (T k).2.2.1 = some (ty0 k)) (hnm : ∀ a, a < N → ∀ b, b < N → a ≠ b → (T a).2.1 ≠ (T b).2.1) (he : ws[q0]? = some (a, .inr (ci, fs))) (hc : vwCl[ci]? = some (Cn, T, N)) (hk : k < N) (hl : Cond.fieldLink own index ref (T k).2.1 (T k).2.2.1 ∈ tb) (hr : (T k).1 = ref) (hfin : (T k).2.2.2 = true) (hdecl : (T k).1 = own) (hd : parseFieldDescriptor (T k).2.2.1 = some ty) (hn : narrow ty v = v) (hfit : fits ty v = true) (hlen : k < fs.length) (hset : ws.set q0 (a, .inr (ci, fs.set k v)) = ws') (hdg : decode cc pc = .ok (.putfield index, 3))
    (kk : ∀ (H : Heap) (locs : List Loc), Wl D A s ws' H locs → W p l e R s m args below meth c H locs cells slots Q (F0 m (pc + 3) ls rest)) : W p l e R s m args below meth c H locs cells slots Q (F0 m pc ls (v :: .ref a :: rest)) := by
  obtain ⟨hx, hb, -, hown, hts, hK, -, -⟩ := C
  subst hr
  subst hset
  exact va_putF (ci := ci) (v := v) (ty := ty) (C := Cn) (T := T) (N := N) hx hb hts hin ty0 hty hnm hown hK G.1 G.2.1 G.2.2 q0 he hc k hk (hts _ hl) (fun _ h9 => h9) hfin hin2 hdecl hd hn hfit hlen hdg (fun H1 locs1 hP hD hS => kk H1 locs1 ⟨hP, hD, hS⟩)
theorem l_put (C : Cx p s m args meth c own cc nL D cI cJ tk tf A) (G : Wl D A s ws H locs) {Cn ref : String} {T : u_T} {N ci index a : Nat} (q0 k : Nat) {fs : List Value} {v : Value} {ws' : va_W} {ty : FieldType} (hin : ∀ w' ∈ u_ws Cn T N, w' ∈ tb) (ty0 : Nat → FieldType) (hty : ∀ k, k < N → parseFieldDescriptor (T k).2.2.1 = some (ty0 k)) (hnm : ∀ a, a < N → ∀ b, b < N → a ≠ b → (T a).2.1 ≠ (T b).2.1) (he : ws[q0]? = some (a, .inr (ci, fs))) (hc : vwCl[ci]? = some (Cn, T, N)) (hk : k < N) (hl : Cond.fieldLink own index ref (T k).2.1 (T k).2.2.1 ∈ tb) (hr : (T k).1 = ref) (hfin : (T k).2.2.2 = false) (hd : parseFieldDescriptor (T k).2.2.1 = some ty) (hn : narrow ty v = v) (hfit : fits ty v = true) (hlen : k < fs.length) (hset : ws.set q0 (a, .inr (ci, fs.set k v)) = ws') (hdg : decode cc pc = .ok (.putfield index, 3))
    (kk : ∀ (H : Heap) (locs : List Loc), Wl D A s ws' H locs → W p l e R s m args below meth c H locs cells slots Q (F0 m (pc + 3) ls rest)) : W p l e R s m args below meth c H locs cells slots Q (F0 m pc ls (v :: .ref a :: rest)) := by
  obtain ⟨hx, hb, -, hown, hts, hK, -, -⟩ := C
  subst hr
  subst hset
  exact va_put (ci := ci) (v := v) (ty := ty) (C := Cn) (T := T) (N := N) hx hb hts hin ty0 hty hnm hown hK G.1 G.2.1 G.2.2 q0 he hc k hk (hts _ hl) (fun _ h9 => h9) hfin hd hn hfit hlen hdg (fun H1 locs1 hP hD hS => kk H1 locs1 ⟨hP, hD, hS⟩)
theorem l_obj (C : Cx p s m args meth c own cc nL D cI cJ tk tf A) {idx a : Nat} (h1 : Cond.methodLink own idx objectInit ∈ tb) (h2 : Cond.instanceMethod objectInit ∈ tb) (h3 : Cond.code objectInit ⟨#[0xb1]⟩ 1 none ∈ tb) (hsize : ls.size = nL) (hd : decode cc pc = .ok (.invokespecial idx, 3)) (hf : 1 ≤ R.frames) (hlo : (rest.map fun v => v.category).sum + 12 ≤ R.locals)
    (kk : W p l e R s m args below meth c H locs cells slots Q (F0 m (pc + 3) ls rest)) : W p l e R s m args below meth c H locs cells slots Q (F0 m pc ls (.ref a :: rest)) := by
  obtain ⟨hx, hb, hml, hown, hts, hK, -, -⟩ := C
  exact W.objInit (g := F0 m pc ls (.ref a :: rest)) hx hb hown (hts _ h1) (hts _ h2) (hts _ h3) rfl (by rw [hml]; exact hsize) rfl hd hf (by show 2 * 0 + _ + 12 ≤ _; omega) kk
/-- what a constructor's call needs of the caller's list: its cells, cut out -/
theorem l_prek {wc : va_W} {As : List Value} (C : Cx p s m args meth c own cc nL D cI cJ tk tf A) (hA : ∀ q, s.heap.size ≤ q → A q) (hN : NL s) (G : Wl D A s ws H locs) (isC : List Nat) (hnd : va_nd isC = true) (hC : isC.map (fun i => ws[i]?) = wc.map some) : ∀ U : State, U.heap = H → s.WarmedH U.vm → va_Pc As (Pk D cI cJ tk tf H.size wc) As.toArray U := by
  intro U hU hW
  obtain ⟨-, -, -, -, -, hK, -, hT⟩ := C
  have hF := va_free G.2.1 G.2.2 hA isC hC
  have hDc := G.2.1.sub isC hnd hC
  have hsub : isC.filterMap (fun i => ws[i]?) = wc := by
    have h9 := congrArg (List.filterMap id) hC
    rwa [List.filterMap_map, List.filterMap_map, show (id ∘ some : Nat × va_E → Option (Nat × va_E)) = some from rfl, List.filterMap_some, show (id ∘ fun i => ws[i]?) = fun i => ws[i]? from rfl] at h9
  exact ⟨rfl, by rw [hU], by rw [hU]; exact G.1.sub isC hsub, va_K.moved hW.alike hK, hDc.self, hT.moved rfl (by rw [hU]; exact G.2.2) hW.alike hF, hN.warm hW⟩
theorem l_ctor {y : MethodName} {bytes : ByteArray} {mL na index b mc ms : Nat} {rm : Room} {As : List Value} {wc wr : va_W} {post : (Nat → Nat) → va_W} {st : List Value}
    (C : Cx p s m args meth c own cc nL D cI cJ tk tf A) (hA : ∀ q, s.heap.size ≤ q → A q) (hN : NL s) (G : Wl D A s ws H locs) (hM : Mk l D cI cJ tk tf y bytes mL rm (.ref b :: As) wc post mc ms)
    (h1 : Cond.methodLink own index y ∈ tb) (h2 : Cond.instanceMethod y ∈ tb) (h4 : Cond.initialized y.cls ∈ tb) (h5 : Cond.code y bytes mL none ∈ tb) (hyn : y.name = "<init>")
    (isC isR : List Nat) (hC : isC.map (fun i => ws[i]?) = wc.map some) (hR9 : isR.map (fun i => ws[i]?) = wr.map some) (hnC : va_nd isC = true) (hnR : va_nd isR = true) (hdis : ∀ i ∈ isR, i ∉ isC)
    (hd : y.cls ≠ "java/lang/invoke/MethodHandle" ∧ y.cls ≠ "java/lang/invoke/VarHandle" ∧ (parseMethodDescriptor y.desc).map (fun d => d.parameters.length) = some na) (hR : rm.frames + 1 ≤ R.frames ∧ 8 + (mL + 11) + rm.locals ≤ R.locals) (hrc : rm.cells = mc) (hrs : rm.slots = ms)
    (hz : cells + mc ≤ R.cells ∧ slots + ms ≤ R.slots) (hna : As.length = na) (hsize : ls.size = nL) (hst : st = As.reverse ++ .ref b :: rest) (hW : (rest.map fun v => v.category).sum ≤ 8) (hdg : decode cc pc = .ok (.invokespecial index, 3))
    (kk : ∀ (b' : Nat → Nat) (H : Heap) (locs : List Loc), Wl D A s (wr ++ post b') H locs → W p l e R s m args below meth c H locs (cells + mc) (slots + ms) Q (F0 m (pc + 3) ls rest)) : W p l e R s m args below meth c H locs cells slots Q (F0 m pc ls st) := by
  have hpre := l_prek (As := .ref b :: As) C hA hN G isC hnC hC
  have hF := va_free G.2.1 G.2.2 hA isC hC
  obtain ⟨hx, hb, hml, hown, hts, hK, -, -⟩ := C
  refine va_callv (va_runI (g := F0 m pc ls st) (As := As) (rest := rest) ⟨hx, hb, hml, hown, hts⟩ (hM H.size) (cwI na hts (gd (fun _ h => h) h5) rfl hrc hrs (hts _ h4) (hts _ h1) (hts _ h2) hyn hd hR) ⟨Pk.blind, hpre⟩ rfl hna hsize hst (lv_room hW) hdg hz) G.2.2 (fun q _ h => hF q h) hF (fun b' t H1 locs1 ht hvm hp hB _ hk1 hS1 => ?_)
  obtain ⟨hP1, hD1⟩ := hB
  rw [ht] at hP1
  obtain ⟨hP, hD⟩ := va_join (wr := wr) (w1 := post b') G.1 G.2.1 isC isR hC hR9 hnR hdis hk1 hF hP1 hD1
  exact kk b' H1 locs1 ⟨hP, hD, hS1⟩
theorem l_ctorN {host : String} {y : MethodName} {bytes : ByteArray} {mL na index b mc ms : Nat} {rm : Room} {As : List Value} {wc wr : va_W} {post : (Nat → Nat) → va_W} {st : List Value}
    (C : Cx p s m args meth c own cc nL D cI cJ tk tf A) (hA : ∀ q, s.heap.size ≤ q → A q) (hN : NL s) (G : Wl D A s ws H locs) (hM : Mk l D cI cJ tk tf y bytes mL rm (.ref b :: As) wc post mc ms)
    (h1 : va_Nw (.methodLinkNest own index y host) s) (h2 : Cond.instanceMethod y ∈ tb) (h4 : Cond.initialized y.cls ∈ tb) (h5 : Cond.code y bytes mL none ∈ tb) (hyn : y.name = "<init>")
    (isC isR : List Nat) (hC : isC.map (fun i => ws[i]?) = wc.map some) (hR9 : isR.map (fun i => ws[i]?) = wr.map some) (hnC : va_nd isC = true) (hnR : va_nd isR = true) (hdis : ∀ i ∈ isR, i ∉ isC)
    (hd : y.cls ≠ "java/lang/invoke/MethodHandle" ∧ y.cls ≠ "java/lang/invoke/VarHandle" ∧ (parseMethodDescriptor y.desc).map (fun d => d.parameters.length) = some na) (hR : rm.frames + 1 ≤ R.frames ∧ 8 + (mL + 11) + rm.locals ≤ R.locals) (hrc : rm.cells = mc) (hrs : rm.slots = ms)
    (hz : cells + mc ≤ R.cells ∧ slots + ms ≤ R.slots) (hna : As.length = na) (hsize : ls.size = nL) (hst : st = As.reverse ++ .ref b :: rest) (hW : (rest.map fun v => v.category).sum ≤ 8) (hdg : decode cc pc = .ok (.invokespecial index, 3))
    (kk : ∀ (b' : Nat → Nat) (H : Heap) (locs : List Loc), Wl D A s (wr ++ post b') H locs → W p l e R s m args below meth c H locs (cells + mc) (slots + ms) Q (F0 m (pc + 3) ls rest)) : W p l e R s m args below meth c H locs cells slots Q (F0 m pc ls st) := by
  have hpre := l_prek (As := .ref b :: As) C hA hN G isC hnC hC
  have hF := va_free G.2.1 G.2.2 hA isC hC
  obtain ⟨hx, hb, hml, hown, hts, hK, -, -⟩ := C
  refine va_callv (va_runIN (g := F0 m pc ls st) (As := As) (rest := rest) ⟨hx, hb, hml, hown, hts⟩ (hM H.size) ⟨va_cnB na hts (gd (fun _ h => h) h5) rfl hrc hrs h1 (hts _ h4) hd hR, hyn, hts _ h2⟩ ⟨Pk.blind, hpre⟩ rfl hna hsize hst (lv_room hW) hdg hz) G.2.2 (fun q _ h => hF q h) hF (fun b' t H1 locs1 ht hvm hp hB _ hk1 hS1 => ?_)
  obtain ⟨hP1, hD1⟩ := hB
  rw [ht] at hP1
  obtain ⟨hP, hD⟩ := va_join (wr := wr) (w1 := post b') G.1 G.2.1 isC isR hC hR9 hnR hdis hk1 hF hP1 hD1
  exact kk b' H1 locs1 ⟨hP, hD, hS1⟩
theorem l_stat {y : MethodName} {bytes : ByteArray} {mL na index mc ms : Nat} {rm : Room} {As : List Value} {wc wr : va_W} {post : (Nat → Nat) → va_W} {st : List Value}
    (C : Cx p s m args meth c own cc nL D cI cJ tk tf A) (hA : ∀ q, s.heap.size ≤ q → A q) (hN : NL s) (G : Wl D A s ws H locs) (hM : Mk l D cI cJ tk tf y bytes mL rm As wc post mc ms)
    (h1 : Cond.methodLink own index y ∈ tb) (h2 : Cond.static y ∈ tb) (h4 : Cond.initialized y.cls ∈ tb) (h5 : Cond.code y bytes mL none ∈ tb)
    (isC isR : List Nat) (hC : isC.map (fun i => ws[i]?) = wc.map some) (hR9 : isR.map (fun i => ws[i]?) = wr.map some) (hnC : va_nd isC = true) (hnR : va_nd isR = true) (hdis : ∀ i ∈ isR, i ∉ isC)
    (hd : y.cls ≠ "java/lang/invoke/MethodHandle" ∧ y.cls ≠ "java/lang/invoke/VarHandle" ∧ (parseMethodDescriptor y.desc).map (fun d => d.parameters.length) = some na) (hR : rm.frames + 1 ≤ R.frames ∧ 8 + (mL + 11) + rm.locals ≤ R.locals) (hrc : rm.cells = mc) (hrs : rm.slots = ms)
    (hz : cells + mc ≤ R.cells ∧ slots + ms ≤ R.slots) (hna : As.length = na) (hsize : ls.size = nL) (hst : st = As.reverse ++ rest) (hW : (rest.map fun v => v.category).sum ≤ 8) (hdg : decode cc pc = .ok (.invokestatic index, 3))
    (kk : ∀ (b' : Nat → Nat) (H : Heap) (locs : List Loc), Wl D A s (wr ++ post b') H locs → W p l e R s m args below meth c H locs (cells + mc) (slots + ms) Q (F0 m (pc + 3) ls rest)) : W p l e R s m args below meth c H locs cells slots Q (F0 m pc ls st) := by
  have hpre := l_prek (As := As) C hA hN G isC hnC hC
  have hF := va_free G.2.1 G.2.2 hA isC hC
  obtain ⟨hx, hb, hml, hown, hts, hK, -, -⟩ := C
  refine va_callv (va_runS (g := F0 m pc ls st) (As := As) (rest := rest) ⟨hx, hb, hml, hown, hts⟩ (hM H.size) (va_cwS na hts (gdS (fun _ h => h) h1 h2 h4 h5) rfl hrc hrs hd hR) ⟨Pk.blind, hpre⟩ rfl hna hsize hst (lv_room hW) hdg hz) G.2.2 (fun q _ h => hF q h) hF (fun b' t H1 locs1 ht hvm hp hB _ hk1 hS1 => ?_)
  obtain ⟨hP1, hD1⟩ := hB
  rw [ht] at hP1
  obtain ⟨hP, hD⟩ := va_join (wr := wr) (w1 := post b') G.1 G.2.1 isC isR hC hR9 hnR hdis hk1 hF hP1 hD1
  exact kk b' H1 locs1 ⟨hP, hD, hS1⟩
theorem l_end {ws0 : va_W} {sz mc ms : Nat} {post : (Nat → Nat) → va_W} (b : Nat → Nat) (C : Cx p s m args meth c own cc nL D cI cJ tk tf (va_A ws0 sz)) (hr : meth.sig.returnType = none) (G : Wl D (va_A ws0 sz) s (post b) H locs) (hdg : decode cc pc = .ok (.return_, 1)) (hz : cells ≤ mc ∧ slots ≤ ms) :
    W p l e R s m args below meth c H locs cells slots (MQ below (va_Qv (fun _ : Nat → Nat => True) (fun b t => va_P D vwCl (post b) t.heap ∧ va_D (va_A ws0 sz) (post b)) (va_A ws0 sz)) args s mc ms (va_A ws0 sz)) (F0 m pc ls []) := by
  obtain ⟨hx, hb, -, -, -, -, hlocks, -⟩ := C
  refine W.widen (k := mc) (n := ms) hz.1 hz.2 ?_
  exact W.vret hx hb hr (fun t ht _ => ⟨⟨b, rfl, trivial, by rw [ht]; exact G.1, G.2.1⟩, G.2.2.F ht⟩) G.2.2.2.2 hdg hlocks
theorem l_aret {ws0 : va_W} {sz b : Nat} {cn : String} (C : Cx p s m args meth c own cc nL D cI cJ tk tf (va_A ws0 sz)) (hr : meth.sig.returnType = some (.object cn)) (G : Wl D (va_A ws0 sz) s ws0 H locs) (hdg : decode cc pc = .ok (.areturn, 1)) :
    W p l e R s m args below meth c H locs cells slots (MQ below (va_Qr (fun _ : Unit => True) (fun (_ : Unit) (ra : Nat) (t : State) => ra = b ∧ va_P D vwCl ws0 t.heap ∧ va_D (va_A ws0 sz) ws0) (va_A ws0 sz)) args s cells slots (va_A ws0 sz)) (F0 m pc ls [.ref b]) := by
  obtain ⟨hx, hb, -, -, -, -, hlocks, -⟩ := C
  exact W.aret hx hb hr (Or.inl ⟨_, rfl⟩) (Or.inr ⟨_, rfl⟩) (fun t ht _ => ⟨⟨(), b, rfl, trivial, rfl, by rw [ht]; exact G.1, G.2.1⟩, G.2.2.F ht⟩) G.2.2.2.2 hdg hlocks
theorem l_calr {y : MethodName} {bytes : ByteArray} {mL na index q0 ci b b' N : Nat} {ret : Option FieldType} {rm : Room} {As : List Value} {fs : List Value} {Cn : String} {T : u_T} {wc wr : va_W} {st : List Value}
    (C : Cx p s m args meth c own cc nL D cI cJ tk tf A) (hA : ∀ q, s.heap.size ≤ q → A q) (hN : NL s) (G : Wl D A s ws H locs) (hM : Mg l D cI cJ tk tf y bytes mL ret rm (.ref b :: As) wc b')
    (h1 : Cond.methodLink own index y ∈ tb) (h2 : Cond.instanceMethod y ∈ tb) (h3 : Cond.selects Cn y y ∈ tb) (h4 : Cond.initialized Cn ∈ tb) (h5 : Cond.code y bytes mL ret ∈ tb)
    (isC isR : List Nat) (hC : isC.map (fun i => ws[i]?) = wc.map some) (hR9 : isR.map (fun i => ws[i]?) = wr.map some) (hnC : va_nd isC = true) (hnR : va_nd isR = true) (hdis : ∀ i ∈ isR, i ∉ isC)
    (he : ws[q0]? = some (b, .inr (ci, fs))) (hc : vwCl[ci]? = some (Cn, T, N))
    (hd : y.cls = Cn ∧ y.cls ≠ "java/lang/invoke/MethodHandle" ∧ y.cls ≠ "java/lang/invoke/VarHandle" ∧ (parseMethodDescriptor y.desc).map (fun d => d.parameters.length) = some na) (hR : rm.frames + 1 ≤ R.frames ∧ 8 + (mL + 11) + rm.locals ≤ R.locals) (hrc : rm.cells = 0) (hrs : rm.slots = 0)
    (hz : cells ≤ R.cells ∧ slots ≤ R.slots) (hna : As.length = na) (hsize : ls.size = nL) (hst : st = As.reverse ++ .ref b :: rest) (hW : (rest.map fun v => v.category).sum ≤ 8) (hdg : decode cc pc = .ok (.invokevirtual index, 3))
    (kk : ∀ (H : Heap) (locs : List Loc), Wl D A s (wr ++ wc) H locs → W p l e R s m args below meth c H locs cells slots Q (F0 m (pc + 3) ls (.ref b' :: rest))) : W p l e R s m args below meth c H locs cells slots Q (F0 m pc ls st) := by
  have hpre := l_prek (As := .ref b :: As) C hA hN G isC hnC hC
  have hF := va_free G.2.1 G.2.2 hA isC hC
  obtain ⟨hx, hb, hml, hown, hts, hK, -, -⟩ := C
  refine va_callr (va_runV (g := F0 m pc ls st) (As := As) (rest := rest) ⟨hx, hb, hml, hown, hts⟩ (hM H.size) (cwV na hts (gdV (fun _ h => h) h1 h2 h3 h4 h5) rfl hrc hrs hd hR) ⟨Pk.blind, va_recv hK G.1 hc he, hpre⟩ rfl hna hsize hst (lv_room hW) hdg hz) G.2.2 (fun q _ h => hF q h) hF (fun u ra t H1 locs1 ht hvm hp hB _ hk1 hS1 => ?_)
  obtain ⟨rfl, hP1, hD1⟩ := hB
  rw [ht] at hP1
  obtain ⟨hP, hD⟩ := va_join (wr := wr) (w1 := wc) G.1 G.2.1 isC isR hC hR9 hnR hdis hk1 hF hP1 hD1
  exact kk H1 locs1 ⟨hP, hD, hS1⟩
end LW
theorem opn_k {l : Launch} {D : va_G} {cI cJ : ClassId} {tk : Nat} {tf : Nat → Int32} {y : MethodName} {cc : ByteArray} {mL mc ms : Nat} {rm : Room} {As : List Value} {ws0 : va_W} {post : (Nat → Nat) → va_W} (hy : plainName y.cls = true) (hn : (lg_sl As).length ≤ mL)
    (h : ∀ (p : Program) (e : Env) (s : State) (m : MethodId) (below : List Frame) (meth : Method) (c : Code), Cx p s m As.toArray meth c y.cls cc mL D cI cJ tk tf (va_A ws0 s.heap.size) → NL s → meth.name = y.name → meth.sig.returnType = none → Wl D (va_A ws0 s.heap.size) s ws0 s.heap [] → ∀ ls, lv_has ls mL (lv_args 0 As) →
      W p l e rm s m As.toArray below meth c s.heap [] 0 0 (MQ below (va_Qv (fun _ : Nat → Nat => True) (fun b t => va_P D vwCl (post b) t.heap ∧ va_D (va_A ws0 s.heap.size) (post b)) (va_A ws0 s.heap.size)) As.toArray s mc ms (va_A ws0 s.heap.size)) (F0 m 0 ls [])) : Mk l D cI cJ tk tf y cc mL rm As ws0 post mc ms := by
  intro sz
  refine Met.ofW (cc := cc) (maxL := mL) (ret := none) hy rfl ?_
  intro p e s m args below meth c s₁ B hml hv
  obtain ⟨rfl, hsz, hP, hK, hD, hT, hN⟩ := hv
  subst hsz
  rw [lg_entry_eq]
  exact h p e s m below meth c ⟨B.exec, B.bytes, hml, findClass_of_methodNamed B.named, fun w hw => atoms_spec (ws := .code y cc mL none :: tb) B.pre w (List.mem_cons_of_mem _ hw), hK, B.notSynchronized, hT⟩ hN (name_of_methodNamed B.named B.method).1 B.returns ⟨hP, hD, va_S.rf⟩ _ (lv_entry As hn)
theorem opn_g {l : Launch} {D : va_G} {cI cJ : ClassId} {tk : Nat} {tf : Nat → Int32} {y : MethodName} {cc : ByteArray} {mL b : Nat} {ret : Option FieldType} {rm : Room} {As : List Value} {ws0 : va_W} (hy : plainName y.cls = true) (hn : (lg_sl As).length ≤ mL)
    (h : ∀ (p : Program) (e : Env) (s : State) (m : MethodId) (below : List Frame) (meth : Method) (c : Code), Cx p s m As.toArray meth c y.cls cc mL D cI cJ tk tf (va_A ws0 s.heap.size) → meth.sig.returnType = ret → Wl D (va_A ws0 s.heap.size) s ws0 s.heap [] → ∀ ls, lv_has ls mL (lv_args 0 As) →
      W p l e rm s m As.toArray below meth c s.heap [] 0 0 (MQ below (va_Qr (fun _ : Unit => True) (fun (_ : Unit) (ra : Nat) (t : State) => ra = b ∧ va_P D vwCl ws0 t.heap ∧ va_D (va_A ws0 s.heap.size) ws0) (va_A ws0 s.heap.size)) As.toArray s 0 0 (va_A ws0 s.heap.size)) (F0 m 0 ls [])) : Mg l D cI cJ tk tf y cc mL ret rm As ws0 b := by
  intro sz
  refine Met.ofW (cc := cc) (maxL := mL) (ret := ret) hy rfl ?_
  intro p e s m args below meth c s₁ B hml hv
  obtain ⟨rfl, hsz, hP, hK, hD, hT, hN⟩ := hv
  subst hsz
  rw [lg_entry_eq]
  exact h p e s m below meth c ⟨B.exec, B.bytes, hml, findClass_of_methodNamed B.named, fun w hw => atoms_spec (ws := .code y cc mL ret :: tb) B.pre w (List.mem_cons_of_mem _ hw), hK, B.notSynchronized, hT⟩ B.returns ⟨hP, hD, va_S.rf⟩ _ (lv_entry As hn)
