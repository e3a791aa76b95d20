/-! the law's world: the class's cells, the reference's, the row of one long -/
abbrev wL (a b : Nat → Nat) (cI cJ : ClassId) (o : Nat) (S T : St) (g : Nat → Int64) : va_W := wE a cI cJ S ++ (wM b cI cJ T ++ [(o, .inl (cJ, 1, .inr (.inl g)))])
section LA
variable {p : Program} {l : Launch} {e : Env} {R : Room} {s : State} {m : MethodId} {args : Array Value} {below : List Frame} {meth : Method} {c : Code} {H : Heap} {locs : List Loc} {cells slots : Nat} {Q : State → Prop}
variable {own : String} {cc : ByteArray} {nL : Nat} {D : va_G} {cI cJ : ClassId} {tk : Nat} {tf : Nat → Int32} {A : Nat → Prop} {pc : Nat} {ls : Array Slot} {rest : List Value} {a b : Nat → Nat} {o : Nat} {S T S1 T1 : St} {g : Nat → Int64}
theorem LE_i {y : MethodName} {bytes : ByteArray} {mL na index : Nat} {ret : Option FieldType} {rm : Room} {As : List Value} {r : Int32} {st : List Value}
    (C : Cx p s m args meth c own cc nL D cI cJ tk tf A) (hA : ∀ q, s.heap.size ≤ q → A q) (G : Wl D A s (wL a b cI cJ o S T g) H locs) (hM : Mi l D (wE a cI cJ) a 25 cI cJ tk tf y bytes mL ret rm (.ref (a 0) :: As) S (r, S1))
    (h1 : Cond.methodLink own index y ∈ tb) (h2 : Cond.instanceMethod y ∈ tb) (h3 : Cond.selects RX7 y y ∈ tb) (h5 : Cond.code y bytes mL ret ∈ tb)
    (hd : y.cls = RX7 ∧ y.cls ≠ "java/lang/invoke/MethodHandle" ∧ y.cls ≠ "java/lang/invoke/VarHandle" ∧ (parseMethodDescriptor y.desc).map (fun d => d.parameters.length) = some na) (hR : rm.frames + 1 ≤ R.frames ∧ 8 + (mL + 11) + rm.locals ≤ R.locals) (hrc : rm.cells = 0) (hrs : rm.slots = 0)
    (hz : cells ≤ R.cells ∧ slots ≤ R.slots) (hna : As.length = na) (hsize : ls.size = nL) (hst : st = As.reverse ++ .ref (a 0) :: rest) (hW : (rest.map fun v => v.category).sum ≤ 8) (hdg : decode cc pc = .ok (.invokevirtual index, 3))
    (kk : ∀ (H : Heap) (locs : List Loc), Wl D A s (wL a b cI cJ o S1 T g) H locs → W p l e R s m args below meth c H locs cells slots Q (F0 m (pc + 3) ls (.int r :: rest))) : W p l e R s m args below meth c H locs cells slots Q (F0 m pc ls st) :=
  c_cali (wr := wM b cI cJ T ++ [(o, .inl (cJ, 1, .inr (.inl g)))]) C hA adE aeE G hM [0, 1, 2, 3, 4, 5, 6, 7, 8, 9, 10, 11, 12, 13, 14, 15, 16, 17, 18, 19, 20, 21, 22, 23, 24] [25, 26, 27, 28, 29, 30, 31, 32, 33, 34, 35, 36, 37, 38, 39, 40, 41, 42] (by decide) rfl rfl (by decide) (by decide) h1 h2 h3 k_59 h5 (q0 := 0) rfl (ci := 7) rfl hd hR hrc hrs hz hna hsize hst hW hdg
    (fun H locs G => kk H locs ⟨G.1.sub [18, 19, 20, 21, 22, 23, 24, 25, 26, 27, 28, 29, 30, 31, 32, 33, 34, 35, 36, 37, 38, 39, 40, 41, 42, 0, 1, 2, 3, 4, 5, 6, 7, 8, 9, 10, 11, 12, 13, 14, 15, 16, 17] rfl, G.2.1.sub [18, 19, 20, 21, 22, 23, 24, 25, 26, 27, 28, 29, 30, 31, 32, 33, 34, 35, 36, 37, 38, 39, 40, 41, 42, 0, 1, 2, 3, 4, 5, 6, 7, 8, 9, 10, 11, 12, 13, 14, 15, 16, 17] (by decide) rfl, G.2.2⟩)
theorem LM_i {y : MethodName} {bytes : ByteArray} {mL na index : Nat} {ret : Option FieldType} {rm : Room} {As : List Value} {r : Int32} {st : List Value}
    (C : Cx p s m args meth c own cc nL D cI cJ tk tf A) (hA : ∀ q, s.heap.size ≤ q → A q) (G : Wl D A s (wL a b cI cJ o S T g) H locs) (hM : Mi l D (wM b cI cJ) b 17 cI cJ tk tf y bytes mL ret rm (.ref (b 0) :: As) T (r, T1))
    (h1 : Cond.methodLink own index y ∈ tb) (h2 : Cond.instanceMethod y ∈ tb) (h3 : Cond.selects RX8 y y ∈ tb) (h5 : Cond.code y bytes mL ret ∈ tb)
    (hd : y.cls = RX8 ∧ y.cls ≠ "java/lang/invoke/MethodHandle" ∧ y.cls ≠ "java/lang/invoke/VarHandle" ∧ (parseMethodDescriptor y.desc).map (fun d => d.parameters.length) = some na) (hR : rm.frames + 1 ≤ R.frames ∧ 8 + (mL + 11) + rm.locals ≤ R.locals) (hrc : rm.cells = 0) (hrs : rm.slots = 0)
    (hz : cells ≤ R.cells ∧ slots ≤ R.slots) (hna : As.length = na) (hsize : ls.size = nL) (hst : st = As.reverse ++ .ref (b 0) :: rest) (hW : (rest.map fun v => v.category).sum ≤ 8) (hdg : decode cc pc = .ok (.invokevirtual index, 3))
    (kk : ∀ (H : Heap) (locs : List Loc), Wl D A s (wL a b cI cJ o S T1 g) H locs → W p l e R s m args below meth c H locs cells slots Q (F0 m (pc + 3) ls (.int r :: rest))) : W p l e R s m args below meth c H locs cells slots Q (F0 m pc ls st) :=
  c_cali (wr := wE a cI cJ S ++ [(o, .inl (cJ, 1, .inr (.inl g)))]) C hA adM aeM G hM [25, 26, 27, 28, 29, 30, 31, 32, 33, 34, 35, 36, 37, 38, 39, 40, 41] [0, 1, 2, 3, 4, 5, 6, 7, 8, 9, 10, 11, 12, 13, 14, 15, 16, 17, 18, 19, 20, 21, 22, 23, 24, 42] (by decide) rfl rfl (by decide) (by decide) h1 h2 h3 k_68 h5 (q0 := 25) rfl (ci := 8) rfl hd hR hrc hrs hz hna hsize hst hW hdg
    (fun H locs G => kk H locs ⟨G.1.sub [0, 1, 2, 3, 4, 5, 6, 7, 8, 9, 10, 11, 12, 13, 14, 15, 16, 17, 18, 19, 20, 21, 22, 23, 24, 26, 27, 28, 29, 30, 31, 32, 33, 34, 35, 36, 37, 38, 39, 40, 41, 42, 25] rfl, G.2.1.sub [0, 1, 2, 3, 4, 5, 6, 7, 8, 9, 10, 11, 12, 13, 14, 15, 16, 17, 18, 19, 20, 21, 22, 23, 24, 26, 27, 28, 29, 30, 31, 32, 33, 34, 35, 36, 37, 38, 39, 40, 41, 42, 25] (by decide) rfl, G.2.2⟩)
theorem gdW {big : List Cond} (hb : ∀ w ∈ tb, w ∈ big) {own : String} {idx n : Nat} {y : MethodName} {bytes : ByteArray} {ret : Option FieldType} {hh : List (Nat × Nat × Nat × Nat)} (h1 : Cond.methodLink own idx y ∈ tb) (h2 : Cond.static y ∈ tb) (h4 : Cond.initialized y.cls ∈ tb) (h5 : Cond.codeWith y bytes n ret hh ∈ tb) : GoodIn big (va_wsS own idx y (.codeWith y bytes n ret hh :: tb)) :=
  gdc hb h1 (gdc hb h2 (gdc hb h4 (gd hb h5)))
theorem Pw.blind {is : Nat} {text : String} {ws0 : va_W} {sz : Nat} {As : List Value} : FrameBlind (va_Pc As (Pw D cI cJ tk tf is text ws0 sz)) := by
  intro v U g mk hq
  obtain ⟨h1, h2, h3, h4, h5, ⟨h6, h7⟩, h8⟩ := hq
  exact ⟨h1, h2, h3, va_K.moved (u := U) (U := U.calling g mk v) (Vm.Alike.refl U.vm) h4, h5, ⟨va_Z.moved (u := U) (U := U.calling g mk v) (Vm.Alike.refl U.vm) h6, va_T.moved (u := U) (U := U.calling g mk v) (Vm.Alike.refl U.vm) h7⟩, h8.blind⟩
/-- a wrapper, called by the law -/
theorem LW_i {y : MethodName} {bytes : ByteArray} {mL na index is : Nat} {text : String} {hh : List (Nat × Nat × Nat × Nat)} {rm : Room} {As : List Value} {x : Option Int32 × St} {st : List Value}
    (C : Cx p s m args meth c own cc nL D cI cJ tk tf A) (hX : TX is text A s) (hA : ∀ q, s.heap.size ≤ q → A q) (G : Wl D A s (wL a b cI cJ o S T g) H locs) (hM : Mw l D a cI cJ tk tf o is text y bytes mL hh rm As S g x)
    (h1 : Cond.methodLink own index y ∈ tb) (h2 : Cond.static y ∈ tb) (h4 : Cond.initialized y.cls ∈ tb) (h5 : Cond.codeWith y bytes mL (some .int) hh ∈ tb)
    (hd : y.cls ≠ "java/lang/invoke/MethodHandle" ∧ y.cls ≠ "java/lang/invoke/VarHandle" ∧ (parseMethodDescriptor y.desc).map (fun d => d.parameters.length) = some na) (hR : rm.frames + 1 ≤ R.frames ∧ 8 + (mL + 11) + rm.locals ≤ R.locals) (hrc : rm.cells = 1) (hrs : rm.slots = 6)
    (hz : cells + 1 ≤ R.cells ∧ slots + 6 ≤ R.slots) (hna : As.length = na) (hsize : ls.size = nL) (hst : st = As.reverse ++ rest) (hW : (rest.map fun v => v.category).sum ≤ 8) (hdg : decode cc pc = .ok (.invokestatic index, 3))
    (kk : ∀ (H : Heap) (locs : List Loc), Wl D A s (wL a b cI cJ o (wrp x g).2.1 T (wrp x g).2.2) H locs → W p l e R s m args below meth c H locs (cells + 1) (slots + 6) Q (F0 m (pc + 3) ls (.int (wrp x g).1 :: rest))) : W p l e R s m args below meth c H locs cells slots Q (F0 m pc ls st) := by
  have hC9 : ([0, 1, 2, 3, 4, 5, 6, 7, 8, 9, 10, 11, 12, 13, 14, 15, 16, 17, 18, 19, 20, 21, 22, 23, 24, 42] : List Nat).map (fun i => (wL a b cI cJ o S T g)[i]?) = (wO a cI cJ o S g).map some := rfl
  have hF := va_free G.2.1 G.2.2 hA [0, 1, 2, 3, 4, 5, 6, 7, 8, 9, 10, 11, 12, 13, 14, 15, 16, 17, 18, 19, 20, 21, 22, 23, 24, 42] hC9
  have hpre : ∀ U : State, U.heap = H → s.WarmedH U.vm → va_Pc As (Pw D cI cJ tk tf is text (wO a cI cJ o S g) H.size) As.toArray U := by
    intro U hU hW9
    obtain ⟨-, -, -, -, -, hK, -, hT⟩ := C
    exact ⟨rfl, by rw [hU], by rw [hU]; exact G.1.sub [0, 1, 2, 3, 4, 5, 6, 7, 8, 9, 10, 11, 12, 13, 14, 15, 16, 17, 18, 19, 20, 21, 22, 23, 24, 42] rfl, va_K.moved hW9.alike hK, (G.2.1.sub [0, 1, 2, 3, 4, 5, 6, 7, 8, 9, 10, 11, 12, 13, 14, 15, 16, 17, 18, 19, 20, 21, 22, 23, 24, 42] (by decide) hC9).self, hT.moved rfl (by rw [hU]; exact G.2.2) hW9.alike hF, hX.moved (by rw [hU]; exact G.2.2) hW9 hF⟩
  obtain ⟨hx, hb, hml, hown, hts, hK, -, -⟩ := C
  refine va_calli (vx_runSW (hh := hh) (g := F0 m pc ls st) (As := As) (rest := rest) ⟨hx, hb, hml, hown, hts⟩ (hM H.size) (vx_cwSW na hts (gdW (fun _ h => h) h1 h2 h4 h5) rfl hrc hrs hd hR) ⟨Pw.blind, hpre⟩ rfl hna hsize hst (lv_room hW) hdg hz) G.2.2 (fun q _ h => hF q h) hF (fun r' u t H1 locs1 ht hvm hp hB _ hk hS1 => ?_)
  obtain ⟨hP1, hD1⟩ := hB
  rw [ht] at hP1
  obtain ⟨hP, hD⟩ := va_join (wr := wM b cI cJ T) (w1 := wO a cI cJ o u.1 u.2) G.1 G.2.1 [0, 1, 2, 3, 4, 5, 6, 7, 8, 9, 10, 11, 12, 13, 14, 15, 16, 17, 18, 19, 20, 21, 22, 23, 24, 42] [25, 26, 27, 28, 29, 30, 31, 32, 33, 34, 35, 36, 37, 38, 39, 40, 41] hC9 rfl (by decide) (by decide) hk hF hP1 hD1
  have e1 : r' = (wrp x g).1 := congrArg Prod.fst hp
  have e2 : u = (wrp x g).2 := congrArg Prod.snd hp
  subst e1; subst e2
  exact kk H1 locs1 ⟨hP.sub [17, 18, 19, 20, 21, 22, 23, 24, 25, 26, 27, 28, 29, 30, 31, 32, 33, 34, 35, 36, 37, 38, 39, 40, 41, 0, 1, 2, 3, 4, 5, 6, 7, 8, 9, 10, 11, 12, 13, 14, 15, 16, 42] rfl, hD.sub [17, 18, 19, 20, 21, 22, 23, 24, 25, 26, 27, 28, 29, 30, 31, 32, 33, 34, 35, 36, 37, 38, 39, 40, 41, 0, 1, 2, 3, 4, 5, 6, 7, 8, 9, 10, 11, 12, 13, 14, 15, 16, 42] (by decide) rfl, hS1⟩
end LA
