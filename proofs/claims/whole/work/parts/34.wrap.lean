/-! the law's wrappers: they call a method of the class that answers or throws; 'out' is a row of one long -/
/-- what a wrapper answers, and leaves in the store and in 'out' -/
def wrp (x : Option Int32 × St) (g : Nat → Int64) : Int32 × St × (Nat → Int64) := match x with
  | (none, S1) => (1, S1, g)
  | (some v, S1) => (0, S1, vp_updL g 0 v.toInt64)
abbrev wO (a : Nat → Nat) (cI cJ : ClassId) (o : Nat) (S : St) (g : Nat → Int64) : va_W := wE a cI cJ S ++ [(o, .inl (cJ, 1, .inr (.inl g)))]
def Pw (D : va_G) (cI cJ : ClassId) (tk : Nat) (tf : Nat → Int32) (is : Nat) (text : String) (ws0 : va_W) (sz : Nat) (U : State) : Prop :=
  U.heap.size = sz ∧ va_P D vwCl ws0 U.heap ∧ va_K D vwCl [(cI, .int), (cJ, .long)] U ∧ va_D (va_A ws0 sz) ws0 ∧ TK tk tf (va_A ws0 sz) U ∧ TX is text (va_A ws0 sz) U
abbrev Qw (D : va_G) (a : Nat → Nat) (cI cJ : ClassId) (o : Nat) (A : Nat → Prop) (x : Option Int32 × St) (g : Nat → Int64) : Array Value → State → Outcome → State → Prop := va_Qi (fun (r : Int32) (u : St × (Nat → Int64)) => (r, u) = wrp x g) (fun u t => va_P D vwCl (wO a cI cJ o u.1 u.2) t.heap ∧ va_D A (wO a cI cJ o u.1 u.2)) A
def Mw (l : Launch) (D : va_G) (a : Nat → Nat) (cI cJ : ClassId) (tk : Nat) (tf : Nat → Int32) (o is : Nat) (text : String) (y : MethodName) (cc : ByteArray) (mL : Nat) (hh : List (Nat × Nat × Nat × Nat)) (rm : Room) (As : List Value) (S : St) (g : Nat → Int64) (x : Option Int32 × St) : Prop :=
  ∀ sz, Met l y (.codeWith y cc mL (some .int) hh :: tb) rm (va_Pc As (Pw D cI cJ tk tf is text (wO a cI cJ o S g) sz)) (Qw D a cI cJ o (va_A (wO a cI cJ o S g) sz) x g) 1 6 (va_A (wO a cI cJ o S g) sz)
theorem opn_w {l : Launch} {D : va_G} {a : Nat → Nat} {cI cJ : ClassId} {tk : Nat} {tf : Nat → Int32} {o is : Nat} {text : String} {y : MethodName} {cc : ByteArray} {mL : Nat} {hh : List (Nat × Nat × Nat × Nat)} {rm : Room} {As : List Value} {S : St} {g : Nat → Int64} {x : Option Int32 × St} (hy : plainName y.cls = true) (hn : (lg_sl As).length ≤ mL)
    (h : ∀ (p : Program) (e : Env) (s : State) (m : MethodId) (below : List Frame) (meth : Method) (c : Code), Cx p s m As.toArray meth c y.cls cc mL D cI cJ tk tf (va_A (wO a cI cJ o S g) s.heap.size) → c.exceptionTable.toList = tableOf hh → TX is text (va_A (wO a cI cJ o S g) s.heap.size) s → meth.sig.returnType = some .int → Wl D (va_A (wO a cI cJ o S g) s.heap.size) s (wO a cI cJ o S g) s.heap [] → ∀ ls, lv_has ls mL (lv_args 0 As) →
      W p l e rm s m As.toArray below meth c s.heap [] 0 0 (MQ below (Qw D a cI cJ o (va_A (wO a cI cJ o S g) s.heap.size) x g) As.toArray s 1 6 (va_A (wO a cI cJ o S g) s.heap.size)) (F0 m 0 ls [])) : Mw l D a cI cJ tk tf o is text y cc mL hh rm As S g x := by
  intro sz
  refine va_MetW (cc := cc) (maxL := mL) (ret := some .int) (hh := hh) hy rfl ?_
  intro p e s m args below meth c s₁ B hml hv
  obtain ⟨rfl, hsz, hP, hK, hD, hT, hX⟩ := hv
  subst hsz
  rw [lg_entry_eq]
  exact h p e s m below meth c ⟨B.exec, B.bytes, hml, findClass_of_methodNamed B.named, fun w hw => atoms_spec (ws := .codeWith y cc mL (some .int) hh :: tb) B.pre w (List.mem_cons_of_mem _ hw), hK, B.notSynchronized, hT⟩ (vx_table (x := y) B (atoms_spec (ws := .codeWith y cc mL (some .int) hh :: tb) B.pre _ List.mem_cons_self)) hX B.returns ⟨hP, hD, va_S.rf⟩ _ (lv_entry As hn)
section WR
variable {p : Program} {l : Launch} {e : Env} {R : Room} {s : State} {m : MethodId} {args : Array Value} {below : List Frame} {meth : Method} {c : Code} {H : Heap} {locs : List Loc} {cells slots : Nat}
variable {own : String} {cc : ByteArray} {nL : Nat} {D : va_G} {a : Nat → Nat} {cI cJ : ClassId} {tk : Nat} {tf : Nat → Int32} {A : Nat → Prop} {pc : Nat} {ls : Array Slot}
theorem w_ret {o : Nat} {x : Option Int32 × St} {g : Nat → Int64} {v : Int32} {u : St × (Nat → Int64)} (C : Cx p s m args meth c own cc nL D cI cJ tk tf A) (hr : meth.sig.returnType = some .int) (G : Wl D A s (wO a cI cJ o u.1 u.2) H locs) (hf : (v, u) = wrp x g) (hdg : decode cc pc = .ok (.ireturn, 1)) : W p l e R s m args below meth c H locs 1 6 (MQ below (Qw D a cI cJ o A x g) args s 1 6 A) (F0 m pc ls [.int v]) := by
  obtain ⟨hx, hb, -, -, -, -, hlocks, -⟩ := C
  exact W.iret hx hb hr (fun t ht _ => ⟨⟨v, u, rfl, hf, by rw [ht]; exact G.1, G.2.1⟩, G.2.2.F ht⟩) G.2.2.2.2 hdg hlocks
end WR
theorem dL_value_0 : decode cL_value 0 = .ok (.aload_n 3, 1) := by decide +kernel
theorem dL_value_1 : decode cL_value 1 = .ok (.iconst 0, 1) := by decide +kernel
theorem dL_value_2 : decode cL_value 2 = .ok (.aload_n 0, 1) := by decide +kernel
theorem dL_value_3 : decode cL_value 3 = .ok (.iload_n 1, 1) := by decide +kernel
theorem dL_value_4 : decode cL_value 4 = .ok (.iload_n 2, 1) := by decide +kernel
theorem dL_value_5 : decode cL_value 5 = .ok (.invokevirtual 7, 3) := by decide +kernel
theorem dL_value_8 : decode cL_value 8 = .ok (.i2l, 1) := by decide +kernel
theorem dL_value_9 : decode cL_value 9 = .ok (.lastore, 1) := by decide +kernel
theorem dL_value_10 : decode cL_value 10 = .ok (.goto 7, 3) := by decide +kernel
theorem dL_value_13 : decode cL_value 13 = .ok (.astore 4, 2) := by decide +kernel
theorem dL_value_15 : decode cL_value 15 = .ok (.iconst 1, 1) := by decide +kernel
theorem dL_value_16 : decode cL_value 16 = .ok (.ireturn, 1) := by decide +kernel
theorem dL_value_17 : decode cL_value 17 = .ok (.iconst 0, 1) := by decide +kernel
theorem dL_value_18 : decode cL_value 18 = .ok (.ireturn, 1) := by decide +kernel
set_option maxRecDepth 100000 in
theorem kw_value : Cond.codeWith yL_value cL_value 5 (some .int) [(0, 10, 13, 13)] ∈ tb := tbm 613 (by rfl) rfl
set_option maxRecDepth 100000 in
set_option maxHeartbeats 4000000 in
theorem mL_value (l : Launch) (D : va_G) (a : Nat → Nat) (cI cJ : ClassId) (tk : Nat) (tf : Nat → Int32) (o : Nat) (p1 p2 : Int32) (S : St) (g : Nat → Int64) (x : Option Int32 × St) (hf : fX7_value_0 p1 p2 S = some x) (hlx : l.stackTraces = false) : Mw l D a cI cJ tk tf o 120 "no such place of the pile, or what" yL_value cL_value 5 [(0, 10, 13, 13)] { frames := 7, cells := 1, slots := 6, locals := 104 } [.ref (a 0), .int p1, .int p2, .ref o] S g x := by
  refine opn_w (by decide +kernel) (Nat.le_of_ble_eq_true rfl) (fun p e s m below meth c C htab X hr G ls hl => ?_)
  have hA : ∀ q, s.heap.size ≤ q → va_A (wO a cI cJ o S g) s.heap.size q := fun q h => Or.inr h
  replace hl : lv_has ls 5 [(0, .ref (a 0)), (1, .int p1), (2, .int p2), (3, .ref o)] := hl
  refine lv_aload_n C.1 C.2.1 dL_value_0 rfl (lv_at hl 3 rfl) ?_
  refine lv_iconst (v := 0) C.1 C.2.1 dL_value_1 (by decide) ?_
  refine lv_aload_n C.1 C.2.1 dL_value_2 rfl (lv_at hl 0 rfl) ?_
  refine lv_iload_n C.1 C.2.1 dL_value_3 rfl (lv_at hl 1 rfl) ?_
  refine lv_iload_n C.1 C.2.1 dL_value_4 rfl (lv_at hl 2 rfl) ?_
  refine c_calx (As := [.int p1, .int p2]) (na := 2) (rest := [.int 0, .ref o]) (wr := [(o, .inl (cJ, 1, .inr (.inl g)))]) C X hA adE aeE G (mX7_value_0 l D a cI cJ tk tf p1 p2 S x hf hlx) [0, 1, 2, 3, 4, 5, 6, 7, 8, 9, 10, 11, 12, 13, 14, 15, 16, 17, 18, 19, 20, 21, 22, 23, 24] [25] (by decide) rfl rfl (by decide) (by decide) k_615 k_616 k_617 k_59 k_618 (q0 := 0) rfl (ci := 7) rfl (by decide +kernel) ⟨Nat.le_of_ble_eq_true rfl, Nat.le_of_ble_eq_true rfl⟩ rfl rfl ⟨Nat.le_of_ble_eq_true rfl, Nat.le_of_ble_eq_true rfl⟩ rfl hl.1 rfl (Nat.le_of_ble_eq_true rfl) dL_value_5 (fun q9 ce S1 H locs ex G hce hcv hcl => ?_) (fun r S1 H locs ex G => ?_)
  · refine xc_catch (E := ioob) (name := ioob) C.2.2.2.1 ⟨0, 10, 13, 13⟩ htab (by decide) (by decide) (C.2.2.2.2.1 _ k_614) (va_Nw.use rfl X.2.2.1) hce hcv hcl ?_
    have G2 : Wl D (va_A (wO a cI cJ o S g) s.heap.size) s (wO a cI cJ o S1 g) H locs := ⟨G.1.sub [1, 2, 3, 4, 5, 6, 7, 8, 9, 10, 11, 12, 13, 14, 15, 16, 17, 18, 19, 20, 21, 22, 23, 24, 25, 0] rfl, G.2.1.sub [1, 2, 3, 4, 5, 6, 7, 8, 9, 10, 11, 12, 13, 14, 15, 16, 17, 18, 19, 20, 21, 22, 23, 24, 25, 0] (by decide) rfl, G.2.2⟩
    refine lv_astore (lv' := [(4, .ref q9), (0, .ref (a 0)), (1, .int p1), (2, .int p2), (3, .ref o)]) C.1 C.2.1 dL_value_13 hl (by decide) rfl (fun ls hl => ?_)
    refine lv_iconst (v := 1) C.1 C.2.1 dL_value_15 (by decide) ?_
    exact w_ret (u := (S1, g)) C hr G2 (by rw [ex]; rfl) dL_value_16
  · refine lv_i2l C.1 C.2.1 dL_value_8 rfl ?_
    refine va_last C.1 C.2.1 C.2.2.2.2.2.1 G.1 G.2.1 G.2.2 0 1 rfl rfl (show vq 0 1 by decide) dL_value_9 (fun H locs hP hD hS => ?_)
    have G2 : Wl D (va_A (wO a cI cJ o S g) s.heap.size) s (wO a cI cJ o S1 (vp_updL g 0 r.toInt64)) H locs := ⟨hP.sub [1, 2, 3, 4, 5, 6, 7, 8, 9, 10, 11, 12, 13, 14, 15, 16, 17, 18, 19, 20, 21, 22, 23, 24, 25, 0] rfl, hD.sub [1, 2, 3, 4, 5, 6, 7, 8, 9, 10, 11, 12, 13, 14, 15, 16, 17, 18, 19, 20, 21, 22, 23, 24, 25, 0] (by decide) rfl, hS⟩
    refine lv_goto (tgt := 17) C.1 C.2.1 dL_value_10 (by decide) ?_
    refine lv_iconst (v := 0) C.1 C.2.1 dL_value_17 (by decide) ?_
    exact w_ret (u := (S1, vp_updL g 0 r.toInt64)) C hr G2 (by rw [ex]; rfl) dL_value_18
theorem dL_record_0 : decode cL_record 0 = .ok (.aload_n 2, 1) := by decide +kernel
theorem dL_record_1 : decode cL_record 1 = .ok (.iconst 0, 1) := by decide +kernel
theorem dL_record_2 : decode cL_record 2 = .ok (.aload_n 0, 1) := by decide +kernel
theorem dL_record_3 : decode cL_record 3 = .ok (.iload_n 1, 1) := by decide +kernel
theorem dL_record_4 : decode cL_record 4 = .ok (.invokevirtual 15, 3) := by decide +kernel
theorem dL_record_7 : decode cL_record 7 = .ok (.i2l, 1) := by decide +kernel
theorem dL_record_8 : decode cL_record 8 = .ok (.lastore, 1) := by decide +kernel
theorem dL_record_9 : decode cL_record 9 = .ok (.goto 6, 3) := by decide +kernel
theorem dL_record_12 : decode cL_record 12 = .ok (.astore_n 3, 1) := by decide +kernel
theorem dL_record_13 : decode cL_record 13 = .ok (.iconst 1, 1) := by decide +kernel
theorem dL_record_14 : decode cL_record 14 = .ok (.ireturn, 1) := by decide +kernel
theorem dL_record_15 : decode cL_record 15 = .ok (.iconst 0, 1) := by decide +kernel
theorem dL_record_16 : decode cL_record 16 = .ok (.ireturn, 1) := by decide +kernel
set_option maxRecDepth 100000 in
theorem kw_record : Cond.codeWith yL_record cL_record 4 (some .int) [(0, 9, 12, 13)] ∈ tb := tbm 702 (by rfl) rfl
set_option maxRecDepth 100000 in
set_option maxHeartbeats 4000000 in
theorem mL_record (l : Launch) (D : va_G) (a : Nat → Nat) (cI cJ : ClassId) (tk : Nat) (tf : Nat → Int32) (o : Nat) (p1 : Int32) (S : St) (g : Nat → Int64) (x : Option Int32 × St) (hf : fX7_record_0 p1 S = some x) (hlx : l.stackTraces = false) : Mw l D a cI cJ tk tf o 138 "no such what" yL_record cL_record 4 [(0, 9, 12, 13)] { frames := 7, cells := 1, slots := 6, locals := 103 } [.ref (a 0), .int p1, .ref o] S g x := by
  refine opn_w (by decide +kernel) (Nat.le_of_ble_eq_true rfl) (fun p e s m below meth c C htab X hr G ls hl => ?_)
  have hA : ∀ q, s.heap.size ≤ q → va_A (wO a cI cJ o S g) s.heap.size q := fun q h => Or.inr h
  replace hl : lv_has ls 4 [(0, .ref (a 0)), (1, .int p1), (2, .ref o)] := hl
  refine lv_aload_n C.1 C.2.1 dL_record_0 rfl (lv_at hl 2 rfl) ?_
  refine lv_iconst (v := 0) C.1 C.2.1 dL_record_1 (by decide) ?_
  refine lv_aload_n C.1 C.2.1 dL_record_2 rfl (lv_at hl 0 rfl) ?_
  refine lv_iload_n C.1 C.2.1 dL_record_3 rfl (lv_at hl 1 rfl) ?_
  refine c_calx (As := [.int p1]) (na := 1) (rest := [.int 0, .ref o]) (wr := [(o, .inl (cJ, 1, .inr (.inl g)))]) C X hA adE aeE G (mX7_record_0 l D a cI cJ tk tf p1 S x hf hlx) [0, 1, 2, 3, 4, 5, 6, 7, 8, 9, 10, 11, 12, 13, 14, 15, 16, 17, 18, 19, 20, 21, 22, 23, 24] [25] (by decide) rfl rfl (by decide) (by decide) k_703 k_704 k_705 k_59 k_706 (q0 := 0) rfl (ci := 7) rfl (by decide +kernel) ⟨Nat.le_of_ble_eq_true rfl, Nat.le_of_ble_eq_true rfl⟩ rfl rfl ⟨Nat.le_of_ble_eq_true rfl, Nat.le_of_ble_eq_true rfl⟩ rfl hl.1 rfl (Nat.le_of_ble_eq_true rfl) dL_record_4 (fun q9 ce S1 H locs ex G hce hcv hcl => ?_) (fun r S1 H locs ex G => ?_)
  · refine xc_catch (E := ioob) (name := ioob) C.2.2.2.1 ⟨0, 9, 12, 13⟩ htab (by decide) (by decide) (C.2.2.2.2.1 _ k_614) (va_Nw.use rfl X.2.2.1) hce hcv hcl ?_
    have G2 : Wl D (va_A (wO a cI cJ o S g) s.heap.size) s (wO a cI cJ o S1 g) H locs := ⟨G.1.sub [1, 2, 3, 4, 5, 6, 7, 8, 9, 10, 11, 12, 13, 14, 15, 16, 17, 18, 19, 20, 21, 22, 23, 24, 25, 0] rfl, G.2.1.sub [1, 2, 3, 4, 5, 6, 7, 8, 9, 10, 11, 12, 13, 14, 15, 16, 17, 18, 19, 20, 21, 22, 23, 24, 25, 0] (by decide) rfl, G.2.2⟩
    refine lv_astore_n (lv' := [(3, .ref q9), (0, .ref (a 0)), (1, .int p1), (2, .ref o)]) C.1 C.2.1 dL_record_12 rfl hl (by decide) rfl (fun ls hl => ?_)
    refine lv_iconst (v := 1) C.1 C.2.1 dL_record_13 (by decide) ?_
    exact w_ret (u := (S1, g)) C hr G2 (by rw [ex]; rfl) dL_record_14
  · refine lv_i2l C.1 C.2.1 dL_record_7 rfl ?_
    refine va_last C.1 C.2.1 C.2.2.2.2.2.1 G.1 G.2.1 G.2.2 0 1 rfl rfl (show vq 0 1 by decide) dL_record_8 (fun H locs hP hD hS => ?_)
    have G2 : Wl D (va_A (wO a cI cJ o S g) s.heap.size) s (wO a cI cJ o S1 (vp_updL g 0 r.toInt64)) H locs := ⟨hP.sub [1, 2, 3, 4, 5, 6, 7, 8, 9, 10, 11, 12, 13, 14, 15, 16, 17, 18, 19, 20, 21, 22, 23, 24, 25, 0] rfl, hD.sub [1, 2, 3, 4, 5, 6, 7, 8, 9, 10, 11, 12, 13, 14, 15, 16, 17, 18, 19, 20, 21, 22, 23, 24, 25, 0] (by decide) rfl, hS⟩
    refine lv_goto (tgt := 15) C.1 C.2.1 dL_record_9 (by decide) ?_
    refine lv_iconst (v := 0) C.1 C.2.1 dL_record_15 (by decide) ?_
    exact w_ret (u := (S1, vp_updL g 0 r.toInt64)) C hr G2 (by rw [ex]; rfl) dL_record_16
theorem dL_kept_0 : decode cL_kept 0 = .ok (.aload_n 3, 1) := by decide +kernel
theorem dL_kept_1 : decode cL_kept 1 = .ok (.iconst 0, 1) := by decide +kernel
theorem dL_kept_2 : decode cL_kept 2 = .ok (.aload_n 0, 1) := by decide +kernel
theorem dL_kept_3 : decode cL_kept 3 = .ok (.iload_n 1, 1) := by decide +kernel
theorem dL_kept_4 : decode cL_kept 4 = .ok (.iload_n 2, 1) := by decide +kernel
theorem dL_kept_5 : decode cL_kept 5 = .ok (.invokevirtual 19, 3) := by decide +kernel
theorem dL_kept_8 : decode cL_kept 8 = .ok (.i2l, 1) := by decide +kernel
theorem dL_kept_9 : decode cL_kept 9 = .ok (.lastore, 1) := by decide +kernel
theorem dL_kept_10 : decode cL_kept 10 = .ok (.goto 7, 3) := by decide +kernel
theorem dL_kept_13 : decode cL_kept 13 = .ok (.astore 4, 2) := by decide +kernel
theorem dL_kept_15 : decode cL_kept 15 = .ok (.iconst 1, 1) := by decide +kernel
theorem dL_kept_16 : decode cL_kept 16 = .ok (.ireturn, 1) := by decide +kernel
theorem dL_kept_17 : decode cL_kept 17 = .ok (.iconst 0, 1) := by decide +kernel
theorem dL_kept_18 : decode cL_kept 18 = .ok (.ireturn, 1) := by decide +kernel
set_option maxRecDepth 100000 in
theorem kw_kept : Cond.codeWith yL_kept cL_kept 5 (some .int) [(0, 10, 13, 13)] ∈ tb := tbm 714 (by rfl) rfl
set_option maxRecDepth 100000 in
set_option maxHeartbeats 4000000 in
theorem mL_kept (l : Launch) (D : va_G) (a : Nat → Nat) (cI cJ : ClassId) (tk : Nat) (tf : Nat → Int32) (o : Nat) (p1 p2 : Int32) (S : St) (g : Nat → Int64) (x : Option Int32 × St) (hf : fX7_kept_0 p1 p2 S = some x) (hlx : l.stackTraces = false) : Mw l D a cI cJ tk tf o 141 "no such place of the record's pile, or what" yL_kept cL_kept 5 [(0, 10, 13, 13)] { frames := 7, cells := 1, slots := 6, locals := 104 } [.ref (a 0), .int p1, .int p2, .ref o] S g x := by
  refine opn_w (by decide +kernel) (Nat.le_of_ble_eq_true rfl) (fun p e s m below meth c C htab X hr G ls hl => ?_)
  have hA : ∀ q, s.heap.size ≤ q → va_A (wO a cI cJ o S g) s.heap.size q := fun q h => Or.inr h
  replace hl : lv_has ls 5 [(0, .ref (a 0)), (1, .int p1), (2, .int p2), (3, .ref o)] := hl
  refine lv_aload_n C.1 C.2.1 dL_kept_0 rfl (lv_at hl 3 rfl) ?_
  refine lv_iconst (v := 0) C.1 C.2.1 dL_kept_1 (by decide) ?_
  refine lv_aload_n C.1 C.2.1 dL_kept_2 rfl (lv_at hl 0 rfl) ?_
  refine lv_iload_n C.1 C.2.1 dL_kept_3 rfl (lv_at hl 1 rfl) ?_
  refine lv_iload_n C.1 C.2.1 dL_kept_4 rfl (lv_at hl 2 rfl) ?_
  refine c_calx (As := [.int p1, .int p2]) (na := 2) (rest := [.int 0, .ref o]) (wr := [(o, .inl (cJ, 1, .inr (.inl g)))]) C X hA adE aeE G (mX7_kept_0 l D a cI cJ tk tf p1 p2 S x hf hlx) [0, 1, 2, 3, 4, 5, 6, 7, 8, 9, 10, 11, 12, 13, 14, 15, 16, 17, 18, 19, 20, 21, 22, 23, 24] [25] (by decide) rfl rfl (by decide) (by decide) k_715 k_716 k_717 k_59 k_718 (q0 := 0) rfl (ci := 7) rfl (by decide +kernel) ⟨Nat.le_of_ble_eq_true rfl, Nat.le_of_ble_eq_true rfl⟩ rfl rfl ⟨Nat.le_of_ble_eq_true rfl, Nat.le_of_ble_eq_true rfl⟩ rfl hl.1 rfl (Nat.le_of_ble_eq_true rfl) dL_kept_5 (fun q9 ce S1 H locs ex G hce hcv hcl => ?_) (fun r S1 H locs ex G => ?_)
  · refine xc_catch (E := ioob) (name := ioob) C.2.2.2.1 ⟨0, 10, 13, 13⟩ htab (by decide) (by decide) (C.2.2.2.2.1 _ k_614) (va_Nw.use rfl X.2.2.1) hce hcv hcl ?_
    have G2 : Wl D (va_A (wO a cI cJ o S g) s.heap.size) s (wO a cI cJ o S1 g) H locs := ⟨G.1.sub [1, 2, 3, 4, 5, 6, 7, 8, 9, 10, 11, 12, 13, 14, 15, 16, 17, 18, 19, 20, 21, 22, 23, 24, 25, 0] rfl, G.2.1.sub [1, 2, 3, 4, 5, 6, 7, 8, 9, 10, 11, 12, 13, 14, 15, 16, 17, 18, 19, 20, 21, 22, 23, 24, 25, 0] (by decide) rfl, G.2.2⟩
    refine lv_astore (lv' := [(4, .ref q9), (0, .ref (a 0)), (1, .int p1), (2, .int p2), (3, .ref o)]) C.1 C.2.1 dL_kept_13 hl (by decide) rfl (fun ls hl => ?_)
    refine lv_iconst (v := 1) C.1 C.2.1 dL_kept_15 (by decide) ?_
    exact w_ret (u := (S1, g)) C hr G2 (by rw [ex]; rfl) dL_kept_16
  · refine lv_i2l C.1 C.2.1 dL_kept_8 rfl ?_
    refine va_last C.1 C.2.1 C.2.2.2.2.2.1 G.1 G.2.1 G.2.2 0 1 rfl rfl (show vq 0 1 by decide) dL_kept_9 (fun H locs hP hD hS => ?_)
    have G2 : Wl D (va_A (wO a cI cJ o S g) s.heap.size) s (wO a cI cJ o S1 (vp_updL g 0 r.toInt64)) H locs := ⟨hP.sub [1, 2, 3, 4, 5, 6, 7, 8, 9, 10, 11, 12, 13, 14, 15, 16, 17, 18, 19, 20, 21, 22, 23, 24, 25, 0] rfl, hD.sub [1, 2, 3, 4, 5, 6, 7, 8, 9, 10, 11, 12, 13, 14, 15, 16, 17, 18, 19, 20, 21, 22, 23, 24, 25, 0] (by decide) rfl, hS⟩
    refine lv_goto (tgt := 17) C.1 C.2.1 dL_kept_10 (by decide) ?_
    refine lv_iconst (v := 0) C.1 C.2.1 dL_kept_17 (by decide) ?_
    exact w_ret (u := (S1, vp_updL g 0 r.toInt64)) C hr G2 (by rw [ex]; rfl) dL_kept_18
theorem dL_handler_0 : decode cL_handler 0 = .ok (.aload_n 2, 1) := by decide +kernel
theorem dL_handler_1 : decode cL_handler 1 = .ok (.iconst 0, 1) := by decide +kernel
theorem dL_handler_2 : decode cL_handler 2 = .ok (.aload_n 0, 1) := by decide +kernel
theorem dL_handler_3 : decode cL_handler 3 = .ok (.iload_n 1, 1) := by decide +kernel
theorem dL_handler_4 : decode cL_handler 4 = .ok (.invokevirtual 22, 3) := by decide +kernel
theorem dL_handler_7 : decode cL_handler 7 = .ok (.i2l, 1) := by decide +kernel
theorem dL_handler_8 : decode cL_handler 8 = .ok (.lastore, 1) := by decide +kernel
theorem dL_handler_9 : decode cL_handler 9 = .ok (.goto 6, 3) := by decide +kernel
theorem dL_handler_12 : decode cL_handler 12 = .ok (.astore_n 3, 1) := by decide +kernel
theorem dL_handler_13 : decode cL_handler 13 = .ok (.iconst 1, 1) := by decide +kernel
theorem dL_handler_14 : decode cL_handler 14 = .ok (.ireturn, 1) := by decide +kernel
theorem dL_handler_15 : decode cL_handler 15 = .ok (.iconst 0, 1) := by decide +kernel
theorem dL_handler_16 : decode cL_handler 16 = .ok (.ireturn, 1) := by decide +kernel
set_option maxRecDepth 100000 in
theorem kw_handler : Cond.codeWith yL_handler cL_handler 4 (some .int) [(0, 9, 12, 13)] ∈ tb := tbm 726 (by rfl) rfl
set_option maxRecDepth 100000 in
set_option maxHeartbeats 4000000 in
theorem mL_handler (l : Launch) (D : va_G) (a : Nat → Nat) (cI cJ : ClassId) (tk : Nat) (tf : Nat → Int32) (o : Nat) (p1 : Int32) (S : St) (g : Nat → Int64) (x : Option Int32 × St) (hf : fX7_handler_0 p1 S = some x) (hlx : l.stackTraces = false) : Mw l D a cI cJ tk tf o 144 "no such error" yL_handler cL_handler 4 [(0, 9, 12, 13)] { frames := 7, cells := 1, slots := 6, locals := 103 } [.ref (a 0), .int p1, .ref o] S g x := by
  refine opn_w (by decide +kernel) (Nat.le_of_ble_eq_true rfl) (fun p e s m below meth c C htab X hr G ls hl => ?_)
  have hA : ∀ q, s.heap.size ≤ q → va_A (wO a cI cJ o S g) s.heap.size q := fun q h => Or.inr h
  replace hl : lv_has ls 4 [(0, .ref (a 0)), (1, .int p1), (2, .ref o)] := hl
  refine lv_aload_n C.1 C.2.1 dL_handler_0 rfl (lv_at hl 2 rfl) ?_
  refine lv_iconst (v := 0) C.1 C.2.1 dL_handler_1 (by decide) ?_
  refine lv_aload_n C.1 C.2.1 dL_handler_2 rfl (lv_at hl 0 rfl) ?_
  refine lv_iload_n C.1 C.2.1 dL_handler_3 rfl (lv_at hl 1 rfl) ?_
  refine c_calx (As := [.int p1]) (na := 1) (rest := [.int 0, .ref o]) (wr := [(o, .inl (cJ, 1, .inr (.inl g)))]) C X hA adE aeE G (mX7_handler_0 l D a cI cJ tk tf p1 S x hf hlx) [0, 1, 2, 3, 4, 5, 6, 7, 8, 9, 10, 11, 12, 13, 14, 15, 16, 17, 18, 19, 20, 21, 22, 23, 24] [25] (by decide) rfl rfl (by decide) (by decide) k_727 k_728 k_729 k_59 k_730 (q0 := 0) rfl (ci := 7) rfl (by decide +kernel) ⟨Nat.le_of_ble_eq_true rfl, Nat.le_of_ble_eq_true rfl⟩ rfl rfl ⟨Nat.le_of_ble_eq_true rfl, Nat.le_of_ble_eq_true rfl⟩ rfl hl.1 rfl (Nat.le_of_ble_eq_true rfl) dL_handler_4 (fun q9 ce S1 H locs ex G hce hcv hcl => ?_) (fun r S1 H locs ex G => ?_)
  · refine xc_catch (E := ioob) (name := ioob) C.2.2.2.1 ⟨0, 9, 12, 13⟩ htab (by decide) (by decide) (C.2.2.2.2.1 _ k_614) (va_Nw.use rfl X.2.2.1) hce hcv hcl ?_
    have G2 : Wl D (va_A (wO a cI cJ o S g) s.heap.size) s (wO a cI cJ o S1 g) H locs := ⟨G.1.sub [1, 2, 3, 4, 5, 6, 7, 8, 9, 10, 11, 12, 13, 14, 15, 16, 17, 18, 19, 20, 21, 22, 23, 24, 25, 0] rfl, G.2.1.sub [1, 2, 3, 4, 5, 6, 7, 8, 9, 10, 11, 12, 13, 14, 15, 16, 17, 18, 19, 20, 21, 22, 23, 24, 25, 0] (by decide) rfl, G.2.2⟩
    refine lv_astore_n (lv' := [(3, .ref q9), (0, .ref (a 0)), (1, .int p1), (2, .ref o)]) C.1 C.2.1 dL_handler_12 rfl hl (by decide) rfl (fun ls hl => ?_)
    refine lv_iconst (v := 1) C.1 C.2.1 dL_handler_13 (by decide) ?_
    exact w_ret (u := (S1, g)) C hr G2 (by rw [ex]; rfl) dL_handler_14
  · refine lv_i2l C.1 C.2.1 dL_handler_7 rfl ?_
    refine va_last C.1 C.2.1 C.2.2.2.2.2.1 G.1 G.2.1 G.2.2 0 1 rfl rfl (show vq 0 1 by decide) dL_handler_8 (fun H locs hP hD hS => ?_)
    have G2 : Wl D (va_A (wO a cI cJ o S g) s.heap.size) s (wO a cI cJ o S1 (vp_updL g 0 r.toInt64)) H locs := ⟨hP.sub [1, 2, 3, 4, 5, 6, 7, 8, 9, 10, 11, 12, 13, 14, 15, 16, 17, 18, 19, 20, 21, 22, 23, 24, 25, 0] rfl, hD.sub [1, 2, 3, 4, 5, 6, 7, 8, 9, 10, 11, 12, 13, 14, 15, 16, 17, 18, 19, 20, 21, 22, 23, 24, 25, 0] (by decide) rfl, hS⟩
    refine lv_goto (tgt := 15) C.1 C.2.1 dL_handler_9 (by decide) ?_
    refine lv_iconst (v := 0) C.1 C.2.1 dL_handler_15 (by decide) ?_
    exact w_ret (u := (S1, vp_updL g 0 r.toInt64)) C hr G2 (by rw [ex]; rfl) dL_handler_16
theorem dL_named_0 : decode cL_named 0 = .ok (.aload_n 3, 1) := by decide +kernel
theorem dL_named_1 : decode cL_named 1 = .ok (.iconst 0, 1) := by decide +kernel
theorem dL_named_2 : decode cL_named 2 = .ok (.aload_n 0, 1) := by decide +kernel
theorem dL_named_3 : decode cL_named 3 = .ok (.iload_n 1, 1) := by decide +kernel
theorem dL_named_4 : decode cL_named 4 = .ok (.iload_n 2, 1) := by decide +kernel
theorem dL_named_5 : decode cL_named 5 = .ok (.invokevirtual 25, 3) := by decide +kernel
theorem dL_named_8 : decode cL_named 8 = .ok (.i2l, 1) := by decide +kernel
theorem dL_named_9 : decode cL_named 9 = .ok (.lastore, 1) := by decide +kernel
theorem dL_named_10 : decode cL_named 10 = .ok (.goto 7, 3) := by decide +kernel
theorem dL_named_13 : decode cL_named 13 = .ok (.astore 4, 2) := by decide +kernel
theorem dL_named_15 : decode cL_named 15 = .ok (.iconst 1, 1) := by decide +kernel
theorem dL_named_16 : decode cL_named 16 = .ok (.ireturn, 1) := by decide +kernel
theorem dL_named_17 : decode cL_named 17 = .ok (.iconst 0, 1) := by decide +kernel
theorem dL_named_18 : decode cL_named 18 = .ok (.ireturn, 1) := by decide +kernel
set_option maxRecDepth 100000 in
theorem kw_named : Cond.codeWith yL_named cL_named 5 (some .int) [(0, 10, 13, 13)] ∈ tb := tbm 738 (by rfl) rfl
set_option maxRecDepth 100000 in
set_option maxHeartbeats 4000000 in
theorem mL_named (l : Launch) (D : va_G) (a : Nat → Nat) (cI cJ : ClassId) (tk : Nat) (tf : Nat → Int32) (o : Nat) (p1 p2 : Int32) (S : St) (g : Nat → Int64) (x : Option Int32 × St) (hf : fX7_named_0 p1 p2 S = some x) (hlx : l.stackTraces = false) : Mw l D a cI cJ tk tf o 152 "no such name, or what" yL_named cL_named 5 [(0, 10, 13, 13)] { frames := 7, cells := 1, slots := 6, locals := 104 } [.ref (a 0), .int p1, .int p2, .ref o] S g x := by
  refine opn_w (by decide +kernel) (Nat.le_of_ble_eq_true rfl) (fun p e s m below meth c C htab X hr G ls hl => ?_)
  have hA : ∀ q, s.heap.size ≤ q → va_A (wO a cI cJ o S g) s.heap.size q := fun q h => Or.inr h
  replace hl : lv_has ls 5 [(0, .ref (a 0)), (1, .int p1), (2, .int p2), (3, .ref o)] := hl
  refine lv_aload_n C.1 C.2.1 dL_named_0 rfl (lv_at hl 3 rfl) ?_
  refine lv_iconst (v := 0) C.1 C.2.1 dL_named_1 (by decide) ?_
  refine lv_aload_n C.1 C.2.1 dL_named_2 rfl (lv_at hl 0 rfl) ?_
  refine lv_iload_n C.1 C.2.1 dL_named_3 rfl (lv_at hl 1 rfl) ?_
  refine lv_iload_n C.1 C.2.1 dL_named_4 rfl (lv_at hl 2 rfl) ?_
  refine c_calx (As := [.int p1, .int p2]) (na := 2) (rest := [.int 0, .ref o]) (wr := [(o, .inl (cJ, 1, .inr (.inl g)))]) C X hA adE aeE G (mX7_named_0 l D a cI cJ tk tf p1 p2 S x hf hlx) [0, 1, 2, 3, 4, 5, 6, 7, 8, 9, 10, 11, 12, 13, 14, 15, 16, 17, 18, 19, 20, 21, 22, 23, 24] [25] (by decide) rfl rfl (by decide) (by decide) k_739 k_740 k_741 k_59 k_742 (q0 := 0) rfl (ci := 7) rfl (by decide +kernel) ⟨Nat.le_of_ble_eq_true rfl, Nat.le_of_ble_eq_true rfl⟩ rfl rfl ⟨Nat.le_of_ble_eq_true rfl, Nat.le_of_ble_eq_true rfl⟩ rfl hl.1 rfl (Nat.le_of_ble_eq_true rfl) dL_named_5 (fun q9 ce S1 H locs ex G hce hcv hcl => ?_) (fun r S1 H locs ex G => ?_)
  · refine xc_catch (E := ioob) (name := ioob) C.2.2.2.1 ⟨0, 10, 13, 13⟩ htab (by decide) (by decide) (C.2.2.2.2.1 _ k_614) (va_Nw.use rfl X.2.2.1) hce hcv hcl ?_
    have G2 : Wl D (va_A (wO a cI cJ o S g) s.heap.size) s (wO a cI cJ o S1 g) H locs := ⟨G.1.sub [1, 2, 3, 4, 5, 6, 7, 8, 9, 10, 11, 12, 13, 14, 15, 16, 17, 18, 19, 20, 21, 22, 23, 24, 25, 0] rfl, G.2.1.sub [1, 2, 3, 4, 5, 6, 7, 8, 9, 10, 11, 12, 13, 14, 15, 16, 17, 18, 19, 20, 21, 22, 23, 24, 25, 0] (by decide) rfl, G.2.2⟩
    refine lv_astore (lv' := [(4, .ref q9), (0, .ref (a 0)), (1, .int p1), (2, .int p2), (3, .ref o)]) C.1 C.2.1 dL_named_13 hl (by decide) rfl (fun ls hl => ?_)
    refine lv_iconst (v := 1) C.1 C.2.1 dL_named_15 (by decide) ?_
    exact w_ret (u := (S1, g)) C hr G2 (by rw [ex]; rfl) dL_named_16
  · refine lv_i2l C.1 C.2.1 dL_named_8 rfl ?_
    refine va_last C.1 C.2.1 C.2.2.2.2.2.1 G.1 G.2.1 G.2.2 0 1 rfl rfl (show vq 0 1 by decide) dL_named_9 (fun H locs hP hD hS => ?_)
    have G2 : Wl D (va_A (wO a cI cJ o S g) s.heap.size) s (wO a cI cJ o S1 (vp_updL g 0 r.toInt64)) H locs := ⟨hP.sub [1, 2, 3, 4, 5, 6, 7, 8, 9, 10, 11, 12, 13, 14, 15, 16, 17, 18, 19, 20, 21, 22, 23, 24, 25, 0] rfl, hD.sub [1, 2, 3, 4, 5, 6, 7, 8, 9, 10, 11, 12, 13, 14, 15, 16, 17, 18, 19, 20, 21, 22, 23, 24, 25, 0] (by decide) rfl, hS⟩
    refine lv_goto (tgt := 17) C.1 C.2.1 dL_named_10 (by decide) ?_
    refine lv_iconst (v := 0) C.1 C.2.1 dL_named_17 (by decide) ?_
    exact w_ret (u := (S1, vp_updL g 0 r.toInt64)) C hr G2 (by rw [ex]; rfl) dL_named_18
