/-! a world of a store, cut out of a list of cells: calls from constructors and from the law -/
def Ae (w : St → va_W) (a : Nat → Nat) (n : Nat) : Prop := ∀ (S : St) (i : Nat), i < n → ∃ e, (w S)[i]? = some (a i, e)
theorem ar_va {w : St → va_W} {a : Nat → Nat} {n sz q : Nat} {S : St} (hAd : Ad w a n) (hAe : Ae w a n) : AR a n sz q ↔ va_A (w S) sz q := by
  constructor
  · rintro (⟨i, hi, rfl⟩ | h)
    · obtain ⟨e, he⟩ := hAe S i hi
      exact Or.inl ⟨i, e, he⟩
    · exact Or.inr h
  · rintro (⟨k, e, he⟩ | h)
    · exact Or.inl (hAd S k _ he)
    · exact Or.inr h
section CU
variable {p : Program} {l : Launch} {e : Env} {R : Room} {s : State} {m : MethodId} {args : Array Value} {below : List Frame} {meth : Method} {c : Code} {H : Heap} {locs : List Loc} {cells slots : Nat} {Q : State → Prop}
variable {own : String} {cc : ByteArray} {nL : Nat} {D : va_G} {cI cJ : ClassId} {tk : Nat} {tf : Nat → Int32} {A : Nat → Prop} {ws : va_W} {pc : Nat} {ls : Array Slot} {rest : List Value} {w : St → va_W} {a : Nat → Nat} {n : Nat} {S S1 : St}
theorem c_free (hA : ∀ q, s.heap.size ≤ q → A q) (hAd : Ad w a n) (hAe : Ae w a n) (G : Wl D A s ws H locs) (isC : List Nat) (hC : isC.map (fun i => ws[i]?) = (w S).map some) : ∀ q, AR a n H.size q → A q := fun q hq => va_free G.2.1 G.2.2 hA isC hC q ((ar_va hAd hAe).mp hq)
theorem c_sub {wc : va_W} (isC : List Nat) (hC : isC.map (fun i => ws[i]?) = wc.map some) : isC.filterMap (fun i => ws[i]?) = wc := by
  have h9 := congrArg (List.filterMap id) hC
  rwa [List.filterMap_map, List.filterMap_map, show (id ∘ some : Nat × va_E → Option (Nat × va_E)) = some from rfl, List.filterMap_some, show (id ∘ fun i => ws[i]?) = fun i => ws[i]? from rfl] at h9
theorem c_pre {As : List Value} (C : Cx p s m args meth c own cc nL D cI cJ tk tf A) (hA : ∀ q, s.heap.size ≤ q → A q) (hAd : Ad w a n) (hAe : Ae w a n) (G : Wl D A s ws H locs) (isC : List Nat) (hnC : va_nd isC = true) (hC : isC.map (fun i => ws[i]?) = (w S).map some) : ∀ U : State, U.heap = H → s.WarmedH U.vm → va_Pc As (Pr D w a n cI cJ tk tf H.size S) As.toArray U := by
  intro U hU hW
  have hF := c_free hA hAd hAe G isC hC
  obtain ⟨-, -, -, -, -, hK, -, hT⟩ := C
  exact ⟨rfl, by rw [hU], by rw [hU]; exact G.1.sub isC (c_sub isC hC), va_K.moved hW.alike hK, Ad_D hAd (G.2.1.sub isC hnC hC), hT.moved rfl (by rw [hU]; exact G.2.2) hW.alike hF⟩
theorem c_join {wr : va_W} {H1 : Heap} {locs1 : List Loc} {t : State} (hA : ∀ q, s.heap.size ≤ q → A q) (hAd : Ad w a n) (hAe : Ae w a n) (G : Wl D A s ws H locs) (isC isR : List Nat) (hC : isC.map (fun i => ws[i]?) = (w S).map some) (hR9 : isR.map (fun i => ws[i]?) = wr.map some) (hnR : va_nd isR = true) (hdis : ∀ i ∈ isR, i ∉ isC)
    (ht : t.heap = H1) (hB : Bo D w (AR a n H.size) S1 t) (hk : ∀ q : Nat, q < H.size → ¬ AR a n H.size q → H1[q]? = H[q]?) (hS1 : va_S A s.heap H1 locs1) : Wl D A s (wr ++ w S1) H1 locs1 := by
  obtain ⟨hP1, hD1⟩ := hB
  rw [ht] at hP1
  obtain ⟨hP, hD⟩ := va_join (wr := wr) (w1 := w S1) G.1 G.2.1 isC isR hC hR9 hnR hdis (fun q h1 h2 => hk q h1 (fun z => h2 ((ar_va hAd hAe).mp z))) (va_free G.2.1 G.2.2 hA isC hC) hP1 (hD1.weaken (fun _ _ _ z => (ar_va hAd hAe).mp z))
  exact ⟨hP, hD, hS1⟩
theorem c_cali {y : MethodName} {bytes : ByteArray} {mL na index q0 ci b N : Nat} {ret : Option FieldType} {rm : Room} {As : List Value} {r : Int32} {fs : List Value} {Cn : String} {T : u_T} {st : List Value} {wr : va_W}
    (C : Cx p s m args meth c own cc nL D cI cJ tk tf A) (hA : ∀ q, s.heap.size ≤ q → A q) (hAd : Ad w a n) (hAe : Ae w a n) (G : Wl D A s ws H locs) (hM : Mi l D w a n cI cJ tk tf y bytes mL ret rm (.ref b :: As) S (r, S1))
    (isC isR : List Nat) (hnC : va_nd isC = true) (hC : isC.map (fun i => ws[i]?) = (w S).map some) (hR9 : isR.map (fun i => ws[i]?) = wr.map some) (hnR : va_nd isR = true) (hdis : ∀ i ∈ isR, i ∉ isC)
    (h1 : Cond.methodLink own index y ∈ tb) (h2 : Cond.instanceMethod y ∈ tb) (h3 : Cond.selects Cn y y ∈ tb) (h4 : Cond.initialized Cn ∈ tb) (h5 : Cond.code y bytes mL ret ∈ tb)
    (he : ws[q0]? = some (b, .inr (ci, fs))) (hc : vwCl[ci]? = some (Cn, T, N))
    (hd : y.cls = Cn ∧ y.cls ≠ "java/lang/invoke/MethodHandle" ∧ y.cls ≠ "java/lang/invoke/VarHandle" ∧ (parseMethodDescriptor y.desc).map (fun d => d.parameters.length) = some na) (hR : rm.frames + 1 ≤ R.frames ∧ 8 + (mL + 11) + rm.locals ≤ R.locals) (hrc : rm.cells = 0) (hrs : rm.slots = 0)
    (hz : cells ≤ R.cells ∧ slots ≤ R.slots) (hna : As.length = na) (hsize : ls.size = nL) (hst : st = As.reverse ++ .ref b :: rest) (hW : (rest.map fun v => v.category).sum ≤ 8) (hdg : decode cc pc = .ok (.invokevirtual index, 3))
    (kk : ∀ (H : Heap) (locs : List Loc), Wl D A s (wr ++ w S1) H locs → W p l e R s m args below meth c H locs cells slots Q (F0 m (pc + 3) ls (.int r :: rest))) : W p l e R s m args below meth c H locs cells slots Q (F0 m pc ls st) := by
  have hpre := c_pre (As := .ref b :: As) C hA hAd hAe G isC hnC hC
  have hF := c_free hA hAd hAe G isC hC
  obtain ⟨hx, hb, hml, hown, hts, hK, -, -⟩ := C
  refine va_calli (va_runV (g := F0 m pc ls st) (As := As) (rest := rest) ⟨hx, hb, hml, hown, hts⟩ (hM H.size) (cwV na hts (gdV (fun _ h => h) h1 h2 h3 h4 h5) rfl hrc hrs hd hR) ⟨Pr.blind, va_recv hK G.1 hc he, hpre⟩ rfl hna hsize hst (lv_room hW) hdg hz) G.2.2 (fun q _ h => hF q h) hF (fun r' u t H1 locs1 ht hvm hp hB _ hk hS1 => ?_)
  cases hp
  exact kk H1 locs1 (c_join hA hAd hAe G isC isR hC hR9 hnR hdis ht hB hk hS1)
theorem c_calv {y : MethodName} {bytes : ByteArray} {mL na index q0 ci b N : Nat} {rm : Room} {As : List Value} {r : Int32} {fs : List Value} {Cn : String} {T : u_T} {st : List Value} {wr : va_W}
    (C : Cx p s m args meth c own cc nL D cI cJ tk tf A) (hA : ∀ q, s.heap.size ≤ q → A q) (hAd : Ad w a n) (hAe : Ae w a n) (G : Wl D A s ws H locs) (hM : Mv l D w a n cI cJ tk tf y bytes mL rm (.ref b :: As) S (r, S1))
    (isC isR : List Nat) (hnC : va_nd isC = true) (hC : isC.map (fun i => ws[i]?) = (w S).map some) (hR9 : isR.map (fun i => ws[i]?) = wr.map some) (hnR : va_nd isR = true) (hdis : ∀ i ∈ isR, i ∉ isC)
    (h1 : Cond.methodLink own index y ∈ tb) (h2 : Cond.instanceMethod y ∈ tb) (h3 : Cond.selects Cn y y ∈ tb) (h4 : Cond.initialized Cn ∈ tb) (h5 : Cond.code y bytes mL none ∈ tb)
    (he : ws[q0]? = some (b, .inr (ci, fs))) (hc : vwCl[ci]? = some (Cn, T, N))
    (hd : y.cls = Cn ∧ y.cls ≠ "java/lang/invoke/MethodHandle" ∧ y.cls ≠ "java/lang/invoke/VarHandle" ∧ (parseMethodDescriptor y.desc).map (fun d => d.parameters.length) = some na) (hR : rm.frames + 1 ≤ R.frames ∧ 8 + (mL + 11) + rm.locals ≤ R.locals) (hrc : rm.cells = 0) (hrs : rm.slots = 0)
    (hz : cells ≤ R.cells ∧ slots ≤ R.slots) (hna : As.length = na) (hsize : ls.size = nL) (hst : st = As.reverse ++ .ref b :: rest) (hW : (rest.map fun v => v.category).sum ≤ 8) (hdg : decode cc pc = .ok (.invokevirtual index, 3))
    (kk : ∀ (H : Heap) (locs : List Loc), Wl D A s (wr ++ w S1) H locs → W p l e R s m args below meth c H locs cells slots Q (F0 m (pc + 3) ls rest)) : W p l e R s m args below meth c H locs cells slots Q (F0 m pc ls st) := by
  have hpre := c_pre (As := .ref b :: As) C hA hAd hAe G isC hnC hC
  have hF := c_free hA hAd hAe G isC hC
  obtain ⟨hx, hb, hml, hown, hts, hK, -, -⟩ := C
  refine va_callv (va_runV (g := F0 m pc ls st) (As := As) (rest := rest) ⟨hx, hb, hml, hown, hts⟩ (hM H.size) (cwV na hts (gdV (fun _ h => h) h1 h2 h3 h4 h5) rfl hrc hrs hd hR) ⟨Pr.blind, va_recv hK G.1 hc he, hpre⟩ rfl hna hsize hst (lv_room hW) hdg hz) G.2.2 (fun q _ h => hF q h) hF (fun u t H1 locs1 ht hvm hp hB _ hk hS1 => ?_)
  cases hp
  exact kk H1 locs1 (c_join hA hAd hAe G isC isR hC hR9 hnR hdis ht hB hk hS1)
/-- a call that answers or throws -/
theorem c_calx {y : MethodName} {bytes : ByteArray} {mL na index q0 ci b N is : Nat} {text : String} {ret : Option FieldType} {rm : Room} {As : List Value} {x : Option Int32 × St} {fs : List Value} {Cn : String} {T : u_T} {st : List Value} {wr : va_W}
    (C : Cx p s m args meth c own cc nL D cI cJ tk tf A) (hX : TX is text A s) (hA : ∀ q, s.heap.size ≤ q → A q) (hAd : Ad w a n) (hAe : Ae w a n) (G : Wl D A s ws H locs) (hM : Mx l D w a n cI cJ tk tf is text y bytes mL ret rm (.ref b :: As) S x)
    (isC isR : List Nat) (hnC : va_nd isC = true) (hC : isC.map (fun i => ws[i]?) = (w S).map some) (hR9 : isR.map (fun i => ws[i]?) = wr.map some) (hnR : va_nd isR = true) (hdis : ∀ i ∈ isR, i ∉ isC)
    (h1 : Cond.methodLink own index y ∈ tb) (h2 : Cond.instanceMethod y ∈ tb) (h3 : Cond.selects Cn y y ∈ tb) (h4 : Cond.initialized Cn ∈ tb) (h5 : Cond.code y bytes mL ret ∈ tb)
    (he : ws[q0]? = some (b, .inr (ci, fs))) (hc : vwCl[ci]? = some (Cn, T, N))
    (hd : y.cls = Cn ∧ y.cls ≠ "java/lang/invoke/MethodHandle" ∧ y.cls ≠ "java/lang/invoke/VarHandle" ∧ (parseMethodDescriptor y.desc).map (fun d => d.parameters.length) = some na) (hR : rm.frames + 1 ≤ R.frames ∧ 8 + (mL + 11) + rm.locals ≤ R.locals) (hrc : rm.cells = 1) (hrs : rm.slots = 6)
    (hz : cells + 1 ≤ R.cells ∧ slots + 6 ≤ R.slots) (hna : As.length = na) (hsize : ls.size = nL) (hst : st = As.reverse ++ .ref b :: rest) (hW : (rest.map fun v => v.category).sum ≤ 8) (hdg : decode cc pc = .ok (.invokevirtual index, 3))
    (kx : ∀ (q9 : Addr) (ce : Cell) (S1 : St) (H : Heap) (locs : List Loc), x = (none, S1) → Wl D A s (wr ++ w S1) H locs → H[q9]? = some ce → ce.vm = .none → s.vm.findClass ioob = some ce.cls → vx_W p l e R s m args below meth c H locs (cells + 1) (slots + 6) Q (F0 m pc ls rest) q9)
    (kk : ∀ (r : Int32) (S1 : St) (H : Heap) (locs : List Loc), x = (some r, S1) → Wl D A s (wr ++ w S1) H locs → W p l e R s m args below meth c H locs (cells + 1) (slots + 6) Q (F0 m (pc + 3) ls (.int r :: rest))) : W p l e R s m args below meth c H locs cells slots Q (F0 m pc ls st) := by
  have hpre0 := c_pre (As := .ref b :: As) C hA hAd hAe G isC hnC hC
  have hF := c_free hA hAd hAe G isC hC
  have hpre : ∀ U : State, U.heap = H → s.WarmedH U.vm → va_Pc (.ref b :: As) (fun U => Pr D w a n cI cJ tk tf H.size S U ∧ TX is text (AR a n H.size) U) (Value.ref b :: As).toArray U := fun U hU hW9 => ⟨rfl, (hpre0 U hU hW9).2, hX.moved (by rw [hU]; exact G.2.2) hW9 hF⟩
  obtain ⟨hx, hb, hml, hown, hts, hK, -, -⟩ := C
  refine vx_calli (vx_runV (g := F0 m pc ls st) (As := As) (rest := rest) ⟨hx, hb, hml, hown, hts⟩ (hM H.size) (cwV na hts (gdV (fun _ h => h) h1 h2 h3 h4 h5) rfl hrc hrs hd hR) ⟨fun v U g mk hq => ⟨hq.1, (Pr.blind (As := .ref b :: As) v U g mk ⟨hq.1, hq.2.1⟩).2, hq.2.2.blind⟩, va_recv hK G.1 hc he, hpre⟩ rfl hna hsize hst (lv_room hW) hdg hz) G.2.2 (fun q _ h => hF q h) hF (fun q _ h => hF q h) (fun E ce q9 u t H1 locs1 ht hvm hp hB _ hk hS1 hce hcv hcl => ?_) (fun r' u t H1 locs1 ht hvm hp hB _ hk hS1 => ?_)
  · obtain ⟨rfl, hB⟩ := hB
    exact kx q9 ce u H1 locs1 hp.symm (c_join hA hAd hAe G isC isR hC hR9 hnR hdis ht hB hk hS1) hce hcv hcl
  · exact kk r' u H1 locs1 hp.symm (c_join hA hAd hAe G isC isR hC hR9 hnR hdis ht hB hk hS1)
end CU
theorem aeE {a : Nat → Nat} {cI cJ : ClassId} : Ae (wE a cI cJ) a 25 := by
  intro S i h
  match i, h with
  | 0, _ => exact ⟨_, rfl⟩
  | 1, _ => exact ⟨_, rfl⟩
  | 2, _ => exact ⟨_, rfl⟩
  | 3, _ => exact ⟨_, rfl⟩
  | 4, _ => exact ⟨_, rfl⟩
  | 5, _ => exact ⟨_, rfl⟩
  | 6, _ => exact ⟨_, rfl⟩
  | 7, _ => exact ⟨_, rfl⟩
  | 8, _ => exact ⟨_, rfl⟩
  | 9, _ => exact ⟨_, rfl⟩
  | 10, _ => exact ⟨_, rfl⟩
  | 11, _ => exact ⟨_, rfl⟩
  | 12, _ => exact ⟨_, rfl⟩
  | 13, _ => exact ⟨_, rfl⟩
  | 14, _ => exact ⟨_, rfl⟩
  | 15, _ => exact ⟨_, rfl⟩
  | 16, _ => exact ⟨_, rfl⟩
  | 17, _ => exact ⟨_, rfl⟩
  | 18, _ => exact ⟨_, rfl⟩
  | 19, _ => exact ⟨_, rfl⟩
  | 20, _ => exact ⟨_, rfl⟩
  | 21, _ => exact ⟨_, rfl⟩
  | 22, _ => exact ⟨_, rfl⟩
  | 23, _ => exact ⟨_, rfl⟩
  | 24, _ => exact ⟨_, rfl⟩
  | i + 25, h => exact absurd h (by omega)
theorem aeM {a : Nat → Nat} {cI cJ : ClassId} : Ae (wM a cI cJ) a 17 := by
  intro S i h
  match i, h with
  | 0, _ => exact ⟨_, rfl⟩
  | 1, _ => exact ⟨_, rfl⟩
  | 2, _ => exact ⟨_, rfl⟩
  | 3, _ => exact ⟨_, rfl⟩
  | 4, _ => exact ⟨_, rfl⟩
  | 5, _ => exact ⟨_, rfl⟩
  | 6, _ => exact ⟨_, rfl⟩
  | 7, _ => exact ⟨_, rfl⟩
  | 8, _ => exact ⟨_, rfl⟩
  | 9, _ => exact ⟨_, rfl⟩
  | 10, _ => exact ⟨_, rfl⟩
  | 11, _ => exact ⟨_, rfl⟩
  | 12, _ => exact ⟨_, rfl⟩
  | 13, _ => exact ⟨_, rfl⟩
  | 14, _ => exact ⟨_, rfl⟩
  | 15, _ => exact ⟨_, rfl⟩
  | 16, _ => exact ⟨_, rfl⟩
  | i + 17, h => exact absurd h (by omega)
