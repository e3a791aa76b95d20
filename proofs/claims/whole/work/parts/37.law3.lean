/-- the class's store behind its constructor -/
def iE : St := (fun c k => if c = 9 then (if k < 40 then (-1) else 0) else if c = 12 then (if k < 12 then (-1) else 0) else if c = 20 then (if k = 2 then (-1) else 0) else 0, fun _ => 0)
set_option maxRecDepth 100000 in
theorem tk_in : ∀ j, j < 112 → Cond.eq (.elem (.static "ErrorNames" "TAKES" "[I") (.int (Int32.ofNat j))) (.int (tkF j)) ∈ flatC (Cond.and given_1 narrow_1) := by decide +kernel
theorem arr_of {args : Array Value} {s : State} {ty : FieldType} (h : (Cond.arrayClass ty).before args s = true) : ∃ cA : ClassId, ArrOfT s cA ty ∧ s.vm.findClass ("[" ++ ty.toString) = some cA := by
  obtain ⟨cA, kA, comp, h1, h2, h3⟩ := Cond.arrayClass_spec (args := args) (first := s) (o := none) (s := s) (idx := []) h
  exact ⟨cA, fun n z => ⟨fun k h => (by cases h), kA, h2, comp, h3⟩, h1⟩
theorem tx_of {args : Array Value} {s : State} (hts : ∀ w ∈ lw_tbl, w.before args s = true) (hgv : (Jvm.Cond.and given_1 narrow_1).before args s = true) (is : Nat) (text : String) (h1 : Cond.stringRef RX7 is text ∈ lw_tbl) (h2 : Cond.exactly (.string "ErrorNames" is) "java/lang/String" ∈ flatC (Cond.and given_1 narrow_1)) : TX is text (fun q : Nat => s.heap.size ≤ q) s := by
  have hA9 : ∀ a : Nat, a < s.heap.size → ¬ (fun q : Nat => s.heap.size ≤ q) a := fun a h => Nat.not_le.mpr h
  have hq := flat_of_before _ hgv
  obtain ⟨sa, _, _, _, e1, -⟩ := Cond.exactly_spec (args := args) (first := s) (o := none) (s := s) (idx := []) (t := .string "ErrorNames" is) (cls := "java/lang/String") (hq _ h2)
  exact ⟨vx_Zqof (hts _ (List.mem_of_getElem? (i := 653) (by decide +kernel))) (hts _ (List.mem_of_getElem? (i := 69) (by decide +kernel))) (hq _ (by decide +kernel)) hA9, vx_Zqof (hts _ (List.mem_of_getElem? (i := 655) (by decide +kernel))) (hts _ (List.mem_of_getElem? (i := 69) (by decide +kernel))) (hq _ (by decide +kernel)) hA9,
    va_Nw.of rfl (hts _ (List.mem_of_getElem? (i := 628) (by decide +kernel))), va_Nw.of rfl (hts _ (List.mem_of_getElem? (i := 630) (by decide +kernel))), va_Nw.of rfl (hts _ (List.mem_of_getElem? (i := 632) (by decide +kernel))), va_Nw.of rfl (hts _ (List.mem_of_getElem? (i := 634) (by decide +kernel))), sa, vk_R.of (hts _ h1) e1⟩
set_option maxRecDepth 100000 in
theorem tk_of {args : Array Value} {s : State} (hts : ∀ w ∈ lw_tbl, w.before args s = true) (hgv : (Jvm.Cond.and given_1 narrow_1).before args s = true) : ∃ tk, TK tk tkF (fun q : Nat => s.heap.size ≤ q) s := by
  have hA9 : ∀ a : Nat, a < s.heap.size → ¬ (fun q : Nat => s.heap.size ≤ q) a := fun a h => Nat.not_le.mpr h
  have hq := flat_of_before _ hgv
  obtain ⟨t, ht, hT⟩ := va_Tof (tm := .static "ErrorNames" "TAKES" "[I") (ty := .int) (N := 112) (f := fun j => .int (tkF j)) (A := fun q : Nat => s.heap.size ≤ q) (by decide) (hq _ (by decide +kernel)) (va_eqt (t := .length (.static "ErrorNames" "TAKES" "[I")) (z := 112) (hq _ (by decide +kernel))) (fun j hj => va_eqt (hq _ (tk_in j hj))) hA9
  exact ⟨t, va_Zref (hts _ (List.mem_of_getElem? (i := 369) (by decide +kernel))) (hts _ (List.mem_of_getElem? (i := 59) (by decide +kernel))) ht hA9, hT⟩
set_option maxRecDepth 100000 in
set_option maxHeartbeats 4000000 in
/-- THE LAW, from its entry, over the relation that the pure part gives -/
theorem law_start {R : St → St → Prop} (hSim : Sim R) {r0 : Int32} {M0 : St} (hc : fX8_clearAll_0 z0 = some (r0, M0)) (hR0 : R iE M0) {p : Program} {e : Env} {s : State} {m : MethodId} {below : List Frame} {meth : Method} {c : Code} (l : Launch) (hlx : l.stackTraces = false) {sc L : Nat} {xs : Nat → Int32} (hL : L ≤ 2048) (C0 : lw_At p s m meth c sc L xs) : W p l e room_1 s m #[Value.ref sc] below meth c s.heap [] 0 0 (lw_Z below #[Value.ref sc] s) (entryFrame m ([Value.ref sc] : List Value).toArray 7) := by
  obtain ⟨hx, hb, hr, hml, hown, hts, hX, hbl, hlocks, hgv⟩ := id C0
  have hA : ∀ q : Nat, s.heap.size ≤ q → (fun q : Nat => s.heap.size ≤ q) q := fun _ h => h
  obtain ⟨c0, iS0, hKn0⟩ := u_known (C := RX0) (T := TX0) (N := 8) (n := 8) hts (fun w hw => tb_in (inX0 w hw)) (hts _ (tb_in k_163))
  obtain ⟨c1, iS1, hKn1⟩ := u_known (C := RX1) (T := TX1) (N := 1) (n := 1) hts (fun w hw => tb_in (inX1 w hw)) (hts _ (tb_in k_152))
  obtain ⟨c2, iS2, hKn2⟩ := u_known (C := RX2) (T := TX2) (N := 3) (n := 3) hts (fun w hw => tb_in (inX2 w hw)) (hts _ (tb_in k_105))
  obtain ⟨c3, iS3, hKn3⟩ := u_known (C := RX3) (T := TX3) (N := 2) (n := 2) hts (fun w hw => tb_in (inX3 w hw)) (hts _ (tb_in k_99))
  obtain ⟨c4, iS4, hKn4⟩ := u_known (C := RX4) (T := TX4) (N := 3) (n := 3) hts (fun w hw => tb_in (inX4 w hw)) (hts _ (tb_in k_82))
  obtain ⟨c5, iS5, hKn5⟩ := u_known (C := RX5) (T := TX5) (N := 6) (n := 6) hts (fun w hw => tb_in (inX5 w hw)) (hts _ (tb_in k_195))
  obtain ⟨c6, iS6, hKn6⟩ := u_known (C := RX6) (T := TX6) (N := 2) (n := 2) hts (fun w hw => tb_in (inX6 w hw)) (hts _ (tb_in k_121))
  obtain ⟨c7, iS7, hKn7⟩ := u_known (C := RX7) (T := TX7) (N := 11) (n := 11) hts (fun w hw => tb_in (inX7 w hw)) (hts _ (tb_in k_74))
  obtain ⟨c8, iS8, hKn8⟩ := u_known (C := RX8) (T := TX8) (N := 30) (n := 30) hts (fun w hw => tb_in (inX8 w hw)) (hts _ (tb_in k_749))
  obtain ⟨dC, dI, hKc⟩ : ∃ (dC : Nat → ClassId) (dI : Nat → Nat → Nat), ∀ (k : Nat) (q : vw_C), vwCl[k]? = some q → u_Kn s q.1 q.2.1 q.2.2 (dC k) (dI k) := by
    refine ⟨fun k => match k with | 0 => c0 | 1 => c1 | 2 => c2 | 3 => c3 | 4 => c4 | 5 => c5 | 6 => c6 | 7 => c7 | _ => c8, fun k => match k with | 0 => iS0 | 1 => iS1 | 2 => iS2 | 3 => iS3 | 4 => iS4 | 5 => iS5 | 6 => iS6 | 7 => iS7 | _ => iS8, ?_⟩
    intro k q hq
    match k, hq with
    | 0, hq => cases hq; exact hKn0
    | 1, hq => cases hq; exact hKn1
    | 2, hq => cases hq; exact hKn2
    | 3, hq => cases hq; exact hKn3
    | 4, hq => cases hq; exact hKn4
    | 5, hq => cases hq; exact hKn5
    | 6, hq => cases hq; exact hKn6
    | 7, hq => cases hq; exact hKn7
    | 8, hq => cases hq; exact hKn8
    | k + 9, hq => exact absurd hq (by simp [vwCl])
  obtain ⟨cI, hI1, hI2⟩ := arr_of (ty := .int) (hts _ (tb_in k_97))
  obtain ⟨cJ, hJ1, hJ2⟩ := arr_of (ty := .long) (hts _ (tb_in k_193))
  have hK : va_K (dC, dI) vwCl [(cI, .int), (cJ, .long)] s := by
    refine ⟨hKc, fun k q hk => ?_⟩
    match k, hk with
    | 0, hk => cases hk; exact ⟨hI1, hI2⟩
    | 1, hk => cases hk; exact ⟨hJ1, hJ2⟩
    | k + 2, hk => exact absurd hk (by simp)
  obtain ⟨tk, hTK⟩ := tk_of hts hgv
  have C : Cx p s m #[Value.ref sc] meth c RL cL_law 7 (dC, dI) cI cJ tk tkF (fun q : Nat => s.heap.size ≤ q) := ⟨hx, hb, hml, hown, fun w hw => hts w (tb_in hw), hK, hlocks, hTK⟩
  have hN : NL s := ⟨va_Nw.of rfl (hts _ k_83), va_Nw.of rfl (hts _ k_100), va_Nw.of rfl (hts _ k_106), va_Nw.of rfl (hts _ k_164), va_Nw.of rfl (hts _ k_196), va_Nw.of rfl (hts _ k_201)⟩
  have G : Wl (dC, dI) (fun q : Nat => s.heap.size ≤ q) s [] s.heap [] := ⟨fun k q h => by simp at h, ⟨fun i j p q h => by simp at h, fun k q h => by simp at h⟩, va_S.rf⟩
  have hl := lv_entry ([.ref sc]) (n := 7) (Nat.le_of_ble_eq_true rfl)
  rw [lg_entry_eq]
  generalize (lg_sl ([.ref sc]) ++ List.replicate (7 - (lg_sl ([.ref sc])).length) Slot.unset).toArray = ls at hl ⊢
  replace hl : lv_has ls 7 [(0, .ref sc)] := hl
  refine l_new (ci := 7) (fs := [.null, .null, .null, .null, .null, .null, .null, .int 0, .int 0, .int 0, .int 0]) (Cn := RX7) (T := TX7) (N := 11) C hA G inX7 tyX7 tyX7_ok k_73 k_74 k_59 rfl (fun j hj => by rcases (show j = 0 ∨ j = 1 ∨ j = 2 ∨ j = 3 ∨ j = 4 ∨ j = 5 ∨ j = 6 ∨ j = 7 ∨ j = 8 ∨ j = 9 ∨ j = 10 by omega) with rfl | rfl | rfl | rfl | rfl | rfl | rfl | rfl | rfl | rfl | rfl <;> rfl) (Nat.le_of_ble_eq_true rfl) (Nat.le_of_ble_eq_true rfl) dL_law_0 (fun q1 H G => ?_)
  refine lv_dup C.1 C.2.1 dL_law_3 rfl ?_
  refine l_ctor (As := []) (na := 0) (wr := []) C hA hN G (mX7_init l (dC, dI) cI cJ tk tkF q1) k_75 k_76 k_59 k_77 rfl [0] [] rfl rfl (by decide) (by decide) (by decide) (by decide +kernel) ⟨Nat.le_of_ble_eq_true rfl, Nat.le_of_ble_eq_true rfl⟩ rfl rfl ⟨Nat.le_of_ble_eq_true rfl, Nat.le_of_ble_eq_true rfl⟩ rfl hl.1 rfl (Nat.le_of_ble_eq_true rfl) dL_law_4 (fun b1 H locs G => ?_)
  replace G : Wl (dC, dI) (fun q : Nat => s.heap.size ≤ q) s (wE (ac q1 b1) cI cJ iE) H locs := G
  refine lv_astore_n (lv' := [(1, .ref q1), (0, .ref sc)]) C.1 C.2.1 dL_law_7 rfl hl (by decide) rfl (fun ls hl => ?_)
  refine l_new (ci := 8) (fs := [.int 0, .null, .null, .null, .null, .null, .int 0, .null, .null, .null, .int 0, .int 0, .int 0, .int 0, .null, .null, .int 0, .int 0, .int 0, .int 0, .null, .null, .null, .null, .null, .null, .int 0, .int 0, .int 0, .int 0]) (Cn := RX8) (T := TX8) (N := 30) C hA G inX8 tyX8 tyX8_ok k_748 k_749 k_68 rfl (fun j hj => by rcases (show j = 0 ∨ j = 1 ∨ j = 2 ∨ j = 3 ∨ j = 4 ∨ j = 5 ∨ j = 6 ∨ j = 7 ∨ j = 8 ∨ j = 9 ∨ j = 10 ∨ j = 11 ∨ j = 12 ∨ j = 13 ∨ j = 14 ∨ j = 15 ∨ j = 16 ∨ j = 17 ∨ j = 18 ∨ j = 19 ∨ j = 20 ∨ j = 21 ∨ j = 22 ∨ j = 23 ∨ j = 24 ∨ j = 25 ∨ j = 26 ∨ j = 27 ∨ j = 28 ∨ j = 29 by omega) with rfl | rfl | rfl | rfl | rfl | rfl | rfl | rfl | rfl | rfl | rfl | rfl | rfl | rfl | rfl | rfl | rfl | rfl | rfl | rfl | rfl | rfl | rfl | rfl | rfl | rfl | rfl | rfl | rfl | rfl <;> rfl) (Nat.le_of_ble_eq_true rfl) (Nat.le_of_ble_eq_true rfl) dL_law_8 (fun q2 H G => ?_)
  refine lv_dup C.1 C.2.1 dL_law_11 rfl ?_
  refine l_ctor (As := []) (na := 0) (wr := wE (ac q1 b1) cI cJ iE) C hA hN G (mX8_init l (dC, dI) cI cJ tk tkF q2 r0 M0 hc) k_750 k_751 k_68 k_752 rfl [25] [0, 1, 2, 3, 4, 5, 6, 7, 8, 9, 10, 11, 12, 13, 14, 15, 16, 17, 18, 19, 20, 21, 22, 23, 24] rfl rfl (by decide) (by decide) (by decide) (by decide +kernel) ⟨Nat.le_of_ble_eq_true rfl, Nat.le_of_ble_eq_true rfl⟩ rfl rfl ⟨Nat.le_of_ble_eq_true rfl, Nat.le_of_ble_eq_true rfl⟩ rfl hl.1 rfl (Nat.le_of_ble_eq_true rfl) dL_law_12 (fun b2 H locs G => ?_)
  refine lv_astore_n (lv' := [(2, .ref q2), (1, .ref q1), (0, .ref sc)]) C.1 C.2.1 dL_law_15 rfl hl (by decide) rfl (fun ls hl => ?_)
  refine lv_iconst (v := 1) C.1 C.2.1 dL_law_16 (by decide) ?_
  refine l_newJ C hA G 1 (by decide) (by decide) (by decide) (Nat.le_of_ble_eq_true rfl) (Nat.le_of_ble_eq_true rfl) dL_law_17 (fun q3 H G => ?_)
  rw [List.append_assoc] at G
  refine lv_astore_n (lv' := [(3, .ref q3), (2, .ref q2), (1, .ref q1), (0, .ref sc)]) C.1 C.2.1 dL_law_19 rfl hl (by decide) rfl (fun ls hl => ?_)
  refine lv_iconst (v := 0) C.1 C.2.1 dL_law_20 (by decide) ?_
  refine lv_istore (lv' := [(4, .int 0), (3, .ref q3), (2, .ref q2), (1, .ref q1), (0, .ref sc)]) C.1 C.2.1 dL_law_21 hl (by decide) rfl (fun ls hl => ?_)
  exact law_loop (a := ac q1 b1) (b := ac q2 b2) hSim C hr hX hbl hL hlx (tx_of hts hgv 120 "no such place of the pile, or what" (List.mem_of_getElem? (i := 665) (by decide +kernel)) (by decide +kernel)) (tx_of hts hgv 138 "no such what" (List.mem_of_getElem? (i := 711) (by decide +kernel)) (by decide +kernel)) (tx_of hts hgv 141 "no such place of the record's pile, or what" (List.mem_of_getElem? (i := 723) (by decide +kernel)) (by decide +kernel)) (tx_of hts hgv 144 "no such error" (List.mem_of_getElem? (i := 735) (by decide +kernel)) (by decide +kernel)) (tx_of hts hgv 152 "no such name, or what" (List.mem_of_getElem? (i := 747) (by decide +kernel)) (by decide +kernel)) 513 0 0 (Nat.zero_le _) (by omega) nI_0.symm iE M0 (fun _ => 0) hR0 H locs ls G (lv_sub hl [4, 3, 2, 1, 0] rfl)
