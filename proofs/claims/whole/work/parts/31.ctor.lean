theorem dX0_init_0 : decode cX0_init 0 = .ok (.aload_n 0, 1) := by decide +kernel
theorem dX0_init_1 : decode cX0_init 1 = .ok (.invokespecial 3, 3) := by decide +kernel
theorem dX0_init_4 : decode cX0_init 4 = .ok (.aload_n 0, 1) := by decide +kernel
theorem dX0_init_5 : decode cX0_init 5 = .ok (.bipush 30, 2) := by decide +kernel
theorem dX0_init_7 : decode cX0_init 7 = .ok (.newarray .int, 2) := by decide +kernel
theorem dX0_init_9 : decode cX0_init 9 = .ok (.putfield 9, 3) := by decide +kernel
theorem dX0_init_12 : decode cX0_init 12 = .ok (.aload_n 0, 1) := by decide +kernel
theorem dX0_init_13 : decode cX0_init 13 = .ok (.bipush 30, 2) := by decide +kernel
theorem dX0_init_15 : decode cX0_init 15 = .ok (.newarray .int, 2) := by decide +kernel
theorem dX0_init_17 : decode cX0_init 17 = .ok (.putfield 15, 3) := by decide +kernel
theorem dX0_init_20 : decode cX0_init 20 = .ok (.aload_n 0, 1) := by decide +kernel
theorem dX0_init_21 : decode cX0_init 21 = .ok (.bipush 30, 2) := by decide +kernel
theorem dX0_init_23 : decode cX0_init 23 = .ok (.newarray .int, 2) := by decide +kernel
theorem dX0_init_25 : decode cX0_init 25 = .ok (.putfield 18, 3) := by decide +kernel
theorem dX0_init_28 : decode cX0_init 28 = .ok (.aload_n 0, 1) := by decide +kernel
theorem dX0_init_29 : decode cX0_init 29 = .ok (.bipush 30, 2) := by decide +kernel
theorem dX0_init_31 : decode cX0_init 31 = .ok (.newarray .long, 2) := by decide +kernel
theorem dX0_init_33 : decode cX0_init 33 = .ok (.putfield 21, 3) := by decide +kernel
theorem dX0_init_36 : decode cX0_init 36 = .ok (.aload_n 0, 1) := by decide +kernel
theorem dX0_init_37 : decode cX0_init 37 = .ok (.bipush 30, 2) := by decide +kernel
theorem dX0_init_39 : decode cX0_init 39 = .ok (.newarray .int, 2) := by decide +kernel
theorem dX0_init_41 : decode cX0_init 41 = .ok (.putfield 25, 3) := by decide +kernel
theorem dX0_init_44 : decode cX0_init 44 = .ok (.aload_n 0, 1) := by decide +kernel
theorem dX0_init_45 : decode cX0_init 45 = .ok (.bipush 30, 2) := by decide +kernel
theorem dX0_init_47 : decode cX0_init 47 = .ok (.newarray .int, 2) := by decide +kernel
theorem dX0_init_49 : decode cX0_init 49 = .ok (.putfield 28, 3) := by decide +kernel
theorem dX0_init_52 : decode cX0_init 52 = .ok (.return_, 1) := by decide +kernel
theorem dX1_init_0 : decode cX1_init 0 = .ok (.aload_n 0, 1) := by decide +kernel
theorem dX1_init_1 : decode cX1_init 1 = .ok (.invokespecial 3, 3) := by decide +kernel
theorem dX1_init_4 : decode cX1_init 4 = .ok (.aload_n 0, 1) := by decide +kernel
theorem dX1_init_5 : decode cX1_init 5 = .ok (.bipush 12, 2) := by decide +kernel
theorem dX1_init_7 : decode cX1_init 7 = .ok (.newarray .int, 2) := by decide +kernel
theorem dX1_init_9 : decode cX1_init 9 = .ok (.putfield 9, 3) := by decide +kernel
theorem dX1_init_12 : decode cX1_init 12 = .ok (.aload_n 0, 1) := by decide +kernel
theorem dX1_init_13 : decode cX1_init 13 = .ok (.getfield 9, 3) := by decide +kernel
theorem dX1_init_16 : decode cX1_init 16 = .ok (.iconst (-1), 1) := by decide +kernel
theorem dX1_init_17 : decode cX1_init 17 = .ok (.invokestatic 15, 3) := by decide +kernel
theorem dX1_init_20 : decode cX1_init 20 = .ok (.return_, 1) := by decide +kernel
theorem dX2_init_0 : decode cX2_init 0 = .ok (.aload_n 0, 1) := by decide +kernel
theorem dX2_init_1 : decode cX2_init 1 = .ok (.invokespecial 3, 3) := by decide +kernel
theorem dX2_init_4 : decode cX2_init 4 = .ok (.aload_n 0, 1) := by decide +kernel
theorem dX2_init_5 : decode cX2_init 5 = .ok (.bipush 60, 2) := by decide +kernel
theorem dX2_init_7 : decode cX2_init 7 = .ok (.newarray .int, 2) := by decide +kernel
theorem dX2_init_9 : decode cX2_init 9 = .ok (.putfield 9, 3) := by decide +kernel
theorem dX2_init_12 : decode cX2_init 12 = .ok (.aload_n 0, 1) := by decide +kernel
theorem dX2_init_13 : decode cX2_init 13 = .ok (.bipush 60, 2) := by decide +kernel
theorem dX2_init_15 : decode cX2_init 15 = .ok (.newarray .int, 2) := by decide +kernel
theorem dX2_init_17 : decode cX2_init 17 = .ok (.putfield 15, 3) := by decide +kernel
theorem dX2_init_20 : decode cX2_init 20 = .ok (.return_, 1) := by decide +kernel
theorem dX6_init_0 : decode cX6_init 0 = .ok (.aload_n 0, 1) := by decide +kernel
theorem dX6_init_1 : decode cX6_init 1 = .ok (.invokespecial 3, 3) := by decide +kernel
theorem dX6_init_4 : decode cX6_init 4 = .ok (.aload_n 0, 1) := by decide +kernel
theorem dX6_init_5 : decode cX6_init 5 = .ok (.bipush 40, 2) := by decide +kernel
theorem dX6_init_7 : decode cX6_init 7 = .ok (.newarray .int, 2) := by decide +kernel
theorem dX6_init_9 : decode cX6_init 9 = .ok (.putfield 9, 3) := by decide +kernel
theorem dX6_init_12 : decode cX6_init 12 = .ok (.aload_n 0, 1) := by decide +kernel
theorem dX6_init_13 : decode cX6_init 13 = .ok (.bipush 40, 2) := by decide +kernel
theorem dX6_init_15 : decode cX6_init 15 = .ok (.newarray .int, 2) := by decide +kernel
theorem dX6_init_17 : decode cX6_init 17 = .ok (.putfield 15, 3) := by decide +kernel
theorem dX6_init_20 : decode cX6_init 20 = .ok (.aload_n 0, 1) := by decide +kernel
theorem dX6_init_21 : decode cX6_init 21 = .ok (.getfield 9, 3) := by decide +kernel
theorem dX6_init_24 : decode cX6_init 24 = .ok (.iconst (-1), 1) := by decide +kernel
theorem dX6_init_25 : decode cX6_init 25 = .ok (.invokestatic 18, 3) := by decide +kernel
theorem dX6_init_28 : decode cX6_init 28 = .ok (.return_, 1) := by decide +kernel
theorem dX3_init_0 : decode cX3_init 0 = .ok (.aload_n 0, 1) := by decide +kernel
theorem dX3_init_1 : decode cX3_init 1 = .ok (.invokespecial 3, 3) := by decide +kernel
theorem dX3_init_4 : decode cX3_init 4 = .ok (.aload_n 0, 1) := by decide +kernel
theorem dX3_init_5 : decode cX3_init 5 = .ok (.new 9, 3) := by decide +kernel
theorem dX3_init_8 : decode cX3_init 8 = .ok (.dup, 1) := by decide +kernel
theorem dX3_init_9 : decode cX3_init 9 = .ok (.invokespecial 11, 3) := by decide +kernel
theorem dX3_init_12 : decode cX3_init 12 = .ok (.putfield 12, 3) := by decide +kernel
theorem dX3_init_15 : decode cX3_init 15 = .ok (.aload_n 0, 1) := by decide +kernel
theorem dX3_init_16 : decode cX3_init 16 = .ok (.new 18, 3) := by decide +kernel
theorem dX3_init_19 : decode cX3_init 19 = .ok (.dup, 1) := by decide +kernel
theorem dX3_init_20 : decode cX3_init 20 = .ok (.invokespecial 20, 3) := by decide +kernel
theorem dX3_init_23 : decode cX3_init 23 = .ok (.putfield 21, 3) := by decide +kernel
theorem dX3_init_26 : decode cX3_init 26 = .ok (.return_, 1) := by decide +kernel
theorem dX4_init_0 : decode cX4_init 0 = .ok (.aload_n 0, 1) := by decide +kernel
theorem dX4_init_1 : decode cX4_init 1 = .ok (.invokespecial 3, 3) := by decide +kernel
theorem dX4_init_4 : decode cX4_init 4 = .ok (.aload_n 0, 1) := by decide +kernel
theorem dX4_init_5 : decode cX4_init 5 = .ok (.sipush 480, 3) := by decide +kernel
theorem dX4_init_8 : decode cX4_init 8 = .ok (.newarray .int, 2) := by decide +kernel
theorem dX4_init_10 : decode cX4_init 10 = .ok (.putfield 9, 3) := by decide +kernel
theorem dX4_init_13 : decode cX4_init 13 = .ok (.aload_n 0, 1) := by decide +kernel
theorem dX4_init_14 : decode cX4_init 14 = .ok (.sipush 480, 3) := by decide +kernel
theorem dX4_init_17 : decode cX4_init 17 = .ok (.newarray .int, 2) := by decide +kernel
theorem dX4_init_19 : decode cX4_init 19 = .ok (.putfield 15, 3) := by decide +kernel
theorem dX4_init_22 : decode cX4_init 22 = .ok (.aload_n 0, 1) := by decide +kernel
theorem dX4_init_23 : decode cX4_init 23 = .ok (.bipush 20, 2) := by decide +kernel
theorem dX4_init_25 : decode cX4_init 25 = .ok (.newarray .int, 2) := by decide +kernel
theorem dX4_init_27 : decode cX4_init 27 = .ok (.putfield 18, 3) := by decide +kernel
theorem dX4_init_30 : decode cX4_init 30 = .ok (.return_, 1) := by decide +kernel
theorem dX5_init_0 : decode cX5_init 0 = .ok (.aload_n 0, 1) := by decide +kernel
theorem dX5_init_1 : decode cX5_init 1 = .ok (.invokespecial 3, 3) := by decide +kernel
theorem dX5_init_4 : decode cX5_init 4 = .ok (.aload_n 0, 1) := by decide +kernel
theorem dX5_init_5 : decode cX5_init 5 = .ok (.new 9, 3) := by decide +kernel
theorem dX5_init_8 : decode cX5_init 8 = .ok (.dup, 1) := by decide +kernel
theorem dX5_init_9 : decode cX5_init 9 = .ok (.invokespecial 11, 3) := by decide +kernel
theorem dX5_init_12 : decode cX5_init 12 = .ok (.putfield 12, 3) := by decide +kernel
theorem dX5_init_15 : decode cX5_init 15 = .ok (.aload_n 0, 1) := by decide +kernel
theorem dX5_init_16 : decode cX5_init 16 = .ok (.iconst (-1), 1) := by decide +kernel
theorem dX5_init_17 : decode cX5_init 17 = .ok (.putfield 18, 3) := by decide +kernel
theorem dX5_init_20 : decode cX5_init 20 = .ok (.return_, 1) := by decide +kernel
theorem dX7_init_0 : decode cX7_init 0 = .ok (.aload_n 0, 1) := by decide +kernel
theorem dX7_init_1 : decode cX7_init 1 = .ok (.invokespecial 1, 3) := by decide +kernel
theorem dX7_init_4 : decode cX7_init 4 = .ok (.aload_n 0, 1) := by decide +kernel
theorem dX7_init_5 : decode cX7_init 5 = .ok (.new 7, 3) := by decide +kernel
theorem dX7_init_8 : decode cX7_init 8 = .ok (.dup, 1) := by decide +kernel
theorem dX7_init_9 : decode cX7_init 9 = .ok (.invokespecial 9, 3) := by decide +kernel
theorem dX7_init_12 : decode cX7_init 12 = .ok (.putfield 10, 3) := by decide +kernel
theorem dX7_init_15 : decode cX7_init 15 = .ok (.aload_n 0, 1) := by decide +kernel
theorem dX7_init_16 : decode cX7_init 16 = .ok (.new 16, 3) := by decide +kernel
theorem dX7_init_19 : decode cX7_init 19 = .ok (.dup, 1) := by decide +kernel
theorem dX7_init_20 : decode cX7_init 20 = .ok (.invokespecial 18, 3) := by decide +kernel
theorem dX7_init_23 : decode cX7_init 23 = .ok (.putfield 19, 3) := by decide +kernel
theorem dX7_init_26 : decode cX7_init 26 = .ok (.aload_n 0, 1) := by decide +kernel
theorem dX7_init_27 : decode cX7_init 27 = .ok (.aload_n 0, 1) := by decide +kernel
theorem dX7_init_28 : decode cX7_init 28 = .ok (.getfield 19, 3) := by decide +kernel
theorem dX7_init_31 : decode cX7_init 31 = .ok (.invokevirtual 23, 3) := by decide +kernel
theorem dX7_init_34 : decode cX7_init 34 = .ok (.putfield 27, 3) := by decide +kernel
theorem dX7_init_37 : decode cX7_init 37 = .ok (.aload_n 0, 1) := by decide +kernel
theorem dX7_init_38 : decode cX7_init 38 = .ok (.aload_n 0, 1) := by decide +kernel
theorem dX7_init_39 : decode cX7_init 39 = .ok (.getfield 19, 3) := by decide +kernel
theorem dX7_init_42 : decode cX7_init 42 = .ok (.invokevirtual 30, 3) := by decide +kernel
theorem dX7_init_45 : decode cX7_init 45 = .ok (.putfield 34, 3) := by decide +kernel
theorem dX7_init_48 : decode cX7_init 48 = .ok (.aload_n 0, 1) := by decide +kernel
theorem dX7_init_49 : decode cX7_init 49 = .ok (.new 37, 3) := by decide +kernel
theorem dX7_init_52 : decode cX7_init 52 = .ok (.dup, 1) := by decide +kernel
theorem dX7_init_53 : decode cX7_init 53 = .ok (.invokespecial 39, 3) := by decide +kernel
theorem dX7_init_56 : decode cX7_init 56 = .ok (.putfield 40, 3) := by decide +kernel
theorem dX7_init_59 : decode cX7_init 59 = .ok (.aload_n 0, 1) := by decide +kernel
theorem dX7_init_60 : decode cX7_init 60 = .ok (.new 44, 3) := by decide +kernel
theorem dX7_init_63 : decode cX7_init 63 = .ok (.dup, 1) := by decide +kernel
theorem dX7_init_64 : decode cX7_init 64 = .ok (.invokespecial 46, 3) := by decide +kernel
theorem dX7_init_67 : decode cX7_init 67 = .ok (.putfield 47, 3) := by decide +kernel
theorem dX7_init_70 : decode cX7_init 70 = .ok (.aload_n 0, 1) := by decide +kernel
theorem dX7_init_71 : decode cX7_init 71 = .ok (.new 51, 3) := by decide +kernel
theorem dX7_init_74 : decode cX7_init 74 = .ok (.dup, 1) := by decide +kernel
theorem dX7_init_75 : decode cX7_init 75 = .ok (.invokespecial 53, 3) := by decide +kernel
theorem dX7_init_78 : decode cX7_init 78 = .ok (.putfield 54, 3) := by decide +kernel
theorem dX7_init_81 : decode cX7_init 81 = .ok (.return_, 1) := by decide +kernel
theorem dX3_pile_0 : decode cX3_pile 0 = .ok (.aload_n 0, 1) := by decide +kernel
theorem dX3_pile_1 : decode cX3_pile 1 = .ok (.getfield 12, 3) := by decide +kernel
theorem dX3_pile_4 : decode cX3_pile 4 = .ok (.areturn, 1) := by decide +kernel
theorem dX3_table_0 : decode cX3_table 0 = .ok (.aload_n 0, 1) := by decide +kernel
theorem dX3_table_1 : decode cX3_table 1 = .ok (.getfield 21, 3) := by decide +kernel
theorem dX3_table_4 : decode cX3_table 4 = .ok (.areturn, 1) := by decide +kernel
set_option maxRecDepth 100000 in
set_option maxHeartbeats 4000000 in
/-- Arrays.fill: all N places hold v -/
theorem mJ7_fillK (l : Launch) (D : va_G) (cI cJ : ClassId) (tk : Nat) (tf : Nat → Int32) (q N : Nat) (hN9 : N < 2 ^ 31) (v : Int32) (f : Nat → Int32) : Mk l D cI cJ tk tf yJ7_fill_53178 cJ7_fill_53178 4 { frames := 0, cells := 0, slots := 0, locals := 0 } [.ref q, .int v] [(q, .inl (cI, N, .inl f))] (fun _ => [(q, .inl (cI, N, .inl (fun j => if j < N then v else f j)))]) 0 0 := by
  refine opn_k (by decide +kernel) (Nat.le_of_ble_eq_true rfl) (fun p e s m below meth c C hN hnm hr G ls hl => ?_)
  replace hl : lv_has ls 4 [(0, .ref q), (1, .int v)] := hl
  refine lv_iconst (v := 0) C.1 C.2.1 dJ7_fill_53178_0 (by decide) ?_
  refine lv_istore_n (lv' := [(2, .int 0), (0, .ref q), (1, .int v)]) C.1 C.2.1 dJ7_fill_53178_1 rfl hl (by decide) rfl (fun ls hl => ?_)
  refine lv_aload_n C.1 C.2.1 dJ7_fill_53178_2 rfl (lv_at hl 1 rfl) ?_
  refine va_alen C.1 C.2.1 C.2.2.2.2.2.1 G.1 0 0 rfl (ty := .int) rfl (v := nI N) rfl dJ7_fill_53178_3 ?_
  refine lv_istore_n (lv' := [(3, .int (nI N)), (2, .int 0), (0, .ref q), (1, .int v)]) C.1 C.2.1 dJ7_fill_53178_4 rfl hl (by decide) rfl (fun ls hl => ?_)
  have loop : ∀ (k i : Nat) (y : Int32) (H : Heap) (locs : List Loc) (ls : Array Slot), i ≤ N → N - i < k → y = nI i → Wl D (va_A [(q, .inl (cI, N, .inl f))] s.heap.size) s [(q, .inl (cI, N, .inl (fun j => if j < i then v else f j)))] H locs → lv_has ls 4 [(3, .int (nI N)), (2, .int y), (0, .ref q), (1, .int v)] →
      W p l e { frames := 0, cells := 0, slots := 0, locals := 0 } s m #[.ref q, .int v] below meth c H locs 0 0 (MQ below (va_Qv (fun _ : Nat → Nat => True) (fun b t => va_P D vwCl ((fun _ => [(q, .inl (cI, N, .inl (fun j => if j < N then v else f j)))]) b) t.heap ∧ va_D (va_A [(q, .inl (cI, N, .inl f))] s.heap.size) ((fun _ => [(q, .inl (cI, N, .inl (fun j => if j < N then v else f j)))]) b)) (va_A [(q, .inl (cI, N, .inl f))] s.heap.size)) #[.ref q, .int v] s 0 0 (va_A [(q, .inl (cI, N, .inl f))] s.heap.size)) (F0 m 5 ls []) := by
    intro k
    induction k with
    | zero => intro i y H locs ls h1 h2; exact absurd h2 (Nat.not_lt_zero _)
    | succ k ih =>
      intro i y H locs ls h1 h2 hy G hl
      refine lv_iload_n C.1 C.2.1 dJ7_fill_53178_5 rfl (lv_at hl 1 rfl) ?_
      refine lv_iload_n C.1 C.2.1 dJ7_fill_53178_6 rfl (lv_at hl 0 rfl) ?_
      refine lv_icmp_ge (tgt := 20) C.1 C.2.1 dJ7_fill_53178_7 (by decide) (fun c1 => ?_) (fun c1 => ?_)
      · rw [hy, nI_leI hN9 (by omega)] at c1
        obtain rfl : i = N := by omega
        exact l_end (post := fun _ => [(q, .inl (cI, i, .inl (fun j => if j < i then v else f j)))]) (fun _ => 0) C hr G dJ7_fill_53178_20 ⟨Nat.le_refl _, Nat.le_refl _⟩
      · rw [hy, nI_leI hN9 (by omega)] at c1
        have hin : vp_in y N := by rw [hy]; exact vp_in_nI (by omega) hN9
        refine lv_aload_n C.1 C.2.1 dJ7_fill_53178_10 rfl (lv_at hl 2 rfl) ?_
        refine lv_iload_n C.1 C.2.1 dJ7_fill_53178_11 rfl (lv_at hl 1 rfl) ?_
        refine lv_iload_n C.1 C.2.1 dJ7_fill_53178_12 rfl (lv_at hl 3 rfl) ?_
        refine va_iast C.1 C.2.1 C.2.2.2.2.2.1 G.1 G.2.1 G.2.2 0 0 rfl rfl hin dJ7_fill_53178_13 (fun H locs hP hD hS => ?_)
        obtain ⟨y2, ey2⟩ : ∃ z : Int32, z = y + 1 := ⟨_, rfl⟩
        refine lv_iinc (v := y2) (lv' := [(2, .int y2), (3, .int (nI N)), (0, .ref q), (1, .int v)]) C.1 C.2.1 dJ7_fill_53178_14 hl (k := 1) rfl (by rw [ey2]; rfl) (by decide) rfl (fun ls hl => ?_)
        refine lv_goto (tgt := 5) C.1 C.2.1 dJ7_fill_53178_17 (by decide) ?_
        have hw : upd (fun j => if j < i then v else f j) y.toNatClampNeg v = fun j => if j < i + 1 then v else f j := by
          funext j
          rw [hy, nI_clamp (by omega)]
          unfold upd
          dsimp only
          by_cases e1 : j = i
          · rw [if_pos e1, if_pos (by omega)]
          · by_cases e2 : j < i
            · rw [if_neg e1, if_pos e2, if_pos (by omega)]
            · rw [if_neg e1, if_neg e2, if_neg (by omega)]
        have G2 : Wl D (va_A [(q, .inl (cI, N, .inl f))] s.heap.size) s [(q, .inl (cI, N, .inl (fun j => if j < i + 1 then v else f j)))] H locs := by
          rw [← hw]
          exact ⟨hP, hD, hS⟩
        exact ih (i + 1) y2 H locs ls (by omega) (by omega) (by rw [ey2, hy, nI_1]) G2 (lv_sub hl [1, 0, 2, 3] rfl)
  exact loop (N + 1) 0 0 s.heap [] ls (Nat.zero_le _) (by omega) nI_0.symm (by
    have h9 : (fun j => if j < 0 then v else f j) = f := by funext j; rw [if_neg (Nat.not_lt_zero _)]
    rw [h9]; exact G) hl
theorem mgX3_pile (l : Launch) (D : va_G) (cI cJ : ClassId) (tk : Nat) (tf : Nat → Int32) (h0 u1 u2 : Nat) : Mg l D cI cJ tk tf yX3_pile cX3_pile 1 (some (.object "ErrorNames$Pile")) { frames := 0, cells := 0, slots := 0, locals := 0 } [.ref h0] [(h0, .inr (3, [.ref u1, .ref u2]))] u1 := by
  refine opn_g (by decide +kernel) (Nat.le_of_ble_eq_true rfl) (fun p e s m below meth c C hr G ls hl => ?_)
  replace hl : lv_has ls 1 [(0, .ref h0)] := hl
  refine lv_aload_n C.1 C.2.1 dX3_pile_0 rfl (lv_at hl 0 rfl) ?_
  refine l_get (Cn := RX3) (T := TX3) (N := 2) (ci := 3) C G 0 0 inX3 rfl rfl (by decide) k_136 rfl rfl dX3_pile_1 ?_
  exact l_aret C hr G dX3_pile_4
theorem mgX3_table (l : Launch) (D : va_G) (cI cJ : ClassId) (tk : Nat) (tf : Nat → Int32) (h0 u1 u2 : Nat) : Mg l D cI cJ tk tf yX3_table cX3_table 1 (some (.object "ErrorNames$Table")) { frames := 0, cells := 0, slots := 0, locals := 0 } [.ref h0] [(h0, .inr (3, [.ref u1, .ref u2]))] u2 := by
  refine opn_g (by decide +kernel) (Nat.le_of_ble_eq_true rfl) (fun p e s m below meth c C hr G ls hl => ?_)
  replace hl : lv_has ls 1 [(0, .ref h0)] := hl
  refine lv_aload_n C.1 C.2.1 dX3_table_0 rfl (lv_at hl 0 rfl) ?_
  refine l_get (Cn := RX3) (T := TX3) (N := 2) (ci := 3) C G 0 1 inX3 rfl rfl (by decide) k_137 rfl rfl dX3_table_1 ?_
  exact l_aret C hr G dX3_table_4
set_option maxRecDepth 100000 in
set_option maxHeartbeats 4000000 in
theorem mX0_init (l : Launch) (D : va_G) (cI cJ : ClassId) (tk : Nat) (tf : Nat → Int32) (h0 : Nat) : Mk l D cI cJ tk tf yX0_init cX0_init 1 { frames := 1, cells := 6, slots := 180, locals := 12 } [.ref h0] [(h0, .inr (0, [.null, .null, .null, .null, .null, .null, .int 0, .int 0]))] (fun (b : Nat → Nat) => [(h0, .inr (0, [.ref (b 0), .ref (b 1), .ref (b 2), .ref (b 3), .ref (b 4), .ref (b 5), .int 0, .int 0])), ((b 0), .inl (cI, 30, .inl (fun _ => 0))), ((b 1), .inl (cI, 30, .inl (fun _ => 0))), ((b 2), .inl (cI, 30, .inl (fun _ => 0))), ((b 3), .inl (cJ, 30, .inr (.inl (fun _ => 0)))), ((b 4), .inl (cI, 30, .inl (fun _ => 0))), ((b 5), .inl (cI, 30, .inl (fun _ => 0)))]) 6 180 := by
  refine opn_k (by decide +kernel) (Nat.le_of_ble_eq_true rfl) (fun p e s m below meth c C hN hnm hr G ls hl => ?_)
  replace hl : lv_has ls 1 [(0, .ref h0)] := hl
  have hA : ∀ q, s.heap.size ≤ q → va_A [(h0, .inr (0, [.null, .null, .null, .null, .null, .null, .int 0, .int 0]))] s.heap.size q := fun q h => Or.inr h
  refine lv_aload_n C.1 C.2.1 dX0_init_0 rfl (lv_at hl 0 rfl) ?_
  refine l_obj C k_167 k_79 k_80 hl.1 dX0_init_1 (by decide) (by decide) ?_
  refine lv_aload_n C.1 C.2.1 dX0_init_4 rfl (lv_at hl 0 rfl) ?_
  refine lv_bipush (v := (30)) C.1 C.2.1 dX0_init_5 (by decide) ?_
  refine l_newI C hA G 30 (by decide) (by decide) (by decide) (by decide) (by decide) dX0_init_7 (fun q1 H G => ?_)
  refine l_putF (ty := .array .int) (Cn := RX0) (T := TX0) (N := 8) (ci := 0) C hnm G 0 0 inX0 tyX0 tyX0_ok nmX0 rfl rfl (by decide) k_168 rfl rfl rfl (by decide +kernel) rfl rfl (Nat.le_of_ble_eq_true rfl) rfl dX0_init_9 (fun H locs G => ?_)
  replace G : Wl D (va_A [(h0, .inr (0, [.null, .null, .null, .null, .null, .null, .int 0, .int 0]))] s.heap.size) s [(h0, .inr (0, [.ref q1, .null, .null, .null, .null, .null, .int 0, .int 0])), (q1, .inl (cI, 30, .inl (fun _ => 0)))] H locs := G
  refine lv_aload_n C.1 C.2.1 dX0_init_12 rfl (lv_at hl 0 rfl) ?_
  refine lv_bipush (v := (30)) C.1 C.2.1 dX0_init_13 (by decide) ?_
  refine l_newI C hA G 30 (by decide) (by decide) (by decide) (by decide) (by decide) dX0_init_15 (fun q2 H G => ?_)
  refine l_putF (ty := .array .int) (Cn := RX0) (T := TX0) (N := 8) (ci := 0) C hnm G 0 1 inX0 tyX0 tyX0_ok nmX0 rfl rfl (by decide) k_169 rfl rfl rfl (by decide +kernel) rfl rfl (Nat.le_of_ble_eq_true rfl) rfl dX0_init_17 (fun H locs G => ?_)
  replace G : Wl D (va_A [(h0, .inr (0, [.null, .null, .null, .null, .null, .null, .int 0, .int 0]))] s.heap.size) s [(h0, .inr (0, [.ref q1, .ref q2, .null, .null, .null, .null, .int 0, .int 0])), (q1, .inl (cI, 30, .inl (fun _ => 0))), (q2, .inl (cI, 30, .inl (fun _ => 0)))] H locs := G
  refine lv_aload_n C.1 C.2.1 dX0_init_20 rfl (lv_at hl 0 rfl) ?_
  refine lv_bipush (v := (30)) C.1 C.2.1 dX0_init_21 (by decide) ?_
  refine l_newI C hA G 30 (by decide) (by decide) (by decide) (by decide) (by decide) dX0_init_23 (fun q3 H G => ?_)
  refine l_putF (ty := .array .int) (Cn := RX0) (T := TX0) (N := 8) (ci := 0) C hnm G 0 2 inX0 tyX0 tyX0_ok nmX0 rfl rfl (by decide) k_170 rfl rfl rfl (by decide +kernel) rfl rfl (Nat.le_of_ble_eq_true rfl) rfl dX0_init_25 (fun H locs G => ?_)
  replace G : Wl D (va_A [(h0, .inr (0, [.null, .null, .null, .null, .null, .null, .int 0, .int 0]))] s.heap.size) s [(h0, .inr (0, [.ref q1, .ref q2, .ref q3, .null, .null, .null, .int 0, .int 0])), (q1, .inl (cI, 30, .inl (fun _ => 0))), (q2, .inl (cI, 30, .inl (fun _ => 0))), (q3, .inl (cI, 30, .inl (fun _ => 0)))] H locs := G
  refine lv_aload_n C.1 C.2.1 dX0_init_28 rfl (lv_at hl 0 rfl) ?_
  refine lv_bipush (v := (30)) C.1 C.2.1 dX0_init_29 (by decide) ?_
  refine l_newJ C hA G 30 (by decide) (by decide) (by decide) (by decide) (by decide) dX0_init_31 (fun q4 H G => ?_)
  refine l_putF (ty := .array .long) (Cn := RX0) (T := TX0) (N := 8) (ci := 0) C hnm G 0 3 inX0 tyX0 tyX0_ok nmX0 rfl rfl (by decide) k_171 rfl rfl rfl (by decide +kernel) rfl rfl (Nat.le_of_ble_eq_true rfl) rfl dX0_init_33 (fun H locs G => ?_)
  replace G : Wl D (va_A [(h0, .inr (0, [.null, .null, .null, .null, .null, .null, .int 0, .int 0]))] s.heap.size) s [(h0, .inr (0, [.ref q1, .ref q2, .ref q3, .ref q4, .null, .null, .int 0, .int 0])), (q1, .inl (cI, 30, .inl (fun _ => 0))), (q2, .inl (cI, 30, .inl (fun _ => 0))), (q3, .inl (cI, 30, .inl (fun _ => 0))), (q4, .inl (cJ, 30, .inr (.inl (fun _ => 0))))] H locs := G
  refine lv_aload_n C.1 C.2.1 dX0_init_36 rfl (lv_at hl 0 rfl) ?_
  refine lv_bipush (v := (30)) C.1 C.2.1 dX0_init_37 (by decide) ?_
  refine l_newI C hA G 30 (by decide) (by decide) (by decide) (by decide) (by decide) dX0_init_39 (fun q5 H G => ?_)
  refine l_putF (ty := .array .int) (Cn := RX0) (T := TX0) (N := 8) (ci := 0) C hnm G 0 4 inX0 tyX0 tyX0_ok nmX0 rfl rfl (by decide) k_172 rfl rfl rfl (by decide +kernel) rfl rfl (Nat.le_of_ble_eq_true rfl) rfl dX0_init_41 (fun H locs G => ?_)
  replace G : Wl D (va_A [(h0, .inr (0, [.null, .null, .null, .null, .null, .null, .int 0, .int 0]))] s.heap.size) s [(h0, .inr (0, [.ref q1, .ref q2, .ref q3, .ref q4, .ref q5, .null, .int 0, .int 0])), (q1, .inl (cI, 30, .inl (fun _ => 0))), (q2, .inl (cI, 30, .inl (fun _ => 0))), (q3, .inl (cI, 30, .inl (fun _ => 0))), (q4, .inl (cJ, 30, .inr (.inl (fun _ => 0)))), (q5, .inl (cI, 30, .inl (fun _ => 0)))] H locs := G
  refine lv_aload_n C.1 C.2.1 dX0_init_44 rfl (lv_at hl 0 rfl) ?_
  refine lv_bipush (v := (30)) C.1 C.2.1 dX0_init_45 (by decide) ?_
  refine l_newI C hA G 30 (by decide) (by decide) (by decide) (by decide) (by decide) dX0_init_47 (fun q6 H G => ?_)
  refine l_putF (ty := .array .int) (Cn := RX0) (T := TX0) (N := 8) (ci := 0) C hnm G 0 5 inX0 tyX0 tyX0_ok nmX0 rfl rfl (by decide) k_173 rfl rfl rfl (by decide +kernel) rfl rfl (Nat.le_of_ble_eq_true rfl) rfl dX0_init_49 (fun H locs G => ?_)
  replace G : Wl D (va_A [(h0, .inr (0, [.null, .null, .null, .null, .null, .null, .int 0, .int 0]))] s.heap.size) s [(h0, .inr (0, [.ref q1, .ref q2, .ref q3, .ref q4, .ref q5, .ref q6, .int 0, .int 0])), (q1, .inl (cI, 30, .inl (fun _ => 0))), (q2, .inl (cI, 30, .inl (fun _ => 0))), (q3, .inl (cI, 30, .inl (fun _ => 0))), (q4, .inl (cJ, 30, .inr (.inl (fun _ => 0)))), (q5, .inl (cI, 30, .inl (fun _ => 0))), (q6, .inl (cI, 30, .inl (fun _ => 0)))] H locs := G
  have G2 : Wl D (va_A [(h0, .inr (0, [.null, .null, .null, .null, .null, .null, .int 0, .int 0]))] s.heap.size) s ((fun (b : Nat → Nat) => [(h0, .inr (0, [.ref (b 0), .ref (b 1), .ref (b 2), .ref (b 3), .ref (b 4), .ref (b 5), .int 0, .int 0])), ((b 0), .inl (cI, 30, .inl (fun _ => 0))), ((b 1), .inl (cI, 30, .inl (fun _ => 0))), ((b 2), .inl (cI, 30, .inl (fun _ => 0))), ((b 3), .inl (cJ, 30, .inr (.inl (fun _ => 0)))), ((b 4), .inl (cI, 30, .inl (fun _ => 0))), ((b 5), .inl (cI, 30, .inl (fun _ => 0)))]) (fun j => match j with | 0 => q1 | 1 => q2 | 2 => q3 | 3 => q4 | 4 => q5 | 5 => q6 | _ => 0)) H locs := ⟨G.1.sub [0, 1, 2, 3, 4, 5, 6] rfl, G.2.1.sub [0, 1, 2, 3, 4, 5, 6] (by decide) rfl, G.2.2⟩
  exact l_end (post := fun (b : Nat → Nat) => [(h0, .inr (0, [.ref (b 0), .ref (b 1), .ref (b 2), .ref (b 3), .ref (b 4), .ref (b 5), .int 0, .int 0])), ((b 0), .inl (cI, 30, .inl (fun _ => 0))), ((b 1), .inl (cI, 30, .inl (fun _ => 0))), ((b 2), .inl (cI, 30, .inl (fun _ => 0))), ((b 3), .inl (cJ, 30, .inr (.inl (fun _ => 0)))), ((b 4), .inl (cI, 30, .inl (fun _ => 0))), ((b 5), .inl (cI, 30, .inl (fun _ => 0)))]) (fun j => match j with | 0 => q1 | 1 => q2 | 2 => q3 | 3 => q4 | 4 => q5 | 5 => q6 | _ => 0) C hr G2 dX0_init_52 ⟨Nat.le_of_ble_eq_true rfl, Nat.le_of_ble_eq_true rfl⟩
set_option maxRecDepth 100000 in
set_option maxHeartbeats 4000000 in
theorem mX1_init (l : Launch) (D : va_G) (cI cJ : ClassId) (tk : Nat) (tf : Nat → Int32) (h0 : Nat) : Mk l D cI cJ tk tf yX1_init cX1_init 1 { frames := 1, cells := 1, slots := 12, locals := 23 } [.ref h0] [(h0, .inr (1, [.null]))] (fun (b : Nat → Nat) => [(h0, .inr (1, [.ref (b 0)])), ((b 0), .inl (cI, 12, .inl (fun j => if j < 12 then (-1) else 0)))]) 1 12 := by
  refine opn_k (by decide +kernel) (Nat.le_of_ble_eq_true rfl) (fun p e s m below meth c C hN hnm hr G ls hl => ?_)
  replace hl : lv_has ls 1 [(0, .ref h0)] := hl
  have hA : ∀ q, s.heap.size ≤ q → va_A [(h0, .inr (1, [.null]))] s.heap.size q := fun q h => Or.inr h
  refine lv_aload_n C.1 C.2.1 dX1_init_0 rfl (lv_at hl 0 rfl) ?_
  refine l_obj C k_156 k_79 k_80 hl.1 dX1_init_1 (by decide) (by decide) ?_
  refine lv_aload_n C.1 C.2.1 dX1_init_4 rfl (lv_at hl 0 rfl) ?_
  refine lv_bipush (v := (12)) C.1 C.2.1 dX1_init_5 (by decide) ?_
  refine l_newI C hA G 12 (by decide) (by decide) (by decide) (by decide) (by decide) dX1_init_7 (fun q1 H G => ?_)
  refine l_putF (ty := .array .int) (Cn := RX1) (T := TX1) (N := 1) (ci := 1) C hnm G 0 0 inX1 tyX1 tyX1_ok nmX1 rfl rfl (by decide) k_158 rfl rfl rfl (by decide +kernel) rfl rfl (Nat.le_of_ble_eq_true rfl) rfl dX1_init_9 (fun H locs G => ?_)
  replace G : Wl D (va_A [(h0, .inr (1, [.null]))] s.heap.size) s [(h0, .inr (1, [.ref q1])), (q1, .inl (cI, 12, .inl (fun _ => 0)))] H locs := G
  refine lv_aload_n C.1 C.2.1 dX1_init_12 rfl (lv_at hl 0 rfl) ?_
  refine l_get (Cn := RX1) (T := TX1) (N := 1) (ci := 1) C G 0 0 inX1 rfl rfl (by decide) k_158 rfl rfl dX1_init_13 ?_
  refine lv_iconst (v := (-1)) C.1 C.2.1 dX1_init_16 (by decide) ?_
  refine l_stat (As := [.ref q1, .int (-1)]) (na := 2) (wr := [(h0, .inr (1, [.ref q1]))]) C hA hN G (mJ7_fillK l D cI cJ tk tf q1 12 (by decide) (-1) (fun _ => 0)) k_157 k_127 k_64 k_128 [1] [0] rfl rfl (by decide) (by decide) (by decide) (by decide +kernel) ⟨Nat.le_of_ble_eq_true rfl, Nat.le_of_ble_eq_true rfl⟩ rfl rfl ⟨Nat.le_of_ble_eq_true rfl, Nat.le_of_ble_eq_true rfl⟩ rfl hl.1 rfl (Nat.le_of_ble_eq_true rfl) dX1_init_17 (fun b2 H locs G => ?_)
  replace G : Wl D (va_A [(h0, .inr (1, [.null]))] s.heap.size) s [(h0, .inr (1, [.ref q1])), (q1, .inl (cI, 12, .inl (fun j => if j < 12 then (-1) else 0)))] H locs := G
  have G2 : Wl D (va_A [(h0, .inr (1, [.null]))] s.heap.size) s ((fun (b : Nat → Nat) => [(h0, .inr (1, [.ref (b 0)])), ((b 0), .inl (cI, 12, .inl (fun j => if j < 12 then (-1) else 0)))]) (fun j => match j with | 0 => q1 | _ => 0)) H locs := ⟨G.1.sub [0, 1] rfl, G.2.1.sub [0, 1] (by decide) rfl, G.2.2⟩
  exact l_end (post := fun (b : Nat → Nat) => [(h0, .inr (1, [.ref (b 0)])), ((b 0), .inl (cI, 12, .inl (fun j => if j < 12 then (-1) else 0)))]) (fun j => match j with | 0 => q1 | _ => 0) C hr G2 dX1_init_20 ⟨Nat.le_of_ble_eq_true rfl, Nat.le_of_ble_eq_true rfl⟩
set_option maxRecDepth 100000 in
set_option maxHeartbeats 4000000 in
theorem mX2_init (l : Launch) (D : va_G) (cI cJ : ClassId) (tk : Nat) (tf : Nat → Int32) (h0 : Nat) : Mk l D cI cJ tk tf yX2_init cX2_init 1 { frames := 1, cells := 2, slots := 120, locals := 12 } [.ref h0] [(h0, .inr (2, [.null, .null, .int 0]))] (fun (b : Nat → Nat) => [(h0, .inr (2, [.ref (b 0), .ref (b 1), .int 0])), ((b 0), .inl (cI, 60, .inl (fun _ => 0))), ((b 1), .inl (cI, 60, .inl (fun _ => 0)))]) 2 120 := by
  refine opn_k (by decide +kernel) (Nat.le_of_ble_eq_true rfl) (fun p e s m below meth c C hN hnm hr G ls hl => ?_)
  replace hl : lv_has ls 1 [(0, .ref h0)] := hl
  have hA : ∀ q, s.heap.size ≤ q → va_A [(h0, .inr (2, [.null, .null, .int 0]))] s.heap.size q := fun q h => Or.inr h
  refine lv_aload_n C.1 C.2.1 dX2_init_0 rfl (lv_at hl 0 rfl) ?_
  refine l_obj C k_109 k_79 k_80 hl.1 dX2_init_1 (by decide) (by decide) ?_
  refine lv_aload_n C.1 C.2.1 dX2_init_4 rfl (lv_at hl 0 rfl) ?_
  refine lv_bipush (v := (60)) C.1 C.2.1 dX2_init_5 (by decide) ?_
  refine l_newI C hA G 60 (by decide) (by decide) (by decide) (by decide) (by decide) dX2_init_7 (fun q1 H G => ?_)
  refine l_putF (ty := .array .int) (Cn := RX2) (T := TX2) (N := 3) (ci := 2) C hnm G 0 0 inX2 tyX2 tyX2_ok nmX2 rfl rfl (by decide) k_110 rfl rfl rfl (by decide +kernel) rfl rfl (Nat.le_of_ble_eq_true rfl) rfl dX2_init_9 (fun H locs G => ?_)
  replace G : Wl D (va_A [(h0, .inr (2, [.null, .null, .int 0]))] s.heap.size) s [(h0, .inr (2, [.ref q1, .null, .int 0])), (q1, .inl (cI, 60, .inl (fun _ => 0)))] H locs := G
  refine lv_aload_n C.1 C.2.1 dX2_init_12 rfl (lv_at hl 0 rfl) ?_
  refine lv_bipush (v := (60)) C.1 C.2.1 dX2_init_13 (by decide) ?_
  refine l_newI C hA G 60 (by decide) (by decide) (by decide) (by decide) (by decide) dX2_init_15 (fun q2 H G => ?_)
  refine l_putF (ty := .array .int) (Cn := RX2) (T := TX2) (N := 3) (ci := 2) C hnm G 0 1 inX2 tyX2 tyX2_ok nmX2 rfl rfl (by decide) k_111 rfl rfl rfl (by decide +kernel) rfl rfl (Nat.le_of_ble_eq_true rfl) rfl dX2_init_17 (fun H locs G => ?_)
  replace G : Wl D (va_A [(h0, .inr (2, [.null, .null, .int 0]))] s.heap.size) s [(h0, .inr (2, [.ref q1, .ref q2, .int 0])), (q1, .inl (cI, 60, .inl (fun _ => 0))), (q2, .inl (cI, 60, .inl (fun _ => 0)))] H locs := G
  have G2 : Wl D (va_A [(h0, .inr (2, [.null, .null, .int 0]))] s.heap.size) s ((fun (b : Nat → Nat) => [(h0, .inr (2, [.ref (b 0), .ref (b 1), .int 0])), ((b 0), .inl (cI, 60, .inl (fun _ => 0))), ((b 1), .inl (cI, 60, .inl (fun _ => 0)))]) (fun j => match j with | 0 => q1 | 1 => q2 | _ => 0)) H locs := ⟨G.1.sub [0, 1, 2] rfl, G.2.1.sub [0, 1, 2] (by decide) rfl, G.2.2⟩
  exact l_end (post := fun (b : Nat → Nat) => [(h0, .inr (2, [.ref (b 0), .ref (b 1), .int 0])), ((b 0), .inl (cI, 60, .inl (fun _ => 0))), ((b 1), .inl (cI, 60, .inl (fun _ => 0)))]) (fun j => match j with | 0 => q1 | 1 => q2 | _ => 0) C hr G2 dX2_init_20 ⟨Nat.le_of_ble_eq_true rfl, Nat.le_of_ble_eq_true rfl⟩
set_option maxRecDepth 100000 in
set_option maxHeartbeats 4000000 in
theorem mX6_init (l : Launch) (D : va_G) (cI cJ : ClassId) (tk : Nat) (tf : Nat → Int32) (h0 : Nat) : Mk l D cI cJ tk tf yX6_init cX6_init 1 { frames := 1, cells := 2, slots := 80, locals := 23 } [.ref h0] [(h0, .inr (6, [.null, .null]))] (fun (b : Nat → Nat) => [(h0, .inr (6, [.ref (b 0), .ref (b 1)])), ((b 0), .inl (cI, 40, .inl (fun j => if j < 40 then (-1) else 0))), ((b 1), .inl (cI, 40, .inl (fun _ => 0)))]) 2 80 := by
  refine opn_k (by decide +kernel) (Nat.le_of_ble_eq_true rfl) (fun p e s m below meth c C hN hnm hr G ls hl => ?_)
  replace hl : lv_has ls 1 [(0, .ref h0)] := hl
  have hA : ∀ q, s.heap.size ≤ q → va_A [(h0, .inr (6, [.null, .null]))] s.heap.size q := fun q h => Or.inr h
  refine lv_aload_n C.1 C.2.1 dX6_init_0 rfl (lv_at hl 0 rfl) ?_
  refine l_obj C k_125 k_79 k_80 hl.1 dX6_init_1 (by decide) (by decide) ?_
  refine lv_aload_n C.1 C.2.1 dX6_init_4 rfl (lv_at hl 0 rfl) ?_
  refine lv_bipush (v := (40)) C.1 C.2.1 dX6_init_5 (by decide) ?_
  refine l_newI C hA G 40 (by decide) (by decide) (by decide) (by decide) (by decide) dX6_init_7 (fun q1 H G => ?_)
  refine l_putF (ty := .array .int) (Cn := RX6) (T := TX6) (N := 2) (ci := 6) C hnm G 0 0 inX6 tyX6 tyX6_ok nmX6 rfl rfl (by decide) k_129 rfl rfl rfl (by decide +kernel) rfl rfl (Nat.le_of_ble_eq_true rfl) rfl dX6_init_9 (fun H locs G => ?_)
  replace G : Wl D (va_A [(h0, .inr (6, [.null, .null]))] s.heap.size) s [(h0, .inr (6, [.ref q1, .null])), (q1, .inl (cI, 40, .inl (fun _ => 0)))] H locs := G
  refine lv_aload_n C.1 C.2.1 dX6_init_12 rfl (lv_at hl 0 rfl) ?_
  refine lv_bipush (v := (40)) C.1 C.2.1 dX6_init_13 (by decide) ?_
  refine l_newI C hA G 40 (by decide) (by decide) (by decide) (by decide) (by decide) dX6_init_15 (fun q2 H G => ?_)
  refine l_putF (ty := .array .int) (Cn := RX6) (T := TX6) (N := 2) (ci := 6) C hnm G 0 1 inX6 tyX6 tyX6_ok nmX6 rfl rfl (by decide) k_130 rfl rfl rfl (by decide +kernel) rfl rfl (Nat.le_of_ble_eq_true rfl) rfl dX6_init_17 (fun H locs G => ?_)
  replace G : Wl D (va_A [(h0, .inr (6, [.null, .null]))] s.heap.size) s [(h0, .inr (6, [.ref q1, .ref q2])), (q1, .inl (cI, 40, .inl (fun _ => 0))), (q2, .inl (cI, 40, .inl (fun _ => 0)))] H locs := G
  refine lv_aload_n C.1 C.2.1 dX6_init_20 rfl (lv_at hl 0 rfl) ?_
  refine l_get (Cn := RX6) (T := TX6) (N := 2) (ci := 6) C G 0 0 inX6 rfl rfl (by decide) k_129 rfl rfl dX6_init_21 ?_
  refine lv_iconst (v := (-1)) C.1 C.2.1 dX6_init_24 (by decide) ?_
  refine l_stat (As := [.ref q1, .int (-1)]) (na := 2) (wr := [(h0, .inr (6, [.ref q1, .ref q2])), (q2, .inl (cI, 40, .inl (fun _ => 0)))]) C hA hN G (mJ7_fillK l D cI cJ tk tf q1 40 (by decide) (-1) (fun _ => 0)) k_126 k_127 k_64 k_128 [1] [0, 2] rfl rfl (by decide) (by decide) (by decide) (by decide +kernel) ⟨Nat.le_of_ble_eq_true rfl, Nat.le_of_ble_eq_true rfl⟩ rfl rfl ⟨Nat.le_of_ble_eq_true rfl, Nat.le_of_ble_eq_true rfl⟩ rfl hl.1 rfl (Nat.le_of_ble_eq_true rfl) dX6_init_25 (fun b3 H locs G => ?_)
  replace G : Wl D (va_A [(h0, .inr (6, [.null, .null]))] s.heap.size) s [(h0, .inr (6, [.ref q1, .ref q2])), (q2, .inl (cI, 40, .inl (fun _ => 0))), (q1, .inl (cI, 40, .inl (fun j => if j < 40 then (-1) else 0)))] H locs := G
  have G2 : Wl D (va_A [(h0, .inr (6, [.null, .null]))] s.heap.size) s ((fun (b : Nat → Nat) => [(h0, .inr (6, [.ref (b 0), .ref (b 1)])), ((b 0), .inl (cI, 40, .inl (fun j => if j < 40 then (-1) else 0))), ((b 1), .inl (cI, 40, .inl (fun _ => 0)))]) (fun j => match j with | 0 => q1 | 1 => q2 | _ => 0)) H locs := ⟨G.1.sub [0, 2, 1] rfl, G.2.1.sub [0, 2, 1] (by decide) rfl, G.2.2⟩
  exact l_end (post := fun (b : Nat → Nat) => [(h0, .inr (6, [.ref (b 0), .ref (b 1)])), ((b 0), .inl (cI, 40, .inl (fun j => if j < 40 then (-1) else 0))), ((b 1), .inl (cI, 40, .inl (fun _ => 0)))]) (fun j => match j with | 0 => q1 | 1 => q2 | _ => 0) C hr G2 dX6_init_28 ⟨Nat.le_of_ble_eq_true rfl, Nat.le_of_ble_eq_true rfl⟩
set_option maxRecDepth 100000 in
set_option maxHeartbeats 4000000 in
theorem mX3_init (l : Launch) (D : va_G) (cI cJ : ClassId) (tk : Nat) (tf : Nat → Int32) (h0 : Nat) : Mk l D cI cJ tk tf yX3_init cX3_init 1 { frames := 2, cells := 6, slots := 205, locals := 43 } [.ref h0] [(h0, .inr (3, [.null, .null]))] (fun (b : Nat → Nat) => [(h0, .inr (3, [.ref (b 0), .ref (b 3)])), ((b 0), .inr (2, [.ref (b 1), .ref (b 2), .int 0])), ((b 1), .inl (cI, 60, .inl (fun _ => 0))), ((b 2), .inl (cI, 60, .inl (fun _ => 0))), ((b 3), .inr (6, [.ref (b 4), .ref (b 5)])), ((b 4), .inl (cI, 40, .inl (fun j => if j < 40 then (-1) else 0))), ((b 5), .inl (cI, 40, .inl (fun _ => 0)))]) 6 205 := by
  refine opn_k (by decide +kernel) (Nat.le_of_ble_eq_true rfl) (fun p e s m below meth c C hN hnm hr G ls hl => ?_)
  replace hl : lv_has ls 1 [(0, .ref h0)] := hl
  have hA : ∀ q, s.heap.size ≤ q → va_A [(h0, .inr (3, [.null, .null]))] s.heap.size q := fun q h => Or.inr h
  refine lv_aload_n C.1 C.2.1 dX3_init_0 rfl (lv_at hl 0 rfl) ?_
  refine l_obj C k_103 k_79 k_80 hl.1 dX3_init_1 (by decide) (by decide) ?_
  refine lv_aload_n C.1 C.2.1 dX3_init_4 rfl (lv_at hl 0 rfl) ?_
  refine l_new (ci := 2) (fs := [.null, .null, .int 0]) (Cn := RX2) (T := TX2) (N := 3) C hA G inX2 tyX2 tyX2_ok k_104 k_105 k_62 rfl (fun j hj => by rcases (show j = 0 ∨ j = 1 ∨ j = 2 by omega) with rfl | rfl | rfl <;> rfl) (by decide) (by decide) dX3_init_5 (fun q1 H G => ?_)
  refine lv_dup C.1 C.2.1 dX3_init_8 rfl ?_
  refine l_ctorN (As := []) (na := 0) (wr := [(h0, .inr (3, [.null, .null]))]) C hA hN G (mX2_init l D cI cJ tk tf q1) hN.2.2.1 k_107 k_62 k_108 rfl [1] [0] rfl rfl (by decide) (by decide) (by decide) (by decide +kernel) ⟨Nat.le_of_ble_eq_true rfl, Nat.le_of_ble_eq_true rfl⟩ rfl rfl ⟨Nat.le_of_ble_eq_true rfl, Nat.le_of_ble_eq_true rfl⟩ rfl hl.1 rfl (Nat.le_of_ble_eq_true rfl) dX3_init_9 (fun b2 H locs G => ?_)
  replace G : Wl D (va_A [(h0, .inr (3, [.null, .null]))] s.heap.size) s [(h0, .inr (3, [.null, .null])), (q1, .inr (2, [.ref (b2 0), .ref (b2 1), .int 0])), ((b2 0), .inl (cI, 60, .inl (fun _ => 0))), ((b2 1), .inl (cI, 60, .inl (fun _ => 0)))] H locs := G
  refine l_putF (ty := .object "ErrorNames$Pile") (Cn := RX3) (T := TX3) (N := 2) (ci := 3) C hnm G 0 0 inX3 tyX3 tyX3_ok nmX3 rfl rfl (by decide) k_136 rfl rfl rfl (by decide +kernel) rfl rfl (Nat.le_of_ble_eq_true rfl) rfl dX3_init_12 (fun H locs G => ?_)
  replace G : Wl D (va_A [(h0, .inr (3, [.null, .null]))] s.heap.size) s [(h0, .inr (3, [.ref q1, .null])), (q1, .inr (2, [.ref (b2 0), .ref (b2 1), .int 0])), ((b2 0), .inl (cI, 60, .inl (fun _ => 0))), ((b2 1), .inl (cI, 60, .inl (fun _ => 0)))] H locs := G
  refine lv_aload_n C.1 C.2.1 dX3_init_15 rfl (lv_at hl 0 rfl) ?_
  refine l_new (ci := 6) (fs := [.null, .null]) (Cn := RX6) (T := TX6) (N := 2) C hA G inX6 tyX6 tyX6_ok k_120 k_121 k_63 rfl (fun j hj => by rcases (show j = 0 ∨ j = 1 by omega) with rfl | rfl <;> rfl) (by decide) (by decide) dX3_init_16 (fun q3 H G => ?_)
  refine lv_dup C.1 C.2.1 dX3_init_19 rfl ?_
  refine l_ctor (As := []) (na := 0) (wr := [(h0, .inr (3, [.ref q1, .null])), (q1, .inr (2, [.ref (b2 0), .ref (b2 1), .int 0])), ((b2 0), .inl (cI, 60, .inl (fun _ => 0))), ((b2 1), .inl (cI, 60, .inl (fun _ => 0)))]) C hA hN G (mX6_init l D cI cJ tk tf q3) k_122 k_123 k_63 k_124 rfl [4] [0, 1, 2, 3] rfl rfl (by decide) (by decide) (by decide) (by decide +kernel) ⟨Nat.le_of_ble_eq_true rfl, Nat.le_of_ble_eq_true rfl⟩ rfl rfl ⟨Nat.le_of_ble_eq_true rfl, Nat.le_of_ble_eq_true rfl⟩ rfl hl.1 rfl (Nat.le_of_ble_eq_true rfl) dX3_init_20 (fun b4 H locs G => ?_)
  replace G : Wl D (va_A [(h0, .inr (3, [.null, .null]))] s.heap.size) s [(h0, .inr (3, [.ref q1, .null])), (q1, .inr (2, [.ref (b2 0), .ref (b2 1), .int 0])), ((b2 0), .inl (cI, 60, .inl (fun _ => 0))), ((b2 1), .inl (cI, 60, .inl (fun _ => 0))), (q3, .inr (6, [.ref (b4 0), .ref (b4 1)])), ((b4 0), .inl (cI, 40, .inl (fun j => if j < 40 then (-1) else 0))), ((b4 1), .inl (cI, 40, .inl (fun _ => 0)))] H locs := G
  refine l_putF (ty := .object "ErrorNames$Table") (Cn := RX3) (T := TX3) (N := 2) (ci := 3) C hnm G 0 1 inX3 tyX3 tyX3_ok nmX3 rfl rfl (by decide) k_137 rfl rfl rfl (by decide +kernel) rfl rfl (Nat.le_of_ble_eq_true rfl) rfl dX3_init_23 (fun H locs G => ?_)
  replace G : Wl D (va_A [(h0, .inr (3, [.null, .null]))] s.heap.size) s [(h0, .inr (3, [.ref q1, .ref q3])), (q1, .inr (2, [.ref (b2 0), .ref (b2 1), .int 0])), ((b2 0), .inl (cI, 60, .inl (fun _ => 0))), ((b2 1), .inl (cI, 60, .inl (fun _ => 0))), (q3, .inr (6, [.ref (b4 0), .ref (b4 1)])), ((b4 0), .inl (cI, 40, .inl (fun j => if j < 40 then (-1) else 0))), ((b4 1), .inl (cI, 40, .inl (fun _ => 0)))] H locs := G
  have G2 : Wl D (va_A [(h0, .inr (3, [.null, .null]))] s.heap.size) s ((fun (b : Nat → Nat) => [(h0, .inr (3, [.ref (b 0), .ref (b 3)])), ((b 0), .inr (2, [.ref (b 1), .ref (b 2), .int 0])), ((b 1), .inl (cI, 60, .inl (fun _ => 0))), ((b 2), .inl (cI, 60, .inl (fun _ => 0))), ((b 3), .inr (6, [.ref (b 4), .ref (b 5)])), ((b 4), .inl (cI, 40, .inl (fun j => if j < 40 then (-1) else 0))), ((b 5), .inl (cI, 40, .inl (fun _ => 0)))]) (fun j => match j with | 0 => q1 | 1 => (b2 0) | 2 => (b2 1) | 3 => q3 | 4 => (b4 0) | 5 => (b4 1) | _ => 0)) H locs := ⟨G.1.sub [0, 1, 2, 3, 4, 5, 6] rfl, G.2.1.sub [0, 1, 2, 3, 4, 5, 6] (by decide) rfl, G.2.2⟩
  exact l_end (post := fun (b : Nat → Nat) => [(h0, .inr (3, [.ref (b 0), .ref (b 3)])), ((b 0), .inr (2, [.ref (b 1), .ref (b 2), .int 0])), ((b 1), .inl (cI, 60, .inl (fun _ => 0))), ((b 2), .inl (cI, 60, .inl (fun _ => 0))), ((b 3), .inr (6, [.ref (b 4), .ref (b 5)])), ((b 4), .inl (cI, 40, .inl (fun j => if j < 40 then (-1) else 0))), ((b 5), .inl (cI, 40, .inl (fun _ => 0)))]) (fun j => match j with | 0 => q1 | 1 => (b2 0) | 2 => (b2 1) | 3 => q3 | 4 => (b4 0) | 5 => (b4 1) | _ => 0) C hr G2 dX3_init_26 ⟨Nat.le_of_ble_eq_true rfl, Nat.le_of_ble_eq_true rfl⟩
set_option maxRecDepth 100000 in
set_option maxHeartbeats 4000000 in
theorem mX4_init (l : Launch) (D : va_G) (cI cJ : ClassId) (tk : Nat) (tf : Nat → Int32) (h0 : Nat) : Mk l D cI cJ tk tf yX4_init cX4_init 1 { frames := 1, cells := 3, slots := 980, locals := 12 } [.ref h0] [(h0, .inr (4, [.null, .null, .null]))] (fun (b : Nat → Nat) => [(h0, .inr (4, [.ref (b 0), .ref (b 1), .ref (b 2)])), ((b 0), .inl (cI, 480, .inl (fun _ => 0))), ((b 1), .inl (cI, 480, .inl (fun _ => 0))), ((b 2), .inl (cI, 20, .inl (fun _ => 0)))]) 3 980 := by
  refine opn_k (by decide +kernel) (Nat.le_of_ble_eq_true rfl) (fun p e s m below meth c C hN hnm hr G ls hl => ?_)
  replace hl : lv_has ls 1 [(0, .ref h0)] := hl
  have hA : ∀ q, s.heap.size ≤ q → va_A [(h0, .inr (4, [.null, .null, .null]))] s.heap.size q := fun q h => Or.inr h
  refine lv_aload_n C.1 C.2.1 dX4_init_0 rfl (lv_at hl 0 rfl) ?_
  refine l_obj C k_86 k_79 k_80 hl.1 dX4_init_1 (by decide) (by decide) ?_
  refine lv_aload_n C.1 C.2.1 dX4_init_4 rfl (lv_at hl 0 rfl) ?_
  refine lv_sipush (v := (480)) C.1 C.2.1 dX4_init_5 (by decide) ?_
  refine l_newI C hA G 480 (by decide) (by decide) (by decide) (by decide) (by decide) dX4_init_8 (fun q1 H G => ?_)
  refine l_putF (ty := .array .int) (Cn := RX4) (T := TX4) (N := 3) (ci := 4) C hnm G 0 0 inX4 tyX4 tyX4_ok nmX4 rfl rfl (by decide) k_87 rfl rfl rfl (by decide +kernel) rfl rfl (Nat.le_of_ble_eq_true rfl) rfl dX4_init_10 (fun H locs G => ?_)
  replace G : Wl D (va_A [(h0, .inr (4, [.null, .null, .null]))] s.heap.size) s [(h0, .inr (4, [.ref q1, .null, .null])), (q1, .inl (cI, 480, .inl (fun _ => 0)))] H locs := G
  refine lv_aload_n C.1 C.2.1 dX4_init_13 rfl (lv_at hl 0 rfl) ?_
  refine lv_sipush (v := (480)) C.1 C.2.1 dX4_init_14 (by decide) ?_
  refine l_newI C hA G 480 (by decide) (by decide) (by decide) (by decide) (by decide) dX4_init_17 (fun q2 H G => ?_)
  refine l_putF (ty := .array .int) (Cn := RX4) (T := TX4) (N := 3) (ci := 4) C hnm G 0 1 inX4 tyX4 tyX4_ok nmX4 rfl rfl (by decide) k_88 rfl rfl rfl (by decide +kernel) rfl rfl (Nat.le_of_ble_eq_true rfl) rfl dX4_init_19 (fun H locs G => ?_)
  replace G : Wl D (va_A [(h0, .inr (4, [.null, .null, .null]))] s.heap.size) s [(h0, .inr (4, [.ref q1, .ref q2, .null])), (q1, .inl (cI, 480, .inl (fun _ => 0))), (q2, .inl (cI, 480, .inl (fun _ => 0)))] H locs := G
  refine lv_aload_n C.1 C.2.1 dX4_init_22 rfl (lv_at hl 0 rfl) ?_
  refine lv_bipush (v := (20)) C.1 C.2.1 dX4_init_23 (by decide) ?_
  refine l_newI C hA G 20 (by decide) (by decide) (by decide) (by decide) (by decide) dX4_init_25 (fun q3 H G => ?_)
  refine l_putF (ty := .array .int) (Cn := RX4) (T := TX4) (N := 3) (ci := 4) C hnm G 0 2 inX4 tyX4 tyX4_ok nmX4 rfl rfl (by decide) k_89 rfl rfl rfl (by decide +kernel) rfl rfl (Nat.le_of_ble_eq_true rfl) rfl dX4_init_27 (fun H locs G => ?_)
  replace G : Wl D (va_A [(h0, .inr (4, [.null, .null, .null]))] s.heap.size) s [(h0, .inr (4, [.ref q1, .ref q2, .ref q3])), (q1, .inl (cI, 480, .inl (fun _ => 0))), (q2, .inl (cI, 480, .inl (fun _ => 0))), (q3, .inl (cI, 20, .inl (fun _ => 0)))] H locs := G
  have G2 : Wl D (va_A [(h0, .inr (4, [.null, .null, .null]))] s.heap.size) s ((fun (b : Nat → Nat) => [(h0, .inr (4, [.ref (b 0), .ref (b 1), .ref (b 2)])), ((b 0), .inl (cI, 480, .inl (fun _ => 0))), ((b 1), .inl (cI, 480, .inl (fun _ => 0))), ((b 2), .inl (cI, 20, .inl (fun _ => 0)))]) (fun j => match j with | 0 => q1 | 1 => q2 | 2 => q3 | _ => 0)) H locs := ⟨G.1.sub [0, 1, 2, 3] rfl, G.2.1.sub [0, 1, 2, 3] (by decide) rfl, G.2.2⟩
  exact l_end (post := fun (b : Nat → Nat) => [(h0, .inr (4, [.ref (b 0), .ref (b 1), .ref (b 2)])), ((b 0), .inl (cI, 480, .inl (fun _ => 0))), ((b 1), .inl (cI, 480, .inl (fun _ => 0))), ((b 2), .inl (cI, 20, .inl (fun _ => 0)))]) (fun j => match j with | 0 => q1 | 1 => q2 | 2 => q3 | _ => 0) C hr G2 dX4_init_30 ⟨Nat.le_of_ble_eq_true rfl, Nat.le_of_ble_eq_true rfl⟩
set_option maxRecDepth 100000 in
set_option maxHeartbeats 4000000 in
theorem mX5_init (l : Launch) (D : va_G) (cI cJ : ClassId) (tk : Nat) (tf : Nat → Int32) (h0 : Nat) : Mk l D cI cJ tk tf yX5_init cX5_init 1 { frames := 2, cells := 3, slots := 123, locals := 32 } [.ref h0] [(h0, .inr (5, [.null, .int 0, .int 0, .int 0, .int 0, .int 0]))] (fun (b : Nat → Nat) => [(h0, .inr (5, [.ref (b 0), .int 0, .int (-1), .int 0, .int 0, .int 0])), ((b 0), .inr (2, [.ref (b 1), .ref (b 2), .int 0])), ((b 1), .inl (cI, 60, .inl (fun _ => 0))), ((b 2), .inl (cI, 60, .inl (fun _ => 0)))]) 3 123 := by
  refine opn_k (by decide +kernel) (Nat.le_of_ble_eq_true rfl) (fun p e s m below meth c C hN hnm hr G ls hl => ?_)
  replace hl : lv_has ls 1 [(0, .ref h0)] := hl
  have hA : ∀ q, s.heap.size ≤ q → va_A [(h0, .inr (5, [.null, .int 0, .int 0, .int 0, .int 0, .int 0]))] s.heap.size q := fun q h => Or.inr h
  refine lv_aload_n C.1 C.2.1 dX5_init_0 rfl (lv_at hl 0 rfl) ?_
  refine l_obj C k_199 k_79 k_80 hl.1 dX5_init_1 (by decide) (by decide) ?_
  refine lv_aload_n C.1 C.2.1 dX5_init_4 rfl (lv_at hl 0 rfl) ?_
  refine l_new (ci := 2) (fs := [.null, .null, .int 0]) (Cn := RX2) (T := TX2) (N := 3) C hA G inX2 tyX2 tyX2_ok k_200 k_105 k_62 rfl (fun j hj => by rcases (show j = 0 ∨ j = 1 ∨ j = 2 by omega) with rfl | rfl | rfl <;> rfl) (by decide) (by decide) dX5_init_5 (fun q1 H G => ?_)
  refine lv_dup C.1 C.2.1 dX5_init_8 rfl ?_
  refine l_ctorN (As := []) (na := 0) (wr := [(h0, .inr (5, [.null, .int 0, .int 0, .int 0, .int 0, .int 0]))]) C hA hN G (mX2_init l D cI cJ tk tf q1) hN.2.2.2.2.2 k_107 k_62 k_108 rfl [1] [0] rfl rfl (by decide) (by decide) (by decide) (by decide +kernel) ⟨Nat.le_of_ble_eq_true rfl, Nat.le_of_ble_eq_true rfl⟩ rfl rfl ⟨Nat.le_of_ble_eq_true rfl, Nat.le_of_ble_eq_true rfl⟩ rfl hl.1 rfl (Nat.le_of_ble_eq_true rfl) dX5_init_9 (fun b2 H locs G => ?_)
  replace G : Wl D (va_A [(h0, .inr (5, [.null, .int 0, .int 0, .int 0, .int 0, .int 0]))] s.heap.size) s [(h0, .inr (5, [.null, .int 0, .int 0, .int 0, .int 0, .int 0])), (q1, .inr (2, [.ref (b2 0), .ref (b2 1), .int 0])), ((b2 0), .inl (cI, 60, .inl (fun _ => 0))), ((b2 1), .inl (cI, 60, .inl (fun _ => 0)))] H locs := G
  refine l_putF (ty := .object "ErrorNames$Pile") (Cn := RX5) (T := TX5) (N := 6) (ci := 5) C hnm G 0 0 inX5 tyX5 tyX5_ok nmX5 rfl rfl (by decide) k_202 rfl rfl rfl (by decide +kernel) rfl rfl (Nat.le_of_ble_eq_true rfl) rfl dX5_init_12 (fun H locs G => ?_)
  replace G : Wl D (va_A [(h0, .inr (5, [.null, .int 0, .int 0, .int 0, .int 0, .int 0]))] s.heap.size) s [(h0, .inr (5, [.ref q1, .int 0, .int 0, .int 0, .int 0, .int 0])), (q1, .inr (2, [.ref (b2 0), .ref (b2 1), .int 0])), ((b2 0), .inl (cI, 60, .inl (fun _ => 0))), ((b2 1), .inl (cI, 60, .inl (fun _ => 0)))] H locs := G
  refine lv_aload_n C.1 C.2.1 dX5_init_15 rfl (lv_at hl 0 rfl) ?_
  refine lv_iconst (v := (-1)) C.1 C.2.1 dX5_init_16 (by decide) ?_
  refine l_put (ty := .int) (Cn := RX5) (T := TX5) (N := 6) (ci := 5) C G 0 2 inX5 tyX5 tyX5_ok nmX5 rfl rfl (by decide) k_204 rfl rfl (by decide +kernel) rfl rfl (Nat.le_of_ble_eq_true rfl) rfl dX5_init_17 (fun H locs G => ?_)
  replace G : Wl D (va_A [(h0, .inr (5, [.null, .int 0, .int 0, .int 0, .int 0, .int 0]))] s.heap.size) s [(h0, .inr (5, [.ref q1, .int 0, .int (-1), .int 0, .int 0, .int 0])), (q1, .inr (2, [.ref (b2 0), .ref (b2 1), .int 0])), ((b2 0), .inl (cI, 60, .inl (fun _ => 0))), ((b2 1), .inl (cI, 60, .inl (fun _ => 0)))] H locs := G
  have G2 : Wl D (va_A [(h0, .inr (5, [.null, .int 0, .int 0, .int 0, .int 0, .int 0]))] s.heap.size) s ((fun (b : Nat → Nat) => [(h0, .inr (5, [.ref (b 0), .int 0, .int (-1), .int 0, .int 0, .int 0])), ((b 0), .inr (2, [.ref (b 1), .ref (b 2), .int 0])), ((b 1), .inl (cI, 60, .inl (fun _ => 0))), ((b 2), .inl (cI, 60, .inl (fun _ => 0)))]) (fun j => match j with | 0 => q1 | 1 => (b2 0) | 2 => (b2 1) | _ => 0)) H locs := ⟨G.1.sub [0, 1, 2, 3] rfl, G.2.1.sub [0, 1, 2, 3] (by decide) rfl, G.2.2⟩
  exact l_end (post := fun (b : Nat → Nat) => [(h0, .inr (5, [.ref (b 0), .int 0, .int (-1), .int 0, .int 0, .int 0])), ((b 0), .inr (2, [.ref (b 1), .ref (b 2), .int 0])), ((b 1), .inl (cI, 60, .inl (fun _ => 0))), ((b 2), .inl (cI, 60, .inl (fun _ => 0)))]) (fun j => match j with | 0 => q1 | 1 => (b2 0) | 2 => (b2 1) | _ => 0) C hr G2 dX5_init_20 ⟨Nat.le_of_ble_eq_true rfl, Nat.le_of_ble_eq_true rfl⟩
set_option maxRecDepth 100000 in
set_option maxHeartbeats 4000000 in
theorem mX7_init (l : Launch) (D : va_G) (cI cJ : ClassId) (tk : Nat) (tf : Nat → Int32) (h0 : Nat) : Mk l D cI cJ tk tf yX7_init cX7_init 1 { frames := 3, cells := 24, slots := 1520, locals := 63 } [.ref h0] [(h0, .inr (7, [.null, .null, .null, .null, .null, .null, .null, .int 0, .int 0, .int 0, .int 0]))] (fun (b : Nat → Nat) => [(h0, .inr (7, [.ref (b 0), .ref (b 23), .ref (b 4), .ref (b 7), .ref (b 10), .ref (b 12), .ref (b 19), .int 0, .int 0, .int 0, .int 0])), ((b 0), .inr (4, [.ref (b 1), .ref (b 2), .ref (b 3)])), ((b 1), .inl (cI, 480, .inl (fun _ => 0))), ((b 2), .inl (cI, 480, .inl (fun _ => 0))), ((b 3), .inl (cI, 20, .inl (fun _ => 0))), ((b 4), .inr (2, [.ref (b 5), .ref (b 6), .int 0])), ((b 5), .inl (cI, 60, .inl (fun _ => 0))), ((b 6), .inl (cI, 60, .inl (fun _ => 0))), ((b 7), .inr (6, [.ref (b 8), .ref (b 9)])), ((b 8), .inl (cI, 40, .inl (fun j => if j < 40 then (-1) else 0))), ((b 9), .inl (cI, 40, .inl (fun _ => 0))), ((b 10), .inr (1, [.ref (b 11)])), ((b 11), .inl (cI, 12, .inl (fun j => if j < 12 then (-1) else 0))), ((b 12), .inr (0, [.ref (b 13), .ref (b 14), .ref (b 15), .ref (b 16), .ref (b 17), .ref (b 18), .int 0, .int 0])), ((b 13), .inl (cI, 30, .inl (fun _ => 0))), ((b 14), .inl (cI, 30, .inl (fun _ => 0))), ((b 15), .inl (cI, 30, .inl (fun _ => 0))), ((b 16), .inl (cJ, 30, .inr (.inl (fun _ => 0)))), ((b 17), .inl (cI, 30, .inl (fun _ => 0))), ((b 18), .inl (cI, 30, .inl (fun _ => 0))), ((b 19), .inr (5, [.ref (b 20), .int 0, .int (-1), .int 0, .int 0, .int 0])), ((b 20), .inr (2, [.ref (b 21), .ref (b 22), .int 0])), ((b 21), .inl (cI, 60, .inl (fun _ => 0))), ((b 22), .inl (cI, 60, .inl (fun _ => 0))), ((b 23), .inr (3, [.ref (b 4), .ref (b 7)]))]) 24 1520 := by
  refine opn_k (by decide +kernel) (Nat.le_of_ble_eq_true rfl) (fun p e s m below meth c C hN hnm hr G ls hl => ?_)
  replace hl : lv_has ls 1 [(0, .ref h0)] := hl
  have hA : ∀ q, s.heap.size ≤ q → va_A [(h0, .inr (7, [.null, .null, .null, .null, .null, .null, .null, .int 0, .int 0, .int 0, .int 0]))] s.heap.size q := fun q h => Or.inr h
  refine lv_aload_n C.1 C.2.1 dX7_init_0 rfl (lv_at hl 0 rfl) ?_
  refine l_obj C k_78 k_79 k_80 hl.1 dX7_init_1 (by decide) (by decide) ?_
  refine lv_aload_n C.1 C.2.1 dX7_init_4 rfl (lv_at hl 0 rfl) ?_
  refine l_new (ci := 4) (fs := [.null, .null, .null]) (Cn := RX4) (T := TX4) (N := 3) C hA G inX4 tyX4 tyX4_ok k_81 k_82 k_60 rfl (fun j hj => by rcases (show j = 0 ∨ j = 1 ∨ j = 2 by omega) with rfl | rfl | rfl <;> rfl) (by decide) (by decide) dX7_init_5 (fun q1 H G => ?_)
  refine lv_dup C.1 C.2.1 dX7_init_8 rfl ?_
  refine l_ctorN (As := []) (na := 0) (wr := [(h0, .inr (7, [.null, .null, .null, .null, .null, .null, .null, .int 0, .int 0, .int 0, .int 0]))]) C hA hN G (mX4_init l D cI cJ tk tf q1) hN.1 k_84 k_60 k_85 rfl [1] [0] rfl rfl (by decide) (by decide) (by decide) (by decide +kernel) ⟨Nat.le_of_ble_eq_true rfl, Nat.le_of_ble_eq_true rfl⟩ rfl rfl ⟨Nat.le_of_ble_eq_true rfl, Nat.le_of_ble_eq_true rfl⟩ rfl hl.1 rfl (Nat.le_of_ble_eq_true rfl) dX7_init_9 (fun b2 H locs G => ?_)
  replace G : Wl D (va_A [(h0, .inr (7, [.null, .null, .null, .null, .null, .null, .null, .int 0, .int 0, .int 0, .int 0]))] s.heap.size) s [(h0, .inr (7, [.null, .null, .null, .null, .null, .null, .null, .int 0, .int 0, .int 0, .int 0])), (q1, .inr (4, [.ref (b2 0), .ref (b2 1), .ref (b2 2)])), ((b2 0), .inl (cI, 480, .inl (fun _ => 0))), ((b2 1), .inl (cI, 480, .inl (fun _ => 0))), ((b2 2), .inl (cI, 20, .inl (fun _ => 0)))] H locs := G
  refine l_putF (ty := .object "ErrorNames$Procedures") (Cn := RX7) (T := TX7) (N := 11) (ci := 7) C hnm G 0 0 inX7 tyX7 tyX7_ok nmX7 rfl rfl (by decide) k_221 rfl rfl rfl (by decide +kernel) rfl rfl (Nat.le_of_ble_eq_true rfl) rfl dX7_init_12 (fun H locs G => ?_)
  replace G : Wl D (va_A [(h0, .inr (7, [.null, .null, .null, .null, .null, .null, .null, .int 0, .int 0, .int 0, .int 0]))] s.heap.size) s [(h0, .inr (7, [.ref q1, .null, .null, .null, .null, .null, .null, .int 0, .int 0, .int 0, .int 0])), (q1, .inr (4, [.ref (b2 0), .ref (b2 1), .ref (b2 2)])), ((b2 0), .inl (cI, 480, .inl (fun _ => 0))), ((b2 1), .inl (cI, 480, .inl (fun _ => 0))), ((b2 2), .inl (cI, 20, .inl (fun _ => 0)))] H locs := G
  refine lv_aload_n C.1 C.2.1 dX7_init_15 rfl (lv_at hl 0 rfl) ?_
  refine l_new (ci := 3) (fs := [.null, .null]) (Cn := RX3) (T := TX3) (N := 2) C hA G inX3 tyX3 tyX3_ok k_98 k_99 k_61 rfl (fun j hj => by rcases (show j = 0 ∨ j = 1 by omega) with rfl | rfl <;> rfl) (by decide) (by decide) dX7_init_16 (fun q3 H G => ?_)
  refine lv_dup C.1 C.2.1 dX7_init_19 rfl ?_
  refine l_ctorN (As := []) (na := 0) (wr := [(h0, .inr (7, [.ref q1, .null, .null, .null, .null, .null, .null, .int 0, .int 0, .int 0, .int 0])), (q1, .inr (4, [.ref (b2 0), .ref (b2 1), .ref (b2 2)])), ((b2 0), .inl (cI, 480, .inl (fun _ => 0))), ((b2 1), .inl (cI, 480, .inl (fun _ => 0))), ((b2 2), .inl (cI, 20, .inl (fun _ => 0)))]) C hA hN G (mX3_init l D cI cJ tk tf q3) hN.2.1 k_101 k_61 k_102 rfl [5] [0, 1, 2, 3, 4] rfl rfl (by decide) (by decide) (by decide) (by decide +kernel) ⟨Nat.le_of_ble_eq_true rfl, Nat.le_of_ble_eq_true rfl⟩ rfl rfl ⟨Nat.le_of_ble_eq_true rfl, Nat.le_of_ble_eq_true rfl⟩ rfl hl.1 rfl (Nat.le_of_ble_eq_true rfl) dX7_init_20 (fun b4 H locs G => ?_)
  replace G : Wl D (va_A [(h0, .inr (7, [.null, .null, .null, .null, .null, .null, .null, .int 0, .int 0, .int 0, .int 0]))] s.heap.size) s [(h0, .inr (7, [.ref q1, .null, .null, .null, .null, .null, .null, .int 0, .int 0, .int 0, .int 0])), (q1, .inr (4, [.ref (b2 0), .ref (b2 1), .ref (b2 2)])), ((b2 0), .inl (cI, 480, .inl (fun _ => 0))), ((b2 1), .inl (cI, 480, .inl (fun _ => 0))), ((b2 2), .inl (cI, 20, .inl (fun _ => 0))), (q3, .inr (3, [.ref (b4 0), .ref (b4 3)])), ((b4 0), .inr (2, [.ref (b4 1), .ref (b4 2), .int 0])), ((b4 1), .inl (cI, 60, .inl (fun _ => 0))), ((b4 2), .inl (cI, 60, .inl (fun _ => 0))), ((b4 3), .inr (6, [.ref (b4 4), .ref (b4 5)])), ((b4 4), .inl (cI, 40, .inl (fun j => if j < 40 then (-1) else 0))), ((b4 5), .inl (cI, 40, .inl (fun _ => 0)))] H locs := G
  refine l_putF (ty := .object "ErrorNames$PileOperators") (Cn := RX7) (T := TX7) (N := 11) (ci := 7) C hnm G 0 1 inX7 tyX7 tyX7_ok nmX7 rfl rfl (by decide) k_222 rfl rfl rfl (by decide +kernel) rfl rfl (Nat.le_of_ble_eq_true rfl) rfl dX7_init_23 (fun H locs G => ?_)
  replace G : Wl D (va_A [(h0, .inr (7, [.null, .null, .null, .null, .null, .null, .null, .int 0, .int 0, .int 0, .int 0]))] s.heap.size) s [(h0, .inr (7, [.ref q1, .ref q3, .null, .null, .null, .null, .null, .int 0, .int 0, .int 0, .int 0])), (q1, .inr (4, [.ref (b2 0), .ref (b2 1), .ref (b2 2)])), ((b2 0), .inl (cI, 480, .inl (fun _ => 0))), ((b2 1), .inl (cI, 480, .inl (fun _ => 0))), ((b2 2), .inl (cI, 20, .inl (fun _ => 0))), (q3, .inr (3, [.ref (b4 0), .ref (b4 3)])), ((b4 0), .inr (2, [.ref (b4 1), .ref (b4 2), .int 0])), ((b4 1), .inl (cI, 60, .inl (fun _ => 0))), ((b4 2), .inl (cI, 60, .inl (fun _ => 0))), ((b4 3), .inr (6, [.ref (b4 4), .ref (b4 5)])), ((b4 4), .inl (cI, 40, .inl (fun j => if j < 40 then (-1) else 0))), ((b4 5), .inl (cI, 40, .inl (fun _ => 0)))] H locs := G
  refine lv_aload_n C.1 C.2.1 dX7_init_26 rfl (lv_at hl 0 rfl) ?_
  refine lv_aload_n C.1 C.2.1 dX7_init_27 rfl (lv_at hl 0 rfl) ?_
  refine l_get (Cn := RX7) (T := TX7) (N := 11) (ci := 7) C G 0 1 inX7 rfl rfl (by decide) k_222 rfl rfl dX7_init_28 ?_
  refine l_calr (As := []) (na := 0) (wr := [(h0, .inr (7, [.ref q1, .ref q3, .null, .null, .null, .null, .null, .int 0, .int 0, .int 0, .int 0])), (q1, .inr (4, [.ref (b2 0), .ref (b2 1), .ref (b2 2)])), ((b2 0), .inl (cI, 480, .inl (fun _ => 0))), ((b2 1), .inl (cI, 480, .inl (fun _ => 0))), ((b2 2), .inl (cI, 20, .inl (fun _ => 0))), ((b4 0), .inr (2, [.ref (b4 1), .ref (b4 2), .int 0])), ((b4 1), .inl (cI, 60, .inl (fun _ => 0))), ((b4 2), .inl (cI, 60, .inl (fun _ => 0))), ((b4 3), .inr (6, [.ref (b4 4), .ref (b4 5)])), ((b4 4), .inl (cI, 40, .inl (fun j => if j < 40 then (-1) else 0))), ((b4 5), .inl (cI, 40, .inl (fun _ => 0)))]) C hA hN G (mgX3_pile l D cI cJ tk tf q3 (b4 0) (b4 3)) k_143 k_144 k_145 k_61 k_146 [5] [0, 1, 2, 3, 4, 6, 7, 8, 9, 10, 11] rfl rfl (by decide) (by decide) (by decide) (q0 := 5) rfl (ci := 3) rfl (by decide +kernel) ⟨Nat.le_of_ble_eq_true rfl, Nat.le_of_ble_eq_true rfl⟩ rfl rfl ⟨Nat.le_of_ble_eq_true rfl, Nat.le_of_ble_eq_true rfl⟩ rfl hl.1 rfl (Nat.le_of_ble_eq_true rfl) dX7_init_31 (fun H locs G => ?_)
  replace G : Wl D (va_A [(h0, .inr (7, [.null, .null, .null, .null, .null, .null, .null, .int 0, .int 0, .int 0, .int 0]))] s.heap.size) s [(h0, .inr (7, [.ref q1, .ref q3, .null, .null, .null, .null, .null, .int 0, .int 0, .int 0, .int 0])), (q1, .inr (4, [.ref (b2 0), .ref (b2 1), .ref (b2 2)])), ((b2 0), .inl (cI, 480, .inl (fun _ => 0))), ((b2 1), .inl (cI, 480, .inl (fun _ => 0))), ((b2 2), .inl (cI, 20, .inl (fun _ => 0))), ((b4 0), .inr (2, [.ref (b4 1), .ref (b4 2), .int 0])), ((b4 1), .inl (cI, 60, .inl (fun _ => 0))), ((b4 2), .inl (cI, 60, .inl (fun _ => 0))), ((b4 3), .inr (6, [.ref (b4 4), .ref (b4 5)])), ((b4 4), .inl (cI, 40, .inl (fun j => if j < 40 then (-1) else 0))), ((b4 5), .inl (cI, 40, .inl (fun _ => 0))), (q3, .inr (3, [.ref (b4 0), .ref (b4 3)]))] H locs := G
  refine l_putF (ty := .object "ErrorNames$Pile") (Cn := RX7) (T := TX7) (N := 11) (ci := 7) C hnm G 0 2 inX7 tyX7 tyX7_ok nmX7 rfl rfl (by decide) k_223 rfl rfl rfl (by decide +kernel) rfl rfl (Nat.le_of_ble_eq_true rfl) rfl dX7_init_34 (fun H locs G => ?_)
  replace G : Wl D (va_A [(h0, .inr (7, [.null, .null, .null, .null, .null, .null, .null, .int 0, .int 0, .int 0, .int 0]))] s.heap.size) s [(h0, .inr (7, [.ref q1, .ref q3, .ref (b4 0), .null, .null, .null, .null, .int 0, .int 0, .int 0, .int 0])), (q1, .inr (4, [.ref (b2 0), .ref (b2 1), .ref (b2 2)])), ((b2 0), .inl (cI, 480, .inl (fun _ => 0))), ((b2 1), .inl (cI, 480, .inl (fun _ => 0))), ((b2 2), .inl (cI, 20, .inl (fun _ => 0))), ((b4 0), .inr (2, [.ref (b4 1), .ref (b4 2), .int 0])), ((b4 1), .inl (cI, 60, .inl (fun _ => 0))), ((b4 2), .inl (cI, 60, .inl (fun _ => 0))), ((b4 3), .inr (6, [.ref (b4 4), .ref (b4 5)])), ((b4 4), .inl (cI, 40, .inl (fun j => if j < 40 then (-1) else 0))), ((b4 5), .inl (cI, 40, .inl (fun _ => 0))), (q3, .inr (3, [.ref (b4 0), .ref (b4 3)]))] H locs := G
  refine lv_aload_n C.1 C.2.1 dX7_init_37 rfl (lv_at hl 0 rfl) ?_
  refine lv_aload_n C.1 C.2.1 dX7_init_38 rfl (lv_at hl 0 rfl) ?_
  refine l_get (Cn := RX7) (T := TX7) (N := 11) (ci := 7) C G 0 1 inX7 rfl rfl (by decide) k_222 rfl rfl dX7_init_39 ?_
  refine l_calr (As := []) (na := 0) (wr := [(h0, .inr (7, [.ref q1, .ref q3, .ref (b4 0), .null, .null, .null, .null, .int 0, .int 0, .int 0, .int 0])), (q1, .inr (4, [.ref (b2 0), .ref (b2 1), .ref (b2 2)])), ((b2 0), .inl (cI, 480, .inl (fun _ => 0))), ((b2 1), .inl (cI, 480, .inl (fun _ => 0))), ((b2 2), .inl (cI, 20, .inl (fun _ => 0))), ((b4 0), .inr (2, [.ref (b4 1), .ref (b4 2), .int 0])), ((b4 1), .inl (cI, 60, .inl (fun _ => 0))), ((b4 2), .inl (cI, 60, .inl (fun _ => 0))), ((b4 3), .inr (6, [.ref (b4 4), .ref (b4 5)])), ((b4 4), .inl (cI, 40, .inl (fun j => if j < 40 then (-1) else 0))), ((b4 5), .inl (cI, 40, .inl (fun _ => 0)))]) C hA hN G (mgX3_table l D cI cJ tk tf q3 (b4 0) (b4 3)) k_147 k_148 k_149 k_61 k_150 [11] [0, 1, 2, 3, 4, 5, 6, 7, 8, 9, 10] rfl rfl (by decide) (by decide) (by decide) (q0 := 11) rfl (ci := 3) rfl (by decide +kernel) ⟨Nat.le_of_ble_eq_true rfl, Nat.le_of_ble_eq_true rfl⟩ rfl rfl ⟨Nat.le_of_ble_eq_true rfl, Nat.le_of_ble_eq_true rfl⟩ rfl hl.1 rfl (Nat.le_of_ble_eq_true rfl) dX7_init_42 (fun H locs G => ?_)
  replace G : Wl D (va_A [(h0, .inr (7, [.null, .null, .null, .null, .null, .null, .null, .int 0, .int 0, .int 0, .int 0]))] s.heap.size) s [(h0, .inr (7, [.ref q1, .ref q3, .ref (b4 0), .null, .null, .null, .null, .int 0, .int 0, .int 0, .int 0])), (q1, .inr (4, [.ref (b2 0), .ref (b2 1), .ref (b2 2)])), ((b2 0), .inl (cI, 480, .inl (fun _ => 0))), ((b2 1), .inl (cI, 480, .inl (fun _ => 0))), ((b2 2), .inl (cI, 20, .inl (fun _ => 0))), ((b4 0), .inr (2, [.ref (b4 1), .ref (b4 2), .int 0])), ((b4 1), .inl (cI, 60, .inl (fun _ => 0))), ((b4 2), .inl (cI, 60, .inl (fun _ => 0))), ((b4 3), .inr (6, [.ref (b4 4), .ref (b4 5)])), ((b4 4), .inl (cI, 40, .inl (fun j => if j < 40 then (-1) else 0))), ((b4 5), .inl (cI, 40, .inl (fun _ => 0))), (q3, .inr (3, [.ref (b4 0), .ref (b4 3)]))] H locs := G
  refine l_putF (ty := .object "ErrorNames$Table") (Cn := RX7) (T := TX7) (N := 11) (ci := 7) C hnm G 0 3 inX7 tyX7 tyX7_ok nmX7 rfl rfl (by decide) k_224 rfl rfl rfl (by decide +kernel) rfl rfl (Nat.le_of_ble_eq_true rfl) rfl dX7_init_45 (fun H locs G => ?_)
  replace G : Wl D (va_A [(h0, .inr (7, [.null, .null, .null, .null, .null, .null, .null, .int 0, .int 0, .int 0, .int 0]))] s.heap.size) s [(h0, .inr (7, [.ref q1, .ref q3, .ref (b4 0), .ref (b4 3), .null, .null, .null, .int 0, .int 0, .int 0, .int 0])), (q1, .inr (4, [.ref (b2 0), .ref (b2 1), .ref (b2 2)])), ((b2 0), .inl (cI, 480, .inl (fun _ => 0))), ((b2 1), .inl (cI, 480, .inl (fun _ => 0))), ((b2 2), .inl (cI, 20, .inl (fun _ => 0))), ((b4 0), .inr (2, [.ref (b4 1), .ref (b4 2), .int 0])), ((b4 1), .inl (cI, 60, .inl (fun _ => 0))), ((b4 2), .inl (cI, 60, .inl (fun _ => 0))), ((b4 3), .inr (6, [.ref (b4 4), .ref (b4 5)])), ((b4 4), .inl (cI, 40, .inl (fun j => if j < 40 then (-1) else 0))), ((b4 5), .inl (cI, 40, .inl (fun _ => 0))), (q3, .inr (3, [.ref (b4 0), .ref (b4 3)]))] H locs := G
  refine lv_aload_n C.1 C.2.1 dX7_init_48 rfl (lv_at hl 0 rfl) ?_
  refine l_new (ci := 1) (fs := [.null]) (Cn := RX1) (T := TX1) (N := 1) C hA G inX1 tyX1 tyX1_ok k_151 k_152 k_65 rfl (fun j hj => by rcases (show j = 0 by omega) with rfl <;> rfl) (by decide) (by decide) dX7_init_49 (fun q5 H G => ?_)
  refine lv_dup C.1 C.2.1 dX7_init_52 rfl ?_
  refine l_ctor (As := []) (na := 0) (wr := [(h0, .inr (7, [.ref q1, .ref q3, .ref (b4 0), .ref (b4 3), .null, .null, .null, .int 0, .int 0, .int 0, .int 0])), (q1, .inr (4, [.ref (b2 0), .ref (b2 1), .ref (b2 2)])), ((b2 0), .inl (cI, 480, .inl (fun _ => 0))), ((b2 1), .inl (cI, 480, .inl (fun _ => 0))), ((b2 2), .inl (cI, 20, .inl (fun _ => 0))), ((b4 0), .inr (2, [.ref (b4 1), .ref (b4 2), .int 0])), ((b4 1), .inl (cI, 60, .inl (fun _ => 0))), ((b4 2), .inl (cI, 60, .inl (fun _ => 0))), ((b4 3), .inr (6, [.ref (b4 4), .ref (b4 5)])), ((b4 4), .inl (cI, 40, .inl (fun j => if j < 40 then (-1) else 0))), ((b4 5), .inl (cI, 40, .inl (fun _ => 0))), (q3, .inr (3, [.ref (b4 0), .ref (b4 3)]))]) C hA hN G (mX1_init l D cI cJ tk tf q5) k_153 k_154 k_65 k_155 rfl [12] [0, 1, 2, 3, 4, 5, 6, 7, 8, 9, 10, 11] rfl rfl (by decide) (by decide) (by decide) (by decide +kernel) ⟨Nat.le_of_ble_eq_true rfl, Nat.le_of_ble_eq_true rfl⟩ rfl rfl ⟨Nat.le_of_ble_eq_true rfl, Nat.le_of_ble_eq_true rfl⟩ rfl hl.1 rfl (Nat.le_of_ble_eq_true rfl) dX7_init_53 (fun b6 H locs G => ?_)
  replace G : Wl D (va_A [(h0, .inr (7, [.null, .null, .null, .null, .null, .null, .null, .int 0, .int 0, .int 0, .int 0]))] s.heap.size) s [(h0, .inr (7, [.ref q1, .ref q3, .ref (b4 0), .ref (b4 3), .null, .null, .null, .int 0, .int 0, .int 0, .int 0])), (q1, .inr (4, [.ref (b2 0), .ref (b2 1), .ref (b2 2)])), ((b2 0), .inl (cI, 480, .inl (fun _ => 0))), ((b2 1), .inl (cI, 480, .inl (fun _ => 0))), ((b2 2), .inl (cI, 20, .inl (fun _ => 0))), ((b4 0), .inr (2, [.ref (b4 1), .ref (b4 2), .int 0])), ((b4 1), .inl (cI, 60, .inl (fun _ => 0))), ((b4 2), .inl (cI, 60, .inl (fun _ => 0))), ((b4 3), .inr (6, [.ref (b4 4), .ref (b4 5)])), ((b4 4), .inl (cI, 40, .inl (fun j => if j < 40 then (-1) else 0))), ((b4 5), .inl (cI, 40, .inl (fun _ => 0))), (q3, .inr (3, [.ref (b4 0), .ref (b4 3)])), (q5, .inr (1, [.ref (b6 0)])), ((b6 0), .inl (cI, 12, .inl (fun j => if j < 12 then (-1) else 0)))] H locs := G
  refine l_putF (ty := .object "ErrorNames$Handlers") (Cn := RX7) (T := TX7) (N := 11) (ci := 7) C hnm G 0 4 inX7 tyX7 tyX7_ok nmX7 rfl rfl (by decide) k_225 rfl rfl rfl (by decide +kernel) rfl rfl (Nat.le_of_ble_eq_true rfl) rfl dX7_init_56 (fun H locs G => ?_)
  replace G : Wl D (va_A [(h0, .inr (7, [.null, .null, .null, .null, .null, .null, .null, .int 0, .int 0, .int 0, .int 0]))] s.heap.size) s [(h0, .inr (7, [.ref q1, .ref q3, .ref (b4 0), .ref (b4 3), .ref q5, .null, .null, .int 0, .int 0, .int 0, .int 0])), (q1, .inr (4, [.ref (b2 0), .ref (b2 1), .ref (b2 2)])), ((b2 0), .inl (cI, 480, .inl (fun _ => 0))), ((b2 1), .inl (cI, 480, .inl (fun _ => 0))), ((b2 2), .inl (cI, 20, .inl (fun _ => 0))), ((b4 0), .inr (2, [.ref (b4 1), .ref (b4 2), .int 0])), ((b4 1), .inl (cI, 60, .inl (fun _ => 0))), ((b4 2), .inl (cI, 60, .inl (fun _ => 0))), ((b4 3), .inr (6, [.ref (b4 4), .ref (b4 5)])), ((b4 4), .inl (cI, 40, .inl (fun j => if j < 40 then (-1) else 0))), ((b4 5), .inl (cI, 40, .inl (fun _ => 0))), (q3, .inr (3, [.ref (b4 0), .ref (b4 3)])), (q5, .inr (1, [.ref (b6 0)])), ((b6 0), .inl (cI, 12, .inl (fun j => if j < 12 then (-1) else 0)))] H locs := G
  refine lv_aload_n C.1 C.2.1 dX7_init_59 rfl (lv_at hl 0 rfl) ?_
  refine l_new (ci := 0) (fs := [.null, .null, .null, .null, .null, .null, .int 0, .int 0]) (Cn := RX0) (T := TX0) (N := 8) C hA G inX0 tyX0 tyX0_ok k_162 k_163 k_66 rfl (fun j hj => by rcases (show j = 0 ∨ j = 1 ∨ j = 2 ∨ j = 3 ∨ j = 4 ∨ j = 5 ∨ j = 6 ∨ j = 7 by omega) with rfl | rfl | rfl | rfl | rfl | rfl | rfl | rfl <;> rfl) (by decide) (by decide) dX7_init_60 (fun q7 H G => ?_)
  refine lv_dup C.1 C.2.1 dX7_init_63 rfl ?_
  refine l_ctorN (As := []) (na := 0) (wr := [(h0, .inr (7, [.ref q1, .ref q3, .ref (b4 0), .ref (b4 3), .ref q5, .null, .null, .int 0, .int 0, .int 0, .int 0])), (q1, .inr (4, [.ref (b2 0), .ref (b2 1), .ref (b2 2)])), ((b2 0), .inl (cI, 480, .inl (fun _ => 0))), ((b2 1), .inl (cI, 480, .inl (fun _ => 0))), ((b2 2), .inl (cI, 20, .inl (fun _ => 0))), ((b4 0), .inr (2, [.ref (b4 1), .ref (b4 2), .int 0])), ((b4 1), .inl (cI, 60, .inl (fun _ => 0))), ((b4 2), .inl (cI, 60, .inl (fun _ => 0))), ((b4 3), .inr (6, [.ref (b4 4), .ref (b4 5)])), ((b4 4), .inl (cI, 40, .inl (fun j => if j < 40 then (-1) else 0))), ((b4 5), .inl (cI, 40, .inl (fun _ => 0))), (q3, .inr (3, [.ref (b4 0), .ref (b4 3)])), (q5, .inr (1, [.ref (b6 0)])), ((b6 0), .inl (cI, 12, .inl (fun j => if j < 12 then (-1) else 0)))]) C hA hN G (mX0_init l D cI cJ tk tf q7) hN.2.2.2.1 k_165 k_66 k_166 rfl [14] [0, 1, 2, 3, 4, 5, 6, 7, 8, 9, 10, 11, 12, 13] rfl rfl (by decide) (by decide) (by decide) (by decide +kernel) ⟨Nat.le_of_ble_eq_true rfl, Nat.le_of_ble_eq_true rfl⟩ rfl rfl ⟨Nat.le_of_ble_eq_true rfl, Nat.le_of_ble_eq_true rfl⟩ rfl hl.1 rfl (Nat.le_of_ble_eq_true rfl) dX7_init_64 (fun b8 H locs G => ?_)
  replace G : Wl D (va_A [(h0, .inr (7, [.null, .null, .null, .null, .null, .null, .null, .int 0, .int 0, .int 0, .int 0]))] s.heap.size) s [(h0, .inr (7, [.ref q1, .ref q3, .ref (b4 0), .ref (b4 3), .ref q5, .null, .null, .int 0, .int 0, .int 0, .int 0])), (q1, .inr (4, [.ref (b2 0), .ref (b2 1), .ref (b2 2)])), ((b2 0), .inl (cI, 480, .inl (fun _ => 0))), ((b2 1), .inl (cI, 480, .inl (fun _ => 0))), ((b2 2), .inl (cI, 20, .inl (fun _ => 0))), ((b4 0), .inr (2, [.ref (b4 1), .ref (b4 2), .int 0])), ((b4 1), .inl (cI, 60, .inl (fun _ => 0))), ((b4 2), .inl (cI, 60, .inl (fun _ => 0))), ((b4 3), .inr (6, [.ref (b4 4), .ref (b4 5)])), ((b4 4), .inl (cI, 40, .inl (fun j => if j < 40 then (-1) else 0))), ((b4 5), .inl (cI, 40, .inl (fun _ => 0))), (q3, .inr (3, [.ref (b4 0), .ref (b4 3)])), (q5, .inr (1, [.ref (b6 0)])), ((b6 0), .inl (cI, 12, .inl (fun j => if j < 12 then (-1) else 0))), (q7, .inr (0, [.ref (b8 0), .ref (b8 1), .ref (b8 2), .ref (b8 3), .ref (b8 4), .ref (b8 5), .int 0, .int 0])), ((b8 0), .inl (cI, 30, .inl (fun _ => 0))), ((b8 1), .inl (cI, 30, .inl (fun _ => 0))), ((b8 2), .inl (cI, 30, .inl (fun _ => 0))), ((b8 3), .inl (cJ, 30, .inr (.inl (fun _ => 0)))), ((b8 4), .inl (cI, 30, .inl (fun _ => 0))), ((b8 5), .inl (cI, 30, .inl (fun _ => 0)))] H locs := G
  refine l_putF (ty := .object "ErrorNames$Frames") (Cn := RX7) (T := TX7) (N := 11) (ci := 7) C hnm G 0 5 inX7 tyX7 tyX7_ok nmX7 rfl rfl (by decide) k_226 rfl rfl rfl (by decide +kernel) rfl rfl (Nat.le_of_ble_eq_true rfl) rfl dX7_init_67 (fun H locs G => ?_)
  replace G : Wl D (va_A [(h0, .inr (7, [.null, .null, .null, .null, .null, .null, .null, .int 0, .int 0, .int 0, .int 0]))] s.heap.size) s [(h0, .inr (7, [.ref q1, .ref q3, .ref (b4 0), .ref (b4 3), .ref q5, .ref q7, .null, .int 0, .int 0, .int 0, .int 0])), (q1, .inr (4, [.ref (b2 0), .ref (b2 1), .ref (b2 2)])), ((b2 0), .inl (cI, 480, .inl (fun _ => 0))), ((b2 1), .inl (cI, 480, .inl (fun _ => 0))), ((b2 2), .inl (cI, 20, .inl (fun _ => 0))), ((b4 0), .inr (2, [.ref (b4 1), .ref (b4 2), .int 0])), ((b4 1), .inl (cI, 60, .inl (fun _ => 0))), ((b4 2), .inl (cI, 60, .inl (fun _ => 0))), ((b4 3), .inr (6, [.ref (b4 4), .ref (b4 5)])), ((b4 4), .inl (cI, 40, .inl (fun j => if j < 40 then (-1) else 0))), ((b4 5), .inl (cI, 40, .inl (fun _ => 0))), (q3, .inr (3, [.ref (b4 0), .ref (b4 3)])), (q5, .inr (1, [.ref (b6 0)])), ((b6 0), .inl (cI, 12, .inl (fun j => if j < 12 then (-1) else 0))), (q7, .inr (0, [.ref (b8 0), .ref (b8 1), .ref (b8 2), .ref (b8 3), .ref (b8 4), .ref (b8 5), .int 0, .int 0])), ((b8 0), .inl (cI, 30, .inl (fun _ => 0))), ((b8 1), .inl (cI, 30, .inl (fun _ => 0))), ((b8 2), .inl (cI, 30, .inl (fun _ => 0))), ((b8 3), .inl (cJ, 30, .inr (.inl (fun _ => 0)))), ((b8 4), .inl (cI, 30, .inl (fun _ => 0))), ((b8 5), .inl (cI, 30, .inl (fun _ => 0)))] H locs := G
  refine lv_aload_n C.1 C.2.1 dX7_init_70 rfl (lv_at hl 0 rfl) ?_
  refine l_new (ci := 5) (fs := [.null, .int 0, .int 0, .int 0, .int 0, .int 0]) (Cn := RX5) (T := TX5) (N := 6) C hA G inX5 tyX5 tyX5_ok k_194 k_195 k_67 rfl (fun j hj => by rcases (show j = 0 ∨ j = 1 ∨ j = 2 ∨ j = 3 ∨ j = 4 ∨ j = 5 by omega) with rfl | rfl | rfl | rfl | rfl | rfl <;> rfl) (by decide) (by decide) dX7_init_71 (fun q9 H G => ?_)
  refine lv_dup C.1 C.2.1 dX7_init_74 rfl ?_
  refine l_ctorN (As := []) (na := 0) (wr := [(h0, .inr (7, [.ref q1, .ref q3, .ref (b4 0), .ref (b4 3), .ref q5, .ref q7, .null, .int 0, .int 0, .int 0, .int 0])), (q1, .inr (4, [.ref (b2 0), .ref (b2 1), .ref (b2 2)])), ((b2 0), .inl (cI, 480, .inl (fun _ => 0))), ((b2 1), .inl (cI, 480, .inl (fun _ => 0))), ((b2 2), .inl (cI, 20, .inl (fun _ => 0))), ((b4 0), .inr (2, [.ref (b4 1), .ref (b4 2), .int 0])), ((b4 1), .inl (cI, 60, .inl (fun _ => 0))), ((b4 2), .inl (cI, 60, .inl (fun _ => 0))), ((b4 3), .inr (6, [.ref (b4 4), .ref (b4 5)])), ((b4 4), .inl (cI, 40, .inl (fun j => if j < 40 then (-1) else 0))), ((b4 5), .inl (cI, 40, .inl (fun _ => 0))), (q3, .inr (3, [.ref (b4 0), .ref (b4 3)])), (q5, .inr (1, [.ref (b6 0)])), ((b6 0), .inl (cI, 12, .inl (fun j => if j < 12 then (-1) else 0))), (q7, .inr (0, [.ref (b8 0), .ref (b8 1), .ref (b8 2), .ref (b8 3), .ref (b8 4), .ref (b8 5), .int 0, .int 0])), ((b8 0), .inl (cI, 30, .inl (fun _ => 0))), ((b8 1), .inl (cI, 30, .inl (fun _ => 0))), ((b8 2), .inl (cI, 30, .inl (fun _ => 0))), ((b8 3), .inl (cJ, 30, .inr (.inl (fun _ => 0)))), ((b8 4), .inl (cI, 30, .inl (fun _ => 0))), ((b8 5), .inl (cI, 30, .inl (fun _ => 0)))]) C hA hN G (mX5_init l D cI cJ tk tf q9) hN.2.2.2.2.1 k_197 k_67 k_198 rfl [21] [0, 1, 2, 3, 4, 5, 6, 7, 8, 9, 10, 11, 12, 13, 14, 15, 16, 17, 18, 19, 20] rfl rfl (by decide) (by decide) (by decide) (by decide +kernel) ⟨Nat.le_of_ble_eq_true rfl, Nat.le_of_ble_eq_true rfl⟩ rfl rfl ⟨Nat.le_of_ble_eq_true rfl, Nat.le_of_ble_eq_true rfl⟩ rfl hl.1 rfl (Nat.le_of_ble_eq_true rfl) dX7_init_75 (fun b10 H locs G => ?_)
  replace G : Wl D (va_A [(h0, .inr (7, [.null, .null, .null, .null, .null, .null, .null, .int 0, .int 0, .int 0, .int 0]))] s.heap.size) s [(h0, .inr (7, [.ref q1, .ref q3, .ref (b4 0), .ref (b4 3), .ref q5, .ref q7, .null, .int 0, .int 0, .int 0, .int 0])), (q1, .inr (4, [.ref (b2 0), .ref (b2 1), .ref (b2 2)])), ((b2 0), .inl (cI, 480, .inl (fun _ => 0))), ((b2 1), .inl (cI, 480, .inl (fun _ => 0))), ((b2 2), .inl (cI, 20, .inl (fun _ => 0))), ((b4 0), .inr (2, [.ref (b4 1), .ref (b4 2), .int 0])), ((b4 1), .inl (cI, 60, .inl (fun _ => 0))), ((b4 2), .inl (cI, 60, .inl (fun _ => 0))), ((b4 3), .inr (6, [.ref (b4 4), .ref (b4 5)])), ((b4 4), .inl (cI, 40, .inl (fun j => if j < 40 then (-1) else 0))), ((b4 5), .inl (cI, 40, .inl (fun _ => 0))), (q3, .inr (3, [.ref (b4 0), .ref (b4 3)])), (q5, .inr (1, [.ref (b6 0)])), ((b6 0), .inl (cI, 12, .inl (fun j => if j < 12 then (-1) else 0))), (q7, .inr (0, [.ref (b8 0), .ref (b8 1), .ref (b8 2), .ref (b8 3), .ref (b8 4), .ref (b8 5), .int 0, .int 0])), ((b8 0), .inl (cI, 30, .inl (fun _ => 0))), ((b8 1), .inl (cI, 30, .inl (fun _ => 0))), ((b8 2), .inl (cI, 30, .inl (fun _ => 0))), ((b8 3), .inl (cJ, 30, .inr (.inl (fun _ => 0)))), ((b8 4), .inl (cI, 30, .inl (fun _ => 0))), ((b8 5), .inl (cI, 30, .inl (fun _ => 0))), (q9, .inr (5, [.ref (b10 0), .int 0, .int (-1), .int 0, .int 0, .int 0])), ((b10 0), .inr (2, [.ref (b10 1), .ref (b10 2), .int 0])), ((b10 1), .inl (cI, 60, .inl (fun _ => 0))), ((b10 2), .inl (cI, 60, .inl (fun _ => 0)))] H locs := G
  refine l_putF (ty := .object "ErrorNames$Report") (Cn := RX7) (T := TX7) (N := 11) (ci := 7) C hnm G 0 6 inX7 tyX7 tyX7_ok nmX7 rfl rfl (by decide) k_227 rfl rfl rfl (by decide +kernel) rfl rfl (Nat.le_of_ble_eq_true rfl) rfl dX7_init_78 (fun H locs G => ?_)
  replace G : Wl D (va_A [(h0, .inr (7, [.null, .null, .null, .null, .null, .null, .null, .int 0, .int 0, .int 0, .int 0]))] s.heap.size) s [(h0, .inr (7, [.ref q1, .ref q3, .ref (b4 0), .ref (b4 3), .ref q5, .ref q7, .ref q9, .int 0, .int 0, .int 0, .int 0])), (q1, .inr (4, [.ref (b2 0), .ref (b2 1), .ref (b2 2)])), ((b2 0), .inl (cI, 480, .inl (fun _ => 0))), ((b2 1), .inl (cI, 480, .inl (fun _ => 0))), ((b2 2), .inl (cI, 20, .inl (fun _ => 0))), ((b4 0), .inr (2, [.ref (b4 1), .ref (b4 2), .int 0])), ((b4 1), .inl (cI, 60, .inl (fun _ => 0))), ((b4 2), .inl (cI, 60, .inl (fun _ => 0))), ((b4 3), .inr (6, [.ref (b4 4), .ref (b4 5)])), ((b4 4), .inl (cI, 40, .inl (fun j => if j < 40 then (-1) else 0))), ((b4 5), .inl (cI, 40, .inl (fun _ => 0))), (q3, .inr (3, [.ref (b4 0), .ref (b4 3)])), (q5, .inr (1, [.ref (b6 0)])), ((b6 0), .inl (cI, 12, .inl (fun j => if j < 12 then (-1) else 0))), (q7, .inr (0, [.ref (b8 0), .ref (b8 1), .ref (b8 2), .ref (b8 3), .ref (b8 4), .ref (b8 5), .int 0, .int 0])), ((b8 0), .inl (cI, 30, .inl (fun _ => 0))), ((b8 1), .inl (cI, 30, .inl (fun _ => 0))), ((b8 2), .inl (cI, 30, .inl (fun _ => 0))), ((b8 3), .inl (cJ, 30, .inr (.inl (fun _ => 0)))), ((b8 4), .inl (cI, 30, .inl (fun _ => 0))), ((b8 5), .inl (cI, 30, .inl (fun _ => 0))), (q9, .inr (5, [.ref (b10 0), .int 0, .int (-1), .int 0, .int 0, .int 0])), ((b10 0), .inr (2, [.ref (b10 1), .ref (b10 2), .int 0])), ((b10 1), .inl (cI, 60, .inl (fun _ => 0))), ((b10 2), .inl (cI, 60, .inl (fun _ => 0)))] H locs := G
  have G2 : Wl D (va_A [(h0, .inr (7, [.null, .null, .null, .null, .null, .null, .null, .int 0, .int 0, .int 0, .int 0]))] s.heap.size) s ((fun (b : Nat → Nat) => [(h0, .inr (7, [.ref (b 0), .ref (b 23), .ref (b 4), .ref (b 7), .ref (b 10), .ref (b 12), .ref (b 19), .int 0, .int 0, .int 0, .int 0])), ((b 0), .inr (4, [.ref (b 1), .ref (b 2), .ref (b 3)])), ((b 1), .inl (cI, 480, .inl (fun _ => 0))), ((b 2), .inl (cI, 480, .inl (fun _ => 0))), ((b 3), .inl (cI, 20, .inl (fun _ => 0))), ((b 4), .inr (2, [.ref (b 5), .ref (b 6), .int 0])), ((b 5), .inl (cI, 60, .inl (fun _ => 0))), ((b 6), .inl (cI, 60, .inl (fun _ => 0))), ((b 7), .inr (6, [.ref (b 8), .ref (b 9)])), ((b 8), .inl (cI, 40, .inl (fun j => if j < 40 then (-1) else 0))), ((b 9), .inl (cI, 40, .inl (fun _ => 0))), ((b 10), .inr (1, [.ref (b 11)])), ((b 11), .inl (cI, 12, .inl (fun j => if j < 12 then (-1) else 0))), ((b 12), .inr (0, [.ref (b 13), .ref (b 14), .ref (b 15), .ref (b 16), .ref (b 17), .ref (b 18), .int 0, .int 0])), ((b 13), .inl (cI, 30, .inl (fun _ => 0))), ((b 14), .inl (cI, 30, .inl (fun _ => 0))), ((b 15), .inl (cI, 30, .inl (fun _ => 0))), ((b 16), .inl (cJ, 30, .inr (.inl (fun _ => 0)))), ((b 17), .inl (cI, 30, .inl (fun _ => 0))), ((b 18), .inl (cI, 30, .inl (fun _ => 0))), ((b 19), .inr (5, [.ref (b 20), .int 0, .int (-1), .int 0, .int 0, .int 0])), ((b 20), .inr (2, [.ref (b 21), .ref (b 22), .int 0])), ((b 21), .inl (cI, 60, .inl (fun _ => 0))), ((b 22), .inl (cI, 60, .inl (fun _ => 0))), ((b 23), .inr (3, [.ref (b 4), .ref (b 7)]))]) (fun j => match j with | 0 => q1 | 1 => (b2 0) | 2 => (b2 1) | 3 => (b2 2) | 4 => (b4 0) | 5 => (b4 1) | 6 => (b4 2) | 7 => (b4 3) | 8 => (b4 4) | 9 => (b4 5) | 10 => q5 | 11 => (b6 0) | 12 => q7 | 13 => (b8 0) | 14 => (b8 1) | 15 => (b8 2) | 16 => (b8 3) | 17 => (b8 4) | 18 => (b8 5) | 19 => q9 | 20 => (b10 0) | 21 => (b10 1) | 22 => (b10 2) | 23 => q3 | _ => 0)) H locs := ⟨G.1.sub [0, 1, 2, 3, 4, 5, 6, 7, 8, 9, 10, 12, 13, 14, 15, 16, 17, 18, 19, 20, 21, 22, 23, 24, 11] rfl, G.2.1.sub [0, 1, 2, 3, 4, 5, 6, 7, 8, 9, 10, 12, 13, 14, 15, 16, 17, 18, 19, 20, 21, 22, 23, 24, 11] (by decide) rfl, G.2.2⟩
  exact l_end (post := fun (b : Nat → Nat) => [(h0, .inr (7, [.ref (b 0), .ref (b 23), .ref (b 4), .ref (b 7), .ref (b 10), .ref (b 12), .ref (b 19), .int 0, .int 0, .int 0, .int 0])), ((b 0), .inr (4, [.ref (b 1), .ref (b 2), .ref (b 3)])), ((b 1), .inl (cI, 480, .inl (fun _ => 0))), ((b 2), .inl (cI, 480, .inl (fun _ => 0))), ((b 3), .inl (cI, 20, .inl (fun _ => 0))), ((b 4), .inr (2, [.ref (b 5), .ref (b 6), .int 0])), ((b 5), .inl (cI, 60, .inl (fun _ => 0))), ((b 6), .inl (cI, 60, .inl (fun _ => 0))), ((b 7), .inr (6, [.ref (b 8), .ref (b 9)])), ((b 8), .inl (cI, 40, .inl (fun j => if j < 40 then (-1) else 0))), ((b 9), .inl (cI, 40, .inl (fun _ => 0))), ((b 10), .inr (1, [.ref (b 11)])), ((b 11), .inl (cI, 12, .inl (fun j => if j < 12 then (-1) else 0))), ((b 12), .inr (0, [.ref (b 13), .ref (b 14), .ref (b 15), .ref (b 16), .ref (b 17), .ref (b 18), .int 0, .int 0])), ((b 13), .inl (cI, 30, .inl (fun _ => 0))), ((b 14), .inl (cI, 30, .inl (fun _ => 0))), ((b 15), .inl (cI, 30, .inl (fun _ => 0))), ((b 16), .inl (cJ, 30, .inr (.inl (fun _ => 0)))), ((b 17), .inl (cI, 30, .inl (fun _ => 0))), ((b 18), .inl (cI, 30, .inl (fun _ => 0))), ((b 19), .inr (5, [.ref (b 20), .int 0, .int (-1), .int 0, .int 0, .int 0])), ((b 20), .inr (2, [.ref (b 21), .ref (b 22), .int 0])), ((b 21), .inl (cI, 60, .inl (fun _ => 0))), ((b 22), .inl (cI, 60, .inl (fun _ => 0))), ((b 23), .inr (3, [.ref (b 4), .ref (b 7)]))]) (fun j => match j with | 0 => q1 | 1 => (b2 0) | 2 => (b2 1) | 3 => (b2 2) | 4 => (b4 0) | 5 => (b4 1) | 6 => (b4 2) | 7 => (b4 3) | 8 => (b4 4) | 9 => (b4 5) | 10 => q5 | 11 => (b6 0) | 12 => q7 | 13 => (b8 0) | 14 => (b8 1) | 15 => (b8 2) | 16 => (b8 3) | 17 => (b8 4) | 18 => (b8 5) | 19 => q9 | 20 => (b10 0) | 21 => (b10 1) | 22 => (b10 2) | 23 => q3 | _ => 0) C hr G2 dX7_init_81 ⟨Nat.le_of_ble_eq_true rfl, Nat.le_of_ble_eq_true rfl⟩
