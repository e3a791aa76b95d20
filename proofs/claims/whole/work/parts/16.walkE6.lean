theorem dX6_wipe_0 : decode cX6_wipe 0 = .ok (.iconst 0, 1) := by decide +kernel
theorem dX6_wipe_1 : decode cX6_wipe 1 = .ok (.istore_n 1, 1) := by decide +kernel
theorem dX6_wipe_2 : decode cX6_wipe 2 = .ok (.iconst 0, 1) := by decide +kernel
theorem dX6_wipe_3 : decode cX6_wipe 3 = .ok (.istore_n 2, 1) := by decide +kernel
theorem dX6_wipe_4 : decode cX6_wipe 4 = .ok (.iload_n 2, 1) := by decide +kernel
theorem dX6_wipe_5 : decode cX6_wipe 5 = .ok (.bipush 40, 2) := by decide +kernel
theorem dX6_wipe_7 : decode cX6_wipe 7 = .ok (.if_icmp .ge 36, 3) := by decide +kernel
theorem dX6_wipe_10 : decode cX6_wipe 10 = .ok (.aload_n 0, 1) := by decide +kernel
theorem dX6_wipe_11 : decode cX6_wipe 11 = .ok (.getfield 9, 3) := by decide +kernel
theorem dX6_wipe_14 : decode cX6_wipe 14 = .ok (.iload_n 2, 1) := by decide +kernel
theorem dX6_wipe_15 : decode cX6_wipe 15 = .ok (.iaload, 1) := by decide +kernel
theorem dX6_wipe_16 : decode cX6_wipe 16 = .ok (.iconst (-1), 1) := by decide +kernel
theorem dX6_wipe_17 : decode cX6_wipe 17 = .ok (.if_icmp .eq 6, 3) := by decide +kernel
theorem dX6_wipe_20 : decode cX6_wipe 20 = .ok (.iinc 1 1, 3) := by decide +kernel
theorem dX6_wipe_23 : decode cX6_wipe 23 = .ok (.aload_n 0, 1) := by decide +kernel
theorem dX6_wipe_24 : decode cX6_wipe 24 = .ok (.getfield 9, 3) := by decide +kernel
theorem dX6_wipe_27 : decode cX6_wipe 27 = .ok (.iload_n 2, 1) := by decide +kernel
theorem dX6_wipe_28 : decode cX6_wipe 28 = .ok (.iconst (-1), 1) := by decide +kernel
theorem dX6_wipe_29 : decode cX6_wipe 29 = .ok (.iastore, 1) := by decide +kernel
theorem dX6_wipe_30 : decode cX6_wipe 30 = .ok (.aload_n 0, 1) := by decide +kernel
theorem dX6_wipe_31 : decode cX6_wipe 31 = .ok (.getfield 15, 3) := by decide +kernel
theorem dX6_wipe_34 : decode cX6_wipe 34 = .ok (.iload_n 2, 1) := by decide +kernel
theorem dX6_wipe_35 : decode cX6_wipe 35 = .ok (.iconst 0, 1) := by decide +kernel
theorem dX6_wipe_36 : decode cX6_wipe 36 = .ok (.iastore, 1) := by decide +kernel
theorem dX6_wipe_37 : decode cX6_wipe 37 = .ok (.iinc 2 1, 3) := by decide +kernel
theorem dX6_wipe_40 : decode cX6_wipe 40 = .ok (.goto (-36), 3) := by decide +kernel
theorem dX6_wipe_43 : decode cX6_wipe 43 = .ok (.iload_n 1, 1) := by decide +kernel
theorem dX6_wipe_44 : decode cX6_wipe 44 = .ok (.ireturn, 1) := by decide +kernel
theorem dX7_forget_0 : decode cX7_forget 0 = .ok (.aload_n 0, 1) := by decide +kernel
theorem dX7_forget_1 : decode cX7_forget 1 = .ok (.getfield 33, 3) := by decide +kernel
theorem dX7_forget_4 : decode cX7_forget 4 = .ok (.invokevirtual 160, 3) := by decide +kernel
theorem dX7_forget_7 : decode cX7_forget 7 = .ok (.aload_n 0, 1) := by decide +kernel
theorem dX7_forget_8 : decode cX7_forget 8 = .ok (.getfield 47, 3) := by decide +kernel
theorem dX7_forget_11 : decode cX7_forget 11 = .ok (.invokevirtual 162, 3) := by decide +kernel
theorem dX7_forget_14 : decode cX7_forget 14 = .ok (.aload_n 0, 1) := by decide +kernel
theorem dX7_forget_15 : decode cX7_forget 15 = .ok (.iconst 0, 1) := by decide +kernel
theorem dX7_forget_16 : decode cX7_forget 16 = .ok (.putfield 110, 3) := by decide +kernel
theorem dX7_forget_19 : decode cX7_forget 19 = .ok (.aload_n 0, 1) := by decide +kernel
theorem dX7_forget_20 : decode cX7_forget 20 = .ok (.getfield 26, 3) := by decide +kernel
theorem dX7_forget_23 : decode cX7_forget 23 = .ok (.invokevirtual 163, 3) := by decide +kernel
theorem dX7_forget_26 : decode cX7_forget 26 = .ok (.ireturn, 1) := by decide +kernel
def fX6_wipe_8_4 : Nat → Int32 → Int32 → St → Option (Int32 × St)
  | 0, _, _, _ => none
  | n + 1, q1, q2, S =>
    if (40 : Int32) ≤ q2 then
      some (q1, S)
    else
      if vq q2 40 then
      if (S.1 9 q2.toNatClampNeg) = (-1 : Int32) then
        if vq q2 40 then
        stp (si S 9 q2.toNatClampNeg (-1 : Int32)) fun S4 =>
        if vq q2 40 then
        stp (si S4 10 q2.toNatClampNeg (0 : Int32)) fun S5 =>
        stv (q2 + 1) fun y6 =>
        fX6_wipe_8_4 n q1 y6 S5
        else none
        else none
      else
        stv (q1 + 1) fun y7 =>
        if vq q2 40 then
        stp (si S 9 q2.toNatClampNeg (-1 : Int32)) fun S8 =>
        if vq q2 40 then
        stp (si S8 10 q2.toNatClampNeg (0 : Int32)) fun S9 =>
        stv (q2 + 1) fun y10 =>
        fX6_wipe_8_4 n y7 y10 S9
        else none
        else none
      else none
def fX6_wipe_8 (S : St) : Option (Int32 × St) :=
  stv (0 : Int32) fun y1 =>
  stv (0 : Int32) fun y2 =>
  fX6_wipe_8_4 500 y1 y2 S
def fX7_forget_0 (S : St) : Option (Int32 × St) :=
  bnd (fX1_wipe_11 S) fun _ S1 =>
  bnd (fX5_wipe_20 S1) fun _ S2 =>
  stp (si S2 0 7 (0 : Int32)) fun S3 =>
  bnd (fX6_wipe_8 S3) fun r4 S4 =>
  some (r4, S4)
set_option maxRecDepth 100000 in
set_option maxHeartbeats 4000000 in
theorem rX6_wipe_8_4 {p : Program} {l : Launch} {e : Env} {s : State} {m : MethodId} {args : Array Value} {below : List Frame} {meth : Method} {c : Code} {D : va_G} {a : Nat → Nat} {cI cJ : ClassId} {tk : Nat} {tf : Nat → Int32} (C : Cx p s m args meth c RX6 cX6_wipe 3 D cI cJ tk tf (AR a 25 s.heap.size)) (hr : meth.sig.returnType = (some .int)) : ∀ (n : Nat) (q1 : Int32) (q2 : Int32) (S : St) (x : Int32 × St) (H : Heap) (locs : List Loc) (ls : Array Slot), fX6_wipe_8_4 n q1 q2 S = some x → Wd D (wE a cI cJ) (AR a 25 s.heap.size) s S H locs → lv_has ls 3 [(0, .ref (a 8)), (1, .int q1), (2, .int q2)] → W p l e { frames := 0, cells := 0, slots := 0, locals := 0 } s m args below meth c H locs 0 0 (MQ below (Qi D (wE a cI cJ) (AR a 25 s.heap.size) x) args s 0 0 (AR a 25 s.heap.size)) (F0 m 4 ls []) := by
  intro n
  induction n with
  | zero => intro q1 q2 S x H locs ls hf G hl; cases hf
  | succ n ih =>
    intro q1 q2 S x H locs ls hf G hl
    rw [fX6_wipe_8_4.eq_2] at hf
    refine lv_iload_n C.1 C.2.1 dX6_wipe_4 rfl (lv_at hl 2 rfl) ?_
    refine lv_bipush (v := 40) C.1 C.2.1 dX6_wipe_5 (by decide) ?_
    refine lv_icmp_ge (tgt := 43) C.1 C.2.1 dX6_wipe_7 (by decide) (fun c1 => ?_) (fun c1 => ?_)
    · replace hf := ifp c1 hf
      refine lv_iload_n C.1 C.2.1 dX6_wipe_43 rfl (lv_at hl 1 rfl) ?_
      exact r_iret C hr G hf dX6_wipe_44
    · replace hf := ifq c1 hf
      refine lv_aload_n C.1 C.2.1 dX6_wipe_10 rfl (lv_at hl 0 rfl) ?_
      refine gE_8_0 C G k_123 dX6_wipe_11 ?_
      refine lv_iload_n C.1 C.2.1 dX6_wipe_14 rfl (lv_at hl 2 rfl) ?_
      obtain ⟨hi2, hf⟩ := ifn hf
      refine aE_9 C G hi2 dX6_wipe_15 ?_
      refine lv_iconst (v := (-1)) C.1 C.2.1 dX6_wipe_16 (by decide) ?_
      refine lv_icmp_eq (tgt := 23) C.1 C.2.1 dX6_wipe_17 (by decide) (fun c3 => ?_) (fun c3 => ?_)
      · replace hf := ifp c3 hf
        refine lv_aload_n C.1 C.2.1 dX6_wipe_23 rfl (lv_at hl 0 rfl) ?_
        refine gE_8_0 C G k_123 dX6_wipe_24 ?_
        refine lv_iload_n C.1 C.2.1 dX6_wipe_27 rfl (lv_at hl 2 rfl) ?_
        refine lv_iconst (v := (-1)) C.1 C.2.1 dX6_wipe_28 (by decide) ?_
        obtain ⟨hi4, hf⟩ := ifn hf
        refine sE_9 C G hi4 dX6_wipe_29 (fun H locs G => ?_)
        obtain ⟨S4, eS4, hf⟩ := stp_e hf
        rw [← eS4] at G
        clear eS4
        refine lv_aload_n C.1 C.2.1 dX6_wipe_30 rfl (lv_at hl 0 rfl) ?_
        refine gE_8_1 C G k_124 dX6_wipe_31 ?_
        refine lv_iload_n C.1 C.2.1 dX6_wipe_34 rfl (lv_at hl 2 rfl) ?_
        refine lv_iconst (v := 0) C.1 C.2.1 dX6_wipe_35 (by decide) ?_
        obtain ⟨hi5, hf⟩ := ifn hf
        refine sE_10 C G hi5 dX6_wipe_36 (fun H locs G => ?_)
        obtain ⟨S5, eS5, hf⟩ := stp_e hf
        rw [← eS5] at G
        clear eS5
        obtain ⟨y6, ey6, hf⟩ := stv_e hf
        refine lv_iinc (v := y6) (lv' := [(2, .int y6), (0, .ref (a 8)), (1, .int q1)]) C.1 C.2.1 dX6_wipe_37 hl (k := 2) rfl (by rw [ey6]; rfl) (by decide) rfl (fun ls hl => ?_)
        refine lv_goto (tgt := 4) C.1 C.2.1 dX6_wipe_40 (by decide) ?_
        exact ih q1 y6 S5 _ _ _ _ hf G (lv_sub hl [1, 2, 0] rfl)
      · replace hf := ifq c3 hf
        obtain ⟨y7, ey7, hf⟩ := stv_e hf
        refine lv_iinc (v := y7) (lv' := [(1, .int y7), (0, .ref (a 8)), (2, .int q2)]) C.1 C.2.1 dX6_wipe_20 hl (k := 1) rfl (by rw [ey7]; rfl) (by decide) rfl (fun ls hl => ?_)
        refine lv_aload_n C.1 C.2.1 dX6_wipe_23 rfl (lv_at hl 1 rfl) ?_
        refine gE_8_0 C G k_123 dX6_wipe_24 ?_
        refine lv_iload_n C.1 C.2.1 dX6_wipe_27 rfl (lv_at hl 2 rfl) ?_
        refine lv_iconst (v := (-1)) C.1 C.2.1 dX6_wipe_28 (by decide) ?_
        obtain ⟨hi8, hf⟩ := ifn hf
        refine sE_9 C G hi8 dX6_wipe_29 (fun H locs G => ?_)
        obtain ⟨S8, eS8, hf⟩ := stp_e hf
        rw [← eS8] at G
        clear eS8
        refine lv_aload_n C.1 C.2.1 dX6_wipe_30 rfl (lv_at hl 1 rfl) ?_
        refine gE_8_1 C G k_124 dX6_wipe_31 ?_
        refine lv_iload_n C.1 C.2.1 dX6_wipe_34 rfl (lv_at hl 2 rfl) ?_
        refine lv_iconst (v := 0) C.1 C.2.1 dX6_wipe_35 (by decide) ?_
        obtain ⟨hi9, hf⟩ := ifn hf
        refine sE_10 C G hi9 dX6_wipe_36 (fun H locs G => ?_)
        obtain ⟨S9, eS9, hf⟩ := stp_e hf
        rw [← eS9] at G
        clear eS9
        obtain ⟨y10, ey10, hf⟩ := stv_e hf
        refine lv_iinc (v := y10) (lv' := [(2, .int y10), (1, .int y7), (0, .ref (a 8))]) C.1 C.2.1 dX6_wipe_37 hl (k := 2) rfl (by rw [ey10]; rfl) (by decide) rfl (fun ls hl => ?_)
        refine lv_goto (tgt := 4) C.1 C.2.1 dX6_wipe_40 (by decide) ?_
        exact ih y7 y10 S9 _ _ _ _ hf G (lv_sub hl [2, 1, 0] rfl)
set_option maxRecDepth 100000 in
set_option maxHeartbeats 4000000 in
theorem mX6_wipe_8 (l : Launch) (D : va_G) (a : Nat → Nat) (cI cJ : ClassId) (tk : Nat) (tf : Nat → Int32) (S : St) (x : Int32 × St) (hf : fX6_wipe_8 S = some x) : Mi l D (wE a cI cJ) a 25 cI cJ tk tf yX6_wipe cX6_wipe 3 (some .int) { frames := 0, cells := 0, slots := 0, locals := 0 } [.ref (a 8)] S x := by
  refine opn_i (by decide +kernel) (Nat.le_of_ble_eq_true rfl) (fun p e s m below meth c C hr G ls hl => ?_)
  replace hl : lv_has ls 3 [(0, .ref (a 8))] := hl
  unfold fX6_wipe_8 at hf
  refine lv_iconst (v := 0) C.1 C.2.1 dX6_wipe_0 (by decide) ?_
  obtain ⟨y1, ey1, hf⟩ := stv_e hf
  refine nm_i ey1 ?_
  refine lv_istore_n (lv' := [(1, .int y1), (0, .ref (a 8))]) C.1 C.2.1 dX6_wipe_1 rfl hl (by decide) rfl (fun ls hl => ?_)
  refine lv_iconst (v := 0) C.1 C.2.1 dX6_wipe_2 (by decide) ?_
  obtain ⟨y2, ey2, hf⟩ := stv_e hf
  refine nm_i ey2 ?_
  refine lv_istore_n (lv' := [(2, .int y2), (1, .int y1), (0, .ref (a 8))]) C.1 C.2.1 dX6_wipe_3 rfl hl (by decide) rfl (fun ls hl => ?_)
  exact rX6_wipe_8_4 C hr 500 y1 y2 S _ _ _ _ hf G (lv_sub hl [2, 1, 0] rfl)
set_option maxRecDepth 100000 in
set_option maxHeartbeats 4000000 in
theorem mX7_forget_0 (l : Launch) (D : va_G) (a : Nat → Nat) (cI cJ : ClassId) (tk : Nat) (tf : Nat → Int32) (S : St) (x : Int32 × St) (hf : fX7_forget_0 S = some x) : Mi l D (wE a cI cJ) a 25 cI cJ tk tf yX7_forget cX7_forget 1 (some .int) { frames := 2, cells := 0, slots := 0, locals := 43 } [.ref (a 0)] S x := by
  refine opn_i (by decide +kernel) (Nat.le_of_ble_eq_true rfl) (fun p e s m below meth c C hr G ls hl => ?_)
  replace hl : lv_has ls 1 [(0, .ref (a 0))] := hl
  unfold fX7_forget_0 at hf
  refine lv_aload_n C.1 C.2.1 dX7_forget_0 rfl (lv_at hl 0 rfl) ?_
  refine gE_0_3 C G k_216 dX7_forget_1 ?_
  obtain ⟨r1, S1, eS1, hf⟩ := bnd_e hf
  refine r_calv (As := []) (na := 0) C adE G (mX1_wipe_11 l D a cI cJ tk tf S _ eS1) k_590 k_591 k_592 k_64 k_593 (q0 := 11) rfl (ci := 1) rfl (by decide +kernel) ⟨Nat.le_of_ble_eq_true rfl, Nat.le_of_ble_eq_true rfl⟩ rfl rfl ⟨Nat.zero_le _, Nat.zero_le _⟩ rfl hl.1 rfl (Nat.le_of_ble_eq_true rfl) dX7_forget_4 (fun H locs G => ?_)
  refine lv_aload_n C.1 C.2.1 dX7_forget_7 rfl (lv_at hl 0 rfl) ?_
  refine gE_0_5 C G k_218 dX7_forget_8 ?_
  obtain ⟨r2, S2, eS2, hf⟩ := bnd_e hf
  refine r_calv (As := []) (na := 0) C adE G (mX5_wipe_20 l D a cI cJ tk tf S1 _ eS2) k_594 k_595 k_596 k_66 k_597 (q0 := 20) rfl (ci := 5) rfl (by decide +kernel) ⟨Nat.le_of_ble_eq_true rfl, Nat.le_of_ble_eq_true rfl⟩ rfl rfl ⟨Nat.zero_le _, Nat.zero_le _⟩ rfl hl.1 rfl (Nat.le_of_ble_eq_true rfl) dX7_forget_11 (fun H locs G => ?_)
  refine lv_aload_n C.1 C.2.1 dX7_forget_14 rfl (lv_at hl 0 rfl) ?_
  refine lv_iconst (v := 0) C.1 C.2.1 dX7_forget_15 (by decide) ?_
  refine pE_0_7 C G (Or.inl rfl) k_220 dX7_forget_16 (fun H locs G => ?_)
  obtain ⟨S3, eS3, hf⟩ := stp_e hf
  rw [← eS3] at G
  clear eS3
  refine lv_aload_n C.1 C.2.1 dX7_forget_19 rfl (lv_at hl 0 rfl) ?_
  refine gE_0_2 C G k_215 dX7_forget_20 ?_
  obtain ⟨r4, S4, eS4, hf⟩ := bnd_e hf
  refine r_cali (As := []) (na := 0) C adE G (mX6_wipe_8 l D a cI cJ tk tf S3 _ eS4) k_599 k_600 k_601 k_62 k_602 (q0 := 8) rfl (ci := 6) rfl (by decide +kernel) ⟨Nat.le_of_ble_eq_true rfl, Nat.le_of_ble_eq_true rfl⟩ rfl rfl ⟨Nat.zero_le _, Nat.zero_le _⟩ rfl hl.1 rfl (Nat.le_of_ble_eq_true rfl) dX7_forget_23 (fun H locs G => ?_)
  exact r_iret C hr G hf dX7_forget_26
