theorem dX8_kept_0 : decode cX8_kept 0 = .ok (.aload_n 0, 1) := by decide +kernel
theorem dX8_kept_1 : decode cX8_kept 1 = .ok (.iload_n 1, 1) := by decide +kernel
theorem dX8_kept_2 : decode cX8_kept 2 = .ok (.iconst 0, 1) := by decide +kernel
theorem dX8_kept_3 : decode cX8_kept 3 = .ok (.aload_n 0, 1) := by decide +kernel
theorem dX8_kept_4 : decode cX8_kept 4 = .ok (.getfield 79, 3) := by decide +kernel
theorem dX8_kept_7 : decode cX8_kept 7 = .ok (.iconst 1, 1) := by decide +kernel
theorem dX8_kept_8 : decode cX8_kept 8 = .ok (.isub, 1) := by decide +kernel
theorem dX8_kept_9 : decode cX8_kept 9 = .ok (.invokestatic 88, 3) := by decide +kernel
theorem dX8_kept_12 : decode cX8_kept 12 = .ok (.ifCond .eq 16, 3) := by decide +kernel
theorem dX8_kept_15 : decode cX8_kept 15 = .ok (.iload_n 2, 1) := by decide +kernel
theorem dX8_kept_16 : decode cX8_kept 16 = .ok (.iconst 0, 1) := by decide +kernel
theorem dX8_kept_17 : decode cX8_kept 17 = .ok (.iconst 1, 1) := by decide +kernel
theorem dX8_kept_18 : decode cX8_kept 18 = .ok (.invokestatic 88, 3) := by decide +kernel
theorem dX8_kept_21 : decode cX8_kept 21 = .ok (.ifCond .eq 7, 3) := by decide +kernel
theorem dX8_kept_24 : decode cX8_kept 24 = .ok (.iconst 0, 1) := by decide +kernel
theorem dX8_kept_25 : decode cX8_kept 25 = .ok (.goto 4, 3) := by decide +kernel
theorem dX8_kept_28 : decode cX8_kept 28 = .ok (.iconst 1, 1) := by decide +kernel
theorem dX8_kept_29 : decode cX8_kept 29 = .ok (.putfield 62, 3) := by decide +kernel
theorem dX8_kept_32 : decode cX8_kept 32 = .ok (.aload_n 0, 1) := by decide +kernel
theorem dX8_kept_33 : decode cX8_kept 33 = .ok (.getfield 62, 3) := by decide +kernel
theorem dX8_kept_36 : decode cX8_kept 36 = .ok (.ifCond .le 7, 3) := by decide +kernel
theorem dX8_kept_39 : decode cX8_kept 39 = .ok (.iconst 0, 1) := by decide +kernel
theorem dX8_kept_40 : decode cX8_kept 40 = .ok (.goto 22, 3) := by decide +kernel
theorem dX8_kept_43 : decode cX8_kept 43 = .ok (.iload_n 2, 1) := by decide +kernel
theorem dX8_kept_44 : decode cX8_kept 44 = .ok (.ifCond .ne 12, 3) := by decide +kernel
theorem dX8_kept_47 : decode cX8_kept 47 = .ok (.aload_n 0, 1) := by decide +kernel
theorem dX8_kept_48 : decode cX8_kept 48 = .ok (.getfield 34, 3) := by decide +kernel
theorem dX8_kept_51 : decode cX8_kept 51 = .ok (.iload_n 1, 1) := by decide +kernel
theorem dX8_kept_52 : decode cX8_kept 52 = .ok (.iaload, 1) := by decide +kernel
theorem dX8_kept_53 : decode cX8_kept 53 = .ok (.goto 9, 3) := by decide +kernel
theorem dX8_kept_56 : decode cX8_kept 56 = .ok (.aload_n 0, 1) := by decide +kernel
theorem dX8_kept_57 : decode cX8_kept 57 = .ok (.getfield 37, 3) := by decide +kernel
theorem dX8_kept_60 : decode cX8_kept 60 = .ok (.iload_n 1, 1) := by decide +kernel
theorem dX8_kept_61 : decode cX8_kept 61 = .ok (.iaload, 1) := by decide +kernel
theorem dX8_kept_62 : decode cX8_kept 62 = .ok (.ireturn, 1) := by decide +kernel
theorem dX8_handler_0 : decode cX8_handler 0 = .ok (.aload_n 0, 1) := by decide +kernel
theorem dX8_handler_1 : decode cX8_handler 1 = .ok (.iload_n 1, 1) := by decide +kernel
theorem dX8_handler_2 : decode cX8_handler 2 = .ok (.iconst 1, 1) := by decide +kernel
theorem dX8_handler_3 : decode cX8_handler 3 = .ok (.bipush 11, 2) := by decide +kernel
theorem dX8_handler_5 : decode cX8_handler 5 = .ok (.invokestatic 88, 3) := by decide +kernel
theorem dX8_handler_8 : decode cX8_handler 8 = .ok (.ifCond .eq 7, 3) := by decide +kernel
theorem dX8_handler_11 : decode cX8_handler 11 = .ok (.iconst 0, 1) := by decide +kernel
theorem dX8_handler_12 : decode cX8_handler 12 = .ok (.goto 4, 3) := by decide +kernel
theorem dX8_handler_15 : decode cX8_handler 15 = .ok (.iconst 1, 1) := by decide +kernel
theorem dX8_handler_16 : decode cX8_handler 16 = .ok (.putfield 62, 3) := by decide +kernel
theorem dX8_handler_19 : decode cX8_handler 19 = .ok (.aload_n 0, 1) := by decide +kernel
theorem dX8_handler_20 : decode cX8_handler 20 = .ok (.getfield 62, 3) := by decide +kernel
theorem dX8_handler_23 : decode cX8_handler 23 = .ok (.ifCond .le 7, 3) := by decide +kernel
theorem dX8_handler_26 : decode cX8_handler 26 = .ok (.iconst 0, 1) := by decide +kernel
theorem dX8_handler_27 : decode cX8_handler 27 = .ok (.goto 9, 3) := by decide +kernel
theorem dX8_handler_30 : decode cX8_handler 30 = .ok (.aload_n 0, 1) := by decide +kernel
theorem dX8_handler_31 : decode cX8_handler 31 = .ok (.getfield 31, 3) := by decide +kernel
theorem dX8_handler_34 : decode cX8_handler 34 = .ok (.iload_n 1, 1) := by decide +kernel
theorem dX8_handler_35 : decode cX8_handler 35 = .ok (.iaload, 1) := by decide +kernel
theorem dX8_handler_36 : decode cX8_handler 36 = .ok (.ireturn, 1) := by decide +kernel
theorem dX8_named_0 : decode cX8_named 0 = .ok (.aload_n 0, 1) := by decide +kernel
theorem dX8_named_1 : decode cX8_named 1 = .ok (.iload_n 1, 1) := by decide +kernel
theorem dX8_named_2 : decode cX8_named 2 = .ok (.iconst 0, 1) := by decide +kernel
theorem dX8_named_3 : decode cX8_named 3 = .ok (.bipush 39, 2) := by decide +kernel
theorem dX8_named_5 : decode cX8_named 5 = .ok (.invokestatic 88, 3) := by decide +kernel
theorem dX8_named_8 : decode cX8_named 8 = .ok (.ifCond .eq 16, 3) := by decide +kernel
theorem dX8_named_11 : decode cX8_named 11 = .ok (.iload_n 2, 1) := by decide +kernel
theorem dX8_named_12 : decode cX8_named 12 = .ok (.iconst 0, 1) := by decide +kernel
theorem dX8_named_13 : decode cX8_named 13 = .ok (.iconst 1, 1) := by decide +kernel
theorem dX8_named_14 : decode cX8_named 14 = .ok (.invokestatic 88, 3) := by decide +kernel
theorem dX8_named_17 : decode cX8_named 17 = .ok (.ifCond .eq 7, 3) := by decide +kernel
theorem dX8_named_20 : decode cX8_named 20 = .ok (.iconst 0, 1) := by decide +kernel
theorem dX8_named_21 : decode cX8_named 21 = .ok (.goto 4, 3) := by decide +kernel
theorem dX8_named_24 : decode cX8_named 24 = .ok (.iconst 1, 1) := by decide +kernel
theorem dX8_named_25 : decode cX8_named 25 = .ok (.putfield 62, 3) := by decide +kernel
theorem dX8_named_28 : decode cX8_named 28 = .ok (.aload_n 0, 1) := by decide +kernel
theorem dX8_named_29 : decode cX8_named 29 = .ok (.getfield 62, 3) := by decide +kernel
theorem dX8_named_32 : decode cX8_named 32 = .ok (.ifCond .le 7, 3) := by decide +kernel
theorem dX8_named_35 : decode cX8_named 35 = .ok (.iconst 0, 1) := by decide +kernel
theorem dX8_named_36 : decode cX8_named 36 = .ok (.goto 36, 3) := by decide +kernel
theorem dX8_named_39 : decode cX8_named 39 = .ok (.iload_n 2, 1) := by decide +kernel
theorem dX8_named_40 : decode cX8_named 40 = .ok (.ifCond .ne 12, 3) := by decide +kernel
theorem dX8_named_43 : decode cX8_named 43 = .ok (.aload_n 0, 1) := by decide +kernel
theorem dX8_named_44 : decode cX8_named 44 = .ok (.getfield 25, 3) := by decide +kernel
theorem dX8_named_47 : decode cX8_named 47 = .ok (.iload_n 1, 1) := by decide +kernel
theorem dX8_named_48 : decode cX8_named 48 = .ok (.iaload, 1) := by decide +kernel
theorem dX8_named_49 : decode cX8_named 49 = .ok (.goto 23, 3) := by decide +kernel
theorem dX8_named_52 : decode cX8_named 52 = .ok (.aload_n 0, 1) := by decide +kernel
theorem dX8_named_53 : decode cX8_named 53 = .ok (.getfield 25, 3) := by decide +kernel
theorem dX8_named_56 : decode cX8_named 56 = .ok (.iload_n 1, 1) := by decide +kernel
theorem dX8_named_57 : decode cX8_named 57 = .ok (.iaload, 1) := by decide +kernel
theorem dX8_named_58 : decode cX8_named 58 = .ok (.iconst (-1), 1) := by decide +kernel
theorem dX8_named_59 : decode cX8_named 59 = .ok (.if_icmp .ne 7, 3) := by decide +kernel
theorem dX8_named_62 : decode cX8_named 62 = .ok (.iconst 0, 1) := by decide +kernel
theorem dX8_named_63 : decode cX8_named 63 = .ok (.goto 9, 3) := by decide +kernel
theorem dX8_named_66 : decode cX8_named 66 = .ok (.aload_n 0, 1) := by decide +kernel
theorem dX8_named_67 : decode cX8_named 67 = .ok (.getfield 28, 3) := by decide +kernel
theorem dX8_named_70 : decode cX8_named 70 = .ok (.iload_n 1, 1) := by decide +kernel
theorem dX8_named_71 : decode cX8_named 71 = .ok (.iaload, 1) := by decide +kernel
theorem dX8_named_72 : decode cX8_named 72 = .ok (.ireturn, 1) := by decide +kernel
def fX8_kept_0_29 (q1 : Int32) (q2 : Int32) (z1 : Int32) (S : St) : Option (Int32 × St) :=
    stp (si S 0 0 z1) fun S1 =>
    if (S1.1 0 0) ≤ 0 then
      if q2 = 0 then
        if vq q1 60 then
        some (S1.1 9 q1.toNatClampNeg, S1)
        else none
      else
        if vq q1 60 then
        some (S1.1 10 q1.toNatClampNeg, S1)
        else none
    else
      some ((0 : Int32), S1)
def fX8_kept_0_28 (q1 : Int32) (q2 : Int32) (S : St) : Option (Int32 × St) :=
    fX8_kept_0_29 q1 q2 (1 : Int32) S
def fX8_kept_0 (p1 : Int32) (p2 : Int32) (S : St) : Option (Int32 × St) :=
  bnd (fX8_in p1 (0 : Int32) ((S.1 0 16) - (1 : Int32)) S) fun r1 S1 =>
  if r1 = 0 then
    fX8_kept_0_28 p1 p2 S1
  else
    bnd (fX8_in p2 (0 : Int32) (1 : Int32) S1) fun r3 S3 =>
    if r3 = 0 then
      fX8_kept_0_28 p1 p2 S3
    else
      fX8_kept_0_29 p1 p2 (0 : Int32) S3
def fX8_handler_0_16 (q1 : Int32) (z1 : Int32) (S : St) : Option (Int32 × St) :=
    stp (si S 0 0 z1) fun S1 =>
    if (S1.1 0 0) ≤ 0 then
      if vq q1 12 then
      some (S1.1 8 q1.toNatClampNeg, S1)
      else none
    else
      some ((0 : Int32), S1)
def fX8_handler_0 (p1 : Int32) (S : St) : Option (Int32 × St) :=
  bnd (fX8_in p1 (1 : Int32) (11 : Int32) S) fun r1 S1 =>
  if r1 = 0 then
    fX8_handler_0_16 p1 (1 : Int32) S1
  else
    fX8_handler_0_16 p1 (0 : Int32) S1
def fX8_named_0_25 (q1 : Int32) (q2 : Int32) (z1 : Int32) (S : St) : Option (Int32 × St) :=
    stp (si S 0 0 z1) fun S1 =>
    if (S1.1 0 0) ≤ 0 then
      if q2 = 0 then
        if vq q1 40 then
        some (S1.1 6 q1.toNatClampNeg, S1)
        else none
      else
        if vq q1 40 then
        if (S1.1 6 q1.toNatClampNeg) = (-1 : Int32) then
          some ((0 : Int32), S1)
        else
          if vq q1 40 then
          some (S1.1 7 q1.toNatClampNeg, S1)
          else none
        else none
    else
      some ((0 : Int32), S1)
def fX8_named_0_24 (q1 : Int32) (q2 : Int32) (S : St) : Option (Int32 × St) :=
    fX8_named_0_25 q1 q2 (1 : Int32) S
def fX8_named_0 (p1 : Int32) (p2 : Int32) (S : St) : Option (Int32 × St) :=
  bnd (fX8_in p1 (0 : Int32) (39 : Int32) S) fun r1 S1 =>
  if r1 = 0 then
    fX8_named_0_24 p1 p2 S1
  else
    bnd (fX8_in p2 (0 : Int32) (1 : Int32) S1) fun r3 S3 =>
    if r3 = 0 then
      fX8_named_0_24 p1 p2 S3
    else
      fX8_named_0_25 p1 p2 (0 : Int32) S3
set_option maxRecDepth 100000 in
set_option maxHeartbeats 4000000 in
theorem rX8_kept_0_29 {p : Program} {l : Launch} {e : Env} {s : State} {m : MethodId} {args : Array Value} {below : List Frame} {meth : Method} {c : Code} {D : va_G} {a : Nat → Nat} {cI cJ : ClassId} {tk : Nat} {tf : Nat → Int32} (C : Cx p s m args meth c RX8 cX8_kept 3 D cI cJ tk tf (AR a 17 s.heap.size)) (hr : meth.sig.returnType = (some .int)) : ∀ (q1 : Int32) (q2 : Int32) (z1 : Int32) (S : St) (x : Int32 × St) (H : Heap) (locs : List Loc) (ls : Array Slot), fX8_kept_0_29 q1 q2 z1 S = some x → Wd D (wM a cI cJ) (AR a 17 s.heap.size) s S H locs → lv_has ls 3 [(0, .ref (a 0)), (1, .int q1), (2, .int q2)] → W p l e { frames := 1, cells := 0, slots := 0, locals := 22 } s m args below meth c H locs 0 0 (MQ below (Qi D (wM a cI cJ) (AR a 17 s.heap.size) x) args s 0 0 (AR a 17 s.heap.size)) (F0 m 29 ls [.int z1, .ref (a 0)]) := by
  intro q1 q2 z1 S x H locs ls hf G hl
  unfold fX8_kept_0_29 at hf
  refine pM_0_0 C G k_758 dX8_kept_29 (fun H locs G => ?_)
  obtain ⟨S1, eS1, hf⟩ := stp_e hf
  rw [← eS1] at G
  clear eS1
  refine lv_aload_n C.1 C.2.1 dX8_kept_32 rfl (lv_at hl 0 rfl) ?_
  refine gM_0_0 C G k_758 dX8_kept_33 ?_
  refine lv_if_le (tgt := 43) C.1 C.2.1 dX8_kept_36 (by decide) (fun c2 => ?_) (fun c2 => ?_)
  · replace hf := ifp c2 hf
    refine lv_iload_n C.1 C.2.1 dX8_kept_43 rfl (lv_at hl 2 rfl) ?_
    refine lv_if_ne (tgt := 56) C.1 C.2.1 dX8_kept_44 (by decide) (fun c3 => ?_) (fun c3 => ?_)
    · replace hf := ifq c3 hf
      refine lv_aload_n C.1 C.2.1 dX8_kept_56 rfl (lv_at hl 0 rfl) ?_
      refine gM_0_15 C G k_773 dX8_kept_57 ?_
      refine lv_iload_n C.1 C.2.1 dX8_kept_60 rfl (lv_at hl 1 rfl) ?_
      obtain ⟨hi5, hf⟩ := ifn hf
      refine aM_10 C G hi5 dX8_kept_61 ?_
      exact r_iret C hr G hf dX8_kept_62
    · replace hf := ifp c3 hf
      refine lv_aload_n C.1 C.2.1 dX8_kept_47 rfl (lv_at hl 0 rfl) ?_
      refine gM_0_14 C G k_772 dX8_kept_48 ?_
      refine lv_iload_n C.1 C.2.1 dX8_kept_51 rfl (lv_at hl 1 rfl) ?_
      obtain ⟨hi4, hf⟩ := ifn hf
      refine aM_9 C G hi4 dX8_kept_52 ?_
      refine lv_goto (tgt := 62) C.1 C.2.1 dX8_kept_53 (by decide) ?_
      exact r_iret C hr G hf dX8_kept_62
  · replace hf := ifq c2 hf
    refine lv_iconst (v := 0) C.1 C.2.1 dX8_kept_39 (by decide) ?_
    refine lv_goto (tgt := 62) C.1 C.2.1 dX8_kept_40 (by decide) ?_
    exact r_iret C hr G hf dX8_kept_62
set_option maxRecDepth 100000 in
set_option maxHeartbeats 4000000 in
theorem rX8_kept_0_28 {p : Program} {l : Launch} {e : Env} {s : State} {m : MethodId} {args : Array Value} {below : List Frame} {meth : Method} {c : Code} {D : va_G} {a : Nat → Nat} {cI cJ : ClassId} {tk : Nat} {tf : Nat → Int32} (C : Cx p s m args meth c RX8 cX8_kept 3 D cI cJ tk tf (AR a 17 s.heap.size)) (hr : meth.sig.returnType = (some .int)) : ∀ (q1 : Int32) (q2 : Int32) (S : St) (x : Int32 × St) (H : Heap) (locs : List Loc) (ls : Array Slot), fX8_kept_0_28 q1 q2 S = some x → Wd D (wM a cI cJ) (AR a 17 s.heap.size) s S H locs → lv_has ls 3 [(0, .ref (a 0)), (1, .int q1), (2, .int q2)] → W p l e { frames := 1, cells := 0, slots := 0, locals := 22 } s m args below meth c H locs 0 0 (MQ below (Qi D (wM a cI cJ) (AR a 17 s.heap.size) x) args s 0 0 (AR a 17 s.heap.size)) (F0 m 28 ls [.ref (a 0)]) := by
  intro q1 q2 S x H locs ls hf G hl
  unfold fX8_kept_0_28 at hf
  refine lv_iconst (v := 1) C.1 C.2.1 dX8_kept_28 (by decide) ?_
  exact rX8_kept_0_29 C hr q1 q2 (1 : Int32) S _ _ _ _ hf G (lv_sub hl [0, 1, 2] rfl)
set_option maxRecDepth 100000 in
set_option maxHeartbeats 4000000 in
theorem mX8_kept_0 (l : Launch) (D : va_G) (a : Nat → Nat) (cI cJ : ClassId) (tk : Nat) (tf : Nat → Int32) (p1 : Int32) (p2 : Int32) (S : St) (x : Int32 × St) (hf : fX8_kept_0 p1 p2 S = some x) : Mi l D (wM a cI cJ) a 17 cI cJ tk tf yX8_kept cX8_kept 3 (some .int) { frames := 1, cells := 0, slots := 0, locals := 22 } [.ref (a 0), .int p1, .int p2] S x := by
  refine opn_i (by decide +kernel) (Nat.le_of_ble_eq_true rfl) (fun p e s m below meth c C hr G ls hl => ?_)
  replace hl : lv_has ls 3 [(0, .ref (a 0)), (1, .int p1), (2, .int p2)] := hl
  unfold fX8_kept_0 at hf
  refine lv_aload_n C.1 C.2.1 dX8_kept_0 rfl (lv_at hl 0 rfl) ?_
  refine lv_iload_n C.1 C.2.1 dX8_kept_1 rfl (lv_at hl 1 rfl) ?_
  refine lv_iconst (v := 0) C.1 C.2.1 dX8_kept_2 (by decide) ?_
  refine lv_aload_n C.1 C.2.1 dX8_kept_3 rfl (lv_at hl 0 rfl) ?_
  refine gM_0_16 C G k_774 dX8_kept_4 ?_
  refine lv_iconst (v := 1) C.1 C.2.1 dX8_kept_7 (by decide) ?_
  refine lv_isub C.1 C.2.1 dX8_kept_8 ?_
  obtain ⟨r1, S1, eS1, hf⟩ := bnd_e hf
  refine r_cals (As := [.int p1, .int (0 : Int32), .int ((S.1 0 16) - (1 : Int32))]) (na := 3) C adM G (mX8_in l D a cI cJ tk tf p1 (0 : Int32) ((S.1 0 16) - (1 : Int32)) S _ eS1) k_857 k_858 k_68 k_859 (by decide +kernel) ⟨Nat.le_of_ble_eq_true rfl, Nat.le_of_ble_eq_true rfl⟩ rfl rfl ⟨Nat.zero_le _, Nat.zero_le _⟩ rfl hl.1 rfl (Nat.le_of_ble_eq_true rfl) dX8_kept_9 (fun H locs G => ?_)
  refine lv_if_eq (tgt := 28) C.1 C.2.1 dX8_kept_12 (by decide) (fun c2 => ?_) (fun c2 => ?_)
  · replace hf := ifp c2 hf
    exact rX8_kept_0_28 C hr p1 p2 S1 _ _ _ _ hf G (lv_sub hl [0, 1, 2] rfl)
  · replace hf := ifq c2 hf
    refine lv_iload_n C.1 C.2.1 dX8_kept_15 rfl (lv_at hl 2 rfl) ?_
    refine lv_iconst (v := 0) C.1 C.2.1 dX8_kept_16 (by decide) ?_
    refine lv_iconst (v := 1) C.1 C.2.1 dX8_kept_17 (by decide) ?_
    obtain ⟨r3, S3, eS3, hf⟩ := bnd_e hf
    refine r_cals (As := [.int p2, .int (0 : Int32), .int (1 : Int32)]) (na := 3) C adM G (mX8_in l D a cI cJ tk tf p2 (0 : Int32) (1 : Int32) S1 _ eS3) k_857 k_858 k_68 k_859 (by decide +kernel) ⟨Nat.le_of_ble_eq_true rfl, Nat.le_of_ble_eq_true rfl⟩ rfl rfl ⟨Nat.zero_le _, Nat.zero_le _⟩ rfl hl.1 rfl (Nat.le_of_ble_eq_true rfl) dX8_kept_18 (fun H locs G => ?_)
    refine lv_if_eq (tgt := 28) C.1 C.2.1 dX8_kept_21 (by decide) (fun c4 => ?_) (fun c4 => ?_)
    · replace hf := ifp c4 hf
      exact rX8_kept_0_28 C hr p1 p2 S3 _ _ _ _ hf G (lv_sub hl [0, 1, 2] rfl)
    · replace hf := ifq c4 hf
      refine lv_iconst (v := 0) C.1 C.2.1 dX8_kept_24 (by decide) ?_
      refine lv_goto (tgt := 29) C.1 C.2.1 dX8_kept_25 (by decide) ?_
      exact rX8_kept_0_29 C hr p1 p2 (0 : Int32) S3 _ _ _ _ hf G (lv_sub hl [0, 1, 2] rfl)
set_option maxRecDepth 100000 in
set_option maxHeartbeats 4000000 in
theorem rX8_handler_0_16 {p : Program} {l : Launch} {e : Env} {s : State} {m : MethodId} {args : Array Value} {below : List Frame} {meth : Method} {c : Code} {D : va_G} {a : Nat → Nat} {cI cJ : ClassId} {tk : Nat} {tf : Nat → Int32} (C : Cx p s m args meth c RX8 cX8_handler 2 D cI cJ tk tf (AR a 17 s.heap.size)) (hr : meth.sig.returnType = (some .int)) : ∀ (q1 : Int32) (z1 : Int32) (S : St) (x : Int32 × St) (H : Heap) (locs : List Loc) (ls : Array Slot), fX8_handler_0_16 q1 z1 S = some x → Wd D (wM a cI cJ) (AR a 17 s.heap.size) s S H locs → lv_has ls 2 [(0, .ref (a 0)), (1, .int q1)] → W p l e { frames := 1, cells := 0, slots := 0, locals := 22 } s m args below meth c H locs 0 0 (MQ below (Qi D (wM a cI cJ) (AR a 17 s.heap.size) x) args s 0 0 (AR a 17 s.heap.size)) (F0 m 16 ls [.int z1, .ref (a 0)]) := by
  intro q1 z1 S x H locs ls hf G hl
  unfold fX8_handler_0_16 at hf
  refine pM_0_0 C G k_758 dX8_handler_16 (fun H locs G => ?_)
  obtain ⟨S1, eS1, hf⟩ := stp_e hf
  rw [← eS1] at G
  clear eS1
  refine lv_aload_n C.1 C.2.1 dX8_handler_19 rfl (lv_at hl 0 rfl) ?_
  refine gM_0_0 C G k_758 dX8_handler_20 ?_
  refine lv_if_le (tgt := 30) C.1 C.2.1 dX8_handler_23 (by decide) (fun c2 => ?_) (fun c2 => ?_)
  · replace hf := ifp c2 hf
    refine lv_aload_n C.1 C.2.1 dX8_handler_30 rfl (lv_at hl 0 rfl) ?_
    refine gM_0_9 C G k_767 dX8_handler_31 ?_
    refine lv_iload_n C.1 C.2.1 dX8_handler_34 rfl (lv_at hl 1 rfl) ?_
    obtain ⟨hi3, hf⟩ := ifn hf
    refine aM_8 C G hi3 dX8_handler_35 ?_
    exact r_iret C hr G hf dX8_handler_36
  · replace hf := ifq c2 hf
    refine lv_iconst (v := 0) C.1 C.2.1 dX8_handler_26 (by decide) ?_
    refine lv_goto (tgt := 36) C.1 C.2.1 dX8_handler_27 (by decide) ?_
    exact r_iret C hr G hf dX8_handler_36
set_option maxRecDepth 100000 in
set_option maxHeartbeats 4000000 in
theorem mX8_handler_0 (l : Launch) (D : va_G) (a : Nat → Nat) (cI cJ : ClassId) (tk : Nat) (tf : Nat → Int32) (p1 : Int32) (S : St) (x : Int32 × St) (hf : fX8_handler_0 p1 S = some x) : Mi l D (wM a cI cJ) a 17 cI cJ tk tf yX8_handler cX8_handler 2 (some .int) { frames := 1, cells := 0, slots := 0, locals := 22 } [.ref (a 0), .int p1] S x := by
  refine opn_i (by decide +kernel) (Nat.le_of_ble_eq_true rfl) (fun p e s m below meth c C hr G ls hl => ?_)
  replace hl : lv_has ls 2 [(0, .ref (a 0)), (1, .int p1)] := hl
  unfold fX8_handler_0 at hf
  refine lv_aload_n C.1 C.2.1 dX8_handler_0 rfl (lv_at hl 0 rfl) ?_
  refine lv_iload_n C.1 C.2.1 dX8_handler_1 rfl (lv_at hl 1 rfl) ?_
  refine lv_iconst (v := 1) C.1 C.2.1 dX8_handler_2 (by decide) ?_
  refine lv_bipush (v := 11) C.1 C.2.1 dX8_handler_3 (by decide) ?_
  obtain ⟨r1, S1, eS1, hf⟩ := bnd_e hf
  refine r_cals (As := [.int p1, .int (1 : Int32), .int (11 : Int32)]) (na := 3) C adM G (mX8_in l D a cI cJ tk tf p1 (1 : Int32) (11 : Int32) S _ eS1) k_857 k_858 k_68 k_859 (by decide +kernel) ⟨Nat.le_of_ble_eq_true rfl, Nat.le_of_ble_eq_true rfl⟩ rfl rfl ⟨Nat.zero_le _, Nat.zero_le _⟩ rfl hl.1 rfl (Nat.le_of_ble_eq_true rfl) dX8_handler_5 (fun H locs G => ?_)
  refine lv_if_eq (tgt := 15) C.1 C.2.1 dX8_handler_8 (by decide) (fun c2 => ?_) (fun c2 => ?_)
  · replace hf := ifp c2 hf
    refine lv_iconst (v := 1) C.1 C.2.1 dX8_handler_15 (by decide) ?_
    exact rX8_handler_0_16 C hr p1 (1 : Int32) S1 _ _ _ _ hf G (lv_sub hl [0, 1] rfl)
  · replace hf := ifq c2 hf
    refine lv_iconst (v := 0) C.1 C.2.1 dX8_handler_11 (by decide) ?_
    refine lv_goto (tgt := 16) C.1 C.2.1 dX8_handler_12 (by decide) ?_
    exact rX8_handler_0_16 C hr p1 (0 : Int32) S1 _ _ _ _ hf G (lv_sub hl [0, 1] rfl)
set_option maxRecDepth 100000 in
set_option maxHeartbeats 4000000 in
theorem rX8_named_0_25 {p : Program} {l : Launch} {e : Env} {s : State} {m : MethodId} {args : Array Value} {below : List Frame} {meth : Method} {c : Code} {D : va_G} {a : Nat → Nat} {cI cJ : ClassId} {tk : Nat} {tf : Nat → Int32} (C : Cx p s m args meth c RX8 cX8_named 3 D cI cJ tk tf (AR a 17 s.heap.size)) (hr : meth.sig.returnType = (some .int)) : ∀ (q1 : Int32) (q2 : Int32) (z1 : Int32) (S : St) (x : Int32 × St) (H : Heap) (locs : List Loc) (ls : Array Slot), fX8_named_0_25 q1 q2 z1 S = some x → Wd D (wM a cI cJ) (AR a 17 s.heap.size) s S H locs → lv_has ls 3 [(0, .ref (a 0)), (1, .int q1), (2, .int q2)] → W p l e { frames := 1, cells := 0, slots := 0, locals := 22 } s m args below meth c H locs 0 0 (MQ below (Qi D (wM a cI cJ) (AR a 17 s.heap.size) x) args s 0 0 (AR a 17 s.heap.size)) (F0 m 25 ls [.int z1, .ref (a 0)]) := by
  intro q1 q2 z1 S x H locs ls hf G hl
  unfold fX8_named_0_25 at hf
  refine pM_0_0 C G k_758 dX8_named_25 (fun H locs G => ?_)
  obtain ⟨S1, eS1, hf⟩ := stp_e hf
  rw [← eS1] at G
  clear eS1
  refine lv_aload_n C.1 C.2.1 dX8_named_28 rfl (lv_at hl 0 rfl) ?_
  refine gM_0_0 C G k_758 dX8_named_29 ?_
  refine lv_if_le (tgt := 39) C.1 C.2.1 dX8_named_32 (by decide) (fun c2 => ?_) (fun c2 => ?_)
  · replace hf := ifp c2 hf
    refine lv_iload_n C.1 C.2.1 dX8_named_39 rfl (lv_at hl 2 rfl) ?_
    refine lv_if_ne (tgt := 52) C.1 C.2.1 dX8_named_40 (by decide) (fun c3 => ?_) (fun c3 => ?_)
    · replace hf := ifq c3 hf
      refine lv_aload_n C.1 C.2.1 dX8_named_52 rfl (lv_at hl 0 rfl) ?_
      refine gM_0_7 C G k_765 dX8_named_53 ?_
      refine lv_iload_n C.1 C.2.1 dX8_named_56 rfl (lv_at hl 1 rfl) ?_
      obtain ⟨hi5, hf⟩ := ifn hf
      refine aM_6 C G hi5 dX8_named_57 ?_
      refine lv_iconst (v := (-1)) C.1 C.2.1 dX8_named_58 (by decide) ?_
      refine lv_icmp_ne (tgt := 66) C.1 C.2.1 dX8_named_59 (by decide) (fun c6 => ?_) (fun c6 => ?_)
      · replace hf := ifq c6 hf
        refine lv_aload_n C.1 C.2.1 dX8_named_66 rfl (lv_at hl 0 rfl) ?_
        refine gM_0_8 C G k_766 dX8_named_67 ?_
        refine lv_iload_n C.1 C.2.1 dX8_named_70 rfl (lv_at hl 1 rfl) ?_
        obtain ⟨hi7, hf⟩ := ifn hf
        refine aM_7 C G hi7 dX8_named_71 ?_
        exact r_iret C hr G hf dX8_named_72
      · replace hf := ifp c6 hf
        refine lv_iconst (v := 0) C.1 C.2.1 dX8_named_62 (by decide) ?_
        refine lv_goto (tgt := 72) C.1 C.2.1 dX8_named_63 (by decide) ?_
        exact r_iret C hr G hf dX8_named_72
    · replace hf := ifp c3 hf
      refine lv_aload_n C.1 C.2.1 dX8_named_43 rfl (lv_at hl 0 rfl) ?_
      refine gM_0_7 C G k_765 dX8_named_44 ?_
      refine lv_iload_n C.1 C.2.1 dX8_named_47 rfl (lv_at hl 1 rfl) ?_
      obtain ⟨hi4, hf⟩ := ifn hf
      refine aM_6 C G hi4 dX8_named_48 ?_
      refine lv_goto (tgt := 72) C.1 C.2.1 dX8_named_49 (by decide) ?_
      exact r_iret C hr G hf dX8_named_72
  · replace hf := ifq c2 hf
    refine lv_iconst (v := 0) C.1 C.2.1 dX8_named_35 (by decide) ?_
    refine lv_goto (tgt := 72) C.1 C.2.1 dX8_named_36 (by decide) ?_
    exact r_iret C hr G hf dX8_named_72
set_option maxRecDepth 100000 in
set_option maxHeartbeats 4000000 in
theorem rX8_named_0_24 {p : Program} {l : Launch} {e : Env} {s : State} {m : MethodId} {args : Array Value} {below : List Frame} {meth : Method} {c : Code} {D : va_G} {a : Nat → Nat} {cI cJ : ClassId} {tk : Nat} {tf : Nat → Int32} (C : Cx p s m args meth c RX8 cX8_named 3 D cI cJ tk tf (AR a 17 s.heap.size)) (hr : meth.sig.returnType = (some .int)) : ∀ (q1 : Int32) (q2 : Int32) (S : St) (x : Int32 × St) (H : Heap) (locs : List Loc) (ls : Array Slot), fX8_named_0_24 q1 q2 S = some x → Wd D (wM a cI cJ) (AR a 17 s.heap.size) s S H locs → lv_has ls 3 [(0, .ref (a 0)), (1, .int q1), (2, .int q2)] → W p l e { frames := 1, cells := 0, slots := 0, locals := 22 } s m args below meth c H locs 0 0 (MQ below (Qi D (wM a cI cJ) (AR a 17 s.heap.size) x) args s 0 0 (AR a 17 s.heap.size)) (F0 m 24 ls [.ref (a 0)]) := by
  intro q1 q2 S x H locs ls hf G hl
  unfold fX8_named_0_24 at hf
  refine lv_iconst (v := 1) C.1 C.2.1 dX8_named_24 (by decide) ?_
  exact rX8_named_0_25 C hr q1 q2 (1 : Int32) S _ _ _ _ hf G (lv_sub hl [0, 1, 2] rfl)
set_option maxRecDepth 100000 in
set_option maxHeartbeats 4000000 in
theorem mX8_named_0 (l : Launch) (D : va_G) (a : Nat → Nat) (cI cJ : ClassId) (tk : Nat) (tf : Nat → Int32) (p1 : Int32) (p2 : Int32) (S : St) (x : Int32 × St) (hf : fX8_named_0 p1 p2 S = some x) : Mi l D (wM a cI cJ) a 17 cI cJ tk tf yX8_named cX8_named 3 (some .int) { frames := 1, cells := 0, slots := 0, locals := 22 } [.ref (a 0), .int p1, .int p2] S x := by
  refine opn_i (by decide +kernel) (Nat.le_of_ble_eq_true rfl) (fun p e s m below meth c C hr G ls hl => ?_)
  replace hl : lv_has ls 3 [(0, .ref (a 0)), (1, .int p1), (2, .int p2)] := hl
  unfold fX8_named_0 at hf
  refine lv_aload_n C.1 C.2.1 dX8_named_0 rfl (lv_at hl 0 rfl) ?_
  refine lv_iload_n C.1 C.2.1 dX8_named_1 rfl (lv_at hl 1 rfl) ?_
  refine lv_iconst (v := 0) C.1 C.2.1 dX8_named_2 (by decide) ?_
  refine lv_bipush (v := 39) C.1 C.2.1 dX8_named_3 (by decide) ?_
  obtain ⟨r1, S1, eS1, hf⟩ := bnd_e hf
  refine r_cals (As := [.int p1, .int (0 : Int32), .int (39 : Int32)]) (na := 3) C adM G (mX8_in l D a cI cJ tk tf p1 (0 : Int32) (39 : Int32) S _ eS1) k_857 k_858 k_68 k_859 (by decide +kernel) ⟨Nat.le_of_ble_eq_true rfl, Nat.le_of_ble_eq_true rfl⟩ rfl rfl ⟨Nat.zero_le _, Nat.zero_le _⟩ rfl hl.1 rfl (Nat.le_of_ble_eq_true rfl) dX8_named_5 (fun H locs G => ?_)
  refine lv_if_eq (tgt := 24) C.1 C.2.1 dX8_named_8 (by decide) (fun c2 => ?_) (fun c2 => ?_)
  · replace hf := ifp c2 hf
    exact rX8_named_0_24 C hr p1 p2 S1 _ _ _ _ hf G (lv_sub hl [0, 1, 2] rfl)
  · replace hf := ifq c2 hf
    refine lv_iload_n C.1 C.2.1 dX8_named_11 rfl (lv_at hl 2 rfl) ?_
    refine lv_iconst (v := 0) C.1 C.2.1 dX8_named_12 (by decide) ?_
    refine lv_iconst (v := 1) C.1 C.2.1 dX8_named_13 (by decide) ?_
    obtain ⟨r3, S3, eS3, hf⟩ := bnd_e hf
    refine r_cals (As := [.int p2, .int (0 : Int32), .int (1 : Int32)]) (na := 3) C adM G (mX8_in l D a cI cJ tk tf p2 (0 : Int32) (1 : Int32) S1 _ eS3) k_857 k_858 k_68 k_859 (by decide +kernel) ⟨Nat.le_of_ble_eq_true rfl, Nat.le_of_ble_eq_true rfl⟩ rfl rfl ⟨Nat.zero_le _, Nat.zero_le _⟩ rfl hl.1 rfl (Nat.le_of_ble_eq_true rfl) dX8_named_14 (fun H locs G => ?_)
    refine lv_if_eq (tgt := 24) C.1 C.2.1 dX8_named_17 (by decide) (fun c4 => ?_) (fun c4 => ?_)
    · replace hf := ifp c4 hf
      exact rX8_named_0_24 C hr p1 p2 S3 _ _ _ _ hf G (lv_sub hl [0, 1, 2] rfl)
    · replace hf := ifq c4 hf
      refine lv_iconst (v := 0) C.1 C.2.1 dX8_named_20 (by decide) ?_
      refine lv_goto (tgt := 25) C.1 C.2.1 dX8_named_21 (by decide) ?_
      exact rX8_named_0_25 C hr p1 p2 (0 : Int32) S3 _ _ _ _ hf G (lv_sub hl [0, 1, 2] rfl)
