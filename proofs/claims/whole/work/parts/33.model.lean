theorem dX8_init_0 : decode cX8_init 0 = .ok (.aload_n 0, 1) := by decide +kernel
theorem dX8_init_1 : decode cX8_init 1 = .ok (.invokespecial 1, 3) := by decide +kernel
theorem dX8_init_4 : decode cX8_init 4 = .ok (.aload_n 0, 1) := by decide +kernel
theorem dX8_init_5 : decode cX8_init 5 = .ok (.sipush 480, 3) := by decide +kernel
theorem dX8_init_8 : decode cX8_init 8 = .ok (.newarray .int, 2) := by decide +kernel
theorem dX8_init_10 : decode cX8_init 10 = .ok (.putfield 7, 3) := by decide +kernel
theorem dX8_init_13 : decode cX8_init 13 = .ok (.aload_n 0, 1) := by decide +kernel
theorem dX8_init_14 : decode cX8_init 14 = .ok (.sipush 480, 3) := by decide +kernel
theorem dX8_init_17 : decode cX8_init 17 = .ok (.newarray .int, 2) := by decide +kernel
theorem dX8_init_19 : decode cX8_init 19 = .ok (.putfield 13, 3) := by decide +kernel
theorem dX8_init_22 : decode cX8_init 22 = .ok (.aload_n 0, 1) := by decide +kernel
theorem dX8_init_23 : decode cX8_init 23 = .ok (.bipush 20, 2) := by decide +kernel
theorem dX8_init_25 : decode cX8_init 25 = .ok (.newarray .int, 2) := by decide +kernel
theorem dX8_init_27 : decode cX8_init 27 = .ok (.putfield 16, 3) := by decide +kernel
theorem dX8_init_30 : decode cX8_init 30 = .ok (.aload_n 0, 1) := by decide +kernel
theorem dX8_init_31 : decode cX8_init 31 = .ok (.bipush 60, 2) := by decide +kernel
theorem dX8_init_33 : decode cX8_init 33 = .ok (.newarray .int, 2) := by decide +kernel
theorem dX8_init_35 : decode cX8_init 35 = .ok (.putfield 19, 3) := by decide +kernel
theorem dX8_init_38 : decode cX8_init 38 = .ok (.aload_n 0, 1) := by decide +kernel
theorem dX8_init_39 : decode cX8_init 39 = .ok (.bipush 60, 2) := by decide +kernel
theorem dX8_init_41 : decode cX8_init 41 = .ok (.newarray .int, 2) := by decide +kernel
theorem dX8_init_43 : decode cX8_init 43 = .ok (.putfield 22, 3) := by decide +kernel
theorem dX8_init_46 : decode cX8_init 46 = .ok (.aload_n 0, 1) := by decide +kernel
theorem dX8_init_47 : decode cX8_init 47 = .ok (.bipush 40, 2) := by decide +kernel
theorem dX8_init_49 : decode cX8_init 49 = .ok (.newarray .int, 2) := by decide +kernel
theorem dX8_init_51 : decode cX8_init 51 = .ok (.putfield 25, 3) := by decide +kernel
theorem dX8_init_54 : decode cX8_init 54 = .ok (.aload_n 0, 1) := by decide +kernel
theorem dX8_init_55 : decode cX8_init 55 = .ok (.bipush 40, 2) := by decide +kernel
theorem dX8_init_57 : decode cX8_init 57 = .ok (.newarray .int, 2) := by decide +kernel
theorem dX8_init_59 : decode cX8_init 59 = .ok (.putfield 28, 3) := by decide +kernel
theorem dX8_init_62 : decode cX8_init 62 = .ok (.aload_n 0, 1) := by decide +kernel
theorem dX8_init_63 : decode cX8_init 63 = .ok (.bipush 12, 2) := by decide +kernel
theorem dX8_init_65 : decode cX8_init 65 = .ok (.newarray .int, 2) := by decide +kernel
theorem dX8_init_67 : decode cX8_init 67 = .ok (.putfield 31, 3) := by decide +kernel
theorem dX8_init_70 : decode cX8_init 70 = .ok (.aload_n 0, 1) := by decide +kernel
theorem dX8_init_71 : decode cX8_init 71 = .ok (.bipush 60, 2) := by decide +kernel
theorem dX8_init_73 : decode cX8_init 73 = .ok (.newarray .int, 2) := by decide +kernel
theorem dX8_init_75 : decode cX8_init 75 = .ok (.putfield 34, 3) := by decide +kernel
theorem dX8_init_78 : decode cX8_init 78 = .ok (.aload_n 0, 1) := by decide +kernel
theorem dX8_init_79 : decode cX8_init 79 = .ok (.bipush 60, 2) := by decide +kernel
theorem dX8_init_81 : decode cX8_init 81 = .ok (.newarray .int, 2) := by decide +kernel
theorem dX8_init_83 : decode cX8_init 83 = .ok (.putfield 37, 3) := by decide +kernel
theorem dX8_init_86 : decode cX8_init 86 = .ok (.aload_n 0, 1) := by decide +kernel
theorem dX8_init_87 : decode cX8_init 87 = .ok (.bipush 30, 2) := by decide +kernel
theorem dX8_init_89 : decode cX8_init 89 = .ok (.newarray .int, 2) := by decide +kernel
theorem dX8_init_91 : decode cX8_init 91 = .ok (.putfield 40, 3) := by decide +kernel
theorem dX8_init_94 : decode cX8_init 94 = .ok (.aload_n 0, 1) := by decide +kernel
theorem dX8_init_95 : decode cX8_init 95 = .ok (.bipush 30, 2) := by decide +kernel
theorem dX8_init_97 : decode cX8_init 97 = .ok (.newarray .int, 2) := by decide +kernel
theorem dX8_init_99 : decode cX8_init 99 = .ok (.putfield 43, 3) := by decide +kernel
theorem dX8_init_102 : decode cX8_init 102 = .ok (.aload_n 0, 1) := by decide +kernel
theorem dX8_init_103 : decode cX8_init 103 = .ok (.bipush 30, 2) := by decide +kernel
theorem dX8_init_105 : decode cX8_init 105 = .ok (.newarray .int, 2) := by decide +kernel
theorem dX8_init_107 : decode cX8_init 107 = .ok (.putfield 46, 3) := by decide +kernel
theorem dX8_init_110 : decode cX8_init 110 = .ok (.aload_n 0, 1) := by decide +kernel
theorem dX8_init_111 : decode cX8_init 111 = .ok (.bipush 30, 2) := by decide +kernel
theorem dX8_init_113 : decode cX8_init 113 = .ok (.newarray .long, 2) := by decide +kernel
theorem dX8_init_115 : decode cX8_init 115 = .ok (.putfield 49, 3) := by decide +kernel
theorem dX8_init_118 : decode cX8_init 118 = .ok (.aload_n 0, 1) := by decide +kernel
theorem dX8_init_119 : decode cX8_init 119 = .ok (.bipush 30, 2) := by decide +kernel
theorem dX8_init_121 : decode cX8_init 121 = .ok (.newarray .int, 2) := by decide +kernel
theorem dX8_init_123 : decode cX8_init 123 = .ok (.putfield 53, 3) := by decide +kernel
theorem dX8_init_126 : decode cX8_init 126 = .ok (.aload_n 0, 1) := by decide +kernel
theorem dX8_init_127 : decode cX8_init 127 = .ok (.bipush 30, 2) := by decide +kernel
theorem dX8_init_129 : decode cX8_init 129 = .ok (.newarray .int, 2) := by decide +kernel
theorem dX8_init_131 : decode cX8_init 131 = .ok (.putfield 56, 3) := by decide +kernel
theorem dX8_init_134 : decode cX8_init 134 = .ok (.aload_n 0, 1) := by decide +kernel
theorem dX8_init_135 : decode cX8_init 135 = .ok (.invokevirtual 59, 3) := by decide +kernel
theorem dX8_init_138 : decode cX8_init 138 = .ok (.return_, 1) := by decide +kernel
/-- a new object of the reference, before it clears itself -/
def z0 : St := (fun _ _ => 0, fun _ => 0)
/-- the cells of an object: its own, then the new ones -/
def ac (h : Nat) (b : Nat → Nat) : Nat → Nat
  | 0 => h
  | j + 1 => b j
set_option maxRecDepth 100000 in
set_option maxHeartbeats 4000000 in
theorem mX8_init (l : Launch) (D : va_G) (cI cJ : ClassId) (tk : Nat) (tf : Nat → Int32) (h0 : Nat) (r : Int32) (S1 : St) (hc : fX8_clearAll_0 z0 = some (r, S1)) : Mk l D cI cJ tk tf yX8_init cX8_init 1 { frames := 1, cells := 16, slots := 1492, locals := 22 } [.ref h0] [(h0, .inr (8, [.int 0, .null, .null, .null, .null, .null, .int 0, .null, .null, .null, .int 0, .int 0, .int 0, .int 0, .null, .null, .int 0, .int 0, .int 0, .int 0, .null, .null, .null, .null, .null, .null, .int 0, .int 0, .int 0, .int 0]))] (fun (b : Nat → Nat) => wM (ac h0 b) cI cJ S1) 16 1492 := by
  refine opn_k (by decide +kernel) (Nat.le_of_ble_eq_true rfl) (fun p e s m below meth c C hN hnm hr G ls hl => ?_)
  replace hl : lv_has ls 1 [(0, .ref h0)] := hl
  have hA : ∀ q, s.heap.size ≤ q → va_A [(h0, .inr (8, [.int 0, .null, .null, .null, .null, .null, .int 0, .null, .null, .null, .int 0, .int 0, .int 0, .int 0, .null, .null, .int 0, .int 0, .int 0, .int 0, .null, .null, .null, .null, .null, .null, .int 0, .int 0, .int 0, .int 0]))] s.heap.size q := fun q h => Or.inr h
  refine lv_aload_n C.1 C.2.1 dX8_init_0 rfl (lv_at hl 0 rfl) ?_
  refine l_obj C k_753 k_79 k_80 hl.1 dX8_init_1 (by decide) (by decide) ?_
  refine lv_aload_n C.1 C.2.1 dX8_init_4 rfl (lv_at hl 0 rfl) ?_
  refine lv_sipush (v := (480)) C.1 C.2.1 dX8_init_5 (by decide) ?_
  refine l_newI C hA G 480 (by decide) (by decide) (by decide) (by decide) (by decide) dX8_init_8 (fun q1 H G => ?_)
  refine l_putF (ty := .array .int) (Cn := RX8) (T := TX8) (N := 30) (ci := 8) C hnm G 0 1 inX8 tyX8 tyX8_ok nmX8 rfl rfl (by decide) k_759 rfl rfl rfl (by decide +kernel) rfl rfl (Nat.le_of_ble_eq_true rfl) rfl dX8_init_10 (fun H locs G => ?_)
  replace G : Wl D (va_A [(h0, .inr (8, [.int 0, .null, .null, .null, .null, .null, .int 0, .null, .null, .null, .int 0, .int 0, .int 0, .int 0, .null, .null, .int 0, .int 0, .int 0, .int 0, .null, .null, .null, .null, .null, .null, .int 0, .int 0, .int 0, .int 0]))] s.heap.size) s [(h0, .inr (8, [.int 0, .ref q1, .null, .null, .null, .null, .int 0, .null, .null, .null, .int 0, .int 0, .int 0, .int 0, .null, .null, .int 0, .int 0, .int 0, .int 0, .null, .null, .null, .null, .null, .null, .int 0, .int 0, .int 0, .int 0])), (q1, .inl (cI, 480, .inl (fun _ => 0)))] H locs := G
  refine lv_aload_n C.1 C.2.1 dX8_init_13 rfl (lv_at hl 0 rfl) ?_
  refine lv_sipush (v := (480)) C.1 C.2.1 dX8_init_14 (by decide) ?_
  refine l_newI C hA G 480 (by decide) (by decide) (by decide) (by decide) (by decide) dX8_init_17 (fun q2 H G => ?_)
  refine l_putF (ty := .array .int) (Cn := RX8) (T := TX8) (N := 30) (ci := 8) C hnm G 0 2 inX8 tyX8 tyX8_ok nmX8 rfl rfl (by decide) k_760 rfl rfl rfl (by decide +kernel) rfl rfl (Nat.le_of_ble_eq_true rfl) rfl dX8_init_19 (fun H locs G => ?_)
  replace G : Wl D (va_A [(h0, .inr (8, [.int 0, .null, .null, .null, .null, .null, .int 0, .null, .null, .null, .int 0, .int 0, .int 0, .int 0, .null, .null, .int 0, .int 0, .int 0, .int 0, .null, .null, .null, .null, .null, .null, .int 0, .int 0, .int 0, .int 0]))] s.heap.size) s [(h0, .inr (8, [.int 0, .ref q1, .ref q2, .null, .null, .null, .int 0, .null, .null, .null, .int 0, .int 0, .int 0, .int 0, .null, .null, .int 0, .int 0, .int 0, .int 0, .null, .null, .null, .null, .null, .null, .int 0, .int 0, .int 0, .int 0])), (q1, .inl (cI, 480, .inl (fun _ => 0))), (q2, .inl (cI, 480, .inl (fun _ => 0)))] H locs := G
  refine lv_aload_n C.1 C.2.1 dX8_init_22 rfl (lv_at hl 0 rfl) ?_
  refine lv_bipush (v := (20)) C.1 C.2.1 dX8_init_23 (by decide) ?_
  refine l_newI C hA G 20 (by decide) (by decide) (by decide) (by decide) (by decide) dX8_init_25 (fun q3 H G => ?_)
  refine l_putF (ty := .array .int) (Cn := RX8) (T := TX8) (N := 30) (ci := 8) C hnm G 0 3 inX8 tyX8 tyX8_ok nmX8 rfl rfl (by decide) k_761 rfl rfl rfl (by decide +kernel) rfl rfl (Nat.le_of_ble_eq_true rfl) rfl dX8_init_27 (fun H locs G => ?_)
  replace G : Wl D (va_A [(h0, .inr (8, [.int 0, .null, .null, .null, .null, .null, .int 0, .null, .null, .null, .int 0, .int 0, .int 0, .int 0, .null, .null, .int 0, .int 0, .int 0, .int 0, .null, .null, .null, .null, .null, .null, .int 0, .int 0, .int 0, .int 0]))] s.heap.size) s [(h0, .inr (8, [.int 0, .ref q1, .ref q2, .ref q3, .null, .null, .int 0, .null, .null, .null, .int 0, .int 0, .int 0, .int 0, .null, .null, .int 0, .int 0, .int 0, .int 0, .null, .null, .null, .null, .null, .null, .int 0, .int 0, .int 0, .int 0])), (q1, .inl (cI, 480, .inl (fun _ => 0))), (q2, .inl (cI, 480, .inl (fun _ => 0))), (q3, .inl (cI, 20, .inl (fun _ => 0)))] H locs := G
  refine lv_aload_n C.1 C.2.1 dX8_init_30 rfl (lv_at hl 0 rfl) ?_
  refine lv_bipush (v := (60)) C.1 C.2.1 dX8_init_31 (by decide) ?_
  refine l_newI C hA G 60 (by decide) (by decide) (by decide) (by decide) (by decide) dX8_init_33 (fun q4 H G => ?_)
  refine l_putF (ty := .array .int) (Cn := RX8) (T := TX8) (N := 30) (ci := 8) C hnm G 0 4 inX8 tyX8 tyX8_ok nmX8 rfl rfl (by decide) k_762 rfl rfl rfl (by decide +kernel) rfl rfl (Nat.le_of_ble_eq_true rfl) rfl dX8_init_35 (fun H locs G => ?_)
  replace G : Wl D (va_A [(h0, .inr (8, [.int 0, .null, .null, .null, .null, .null, .int 0, .null, .null, .null, .int 0, .int 0, .int 0, .int 0, .null, .null, .int 0, .int 0, .int 0, .int 0, .null, .null, .null, .null, .null, .null, .int 0, .int 0, .int 0, .int 0]))] s.heap.size) s [(h0, .inr (8, [.int 0, .ref q1, .ref q2, .ref q3, .ref q4, .null, .int 0, .null, .null, .null, .int 0, .int 0, .int 0, .int 0, .null, .null, .int 0, .int 0, .int 0, .int 0, .null, .null, .null, .null, .null, .null, .int 0, .int 0, .int 0, .int 0])), (q1, .inl (cI, 480, .inl (fun _ => 0))), (q2, .inl (cI, 480, .inl (fun _ => 0))), (q3, .inl (cI, 20, .inl (fun _ => 0))), (q4, .inl (cI, 60, .inl (fun _ => 0)))] H locs := G
  refine lv_aload_n C.1 C.2.1 dX8_init_38 rfl (lv_at hl 0 rfl) ?_
  refine lv_bipush (v := (60)) C.1 C.2.1 dX8_init_39 (by decide) ?_
  refine l_newI C hA G 60 (by decide) (by decide) (by decide) (by decide) (by decide) dX8_init_41 (fun q5 H G => ?_)
  refine l_putF (ty := .array .int) (Cn := RX8) (T := TX8) (N := 30) (ci := 8) C hnm G 0 5 inX8 tyX8 tyX8_ok nmX8 rfl rfl (by decide) k_763 rfl rfl rfl (by decide +kernel) rfl rfl (Nat.le_of_ble_eq_true rfl) rfl dX8_init_43 (fun H locs G => ?_)
  replace G : Wl D (va_A [(h0, .inr (8, [.int 0, .null, .null, .null, .null, .null, .int 0, .null, .null, .null, .int 0, .int 0, .int 0, .int 0, .null, .null, .int 0, .int 0, .int 0, .int 0, .null, .null, .null, .null, .null, .null, .int 0, .int 0, .int 0, .int 0]))] s.heap.size) s [(h0, .inr (8, [.int 0, .ref q1, .ref q2, .ref q3, .ref q4, .ref q5, .int 0, .null, .null, .null, .int 0, .int 0, .int 0, .int 0, .null, .null, .int 0, .int 0, .int 0, .int 0, .null, .null, .null, .null, .null, .null, .int 0, .int 0, .int 0, .int 0])), (q1, .inl (cI, 480, .inl (fun _ => 0))), (q2, .inl (cI, 480, .inl (fun _ => 0))), (q3, .inl (cI, 20, .inl (fun _ => 0))), (q4, .inl (cI, 60, .inl (fun _ => 0))), (q5, .inl (cI, 60, .inl (fun _ => 0)))] H locs := G
  refine lv_aload_n C.1 C.2.1 dX8_init_46 rfl (lv_at hl 0 rfl) ?_
  refine lv_bipush (v := (40)) C.1 C.2.1 dX8_init_47 (by decide) ?_
  refine l_newI C hA G 40 (by decide) (by decide) (by decide) (by decide) (by decide) dX8_init_49 (fun q6 H G => ?_)
  refine l_putF (ty := .array .int) (Cn := RX8) (T := TX8) (N := 30) (ci := 8) C hnm G 0 7 inX8 tyX8 tyX8_ok nmX8 rfl rfl (by decide) k_765 rfl rfl rfl (by decide +kernel) rfl rfl (Nat.le_of_ble_eq_true rfl) rfl dX8_init_51 (fun H locs G => ?_)
  replace G : Wl D (va_A [(h0, .inr (8, [.int 0, .null, .null, .null, .null, .null, .int 0, .null, .null, .null, .int 0, .int 0, .int 0, .int 0, .null, .null, .int 0, .int 0, .int 0, .int 0, .null, .null, .null, .null, .null, .null, .int 0, .int 0, .int 0, .int 0]))] s.heap.size) s [(h0, .inr (8, [.int 0, .ref q1, .ref q2, .ref q3, .ref q4, .ref q5, .int 0, .ref q6, .null, .null, .int 0, .int 0, .int 0, .int 0, .null, .null, .int 0, .int 0, .int 0, .int 0, .null, .null, .null, .null, .null, .null, .int 0, .int 0, .int 0, .int 0])), (q1, .inl (cI, 480, .inl (fun _ => 0))), (q2, .inl (cI, 480, .inl (fun _ => 0))), (q3, .inl (cI, 20, .inl (fun _ => 0))), (q4, .inl (cI, 60, .inl (fun _ => 0))), (q5, .inl (cI, 60, .inl (fun _ => 0))), (q6, .inl (cI, 40, .inl (fun _ => 0)))] H locs := G
  refine lv_aload_n C.1 C.2.1 dX8_init_54 rfl (lv_at hl 0 rfl) ?_
  refine lv_bipush (v := (40)) C.1 C.2.1 dX8_init_55 (by decide) ?_
  refine l_newI C hA G 40 (by decide) (by decide) (by decide) (by decide) (by decide) dX8_init_57 (fun q7 H G => ?_)
  refine l_putF (ty := .array .int) (Cn := RX8) (T := TX8) (N := 30) (ci := 8) C hnm G 0 8 inX8 tyX8 tyX8_ok nmX8 rfl rfl (by decide) k_766 rfl rfl rfl (by decide +kernel) rfl rfl (Nat.le_of_ble_eq_true rfl) rfl dX8_init_59 (fun H locs G => ?_)
  replace G : Wl D (va_A [(h0, .inr (8, [.int 0, .null, .null, .null, .null, .null, .int 0, .null, .null, .null, .int 0, .int 0, .int 0, .int 0, .null, .null, .int 0, .int 0, .int 0, .int 0, .null, .null, .null, .null, .null, .null, .int 0, .int 0, .int 0, .int 0]))] s.heap.size) s [(h0, .inr (8, [.int 0, .ref q1, .ref q2, .ref q3, .ref q4, .ref q5, .int 0, .ref q6, .ref q7, .null, .int 0, .int 0, .int 0, .int 0, .null, .null, .int 0, .int 0, .int 0, .int 0, .null, .null, .null, .null, .null, .null, .int 0, .int 0, .int 0, .int 0])), (q1, .inl (cI, 480, .inl (fun _ => 0))), (q2, .inl (cI, 480, .inl (fun _ => 0))), (q3, .inl (cI, 20, .inl (fun _ => 0))), (q4, .inl (cI, 60, .inl (fun _ => 0))), (q5, .inl (cI, 60, .inl (fun _ => 0))), (q6, .inl (cI, 40, .inl (fun _ => 0))), (q7, .inl (cI, 40, .inl (fun _ => 0)))] H locs := G
  refine lv_aload_n C.1 C.2.1 dX8_init_62 rfl (lv_at hl 0 rfl) ?_
  refine lv_bipush (v := (12)) C.1 C.2.1 dX8_init_63 (by decide) ?_
  refine l_newI C hA G 12 (by decide) (by decide) (by decide) (by decide) (by decide) dX8_init_65 (fun q8 H G => ?_)
  refine l_putF (ty := .array .int) (Cn := RX8) (T := TX8) (N := 30) (ci := 8) C hnm G 0 9 inX8 tyX8 tyX8_ok nmX8 rfl rfl (by decide) k_767 rfl rfl rfl (by decide +kernel) rfl rfl (Nat.le_of_ble_eq_true rfl) rfl dX8_init_67 (fun H locs G => ?_)
  replace G : Wl D (va_A [(h0, .inr (8, [.int 0, .null, .null, .null, .null, .null, .int 0, .null, .null, .null, .int 0, .int 0, .int 0, .int 0, .null, .null, .int 0, .int 0, .int 0, .int 0, .null, .null, .null, .null, .null, .null, .int 0, .int 0, .int 0, .int 0]))] s.heap.size) s [(h0, .inr (8, [.int 0, .ref q1, .ref q2, .ref q3, .ref q4, .ref q5, .int 0, .ref q6, .ref q7, .ref q8, .int 0, .int 0, .int 0, .int 0, .null, .null, .int 0, .int 0, .int 0, .int 0, .null, .null, .null, .null, .null, .null, .int 0, .int 0, .int 0, .int 0])), (q1, .inl (cI, 480, .inl (fun _ => 0))), (q2, .inl (cI, 480, .inl (fun _ => 0))), (q3, .inl (cI, 20, .inl (fun _ => 0))), (q4, .inl (cI, 60, .inl (fun _ => 0))), (q5, .inl (cI, 60, .inl (fun _ => 0))), (q6, .inl (cI, 40, .inl (fun _ => 0))), (q7, .inl (cI, 40, .inl (fun _ => 0))), (q8, .inl (cI, 12, .inl (fun _ => 0)))] H locs := G
  refine lv_aload_n C.1 C.2.1 dX8_init_70 rfl (lv_at hl 0 rfl) ?_
  refine lv_bipush (v := (60)) C.1 C.2.1 dX8_init_71 (by decide) ?_
  refine l_newI C hA G 60 (by decide) (by decide) (by decide) (by decide) (by decide) dX8_init_73 (fun q9 H G => ?_)
  refine l_putF (ty := .array .int) (Cn := RX8) (T := TX8) (N := 30) (ci := 8) C hnm G 0 14 inX8 tyX8 tyX8_ok nmX8 rfl rfl (by decide) k_772 rfl rfl rfl (by decide +kernel) rfl rfl (Nat.le_of_ble_eq_true rfl) rfl dX8_init_75 (fun H locs G => ?_)
  replace G : Wl D (va_A [(h0, .inr (8, [.int 0, .null, .null, .null, .null, .null, .int 0, .null, .null, .null, .int 0, .int 0, .int 0, .int 0, .null, .null, .int 0, .int 0, .int 0, .int 0, .null, .null, .null, .null, .null, .null, .int 0, .int 0, .int 0, .int 0]))] s.heap.size) s [(h0, .inr (8, [.int 0, .ref q1, .ref q2, .ref q3, .ref q4, .ref q5, .int 0, .ref q6, .ref q7, .ref q8, .int 0, .int 0, .int 0, .int 0, .ref q9, .null, .int 0, .int 0, .int 0, .int 0, .null, .null, .null, .null, .null, .null, .int 0, .int 0, .int 0, .int 0])), (q1, .inl (cI, 480, .inl (fun _ => 0))), (q2, .inl (cI, 480, .inl (fun _ => 0))), (q3, .inl (cI, 20, .inl (fun _ => 0))), (q4, .inl (cI, 60, .inl (fun _ => 0))), (q5, .inl (cI, 60, .inl (fun _ => 0))), (q6, .inl (cI, 40, .inl (fun _ => 0))), (q7, .inl (cI, 40, .inl (fun _ => 0))), (q8, .inl (cI, 12, .inl (fun _ => 0))), (q9, .inl (cI, 60, .inl (fun _ => 0)))] H locs := G
  refine lv_aload_n C.1 C.2.1 dX8_init_78 rfl (lv_at hl 0 rfl) ?_
  refine lv_bipush (v := (60)) C.1 C.2.1 dX8_init_79 (by decide) ?_
  refine l_newI C hA G 60 (by decide) (by decide) (by decide) (by decide) (by decide) dX8_init_81 (fun q10 H G => ?_)
  refine l_putF (ty := .array .int) (Cn := RX8) (T := TX8) (N := 30) (ci := 8) C hnm G 0 15 inX8 tyX8 tyX8_ok nmX8 rfl rfl (by decide) k_773 rfl rfl rfl (by decide +kernel) rfl rfl (Nat.le_of_ble_eq_true rfl) rfl dX8_init_83 (fun H locs G => ?_)
  replace G : Wl D (va_A [(h0, .inr (8, [.int 0, .null, .null, .null, .null, .null, .int 0, .null, .null, .null, .int 0, .int 0, .int 0, .int 0, .null, .null, .int 0, .int 0, .int 0, .int 0, .null, .null, .null, .null, .null, .null, .int 0, .int 0, .int 0, .int 0]))] s.heap.size) s [(h0, .inr (8, [.int 0, .ref q1, .ref q2, .ref q3, .ref q4, .ref q5, .int 0, .ref q6, .ref q7, .ref q8, .int 0, .int 0, .int 0, .int 0, .ref q9, .ref q10, .int 0, .int 0, .int 0, .int 0, .null, .null, .null, .null, .null, .null, .int 0, .int 0, .int 0, .int 0])), (q1, .inl (cI, 480, .inl (fun _ => 0))), (q2, .inl (cI, 480, .inl (fun _ => 0))), (q3, .inl (cI, 20, .inl (fun _ => 0))), (q4, .inl (cI, 60, .inl (fun _ => 0))), (q5, .inl (cI, 60, .inl (fun _ => 0))), (q6, .inl (cI, 40, .inl (fun _ => 0))), (q7, .inl (cI, 40, .inl (fun _ => 0))), (q8, .inl (cI, 12, .inl (fun _ => 0))), (q9, .inl (cI, 60, .inl (fun _ => 0))), (q10, .inl (cI, 60, .inl (fun _ => 0)))] H locs := G
  refine lv_aload_n C.1 C.2.1 dX8_init_86 rfl (lv_at hl 0 rfl) ?_
  refine lv_bipush (v := (30)) C.1 C.2.1 dX8_init_87 (by decide) ?_
  refine l_newI C hA G 30 (by decide) (by decide) (by decide) (by decide) (by decide) dX8_init_89 (fun q11 H G => ?_)
  refine l_putF (ty := .array .int) (Cn := RX8) (T := TX8) (N := 30) (ci := 8) C hnm G 0 20 inX8 tyX8 tyX8_ok nmX8 rfl rfl (by decide) k_778 rfl rfl rfl (by decide +kernel) rfl rfl (Nat.le_of_ble_eq_true rfl) rfl dX8_init_91 (fun H locs G => ?_)
  replace G : Wl D (va_A [(h0, .inr (8, [.int 0, .null, .null, .null, .null, .null, .int 0, .null, .null, .null, .int 0, .int 0, .int 0, .int 0, .null, .null, .int 0, .int 0, .int 0, .int 0, .null, .null, .null, .null, .null, .null, .int 0, .int 0, .int 0, .int 0]))] s.heap.size) s [(h0, .inr (8, [.int 0, .ref q1, .ref q2, .ref q3, .ref q4, .ref q5, .int 0, .ref q6, .ref q7, .ref q8, .int 0, .int 0, .int 0, .int 0, .ref q9, .ref q10, .int 0, .int 0, .int 0, .int 0, .ref q11, .null, .null, .null, .null, .null, .int 0, .int 0, .int 0, .int 0])), (q1, .inl (cI, 480, .inl (fun _ => 0))), (q2, .inl (cI, 480, .inl (fun _ => 0))), (q3, .inl (cI, 20, .inl (fun _ => 0))), (q4, .inl (cI, 60, .inl (fun _ => 0))), (q5, .inl (cI, 60, .inl (fun _ => 0))), (q6, .inl (cI, 40, .inl (fun _ => 0))), (q7, .inl (cI, 40, .inl (fun _ => 0))), (q8, .inl (cI, 12, .inl (fun _ => 0))), (q9, .inl (cI, 60, .inl (fun _ => 0))), (q10, .inl (cI, 60, .inl (fun _ => 0))), (q11, .inl (cI, 30, .inl (fun _ => 0)))] H locs := G
  refine lv_aload_n C.1 C.2.1 dX8_init_94 rfl (lv_at hl 0 rfl) ?_
  refine lv_bipush (v := (30)) C.1 C.2.1 dX8_init_95 (by decide) ?_
  refine l_newI C hA G 30 (by decide) (by decide) (by decide) (by decide) (by decide) dX8_init_97 (fun q12 H G => ?_)
  refine l_putF (ty := .array .int) (Cn := RX8) (T := TX8) (N := 30) (ci := 8) C hnm G 0 21 inX8 tyX8 tyX8_ok nmX8 rfl rfl (by decide) k_779 rfl rfl rfl (by decide +kernel) rfl rfl (Nat.le_of_ble_eq_true rfl) rfl dX8_init_99 (fun H locs G => ?_)
  replace G : Wl D (va_A [(h0, .inr (8, [.int 0, .null, .null, .null, .null, .null, .int 0, .null, .null, .null, .int 0, .int 0, .int 0, .int 0, .null, .null, .int 0, .int 0, .int 0, .int 0, .null, .null, .null, .null, .null, .null, .int 0, .int 0, .int 0, .int 0]))] s.heap.size) s [(h0, .inr (8, [.int 0, .ref q1, .ref q2, .ref q3, .ref q4, .ref q5, .int 0, .ref q6, .ref q7, .ref q8, .int 0, .int 0, .int 0, .int 0, .ref q9, .ref q10, .int 0, .int 0, .int 0, .int 0, .ref q11, .ref q12, .null, .null, .null, .null, .int 0, .int 0, .int 0, .int 0])), (q1, .inl (cI, 480, .inl (fun _ => 0))), (q2, .inl (cI, 480, .inl (fun _ => 0))), (q3, .inl (cI, 20, .inl (fun _ => 0))), (q4, .inl (cI, 60, .inl (fun _ => 0))), (q5, .inl (cI, 60, .inl (fun _ => 0))), (q6, .inl (cI, 40, .inl (fun _ => 0))), (q7, .inl (cI, 40, .inl (fun _ => 0))), (q8, .inl (cI, 12, .inl (fun _ => 0))), (q9, .inl (cI, 60, .inl (fun _ => 0))), (q10, .inl (cI, 60, .inl (fun _ => 0))), (q11, .inl (cI, 30, .inl (fun _ => 0))), (q12, .inl (cI, 30, .inl (fun _ => 0)))] H locs := G
  refine lv_aload_n C.1 C.2.1 dX8_init_102 rfl (lv_at hl 0 rfl) ?_
  refine lv_bipush (v := (30)) C.1 C.2.1 dX8_init_103 (by decide) ?_
  refine l_newI C hA G 30 (by decide) (by decide) (by decide) (by decide) (by decide) dX8_init_105 (fun q13 H G => ?_)
  refine l_putF (ty := .array .int) (Cn := RX8) (T := TX8) (N := 30) (ci := 8) C hnm G 0 22 inX8 tyX8 tyX8_ok nmX8 rfl rfl (by decide) k_780 rfl rfl rfl (by decide +kernel) rfl rfl (Nat.le_of_ble_eq_true rfl) rfl dX8_init_107 (fun H locs G => ?_)
  replace G : Wl D (va_A [(h0, .inr (8, [.int 0, .null, .null, .null, .null, .null, .int 0, .null, .null, .null, .int 0, .int 0, .int 0, .int 0, .null, .null, .int 0, .int 0, .int 0, .int 0, .null, .null, .null, .null, .null, .null, .int 0, .int 0, .int 0, .int 0]))] s.heap.size) s [(h0, .inr (8, [.int 0, .ref q1, .ref q2, .ref q3, .ref q4, .ref q5, .int 0, .ref q6, .ref q7, .ref q8, .int 0, .int 0, .int 0, .int 0, .ref q9, .ref q10, .int 0, .int 0, .int 0, .int 0, .ref q11, .ref q12, .ref q13, .null, .null, .null, .int 0, .int 0, .int 0, .int 0])), (q1, .inl (cI, 480, .inl (fun _ => 0))), (q2, .inl (cI, 480, .inl (fun _ => 0))), (q3, .inl (cI, 20, .inl (fun _ => 0))), (q4, .inl (cI, 60, .inl (fun _ => 0))), (q5, .inl (cI, 60, .inl (fun _ => 0))), (q6, .inl (cI, 40, .inl (fun _ => 0))), (q7, .inl (cI, 40, .inl (fun _ => 0))), (q8, .inl (cI, 12, .inl (fun _ => 0))), (q9, .inl (cI, 60, .inl (fun _ => 0))), (q10, .inl (cI, 60, .inl (fun _ => 0))), (q11, .inl (cI, 30, .inl (fun _ => 0))), (q12, .inl (cI, 30, .inl (fun _ => 0))), (q13, .inl (cI, 30, .inl (fun _ => 0)))] H locs := G
  refine lv_aload_n C.1 C.2.1 dX8_init_110 rfl (lv_at hl 0 rfl) ?_
  refine lv_bipush (v := (30)) C.1 C.2.1 dX8_init_111 (by decide) ?_
  refine l_newJ C hA G 30 (by decide) (by decide) (by decide) (by decide) (by decide) dX8_init_113 (fun q14 H G => ?_)
  refine l_putF (ty := .array .long) (Cn := RX8) (T := TX8) (N := 30) (ci := 8) C hnm G 0 23 inX8 tyX8 tyX8_ok nmX8 rfl rfl (by decide) k_781 rfl rfl rfl (by decide +kernel) rfl rfl (Nat.le_of_ble_eq_true rfl) rfl dX8_init_115 (fun H locs G => ?_)
  replace G : Wl D (va_A [(h0, .inr (8, [.int 0, .null, .null, .null, .null, .null, .int 0, .null, .null, .null, .int 0, .int 0, .int 0, .int 0, .null, .null, .int 0, .int 0, .int 0, .int 0, .null, .null, .null, .null, .null, .null, .int 0, .int 0, .int 0, .int 0]))] s.heap.size) s [(h0, .inr (8, [.int 0, .ref q1, .ref q2, .ref q3, .ref q4, .ref q5, .int 0, .ref q6, .ref q7, .ref q8, .int 0, .int 0, .int 0, .int 0, .ref q9, .ref q10, .int 0, .int 0, .int 0, .int 0, .ref q11, .ref q12, .ref q13, .ref q14, .null, .null, .int 0, .int 0, .int 0, .int 0])), (q1, .inl (cI, 480, .inl (fun _ => 0))), (q2, .inl (cI, 480, .inl (fun _ => 0))), (q3, .inl (cI, 20, .inl (fun _ => 0))), (q4, .inl (cI, 60, .inl (fun _ => 0))), (q5, .inl (cI, 60, .inl (fun _ => 0))), (q6, .inl (cI, 40, .inl (fun _ => 0))), (q7, .inl (cI, 40, .inl (fun _ => 0))), (q8, .inl (cI, 12, .inl (fun _ => 0))), (q9, .inl (cI, 60, .inl (fun _ => 0))), (q10, .inl (cI, 60, .inl (fun _ => 0))), (q11, .inl (cI, 30, .inl (fun _ => 0))), (q12, .inl (cI, 30, .inl (fun _ => 0))), (q13, .inl (cI, 30, .inl (fun _ => 0))), (q14, .inl (cJ, 30, .inr (.inl (fun _ => 0))))] H locs := G
  refine lv_aload_n C.1 C.2.1 dX8_init_118 rfl (lv_at hl 0 rfl) ?_
  refine lv_bipush (v := (30)) C.1 C.2.1 dX8_init_119 (by decide) ?_
  refine l_newI C hA G 30 (by decide) (by decide) (by decide) (by decide) (by decide) dX8_init_121 (fun q15 H G => ?_)
  refine l_putF (ty := .array .int) (Cn := RX8) (T := TX8) (N := 30) (ci := 8) C hnm G 0 24 inX8 tyX8 tyX8_ok nmX8 rfl rfl (by decide) k_782 rfl rfl rfl (by decide +kernel) rfl rfl (Nat.le_of_ble_eq_true rfl) rfl dX8_init_123 (fun H locs G => ?_)
  replace G : Wl D (va_A [(h0, .inr (8, [.int 0, .null, .null, .null, .null, .null, .int 0, .null, .null, .null, .int 0, .int 0, .int 0, .int 0, .null, .null, .int 0, .int 0, .int 0, .int 0, .null, .null, .null, .null, .null, .null, .int 0, .int 0, .int 0, .int 0]))] s.heap.size) s [(h0, .inr (8, [.int 0, .ref q1, .ref q2, .ref q3, .ref q4, .ref q5, .int 0, .ref q6, .ref q7, .ref q8, .int 0, .int 0, .int 0, .int 0, .ref q9, .ref q10, .int 0, .int 0, .int 0, .int 0, .ref q11, .ref q12, .ref q13, .ref q14, .ref q15, .null, .int 0, .int 0, .int 0, .int 0])), (q1, .inl (cI, 480, .inl (fun _ => 0))), (q2, .inl (cI, 480, .inl (fun _ => 0))), (q3, .inl (cI, 20, .inl (fun _ => 0))), (q4, .inl (cI, 60, .inl (fun _ => 0))), (q5, .inl (cI, 60, .inl (fun _ => 0))), (q6, .inl (cI, 40, .inl (fun _ => 0))), (q7, .inl (cI, 40, .inl (fun _ => 0))), (q8, .inl (cI, 12, .inl (fun _ => 0))), (q9, .inl (cI, 60, .inl (fun _ => 0))), (q10, .inl (cI, 60, .inl (fun _ => 0))), (q11, .inl (cI, 30, .inl (fun _ => 0))), (q12, .inl (cI, 30, .inl (fun _ => 0))), (q13, .inl (cI, 30, .inl (fun _ => 0))), (q14, .inl (cJ, 30, .inr (.inl (fun _ => 0)))), (q15, .inl (cI, 30, .inl (fun _ => 0)))] H locs := G
  refine lv_aload_n C.1 C.2.1 dX8_init_126 rfl (lv_at hl 0 rfl) ?_
  refine lv_bipush (v := (30)) C.1 C.2.1 dX8_init_127 (by decide) ?_
  refine l_newI C hA G 30 (by decide) (by decide) (by decide) (by decide) (by decide) dX8_init_129 (fun q16 H G => ?_)
  refine l_putF (ty := .array .int) (Cn := RX8) (T := TX8) (N := 30) (ci := 8) C hnm G 0 25 inX8 tyX8 tyX8_ok nmX8 rfl rfl (by decide) k_783 rfl rfl rfl (by decide +kernel) rfl rfl (Nat.le_of_ble_eq_true rfl) rfl dX8_init_131 (fun H locs G => ?_)
  replace G : Wl D (va_A [(h0, .inr (8, [.int 0, .null, .null, .null, .null, .null, .int 0, .null, .null, .null, .int 0, .int 0, .int 0, .int 0, .null, .null, .int 0, .int 0, .int 0, .int 0, .null, .null, .null, .null, .null, .null, .int 0, .int 0, .int 0, .int 0]))] s.heap.size) s [(h0, .inr (8, [.int 0, .ref q1, .ref q2, .ref q3, .ref q4, .ref q5, .int 0, .ref q6, .ref q7, .ref q8, .int 0, .int 0, .int 0, .int 0, .ref q9, .ref q10, .int 0, .int 0, .int 0, .int 0, .ref q11, .ref q12, .ref q13, .ref q14, .ref q15, .ref q16, .int 0, .int 0, .int 0, .int 0])), (q1, .inl (cI, 480, .inl (fun _ => 0))), (q2, .inl (cI, 480, .inl (fun _ => 0))), (q3, .inl (cI, 20, .inl (fun _ => 0))), (q4, .inl (cI, 60, .inl (fun _ => 0))), (q5, .inl (cI, 60, .inl (fun _ => 0))), (q6, .inl (cI, 40, .inl (fun _ => 0))), (q7, .inl (cI, 40, .inl (fun _ => 0))), (q8, .inl (cI, 12, .inl (fun _ => 0))), (q9, .inl (cI, 60, .inl (fun _ => 0))), (q10, .inl (cI, 60, .inl (fun _ => 0))), (q11, .inl (cI, 30, .inl (fun _ => 0))), (q12, .inl (cI, 30, .inl (fun _ => 0))), (q13, .inl (cI, 30, .inl (fun _ => 0))), (q14, .inl (cJ, 30, .inr (.inl (fun _ => 0)))), (q15, .inl (cI, 30, .inl (fun _ => 0))), (q16, .inl (cI, 30, .inl (fun _ => 0)))] H locs := G
  refine lv_aload_n C.1 C.2.1 dX8_init_134 rfl (lv_at hl 0 rfl) ?_
  replace G : Wl D (va_A [(h0, .inr (8, [.int 0, .null, .null, .null, .null, .null, .int 0, .null, .null, .null, .int 0, .int 0, .int 0, .int 0, .null, .null, .int 0, .int 0, .int 0, .int 0, .null, .null, .null, .null, .null, .null, .int 0, .int 0, .int 0, .int 0]))] s.heap.size) s (wM (ac h0 (fun j => match j with | 0 => q1 | 1 => q2 | 2 => q3 | 3 => q4 | 4 => q5 | 5 => q6 | 6 => q7 | 7 => q8 | 8 => q9 | 9 => q10 | 10 => q11 | 11 => q12 | 12 => q13 | 13 => q14 | 14 => q15 | 15 => q16 | _ => 0)) cI cJ z0) H locs := G
  refine c_calv (As := []) (na := 0) (wr := []) C hA adM aeM G (mX8_clearAll_0 l D (ac h0 (fun j => match j with | 0 => q1 | 1 => q2 | 2 => q3 | 3 => q4 | 4 => q5 | 5 => q6 | 6 => q7 | 7 => q8 | 8 => q9 | 9 => q10 | 10 => q11 | 11 => q12 | 12 => q13 | 13 => q14 | 14 => q15 | 15 => q16 | _ => 0)) cI cJ tk tf z0 (r, S1) hc) [0, 1, 2, 3, 4, 5, 6, 7, 8, 9, 10, 11, 12, 13, 14, 15, 16] [] (by decide) rfl rfl (by decide) (by decide) k_754 k_756 k_30 k_68 k_757 (q0 := 0) rfl (ci := 8) rfl (by decide +kernel) ⟨Nat.le_of_ble_eq_true rfl, Nat.le_of_ble_eq_true rfl⟩ rfl rfl ⟨Nat.le_of_ble_eq_true rfl, Nat.le_of_ble_eq_true rfl⟩ rfl hl.1 rfl (Nat.le_of_ble_eq_true rfl) dX8_init_135 (fun H locs G => ?_)
  exact l_end (post := fun (b : Nat → Nat) => wM (ac h0 b) cI cJ S1) (fun j => match j with | 0 => q1 | 1 => q2 | 2 => q3 | 3 => q4 | 4 => q5 | 5 => q6 | 6 => q7 | 7 => q8 | 8 => q9 | 9 => q10 | 10 => q11 | 11 => q12 | 12 => q13 | 13 => q14 | 14 => q15 | 15 => q16 | _ => 0) C hr G dX8_init_138 ⟨Nat.le_of_ble_eq_true rfl, Nat.le_of_ble_eq_true rfl⟩
