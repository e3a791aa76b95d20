variable {K : Int32}
section HIGH3
variable {S T : St} {n d c o : Nat}
theorem lx_loop (hd : d ≤ 30) : ∀ f, d < f → fX0_loopToExit_13_7 f (nI d - 1) S = some (match last (fun i => S.1 14 i = 1 ∨ S.1 14 i = 2 ∨ S.1 14 i = 3 ∨ S.1 14 i = 4) d with | none => -1 | some i => if S.1 14 i = 3 ∨ S.1 14 i = 4 then -1 else nI i, S) := by
  induction d with
  | zero =>
    intro f hf
    obtain ⟨f, rfl⟩ : ∃ g, f = g + 1 := ⟨f - 1, by omega⟩
    rw [fX0_loopToExit_13_7.eq_2, sub1_0, if_pos m1_lt]
    rfl
  | succ n ih =>
    intro f hf
    obtain ⟨f, rfl⟩ : ∃ g, f = g + 1 := ⟨f - 1, by omega⟩
    rw [fX0_loopToExit_13_7.eq_2, predI, if_neg (nI_pos (by omega)), if_pos (vqI (by omega) (by omega))]
    simp only [nI_clamp (show n < 2 ^ 31 by omega)]
    unfold last
    by_cases h3 : S.1 14 n = 3
    · rw [if_pos h3, if_pos (Or.inr (Or.inr (Or.inl h3)))]
      show _ = some (if S.1 14 n = 3 ∨ S.1 14 n = 4 then -1 else nI n, S)
      rw [if_pos (Or.inl h3)]; rfl
    · rw [if_neg h3, if_pos (vqI (by omega) (by omega))]
      by_cases h4 : S.1 14 n = 4
      · rw [if_pos h4, if_pos (Or.inr (Or.inr (Or.inr h4)))]
        show _ = some (if S.1 14 n = 3 ∨ S.1 14 n = 4 then -1 else nI n, S)
        rw [if_pos (Or.inr h4)]; rfl
      · rw [if_neg h4, if_pos (vqI (by omega) (by omega))]
        by_cases h1 : S.1 14 n = 1
        · rw [if_pos h1, if_pos (Or.inl h1)]
          show _ = some (if S.1 14 n = 3 ∨ S.1 14 n = 4 then -1 else nI n, S)
          rw [if_neg (fun z => z.elim h3 h4)]; rfl
        · rw [if_neg h1, if_pos (vqI (by omega) (by omega))]
          by_cases h2 : S.1 14 n = 2
          · rw [if_pos h2, if_pos (Or.inr (Or.inl h2))]
            show _ = some (if S.1 14 n = 3 ∨ S.1 14 n = 4 then -1 else nI n, S)
            rw [if_neg (fun z => z.elim h3 h4)]; rfl
          · rw [if_neg h2, if_neg (fun z => z.elim h1 (fun z => z.elim h2 (fun z => z.elim h3 h4))), stv_x, addm1]
            exact ih (by omega) f (by omega)
theorem lm_loop (hd : d ≤ 30) : ∀ f, d < f → fX8_loop_0_7 f (nI d - 1) T = fX8_loop_0_26 (lastv (last (fun i => ¬ T.1 11 i = 0) d)) T := by
  induction d with
  | zero =>
    intro f hf
    obtain ⟨f, rfl⟩ : ∃ g, f = g + 1 := ⟨f - 1, by omega⟩
    rw [fX8_loop_0_7.eq_2, sub1_0, if_pos m1_lt]
    rfl
  | succ n ih =>
    intro f hf
    obtain ⟨f, rfl⟩ : ∃ g, f = g + 1 := ⟨f - 1, by omega⟩
    rw [fX8_loop_0_7.eq_2, predI, if_neg (nI_pos (by omega)), if_pos (vqI (by omega) (by omega)), nI_clamp (show n < 2 ^ 31 by omega)]
    unfold last
    by_cases h3 : T.1 11 n = 0
    · rw [if_pos h3, if_neg (fun z => z h3), stv_x, addm1]
      exact ih (by omega) f (by omega)
    · rw [if_neg h3, if_pos h3]; rfl
theorem loops (h : Rx K S T n d) : (fX0_loopToExit_13 S = some (-1, S) ∧ fX8_loop_0 T = some (-1, T)) ∨ ∃ i, i < d ∧ fX0_loopToExit_13 S = some (nI i, S) ∧ fX8_loop_0 T = some (nI i, T) := by
  obtain ⟨g1, g2, g3, g4, g5, g6⟩ := rx_S h
  have hl : last (fun i => S.1 14 i = 1 ∨ S.1 14 i = 2 ∨ S.1 14 i = 3 ∨ S.1 14 i = 4) d = last (fun i => ¬ T.1 11 i = 0) d := last_congr (fun i hi => by
    rcases frm_s (rx_f h i hi) with ⟨a, b⟩ | ⟨a, b | b⟩ | ⟨a, b⟩ | ⟨a, b⟩ | ⟨a, b⟩ <;> rw [a, b] <;> decide)
  unfold fX0_loopToExit_13 fX8_loop_0
  rw [stv_x, stv_x, g4, g5, lx_loop g6 500 (by omega), lm_loop g6 500 (by omega), hl]
  unfold fX8_loop_0_26
  cases hc : last (fun i => ¬ T.1 11 i = 0) d with
  | none =>
    refine Or.inl ⟨rfl, ?_⟩
    rw [show lastv none = (-1 : Int32) from rfl, if_pos m1_lt]; rfl
  | some i =>
    have hi := last_lt hc
    have f := rx_f h i hi.1
    rw [show lastv (some i) = nI i from rfl, if_neg (nI_pos (by omega)), if_pos (vqI (by omega) (by omega)), nI_clamp (show i < 2 ^ 31 by omega)]
    show (some (if S.1 14 i = 3 ∨ S.1 14 i = 4 then -1 else nI i, S) = _ ∧ _) ∨ ∃ i', i' < d ∧ some (if S.1 14 i = 3 ∨ S.1 14 i = 4 then -1 else nI i, S) = _ ∧ _
    by_cases z : S.1 14 i = 3 ∨ S.1 14 i = 4
    · rw [if_pos z]
      refine Or.inl ⟨rfl, ?_⟩
      have : (4 : Int32) ≤ T.1 11 i := by
        rcases z with z | z
        · rw [(frm_3 f).mp z]; decide
        · rw [(frm_4 f).mp z]; decide
      rw [if_pos this]; rfl
    · rw [if_neg z]
      refine Or.inr ⟨i, hi.1, rfl, ?_⟩
      have : ¬ (4 : Int32) ≤ T.1 11 i := by
        rcases frm_s f with ⟨a, b⟩ | ⟨a, b | b⟩ | ⟨a, b⟩ | ⟨a, b⟩ | ⟨a, b⟩
        · rw [b]; decide
        · rw [b]; decide
        · rw [b]; decide
        · rw [b]; decide
        · exact absurd (Or.inl a) z
        · exact absurd (Or.inr a) z
      rw [if_neg this]
theorem n00 (h : Rx K S T n d) : ∃ v, fX8_number0_0 T = some (v, T) ∧ (1 ≤ n → v = S.1 7 (n - 1)) := by
  have h60 := (rx_S h).2.2.1
  unfold fX8_number0_0
  rw [(rx_S h).2.1]
  by_cases z : n = 0
  · refine ⟨0, ?_, fun y => absurd y (by omega)⟩
    rw [z, if_pos (by decide)]
  · refine ⟨S.1 7 (n - 1), ?_, fun _ => rfl⟩
    rw [if_neg (nI_nle (by omega) (by omega)), n_m0 h (by omega), bnd_x]
theorem op_22 (h : Rx K S T n d) (hi : S.1 0 7 = 0) : Op K (nI 22) S T := by
  refine op_mh h hi (by omega) (by omega) (ak_22 h) (fun hn hf => ?_)
  have hm := oc_mis h (o := 22) (by omega) hn hf
  have e1 : fX8_wrong_0_93 (nI 22) T = fX8_wrong_0_166 (nI 22) T := rfl
  have e2 : fX8_wrong_0_182 (nI 22) T = some (0, T) := rfl
  have c0 : ∀ r S1, fX7_exitLoop_0 S = some (r, S1) → fX7_operate_0 tkF (nI 22) S = some (r, S1) := by
    intro r S1 hp
    unfold fX7_operate_0
    rw [if_pos hi, hm, bnd_x, if_pos rfl, if_neg (by decide), if_neg (by decide), if_neg (by decide), if_neg (by decide), if_neg (by decide), if_neg (by decide), if_pos (by decide), hp, bnd_x]
  rcases loops h with ⟨a, b⟩ | ⟨i, hid, a, b⟩
  · refine Or.inl ⟨9, by omega, by omega, c0 _ _ ?_, ?_⟩
    · unfold fX7_exitLoop_0
      rw [a, bnd_x, if_pos rfl]; rfl
    · rw [e1]
      unfold fX8_wrong_0_166
      rw [if_pos (by decide), b, bnd_x, if_neg (by decide)]; rfl
  · have hd := (rx_S h).2.2.2.2.2
    obtain ⟨v, hv, -⟩ := n00 h
    refine Or.inr (Or.inl ⟨_, _, _, _, c0 _ _ ?_, ?_, ?_, x_cut (j := i) h (by omega)⟩)
    · unfold fX7_exitLoop_0
      rw [a, bnd_x, if_neg (neg1 (by omega)), cut (rx_S h).2.2.2.1 hd (by omega), bnd_x]
    · rw [e1]
      unfold fX8_wrong_0_166
      rw [if_pos (by decide), b, bnd_x, if_pos (nI_pos' (by omega)), e2]
    · unfold fX8_work_0 fX8_govern_0
      rw [if_neg (by decide), if_neg (by decide), if_pos (by decide), if_pos (by decide), if_pos (by decide), hv, bnd_x, if_pos (by decide), b, bnd_x, stp_x, bnd_x]
theorem op_23 (h : Rx K S T n d) (hi : S.1 0 7 = 0) : Op K (nI 23) S T := by
  refine op_mh h hi (by omega) (by omega) (ak_23 h) (fun hn hf => ?_)
  have hm := oc_mis h (o := 23) (by omega) hn hf
  obtain ⟨S1, T1, n1, d1, a, b, x⟩ := stop_eq h 99
  obtain ⟨v, hv, -⟩ := n00 h
  refine Or.inr (Or.inl ⟨S1, T1, n1, d1, ?_, rfl, ?_, x⟩)
  · unfold fX7_operate_0
    rw [if_pos hi, hm, bnd_x, if_pos rfl, if_neg (by decide), if_neg (by decide), if_neg (by decide), if_neg (by decide), if_neg (by decide), if_neg (by decide), if_neg (by decide), if_pos (by decide), a, bnd_x]
  · unfold fX8_work_0 fX8_govern_0
    rw [if_neg (by decide), if_neg (by decide), if_pos (by decide), if_pos (by decide), if_pos (by decide), hv, bnd_x, if_neg (by decide), if_pos (by decide), b, bnd_x, bnd_x]
theorem cAdd_size (S : St) (d : Nat) (s w v : Int32) : cAdd (si S 5 2 v) d s w = si (cAdd S d s w) 5 2 v := by
  unfold cAdd
  rw [si_comm S 2 d _ _ (show 5 ≠ 14 by decide), si_comm _ 2 d _ _ (show 5 ≠ 15 by decide), si_comm _ 2 d _ _ (show 5 ≠ 16 by decide), si_comm _ 2 6 _ _ (show 5 ≠ 13 by decide), si_comm _ 2 7 _ _ (show 5 ≠ 13 by decide)]
  rfl
theorem op_24 (h : Rx K S T n d) (hi : S.1 0 7 = 0) : Op K (nI 24) S T := by
  refine op_mh h hi (by omega) (by omega) (ak_24 h) (fun hn hf => ?_)
  have hm := oc_mis h (o := 24) (by omega) hn hf
  have hn : 1 ≤ n := hn
  obtain ⟨g1, g2, g3, g4, g5, g6⟩ := rx_S h
  have f0 : S.1 6 (n - 1) = 4 := hf.1.resolve_left (by decide)
  obtain ⟨p, hp, hP⟩ := (okI h (i := n - 1) (by omega)).2.2 f0
  have e1 : fX8_wrong_0_93 (nI 24) T = fX8_wrong_0_182 (nI 24) T := rfl
  have c0 : ∀ r S1, fX7_guard_0 S = some (r, S1) → fX7_operate_0 tkF (nI 24) S = some (r, S1) := by
    intro r S1 hp
    unfold fX7_operate_0
    rw [if_pos hi, hm, bnd_x, if_pos rfl, if_neg (by decide), if_neg (by decide), if_neg (by decide), if_neg (by decide), if_neg (by decide), if_neg (by decide), if_neg (by decide), if_neg (by decide), if_pos (by decide), hp, bnd_x]
  have hh : fX8_hasFrames_0 (nI 24) T = if d ≤ 28 then some (1, T) else some (0, T) := by
    have : fX8_hasFrames_0 (nI 24) T = fX8_hasFrames_0_52 (nI 24) T := rfl
    rw [this]
    unfold fX8_hasFrames_0_52
    rw [if_pos (by decide), g5]
    by_cases z : d ≤ 28
    · rw [if_pos z, if_neg (by rw [lit 28, ltI (by omega) (by omega)]; omega)]; rfl
    · rw [if_neg z, if_pos (by rw [lit 28, ltI (by omega) (by omega)]; omega)]; rfl
  by_cases z : d ≤ 28
  · rw [if_pos z] at hh
    have w := w182 (o := 24) (by omega) (by omega) hh
    rw [if_neg (by decide)] at w
    have xs := x_size (m := n - 1) h (by omega)
    have x1 := x_add (s := 3) (s' := 4) (w := 0) xs (by omega) f_stp
    have x2 := x_add (s := 0) (s' := 0) (w := nI p) x1 (by omega) (f_row hp)
    obtain ⟨v, hv, hv2⟩ := n00 h
    rw [hv2 hn, hP] at hv
    refine Or.inr (Or.inl ⟨_, _, _, _, c0 _ _ ?_, e1.trans w, ?_, x2⟩)
    · unfold fX7_guard_0
      have hr : fX0_roomFor_13 2 S = some (1, S) := rf1 (j := 2) g4 (by omega)
      have q0 : fX2_numberUnder_5 0 (cAdd S d 3 0) = some (S.1 7 (n - 1), cAdd S d 3 0) := nu (j := 0) (S := cAdd S d 3 0) g1 g3 (by omega)
      have q1 : fX2_takeOff_5 1 (cAdd (cAdd S d 3 0) (d + 1) 0 (nI p)) = some (0, si (cAdd (cAdd S d 3 0) (d + 1) 0 (nI p)) 5 2 (nI (n - 1))) := tko (j := 1) (S := cAdd (cAdd S d 3 0) (d + 1) 0 (nI p)) g1 g3 hn
      rw [hr, bnd_x, if_neg (by decide), add1 g4 (by omega), bnd_x, q0, bnd_x, hP, add1 (d := d + 1) rfl (by omega), bnd_x, q1, bnd_x, cAdd_size, cAdd_size]
    · unfold fX8_work_0 fX8_govern_0
      rw [if_neg (by decide), if_neg (by decide), if_pos (by decide), if_pos (by decide), if_pos (by decide), hv, bnd_x, if_neg (by decide), if_neg (by decide), if_pos (by decide), ts1 h hn, stp_x, com1 (rx_S xs).2.2.2.2.1 (by omega), bnd_x, com1 (rx_S x1).2.2.2.2.1 (by omega), bnd_x, bnd_x]
  · rw [if_neg z] at hh
    have w := w182 (o := 24) (by omega) (by omega) hh
    rw [if_pos rfl] at w
    refine Or.inl ⟨8, by omega, by omega, c0 _ _ ?_, e1.trans w⟩
    unfold fX7_guard_0
    have hr : fX0_roomFor_13 2 S = some (0, S) := rf0 (j := 2) g4 (by omega) g6 (by omega)
    rw [hr, bnd_x, if_pos rfl]; rfl
theorem err_j : ∀ j, j < 12 → (1 ≤ j ∧ j ≤ 11 ∧ (∀ S, fX1_takes_11 (nI j) S = some (1, S)) ∧ ∀ T, fX8_isError (nI j) T = some (1, T)) ∨ ((∀ S, fX1_takes_11 (nI j) S = some (0, S)) ∧ ∀ T, fX8_isError (nI j) T = some (0, T))
  | 0, _ => Or.inr ⟨fun _ => rfl, fun _ => rfl⟩
  | 1, _ => Or.inl ⟨by omega, by omega, fun _ => rfl, fun _ => rfl⟩
  | 2, _ => Or.inl ⟨by omega, by omega, fun _ => rfl, fun _ => rfl⟩
  | 3, _ => Or.inl ⟨by omega, by omega, fun _ => rfl, fun _ => rfl⟩
  | 4, _ => Or.inl ⟨by omega, by omega, fun _ => rfl, fun _ => rfl⟩
  | 5, _ => Or.inl ⟨by omega, by omega, fun _ => rfl, fun _ => rfl⟩
  | 6, _ => Or.inl ⟨by omega, by omega, fun _ => rfl, fun _ => rfl⟩
  | 7, _ => Or.inl ⟨by omega, by omega, fun _ => rfl, fun _ => rfl⟩
  | 8, _ => Or.inl ⟨by omega, by omega, fun _ => rfl, fun _ => rfl⟩
  | 9, _ => Or.inl ⟨by omega, by omega, fun _ => rfl, fun _ => rfl⟩
  | 10, _ => Or.inr ⟨fun _ => rfl, fun _ => rfl⟩
  | 11, _ => Or.inl ⟨by omega, by omega, fun _ => rfl, fun _ => rfl⟩
  | j + 12, h => absurd h (by omega)
theorem err_or (x : Int32) : (∃ e, 1 ≤ e ∧ e ≤ 11 ∧ x = nI e ∧ (∀ S, fX1_takes_11 x S = some (1, S)) ∧ ∀ T, fX8_isError x T = some (1, T)) ∨ ((∀ S, fX1_takes_11 x S = some (0, S)) ∧ ∀ T, fX8_isError x T = some (0, T)) := by
  have i1 : (1 : Int32).toInt = 1 := by decide
  have i9 : (9 : Int32).toInt = 9 := by decide
  have i11 : (11 : Int32).toInt = 11 := by decide
  have i12 : (nI 12).toInt = 12 := by decide
  have i0 : (0 : Int32).toInt = 0 := by decide
  rcases pk_ix x (n := 12) (by omega) with z | z | ⟨j, hj, rfl⟩
  · rw [Int32.lt_iff_toInt_lt, i0] at z
    refine Or.inr ⟨fun S => ?_, fun T => ?_⟩
    · unfold fX1_takes_11
      rw [if_pos (by rw [Int32.lt_iff_toInt_lt, i1]; omega)]; rfl
    · unfold fX8_isError fX8_in fX8_in_14
      rw [if_pos (by rw [Int32.lt_iff_toInt_lt, i1]; omega)]
      rw [bnd_x, if_pos rfl, if_neg (fun e => by rw [e, i11] at z; omega)]
  · rw [Int32.le_iff_toInt_le, i12] at z
    refine Or.inr ⟨fun S => ?_, fun T => ?_⟩
    · unfold fX1_takes_11
      rw [if_neg (by rw [Int32.lt_iff_toInt_lt, i1]; omega), if_pos (by rw [Int32.lt_iff_toInt_lt, i11]; omega)]; rfl
    · unfold fX8_isError fX8_in fX8_in_14
      rw [if_neg (by rw [Int32.lt_iff_toInt_lt, i1]; omega), if_pos (by rw [Int32.lt_iff_toInt_lt, i9]; omega)]
      rw [bnd_x, if_pos rfl, if_neg (fun e => by rw [e, i11] at z; omega)]
  · have key : (1 ≤ j ∧ j ≤ 11 ∧ (∀ S, fX1_takes_11 (nI j) S = some (1, S)) ∧ ∀ T, fX8_isError (nI j) T = some (1, T)) ∨ ((∀ S, fX1_takes_11 (nI j) S = some (0, S)) ∧ ∀ T, fX8_isError (nI j) T = some (0, T)) := err_j j hj
    rcases key with ⟨a, b, q1, q2⟩ | q
    · exact Or.inl ⟨j, a, b, rfl, q1, q2⟩
    · exact Or.inr q
theorem x_hand {e : Nat} {v : Int32} (h : Rx K S T n d) (hv : v = -1 ∨ ∃ p, p < 20 ∧ v = nI p) : Rx K (si S 12 e v) (si T 8 e v) n d := by
  obtain ⟨h1, h2, h3, h4, h5, h6, h7, h8, h9⟩ := h
  refine ⟨q_hd h1 e v, h2, h3, h4, ?_, h6, h7, h8, h9⟩
  intro i hi
  show upd (S.1 12) e v i = -1 ∨ ∃ p, p < 20 ∧ upd (S.1 12) e v i = nI p
  by_cases z : i = e
  · rw [z, upd_s]; exact hv
  · rw [upd_n _ _ z]; exact h5 i hi
theorem op_25 (h : Rx K S T n d) (hi : S.1 0 7 = 0) : Op K (nI 25) S T := by
  have h60 := (rx_S h).2.2.1
  by_cases hn : 2 ≤ n
  · by_cases hf : fts S n (tkP 25) 0
    · have hm := oc_mis h (o := 25) (by omega) hn hf
      have f1 : S.1 6 (n - 2) = 0 := hf.2.1.resolve_left (by decide)
      have c0 : ∀ r S1, fX7_setHandler_0 S = some (r, S1) → fX7_operate_0 tkF (nI 25) S = some (r, S1) := by
        intro r S1 hp
        unfold fX7_operate_0
        rw [if_pos hi, hm, bnd_x, if_pos rfl, if_neg (by decide), if_neg (by decide), if_neg (by decide), if_neg (by decide), if_neg (by decide), if_neg (by decide), if_neg (by decide), if_neg (by decide), if_neg (by decide), if_pos (by decide), hp, bnd_x]
      have ak : fX8_areKinds_0 (nI 25) T = if S.1 6 (n - 1) = 4 ∨ S.1 6 (n - 1) = 0 then some (1, T) else some (0, T) := by
        unfold fX8_areKinds_0
        rw [if_neg (by decide), if_neg (by decide), if_neg (by decide), if_neg (by decide), if_neg (by decide), if_neg (by decide), if_neg (by decide), if_neg (by decide), if_neg (by decide), if_neg (by decide), if_neg (by decide), if_neg (by decide), if_neg (by decide), if_neg (by decide), if_neg (by decide), if_neg (by decide), if_neg (by decide), if_neg (by decide), if_neg (by decide), if_neg (by decide), if_neg (by decide), if_neg (by decide), if_neg (by decide), if_neg (by decide), if_neg (by decide), if_pos (by decide), k_m1 h (by omega), bnd_x, if_pos f1, k_m0 h (by omega), bnd_x]
        by_cases z4 : S.1 6 (n - 1) = 4
        · rw [if_pos z4, if_pos (Or.inl z4)]; rfl
        · rw [if_neg z4, k_m0 h (by omega), bnd_x]
          by_cases z0 : S.1 6 (n - 1) = 0
          · rw [if_pos z0, if_pos (Or.inr z0)]; rfl
          · rw [if_neg z0, if_neg (fun z => z.elim z4 z0)]; rfl
      by_cases z : S.1 6 (n - 1) = 4 ∨ S.1 6 (n - 1) = 0
      · rw [if_pos z] at ak
        have w0 := wr_2 (o := 25) h (by omega) (by omega) (by omega) (by omega) hn ak
        have cs : fX7_setHandler_0 S = fX7_setHandler_0_38 (S.1 6 (n - 1)) (S.1 7 (n - 1)) (S.1 7 (n - 2)) S := by
          unfold fX7_setHandler_0
          rw [k_c0 h (by omega), bnd_x, n_c0 h (by omega), bnd_x, n_c1 h (by omega), bnd_x]
          by_cases z4 : S.1 6 (n - 1) = 4
          · rw [if_pos z4]
          · rw [if_neg z4, if_pos (z.resolve_left z4)]
        have w1 : ∀ r, fX8_isInRange_0 (nI 25) T = some (r, T) → fX8_wrong_0 (nI 25) T = if r = 0 then some (nI 4, T) else some (0, T) := by
          intro r hr
          rw [w0]
          unfold fX8_wrong_0_93
          rw [hr, bnd_x]
          by_cases y : r = 0
          · rw [if_pos y, if_pos y]; rfl
          · rw [if_neg y, if_neg y, if_neg (by decide), if_neg (by decide)]; rfl
        have ir : fX8_isInRange_0 (nI 25) T = bnd (fX8_isError (S.1 7 (n - 2)) T) fun r24 S24 => if r24 = 0 then fX8_isInRange_0_163 S24 else bnd (fX8_kind_0 (0 : Int32) S24) fun r26 S26 => if r26 = (4 : Int32) then fX8_isInRange_0_159 S26 else bnd (fX8_number_0 (0 : Int32) S26) fun r28 S28 => if r28 = (-1 : Int32) then fX8_isInRange_0_159 S28 else fX8_isInRange_0_163 S28 := by
          unfold fX8_isInRange_0
          rw [if_neg (by decide), if_neg (by decide), if_neg (by decide), if_neg (by decide), if_neg (by decide), if_neg (by decide), if_neg (by decide), if_neg (by decide), if_neg (by decide), if_neg (by decide), if_neg (by decide), if_neg (by decide), if_neg (by decide), if_neg (by decide), if_neg (by decide), if_pos (by decide), n_m1 h (by omega), bnd_x]
        rcases err_or (S.1 7 (n - 2)) with ⟨e, e1, e2, eV, eS, eT⟩ | ⟨eS, eT⟩
        · rw [eT, bnd_x, if_neg (by decide), k_m0 h (by omega), bnd_x] at ir
          have go : (S.1 7 (n - 1) = -1 ∨ ∃ p, p < 20 ∧ S.1 7 (n - 1) = nI p) → fX8_isInRange_0 (nI 25) T = some (1, T) → fX7_setHandler_0_38 (S.1 6 (n - 1)) (S.1 7 (n - 1)) (S.1 7 (n - 2)) S = fX7_setHandler_0_60 (S.1 7 (n - 1)) (S.1 7 (n - 2)) S → Op K (nI 25) S T := by
            intro hv hr hc
            have w := w1 _ hr
            rw [if_neg (by decide)] at w
            have x1 := x_hand (e := e) h hv
            obtain ⟨v, hv1, hv2⟩ := n00 h
            rw [hv2 (by omega)] at hv1
            refine Or.inr (Or.inl ⟨_, _, _, _, c0 _ _ ?_, w, ?_, x_size (m := n - 2) x1 (by omega)⟩)
            · rw [cs, hc]
              unfold fX7_setHandler_0_60 fX1_set_11
              rw [eS, bnd_x, if_neg (by decide), eV, if_pos (vqI (by omega) (by omega)), nI_clamp (by omega), stp_x, bnd_x, to2 x1 hn, bnd_x]
            · unfold fX8_work_0 fX8_govern_0
              rw [if_neg (by decide), if_neg (by decide), if_pos (by decide), if_pos (by decide), if_pos (by decide), hv1, bnd_x, if_neg (by decide), if_neg (by decide), if_neg (by decide), if_pos (by decide), n_m1 h (by omega), bnd_x, eV, if_pos (vqI (by omega) (by omega)), nI_clamp (by omega), stp_x, ts2 x1 hn, stp_x, bnd_x]
          by_cases z4 : S.1 6 (n - 1) = 4
          · refine go (Or.inr ((okI h (i := n - 1) (by omega)).2.2 z4)) ?_ ?_
            · rw [ir, if_pos z4]; rfl
            · unfold fX7_setHandler_0_38
              rw [eS, bnd_x, if_neg (by decide), z4, if_neg (by decide)]
          · have z0 := z.resolve_left z4
            rw [if_neg z4, n_m0 h (by omega), bnd_x] at ir
            by_cases y : S.1 7 (n - 1) = -1
            · refine go (Or.inl y) ?_ ?_
              · rw [ir, if_pos y]; rfl
              · unfold fX7_setHandler_0_38
                rw [eS, bnd_x, if_neg (by decide), if_pos z0, if_pos y]
            · rw [if_neg y] at ir
              have w := w1 _ ir
              rw [if_pos rfl] at w
              refine Or.inl ⟨4, by omega, by omega, c0 _ _ ?_, w⟩
              rw [cs]
              unfold fX7_setHandler_0_38
              rw [eS, bnd_x, if_neg (by decide), if_pos z0, if_neg y]; rfl
        · rw [eT, bnd_x, if_pos rfl] at ir
          have w := w1 _ ir
          rw [if_pos rfl] at w
          refine Or.inl ⟨4, by omega, by omega, c0 _ _ ?_, w⟩
          rw [cs]
          unfold fX7_setHandler_0_38
          rw [eS, bnd_x, if_pos rfl]; rfl
      · rw [if_neg z] at ak
        refine Or.inl ⟨3, by omega, by omega, c0 _ _ ?_, ?_⟩
        · unfold fX7_setHandler_0
          rw [k_c0 h (by omega), bnd_x, n_c0 h (by omega), bnd_x, n_c1 h (by omega), bnd_x, if_neg (fun y => z (Or.inl y)), if_neg (fun y => z (Or.inr y))]; rfl
        · rw [wr_1 (o := 25) h (by omega) (by omega) hn]
          unfold fX8_wrong_0_61
          rw [ak, bnd_x, if_pos rfl]; rfl
    · refine op_bad h hi (by omega) (by omega) hn hf ?_
      have f1 : ¬ S.1 6 (n - 2) = 0 := fun z => hf ⟨Or.inl rfl, Or.inr z, trivial⟩
      unfold fX8_areKinds_0
      rw [if_neg (by decide), if_neg (by decide), if_neg (by decide), if_neg (by decide), if_neg (by decide), if_neg (by decide), if_neg (by decide), if_neg (by decide), if_neg (by decide), if_neg (by decide), if_neg (by decide), if_neg (by decide), if_neg (by decide), if_neg (by decide), if_neg (by decide), if_neg (by decide), if_neg (by decide), if_neg (by decide), if_neg (by decide), if_neg (by decide), if_neg (by decide), if_neg (by decide), if_neg (by decide), if_neg (by decide), if_neg (by decide), if_pos (by decide), k_m1 h (by omega), bnd_x, if_neg f1]
      rfl
  · exact op_few h hi (by omega) (by show n < 2; omega)
theorem op_26 (h : Rx K S T n d) (hi : S.1 0 7 = 0) : Op K (nI 26) S T := by
  refine op_mh h hi (by omega) (by omega) (ak_26 h) (fun hn hf => ?_)
  have hm := oc_mis h (o := 26) (by omega) hn hf
  have hn : 1 ≤ n := hn
  have c0 : ∀ r S1, fX7_raise_0 (S.1 7 (n - 1)) S = some (r, S1) → fX7_operate_0 tkF (nI 26) S = some (r, S1) := by
    intro r S1 hp
    unfold fX7_operate_0
    rw [if_pos hi, hm, bnd_x, if_pos rfl, if_neg (by decide), if_neg (by decide), if_neg (by decide), if_neg (by decide), if_neg (by decide), if_neg (by decide), if_neg (by decide), if_neg (by decide), if_neg (by decide), if_neg (by decide), if_pos (by decide), n_c0 h (by omega), bnd_x, hp, bnd_x]
  have ir : fX8_isInRange_0 (nI 26) T = bnd (fX8_isError (S.1 7 (n - 1)) T) fun r32 S32 => if r32 = 0 ∨ r32 = 1 then some (r32, S32) else none := by
    unfold fX8_isInRange_0
    rw [if_neg (by decide), if_neg (by decide), if_neg (by decide), if_neg (by decide), if_neg (by decide), if_neg (by decide), if_neg (by decide), if_neg (by decide), if_neg (by decide), if_neg (by decide), if_neg (by decide), if_neg (by decide), if_neg (by decide), if_neg (by decide), if_neg (by decide), if_neg (by decide), if_pos (by decide), n_m0 h (by omega), bnd_x]
  rcases err_or (S.1 7 (n - 1)) with ⟨e, e1, e2, eV, eS, eT⟩ | ⟨eS, eT⟩
  · rw [eT, bnd_x, if_pos (Or.inr rfl)] at ir
    refine Or.inr (Or.inr ⟨e, e1, e2, c0 _ _ ?_, ?_, ?_⟩)
    · unfold fX7_raise_0
      rw [eS, bnd_x, if_neg (by decide), eV]
    · unfold fX8_wrong_0_93
      rw [ir, bnd_x]; rfl
    · intro T1 ha
      obtain ⟨v, hv1, hv2⟩ := n00 h
      rw [hv2 hn, eV] at hv1
      unfold fX8_work_0 fX8_govern_0
      rw [if_neg (by decide), if_neg (by decide), if_pos (by decide), if_pos (by decide), if_pos (by decide), hv1, bnd_x, if_neg (by decide), if_neg (by decide), if_neg (by decide), if_neg (by decide), if_pos (by decide), show fX8_arise_0 (nI e) 26 T = some (0, T1) from ha, bnd_x, bnd_x]
  · rw [eT, bnd_x, if_pos (Or.inl rfl)] at ir
    refine Or.inl ⟨4, by omega, by omega, c0 _ _ ?_, ?_⟩
    · unfold fX7_raise_0
      rw [eS, bnd_x, if_pos rfl]; rfl
    · unfold fX8_wrong_0_93
      rw [ir, bnd_x, if_pos rfl]; rfl
theorem x_new (h : Rx K S T n d) : Rx K (si S 20 5 0) (si T 0 12 0) n d := by
  obtain ⟨h1, h2, h3, h4, h5, h6, h7, h8, h9⟩ := h
  exact ⟨q_r5 h1 0, h2, h3, h4, h5, ⟨h6.1, Or.inl rfl⟩, h7, h8, h9⟩
theorem has_j : ∀ j, j < 6 → (∀ S, fX5_has_20 (nI j) S = some (1, S)) ∧ ∀ T, fX8_in (nI j) 0 5 T = some (1, T)
  | 0, _ => ⟨fun _ => rfl, fun _ => rfl⟩
  | 1, _ => ⟨fun _ => rfl, fun _ => rfl⟩
  | 2, _ => ⟨fun _ => rfl, fun _ => rfl⟩
  | 3, _ => ⟨fun _ => rfl, fun _ => rfl⟩
  | 4, _ => ⟨fun _ => rfl, fun _ => rfl⟩
  | 5, _ => ⟨fun _ => rfl, fun _ => rfl⟩
  | j + 6, h => absurd h (by omega)
theorem has_or (x : Int32) : (∃ j, j < 6 ∧ x = nI j) ∨ ((∀ S, fX5_has_20 x S = some (0, S)) ∧ ∀ T, fX8_in x 0 5 T = some (0, T)) := by
  have i5 : (5 : Int32).toInt = 5 := by decide
  have i6 : (nI 6).toInt = 6 := by decide
  have i0 : (0 : Int32).toInt = 0 := by decide
  rcases pk_ix x (n := 6) (by omega) with z | z | ⟨j, hj, rfl⟩
  · refine Or.inr ⟨fun S => ?_, fun T => ?_⟩
    · unfold fX5_has_20 fX5_has_20_13; rw [if_pos z]
    · unfold fX8_in fX8_in_14; rw [if_pos z]
  · rw [Int32.le_iff_toInt_le, i6] at z
    refine Or.inr ⟨fun S => ?_, fun T => ?_⟩
    · unfold fX5_has_20 fX5_has_20_13; rw [if_neg (by rw [Int32.lt_iff_toInt_lt, i0]; omega), if_pos (by rw [Int32.lt_iff_toInt_lt, i5]; omega)]
    · unfold fX8_in fX8_in_14; rw [if_neg (by rw [Int32.lt_iff_toInt_lt, i0]; omega), if_pos (by rw [Int32.lt_iff_toInt_lt, i5]; omega)]
  · exact Or.inl ⟨j, hj, rfl⟩
theorem told_j (hE : Eqd S T) (u : Int32) : ∀ j, j < 6 → ∃ v, fX5_told_20 (nI j) S = some (v, S) ∧ fX8_told_0 (nI j) (si T 0 6 u) = some (v, si T 0 6 u) := by
  obtain ⟨h0, h1, h2, h3, h4, h5, h6, h7, h8, h9, h10, h11, h12, h13, h14, h15, h16, h17, h18, h19, h20, h21⟩ := hE
  intro j hj
  match j, hj with
  | 0, _ => exact ⟨S.1 20 1, rfl, by rw [h12]; rfl⟩
  | 1, _ => exact ⟨S.1 20 2, rfl, by rw [h13]; rfl⟩
  | 2, _ =>
    refine ⟨if S.1 20 5 = 0 then 0 else 1, ?_, ?_⟩
    · show (if S.1 20 5 = 0 then some ((0 : Int32), S) else some (1, S)) = _
      by_cases z : S.1 20 5 = 0
      · rw [if_pos z, if_pos z]
      · rw [if_neg z, if_neg z]
    · show (if T.1 0 12 = 0 then some ((0 : Int32), si T 0 6 u) else some (1, si T 0 6 u)) = _
      rw [← h16]
      by_cases z : S.1 20 5 = 0
      · rw [if_pos z, if_pos z]
      · rw [if_neg z, if_neg z]
  | 3, _ => exact ⟨S.1 20 3, rfl, by rw [h14]; rfl⟩
  | 4, _ => exact ⟨S.1 21 2, rfl, by rw [h17]; rfl⟩
  | 5, _ => exact ⟨S.1 20 4, rfl, by rw [h15]; rfl⟩
  | j + 6, h => exact absurd h (by omega)
theorem op_27 (h : Rx K S T n d) (hi : S.1 0 7 = 0) : Op K (nI 27) S T := by
  refine op_mh h hi (by omega) (by omega) (ak_27 h) (fun hn hf => ?_)
  have hm := oc_mis h (o := 27) (by omega) hn hf
  have hn : 1 ≤ n := hn
  have h60 := (rx_S h).2.2.1
  have c0 : ∀ r S1, fX7_tell_0 (S.1 7 (n - 1)) S = some (r, S1) → fX7_operate_0 tkF (nI 27) S = some (r, S1) := by
    intro r S1 hp
    unfold fX7_operate_0
    rw [if_pos hi, hm, bnd_x, if_pos rfl, if_neg (by decide), if_neg (by decide), if_neg (by decide), if_neg (by decide), if_neg (by decide), if_neg (by decide), if_neg (by decide), if_neg (by decide), if_neg (by decide), if_neg (by decide), if_neg (by decide), if_pos (by decide), n_c0 h (by omega), bnd_x, hp, bnd_x]
  have ir : fX8_isInRange_0 (nI 27) T = bnd (fX8_in (S.1 7 (n - 1)) 0 5 T) fun r32 S32 => if r32 = 0 ∨ r32 = 1 then some (r32, S32) else none := by
    unfold fX8_isInRange_0
    rw [if_neg (by decide), if_neg (by decide), if_neg (by decide), if_neg (by decide), if_neg (by decide), if_neg (by decide), if_neg (by decide), if_neg (by decide), if_neg (by decide), if_neg (by decide), if_neg (by decide), if_neg (by decide), if_neg (by decide), if_neg (by decide), if_neg (by decide), if_neg (by decide), if_neg (by decide), if_pos (by decide), n_m0 h (by omega), bnd_x]
  rcases has_or (S.1 7 (n - 1)) with ⟨j, hj, eV⟩ | ⟨eS, eT⟩
  · rw [eV, (has_j j hj).2, bnd_x, if_pos (Or.inr rfl)] at ir
    rw [eV] at c0
    have w : fX8_wrong_0_93 (nI 27) T = some (0, T) := by
      unfold fX8_wrong_0_93
      rw [ir, bnd_x]; rfl
    obtain ⟨v, hv1, hv2⟩ := n00 h
    rw [hv2 hn, eV] at hv1
    obtain ⟨u, hu1, hu2⟩ := told_j h.1 (nI (n - 1)) j hj
    by_cases z : j = 2
    · subst z
      have x1 := x_rep (m := n - 1) (k := 1) (v := u) h (by omega) (okT1 _)
      have x2 := x_new x1
      refine Or.inr (Or.inl ⟨_, _, _, _, c0 _ _ ?_, w, ?_, x2⟩)
      · unfold fX7_tell_0 fX7_tell_0_28
        rw [(has_j 2 hj).1, bnd_x, if_neg (by decide), if_pos (by decide), hu1, bnd_x, rpa h hn, bnd_x, if_pos (by decide)]
        rfl
      · unfold fX8_work_0 fX8_govern_0 fX8_govern_0_140
        rw [if_neg (by decide), if_neg (by decide), if_pos (by decide), if_pos (by decide), if_pos (by decide), hv1, bnd_x, if_neg (by decide), if_neg (by decide), if_neg (by decide), if_neg (by decide), if_neg (by decide), ts1 h hn, stp_x, if_pos (by decide), hu2, bnd_x, lyn (by omega), bnd_x]
        have q : fX8_govern_0_165 (mPut (si T 0 6 (nI (n - 1))) (n - 1) 1 u) = some (0, si (mPut (si T 0 6 (nI (n - 1))) (n - 1) 1 u) 0 12 0) := rfl
        by_cases y : (mPut (si T 0 6 (nI (n - 1))) (n - 1) 1 u).1 0 12 = 0
        · rw [if_pos y, q, bnd_x]
        · rw [if_neg y, if_pos (by decide), q, bnd_x]
    · have z2 : ¬ nI j = 2 := by rw [lit 2, eqI (by omega) (by omega)]; exact z
      have x1 := x_rep (m := n - 1) (k := 0) (v := u) h (by omega) (okN _)
      refine Or.inr (Or.inl ⟨_, _, _, _, c0 _ _ ?_, w, ?_, x1⟩)
      · unfold fX7_tell_0 fX7_tell_0_28
        rw [(has_j j hj).1, bnd_x, if_neg (by decide), if_neg z2, hu1, bnd_x, rpa h hn, bnd_x, if_neg z2]
        rfl
      · unfold fX8_work_0 fX8_govern_0 fX8_govern_0_140
        rw [if_neg (by decide), if_neg (by decide), if_pos (by decide), if_pos (by decide), if_pos (by decide), hv1, bnd_x, if_neg (by decide), if_neg (by decide), if_neg (by decide), if_neg (by decide), if_neg (by decide), ts1 h hn, stp_x, if_neg z2, hu2, bnd_x, lyn (by omega), bnd_x]
        have e5 : (cRep S (n - 1) 0 u).1 20 5 = (mPut (si T 0 6 (nI (n - 1))) (n - 1) 0 u).1 0 12 := x1.1.2.2.2.2.2.2.2.2.2.2.2.2.2.2.2.2.1
        have e6 := x1.2.2.2.2.2.1.2
        rw [e5] at e6
        rcases e6 with y | y
        · rw [if_pos y]
          have q : fX8_govern_0_165 (mPut (si T 0 6 (nI (n - 1))) (n - 1) 0 u) = some (0, si (mPut (si T 0 6 (nI (n - 1))) (n - 1) 0 u) 0 12 0) := rfl
          rw [q, bnd_x, si_id y]
        · rw [y, if_neg (by decide), if_neg z2]
          have q : fX8_govern_0_166 1 (mPut (si T 0 6 (nI (n - 1))) (n - 1) 0 u) = some (0, si (mPut (si T 0 6 (nI (n - 1))) (n - 1) 0 u) 0 12 1) := by
            unfold fX8_govern_0_166
            rw [if_pos (Or.inr rfl), stp_x]
          rw [q, bnd_x, si_id y]
  · rw [eT, bnd_x, if_pos (Or.inl rfl)] at ir
    refine Or.inl ⟨4, by omega, by omega, c0 _ _ ?_, ?_⟩
    · unfold fX7_tell_0
      rw [eS, bnd_x, if_pos rfl]; rfl
    · unfold fX8_wrong_0_93
      rw [ir, bnd_x, if_pos rfl]; rfl
end HIGH3
