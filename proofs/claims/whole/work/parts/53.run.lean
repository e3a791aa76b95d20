/-! a run, in both -/
variable {K : Int32}
section RUN
variable {S T : St} {n d c o : Nat}
theorem x_mt {K' : Int32} (h : Rx K S T n d) : Rx K' S (si T 0 26 K') n d := by
  obtain ⟨h1, h2, h3, h4, h5, h6, h7, h8, h9⟩ := h
  exact ⟨h1, h2, h3, h4, h5, h6, h7, h8, h9.1, rfl⟩
theorem rc_of {S' T' : St} (h : Rx K S T n d) (hE : Eqd S' T') (h2 : S'.1 2 = S.1 2) (h3 : S'.1 3 = S.1 3) (h4 : S'.1 4 = S.1 4) (h5 : S'.1 5 = S.1 5) (h6 : S'.1 6 = S.1 6) (h7 : S'.1 7 = S.1 7) (h9 : S'.1 9 = S.1 9) (h10 : S'.1 10 = S.1 10) (h12 : S'.1 12 = S.1 12) (h07 : S'.1 0 7 = S.1 0 7) (h205 : S'.1 20 5 = S.1 20 5) (h212 : S'.1 21 2 = S.1 21 2) (hd : S'.1 0 9 = T'.1 0 26) : Rc S' T' := by
  obtain ⟨g1, g2, g3, g4, g5, g6, g7, g8, g9⟩ := h
  refine ⟨n, hE, ?_, ?_, ?_, ?_, ?_, ?_, hd⟩
  · unfold Tok; rw [h4, h2, h3]; exact g2
  · unfold Pil; rw [h5, h6, h7]; exact g3
  · unfold Tab; rw [h9, h10]; exact g4
  · unfold Hnd; rw [h12]; exact g5
  · unfold Flg; rw [h07, h205]; exact g6
  · unfold Kep; rw [h212]; exact g7
theorem run_loop {L : Nat} (hL : L ≤ 5000) : ∀ (m k n d f g : Nat) (S T : St), k + m = L → m < f → m + 1 < g → Rx (nI k) S T n d → ∃ v S1 T1, fX7_run_0_48 tkF f (nI L) (nI k) S = some (v, S1) ∧ fX8_run_0_62 g (nI L) T = some (v, T1) ∧ Rc S1 T1 := by
  intro m
  induction m with
  | zero =>
    intro k n d f g S T hk hf hg h
    obtain ⟨f, rfl⟩ : ∃ x, f = x + 1 := ⟨f - 1, by omega⟩
    obtain ⟨g, rfl⟩ : ∃ x, g = x + 2 := ⟨g - 2, by omega⟩
    obtain ⟨g1, g2, g3, g4, g5, g6⟩ := rx_S h
    have h26 : T.1 0 26 = nI k := h.2.2.2.2.2.2.2.2.2
    have h29 : S.1 0 8 = T.1 0 29 := h.2.2.2.2.2.2.2.2.1
    have e0 : (si S 0 9 (nI k)).1 13 6 = nI d := g4
    rw [fX7_run_0_48.eq_2, if_pos (by rw [leI (by omega) (by omega)]; omega), fX8_run_0_62.eq_2, g5]
    unfold fX7_run_0_73 fX0_count_13
    rw [stp_x, bnd_x, e0]
    by_cases hd : d = 0
    · subst hd
      rw [if_pos (show nI 0 = 0 from rfl), if_pos (by decide)]
      refine ⟨S.1 0 8, _, T, rfl, by rw [h29], ?_⟩
      exact rc_of h (q_cd h.1 _) rfl rfl rfl rfl rfl rfl rfl rfl rfl rfl rfl rfl h26.symm
    · rw [if_neg (nI_ne0 (by omega) (by omega)), if_neg (nI_nle (by omega) (by omega)), h26, if_pos (by rw [eqI (by omega) (by omega)]; omega), stp_x, stp_x, fX8_run_0_62.eq_2]
      have hc : fX0_cutTo_13 0 (si S 0 9 (nI k)) = some (0, si (si S 0 9 (nI k)) 13 6 (nI 0)) := cut (j := 0) (S := si S 0 9 (nI k)) g4 g6 (by omega)
      rw [hc, bnd_x, if_pos (show (si (si T 0 19 0) 0 29 10).1 0 19 ≤ 0 from (by decide : (0 : Int32) ≤ 0))]
      refine ⟨10, _, _, rfl, rfl, ?_⟩
      exact rc_of h (q_me (q_mc (q_cc (q_cd h.1 _) _) _) _) rfl rfl rfl rfl rfl rfl rfl rfl rfl rfl rfl rfl h26.symm
  | succ m ih =>
    intro k n d f g S T hk hf hg h
    obtain ⟨f, rfl⟩ : ∃ x, f = x + 1 := ⟨f - 1, by omega⟩
    obtain ⟨g, rfl⟩ : ∃ x, g = x + 1 := ⟨g - 1, by omega⟩
    obtain ⟨g1, g2, g3, g4, g5, g6⟩ := rx_S h
    have h26 : T.1 0 26 = nI k := h.2.2.2.2.2.2.2.2.2
    have h29 : S.1 0 8 = T.1 0 29 := h.2.2.2.2.2.2.2.2.1
    rw [fX7_run_0_48.eq_2, if_neg (by rw [leI (by omega) (by omega)]; omega), fX8_run_0_62.eq_2, g5]
    have ec : fX0_count_13 S = some (nI d, S) := by unfold fX0_count_13; rw [g4]
    rw [ec, bnd_x]
    by_cases hd : d = 0
    · subst hd
      have e0 : (si S 0 9 (nI k)).1 13 6 = nI 0 := g4
      rw [if_pos (by decide), if_pos (by decide)]
      unfold fX7_run_0_73 fX0_count_13
      rw [stp_x, bnd_x, e0, if_pos (show nI 0 = 0 from rfl)]
      refine ⟨S.1 0 8, _, T, rfl, by rw [h29], ?_⟩
      exact rc_of h (q_cd h.1 _) rfl rfl rfl rfl rfl rfl rfl rfl rfl rfl rfl rfl h26.symm
    · obtain ⟨c, rfl⟩ : ∃ c, d = c + 1 := ⟨d - 1, by omega⟩
      rw [if_neg (nI_nle (by omega) (by omega)), if_neg (nI_nle (by omega) (by omega)), h26, if_neg (by rw [eqI (by omega) (by omega)]; omega), nI_1, stp_x]
      obtain ⟨S1, T1, n1, d1, b1, b2, b3⟩ := step_eq (x_mt (K' := nI (k + 1)) h)
      rw [b1, bnd_x, b2, bnd_x, stv_x]
      exact ih (k + 1) n1 d1 f g S1 T1 (by omega) (by omega) (by omega) b3
theorem cAdd_0 (S : St) (d k : Nat) (s w v : Int32) : cAdd (si S 0 k v) d s w = si (cAdd S d s w) 0 k v := by
  unfold cAdd
  rw [si_comm S k d _ _ (show 0 ≠ 14 by decide), si_comm _ k d _ _ (show 0 ≠ 15 by decide), si_comm _ k d _ _ (show 0 ≠ 16 by decide), si_comm _ k 6 _ _ (show 0 ≠ 13 by decide), si_comm _ k 7 _ _ (show 0 ≠ 13 by decide)]
  rfl
theorem rc_x (h : Rc S T) (v : Int32) : Rc S (si T 0 0 v) := by
  obtain ⟨n, h1, h2, h3, h4, h5, h6, h7, h8⟩ := h
  exact ⟨n, h1, h2, h3, h4, h5, h6, h7, h8⟩
/-- a number in 0..N-1, or not -/
theorem in_or (x : Int32) {N : Nat} (hN : N < 2 ^ 31) (h0 : 0 < N) : (∃ j, j < N ∧ x = nI j ∧ ∀ T, fX8_in x 0 (nI (N - 1)) T = some (1, T)) ∨ ((x < 0 ∨ nI N ≤ x) ∧ ∀ T, fX8_in x 0 (nI (N - 1)) T = some (0, T)) := by
  rcases pk_ix x (n := N) hN with z | z | ⟨j, hj, rfl⟩
  · refine Or.inr ⟨Or.inl z, fun T => ?_⟩
    unfold fX8_in fX8_in_14
    rw [if_pos z]
  · refine Or.inr ⟨Or.inr z, fun T => ?_⟩
    have z2 := z
    rw [Int32.le_iff_toInt_le, nI_toInt hN] at z2
    unfold fX8_in fX8_in_14
    rw [if_neg (by rw [Int32.lt_iff_toInt_lt, show (0 : Int32).toInt = 0 by decide]; omega), if_pos (by rw [Int32.lt_iff_toInt_lt, nI_toInt (by omega)]; omega)]
  · refine Or.inl ⟨j, hj, rfl, fun T => ?_⟩
    unfold fX8_in
    rw [if_neg (nI_pos (by omega)), if_neg (by rw [ltI (by omega) (by omega)]; omega)]
theorem has_p (x : Int32) : (∃ p, p < 20 ∧ x = nI p ∧ (∀ S, fX4_has_1 x S = some (1, S)) ∧ ∀ T, fX8_in x 0 19 T = some (1, T)) ∨ ((∀ S, fX4_has_1 x S = some (0, S)) ∧ ∀ T, fX8_in x 0 19 T = some (0, T)) := by
  rcases in_or x (N := 20) (by omega) (by omega) with ⟨j, hj, hx, hi⟩ | ⟨z, hi⟩
  · refine Or.inl ⟨j, hj, hx, fun S => ?_, hi⟩
    unfold fX4_has_1
    rw [hx, if_neg (nI_pos (by omega)), if_neg (by rw [lit 20, leI (by omega) (by omega)]; omega)]
  · refine Or.inr ⟨fun S => ?_, hi⟩
    unfold fX4_has_1 fX4_has_1_14
    by_cases y : x < 0
    · rw [if_pos y]
    · rw [if_neg y, if_pos (show (20 : Int32) ≤ x from z.resolve_left y)]
theorem run_eq (p1 p2 : Int32) (S T : St) (h : Rc S T) : ∃ (v : Int32) (S1 T1 : St), fX7_run_0 tkF p1 p2 S = some (v, S1) ∧ fX8_run_0 p1 p2 T = some (v, T1) ∧ Rc S1 T1 := by
  have hx := rc_x h 0
  unfold fX7_run_0 fX8_run_0
  rw [stp_x]
  rcases has_p p1 with ⟨p, hp, hP, hS, hT⟩ | ⟨hS, hT⟩
  · rw [hS, bnd_x, if_neg (show ¬ (1 : Int32) = 0 by decide), hT, bnd_x, if_neg (show ¬ (1 : Int32) = 0 by decide)]
    by_cases z1 : p2 < 1
    · rw [if_pos z1]
      refine ⟨-2, S, si T 0 0 0, rfl, ?_, hx⟩
      unfold fX8_in fX8_in_14
      rw [if_pos z1, bnd_x, if_pos rfl]
    · by_cases z2 : p2 ≤ 5000
      · have hin : ∀ T, fX8_in p2 1 5000 T = some (1, T) := fun T => by
          unfold fX8_in
          rw [if_neg z1, if_neg (Int32.not_lt.mpr z2)]
        rw [if_neg z1, if_pos z2, hin, bnd_x, if_neg (show ¬ (1 : Int32) = 0 by decide), stp_x, stp_x, stp_x, stp_x, stp_x]
        have hL : ∃ L, L ≤ 5000 ∧ p2 = nI L := by
          refine nI_of2 (M := 5000) (by decide) (fun z => z1 ?_) z2
          rw [Int32.lt_iff_toInt_lt] at z ⊢
          have i1 : (1 : Int32).toInt = 1 := by decide
          have i0 : (0 : Int32).toInt = 0 := by decide
          omega
        obtain ⟨L, hL, rfl⟩ := hL
        obtain ⟨n, ⟨h0, h1, h2, h3, h4, h5, h6, h7, h8, h9, h10, h11, h12, h13, h14, h15, h16, h17, h18, h19, h20, h21⟩, g2, g3, g4, g5, g6, g7, g8⟩ := h
        have x0 : Rx (nI 0) (si (si (si (si S 13 6 0) 13 7 0) 0 8 0) 0 10 0) (si (si (si (si (si (si T 0 0 0) 0 19 0) 0 26 0) 0 27 0) 0 28 0) 0 29 0) n 0 :=
          ⟨⟨h0, h1, h2, h3, h4, h5, h6, h7, h8, h9, h10, rfl, h12, h13, h14, h15, h16, h17, h18, h19, h20, rfl⟩, g2, g3, g4, g5, g6, g7, ⟨by omega, rfl, rfl, fun i hi => absurd hi (by omega)⟩, rfl, rfl⟩
        have x1 := x_add (s := 0) (s' := 0) (w := nI p) x0 (by omega) (f_row hp)
        have e1 : fX0_startWith_13 (nI p) S = some (0, cAdd (si (si S 13 6 0) 13 7 0) 0 0 (nI p)) := by
          unfold fX0_startWith_13
          rw [stp_x, stp_x, add1 (d := 0) rfl (by omega), bnd_x]
        rw [hP, e1, bnd_x, stp_x, stp_x, stv_x, com1 (d := 0) rfl (by omega), bnd_x]
        rw [cAdd_0, cAdd_0] at x1
        exact run_loop hL L 0 n 1 6000 6000 _ _ (by omega) (by omega) (by omega) x1
      · rw [if_neg z1, if_neg z2]
        refine ⟨-2, S, si T 0 0 0, rfl, ?_, hx⟩
        unfold fX8_in fX8_in_14
        rw [if_neg z1, if_pos (Int32.not_le.mp z2), bnd_x, if_pos rfl]
  · rw [hS, bnd_x, if_pos rfl, hT, bnd_x, if_pos rfl]
    exact ⟨-1, S, si T 0 0 0, rfl, rfl, hx⟩
end RUN
