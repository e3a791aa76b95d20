variable {K : Int32}
/-! an error arises: class and reference tell it alike and go on alike -/
def cCp (S : St) (i : Nat) : Nat → St
  | 0 => S
  | m + 1 => cCp (si (si S 22 i (S.1 6 i)) 23 i (S.1 7 i)) (i + 1) m
def mCp (T : St) (i : Nat) : Nat → St
  | 0 => T
  | m + 1 => mCp (si (si T 9 i (T.1 4 i)) 10 i (T.1 5 i)) (i + 1) m
def cpf (f g : Nat → Int32) (i : Nat) : Nat → Nat → Int32
  | 0 => g
  | m + 1 => cpf f (upd g i (f i)) (i + 1) m
theorem cCp_n : ∀ (m i : Nat) (S : St) (c : Nat), c ≠ 22 → c ≠ 23 → (cCp S i m).1 c = S.1 c := by
  intro m
  induction m with
  | zero => intro i S c _ _; rfl
  | succ m ih =>
    intro i S c h1 h2
    show (cCp _ (i + 1) m).1 c = _
    rw [ih _ _ c h1 h2, si_1, if_neg h2, si_1, if_neg h1]
theorem cCp_2 : ∀ (m i : Nat) (S : St), (cCp S i m).2 = S.2 := by
  intro m
  induction m with
  | zero => intro i S; rfl
  | succ m ih => intro i S; show (cCp _ (i + 1) m).2 = _; rw [ih]; rfl
theorem cCp_22 : ∀ (m i : Nat) (S : St), (cCp S i m).1 22 = cpf (S.1 6) (S.1 22) i m ∧ (cCp S i m).1 23 = cpf (S.1 7) (S.1 23) i m := by
  intro m
  induction m with
  | zero => intro i S; exact ⟨rfl, rfl⟩
  | succ m ih => intro i S; exact ih (i + 1) _
theorem mCp_n : ∀ (m i : Nat) (T : St) (c : Nat), c ≠ 9 → c ≠ 10 → (mCp T i m).1 c = T.1 c := by
  intro m
  induction m with
  | zero => intro i S c _ _; rfl
  | succ m ih =>
    intro i S c h1 h2
    show (mCp _ (i + 1) m).1 c = _
    rw [ih _ _ c h1 h2, si_1, if_neg h2, si_1, if_neg h1]
theorem mCp_2 : ∀ (m i : Nat) (T : St), (mCp T i m).2 = T.2 := by
  intro m
  induction m with
  | zero => intro i S; rfl
  | succ m ih => intro i S; show (mCp _ (i + 1) m).2 = _; rw [ih]; rfl
theorem mCp_9 : ∀ (m i : Nat) (T : St), (mCp T i m).1 9 = cpf (T.1 4) (T.1 9) i m ∧ (mCp T i m).1 10 = cpf (T.1 5) (T.1 10) i m := by
  intro m
  induction m with
  | zero => intro i S; exact ⟨rfl, rfl⟩
  | succ m ih => intro i S; exact ih (i + 1) _
theorem mCp_w : ∀ (m i : Nat) (T : St) (k : Nat) (w : Int32), mCp (si T 0 k w) i m = si (mCp T i m) 0 k w := by
  intro m
  induction m with
  | zero => intro i T k w; rfl
  | succ m ih =>
    intro i T k w
    show mCp (si (si (si T 0 k w) 9 i (T.1 4 i)) 10 i (T.1 5 i)) (i + 1) m = si (mCp (si (si T 9 i (T.1 4 i)) 10 i (T.1 5 i)) (i + 1) m) 0 k w
    rw [si_comm T k i w _ (show 0 ≠ 9 by decide), si_comm _ k i w _ (show 0 ≠ 10 by decide), ih]
def cT0 (S : St) (p1 p2 p3 : Int32) : St := si (si (si (si (si S 20 1 p1) 20 2 p2) 20 3 p3) 20 4 (S.1 20 4 + 1)) 20 5 1
def cTell (S : St) (n : Nat) (p1 p2 p3 : Int32) : St := si (cCp (cT0 S p1 p2 p3) 0 n) 21 2 (nI n)
def mT0 (T : St) (n : Nat) (p1 p2 w : Int32) : St := si (si (si (si (si (si T 0 10 p1) 0 11 p2) 0 12 1) 0 13 w) 0 17 (T.1 0 17 + 1)) 0 16 (nI n)
def mTell (T : St) (n : Nat) (p1 p2 w : Int32) : St := mCp (mT0 T n p1 p2 w) 0 n
theorem mTell_w (T : St) (n : Nat) (p1 p2 w w' : Int32) : si (mTell T n p1 p2 w) 0 13 w' = mTell T n p1 p2 w' := by
  unfold mTell
  rw [← mCp_w]
  congr 1
  unfold mT0
  rw [si_comk _ 0 _ _ (show 16 ≠ 13 by decide), si_comk _ 0 _ _ (show 17 ≠ 13 by decide), si_si]
theorem cp_loop {n : Nat} (hn : n ≤ 60) : ∀ (m i f : Nat) (S : St), i + m = n → m < f → S.1 5 2 = nI n → fX2_copy_21_5_2 f (nI i) S = some (0, si (cCp S i m) 21 2 (nI n)) := by
  intro m
  induction m with
  | zero =>
    intro i f S h1 h2 h
    obtain ⟨f, rfl⟩ : ∃ g, f = g + 1 := ⟨f - 1, by omega⟩
    rw [fX2_copy_21_5_2.eq_2, h, if_pos (by rw [leI (by omega) (by omega)]; omega)]
    unfold fX2_copy_21_5_46
    rw [h]
    rfl
  | succ m ih =>
    intro i f S h1 h2 h
    obtain ⟨f, rfl⟩ : ∃ g, f = g + 1 := ⟨f - 1, by omega⟩
    rw [fX2_copy_21_5_2.eq_2, h, if_neg (by rw [leI (by omega) (by omega)]; omega), if_neg (by rw [lit 60, leI (by omega) (by omega)]; omega), if_pos (vqI (by omega) (by omega)), if_pos (vqI (by omega) (by omega)), stp_x, if_pos (vqI (by omega) (by omega)), if_pos (vqI (by omega) (by omega)), nI_clamp (by omega), stp_x, stv_x, nI_1]
    exact ih (i + 1) f _ (by omega) (by omega) h
theorem tell {S : St} {n : Nat} {p1 p2 p3 : Int32} (h : S.1 5 2 = nI n) (hn : n ≤ 60) : fX5_tell_20_5 p1 p2 p3 S = some (0, cTell S n p1 p2 p3) := by
  unfold fX5_tell_20_5
  rw [stp_x, stp_x, stp_x, stp_x, stp_x]
  have e : fX2_copy_21_5 (cT0 S p1 p2 p3) = some (0, cTell S n p1 p2 p3) := by
    unfold fX2_copy_21_5
    rw [stv_x]
    exact cp_loop hn n 0 500 _ (by omega) (by omega) h
  show bnd (fX2_copy_21_5 (cT0 S p1 p2 p3)) _ = _
  rw [e]
  rfl
theorem mcp_loop {n : Nat} (hn : n ≤ 60) (q : Int32) : ∀ (m i f : Nat) (T : St), i + m = n → m < f → T.1 0 6 = nI n → fX8_arise_0_40 f q (nI i) T = fX8_arise_0_85 500 q (T.1 0 19 - 1) (mCp T i m) := by
  intro m
  induction m with
  | zero =>
    intro i f T h1 h2 h
    obtain ⟨f, rfl⟩ : ∃ g, f = g + 1 := ⟨f - 1, by omega⟩
    rw [fX8_arise_0_40.eq_2, h, if_pos (by rw [leI (by omega) (by omega)]; omega)]
    rfl
  | succ m ih =>
    intro i f T h1 h2 h
    obtain ⟨f, rfl⟩ : ∃ g, f = g + 1 := ⟨f - 1, by omega⟩
    rw [fX8_arise_0_40.eq_2, h, if_neg (by rw [leI (by omega) (by omega)]; omega), if_pos (vqI (by omega) (by omega)), if_pos (vqI (by omega) (by omega)), stp_x, if_pos (vqI (by omega) (by omega)), if_pos (vqI (by omega) (by omega)), nI_clamp (by omega), stp_x, stv_x, nI_1]
    exact ih (i + 1) f _ (by omega) (by omega) h
/-- the frame that HANDLES an error, if none STOPPED lies above it -/
def top34 (S : St) (d : Nat) : Option Nat := last (fun i => S.1 14 i = 3 ∨ S.1 14 i = 4) d
def ehv (S : St) (d : Nat) : Int32 := match top34 S d with
  | none => 0
  | some i => if S.1 14 i = 3 then 0 else S.1 15 i
theorem eh_loop {S : St} {d : Nat} (hd : d ≤ 30) : ∀ f, d < f → fX0_errorHandled_13_7 f (nI d - 1) S = some (ehv S d, S) := by
  induction d with
  | zero =>
    intro f hf
    obtain ⟨f, rfl⟩ : ∃ g, f = g + 1 := ⟨f - 1, by omega⟩
    rw [fX0_errorHandled_13_7.eq_2, sub1_0, if_pos m1_lt]
    rfl
  | succ n ih =>
    intro f hf
    obtain ⟨f, rfl⟩ : ∃ g, f = g + 1 := ⟨f - 1, by omega⟩
    rw [fX0_errorHandled_13_7.eq_2, predI, if_neg (nI_pos (by omega)), if_pos (vqI (by omega) (by omega))]
    simp only [nI_clamp (show n < 2 ^ 31 by omega)]
    by_cases h3 : S.1 14 n = 3
    · rw [if_pos h3]
      unfold ehv top34 last
      rw [if_pos (Or.inl h3)]
      show some (0, S) = some (if S.1 14 n = 3 then 0 else S.1 15 n, S)
      rw [if_pos h3]
    · rw [if_neg h3, if_pos (vqI (by omega) (by omega))]
      by_cases h4 : S.1 14 n = 4
      · rw [if_pos h4, if_pos (vqI (by omega) (by omega))]
        unfold ehv top34 last
        rw [if_pos (Or.inr h4)]
        show some (S.1 15 n, S) = some (if S.1 14 n = 3 then 0 else S.1 15 n, S)
        rw [if_neg h3]
      · rw [if_neg h4, stv_x, addm1, ih (by omega) f (by omega)]
        have e : ehv S (n + 1) = ehv S n := by
          unfold ehv top34
          have e2 : last (fun i => S.1 14 i = 3 ∨ S.1 14 i = 4) (n + 1) = last (fun i => S.1 14 i = 3 ∨ S.1 14 i = 4) n := if_neg (fun z => z.elim h3 h4)
          rw [e2]
        rw [e]
theorem ehd {S : St} {d : Nat} (h : S.1 13 6 = nI d) (hd : d ≤ 30) : fX0_errorHandled_13 S = some (ehv S d, S) := by
  unfold fX0_errorHandled_13
  rw [stv_x, h]
  exact eh_loop hd 500 (by omega)
theorem ar_loop {T : St} {d : Nat} (hd : d ≤ 30) (q : Int32) : ∀ f, d < f → fX8_arise_0_85 f q (nI d - 1) T = fX8_arise_0_115 q (lastv (last (fun i => T.1 11 i = 4 ∨ T.1 11 i = 5) d)) T := by
  induction d with
  | zero =>
    intro f hf
    obtain ⟨f, rfl⟩ : ∃ g, f = g + 1 := ⟨f - 1, by omega⟩
    rw [fX8_arise_0_85.eq_2, sub1_0, if_pos m1_lt]
    rfl
  | succ n ih =>
    intro f hf
    obtain ⟨f, rfl⟩ : ∃ g, f = g + 1 := ⟨f - 1, by omega⟩
    rw [fX8_arise_0_85.eq_2, predI, if_neg (nI_pos (by omega)), if_pos (vqI (by omega) (by omega))]
    simp only [nI_clamp (show n < 2 ^ 31 by omega)]
    by_cases h3 : T.1 11 n = 4
    · rw [if_pos h3]
      unfold last
      rw [if_pos (Or.inl h3)]; rfl
    · rw [if_neg h3, if_pos (vqI (by omega) (by omega))]
      by_cases h4 : T.1 11 n = 5
      · rw [if_pos h4]
        unfold last
        rw [if_pos (Or.inr h4)]; rfl
      · rw [if_neg h4, stv_x, addm1, ih (by omega) f (by omega)]
        have e2 : last (fun i => T.1 11 i = 4 ∨ T.1 11 i = 5) (n + 1) = last (fun i => T.1 11 i = 4 ∨ T.1 11 i = 5) n := if_neg (fun z => z.elim h3 h4)
        rw [e2]
theorem ofh {S : St} {e : Nat} (h1 : 1 ≤ e) (h2 : e ≤ 11) : fX1_of_11 (nI e) S = some (S.1 12 e, S) := by
  unfold fX1_of_11
  rw [if_neg (by rw [lit 1, ltI (by omega) (by omega)]; omega), if_neg (by rw [lit 11, ltI (by omega) (by omega)]; omega), if_pos (vqI (by omega) (by omega)), nI_clamp (by omega)]
theorem rx_cong {S T S' T' : St} {n d : Nat} (h : Rx K S T n d) (hE : Eqd S' T') (hc : ∀ c, c ∈ [0, 2, 3, 4, 5, 6, 7, 9, 10, 12, 13, 14, 15, 16, 18, 19] → S'.1 c = S.1 c) (hs2 : S'.2 = S.2) (hn5 : S'.1 20 5 = 0 ∨ S'.1 20 5 = 1) (hK : Kep S') (hm : ∀ c, c ∈ [11, 15, 16] → T'.1 c = T.1 c) (ht2 : T'.2 = T.2) (h19 : T'.1 0 19 = T.1 0 19) (h29 : T'.1 0 29 = T.1 0 29) (h26 : T'.1 0 26 = T.1 0 26) : Rx K S' T' n d := by
  obtain ⟨h1, h2, h3, h4, h5, h6, h7, h8, h9⟩ := h
  have c0 := hc 0 (by decide)
  have c2 := hc 2 (by decide)
  have c3 := hc 3 (by decide)
  have c4 := hc 4 (by decide)
  have c5 := hc 5 (by decide)
  have c6 := hc 6 (by decide)
  have c7 := hc 7 (by decide)
  have c9 := hc 9 (by decide)
  have c10 := hc 10 (by decide)
  have c12 := hc 12 (by decide)
  have c13 := hc 13 (by decide)
  have m11 := hm 11 (by decide)
  have m15 := hm 15 (by decide)
  have m16 := hm 16 (by decide)
  refine ⟨hE, ?_, ?_, ?_, ?_, ⟨by rw [c0]; exact h6.1, hn5⟩, hK, ⟨h8.1, by rw [c13]; exact h8.2.1, by rw [h19]; exact h8.2.2.1, fun i hi => ?_⟩, by rw [c0, h29]; exact h9.1, by rw [h26]; exact h9.2⟩
  · unfold Tok; rw [c4, c2, c3]; exact h2
  · unfold Pil; rw [c5, c6, c7]; exact h3
  · unfold Tab; rw [c9, c10]; exact h4
  · unfold Hnd; rw [c12]; exact h5
  · exact frm_c (h8.2.2.2 i hi) (congrFun (hc 14 (by decide)) i) (congrFun m11 i) (congrFun (hc 15 (by decide)) i) (congrFun (hc 16 (by decide)) i) (congrFun (hc 18 (by decide)) i) (congrFun (hc 19 (by decide)) i) (congrFun hs2 i) (congrFun m15 i) (congrFun m16 i) (congrFun ht2 i)
theorem x_tell {S T : St} {n d : Nat} (h : Rx K S T n d) (p1 p2 w : Int32) : Rx K (cTell S n p1 p2 w) (mTell T n p1 p2 w) n d := by
  have hcc : ∀ c, c ≠ 21 → c ≠ 22 → c ≠ 23 → (cTell S n p1 p2 w).1 c = (cT0 S p1 p2 w).1 c := fun c e1 e2 e3 => by unfold cTell; rw [si_1, if_neg e1, cCp_n _ _ _ _ e2 e3]
  have hmm : ∀ c, c ≠ 9 → c ≠ 10 → (mTell T n p1 p2 w).1 c = (mT0 T n p1 p2 w).1 c := fun c e1 e2 => mCp_n _ _ _ _ e1 e2
  have h22 : (cTell S n p1 p2 w).1 22 = cpf (S.1 6) (S.1 22) 0 n := (cCp_22 n 0 (cT0 S p1 p2 w)).1
  have h23 : (cTell S n p1 p2 w).1 23 = cpf (S.1 7) (S.1 23) 0 n := (cCp_22 n 0 (cT0 S p1 p2 w)).2
  have h9 : (mTell T n p1 p2 w).1 9 = cpf (T.1 4) (T.1 9) 0 n := (mCp_9 n 0 (mT0 T n p1 p2 w)).1
  have h10 : (mTell T n p1 p2 w).1 10 = cpf (T.1 5) (T.1 10) 0 n := (mCp_9 n 0 (mT0 T n p1 p2 w)).2
  have h0 := h
  obtain ⟨⟨g0, g1, g2, g3, g4, g5, g6, g7, g8, g9, g10, g11, g12, g13, g14, g15, g16, g17, g18, g19, g20, g21⟩, -⟩ := h0
  refine rx_cong h ⟨?_, ?_, ?_, ?_, ?_, ?_, ?_, ?_, ?_, ?_, ?_, ?_, ?_, ?_, ?_, ?_, ?_, ?_, ?_, ?_, ?_, ?_⟩ (fun c hc => ?_) ?_ (Or.inr ?_) ⟨n, h.2.2.1.1, rfl⟩ (fun c hc => ?_) (mCp_2 _ _ _) ?_ ?_ ?_
  · rw [hcc 2 (by decide) (by decide) (by decide), hmm 1 (by decide) (by decide)]
    exact g0
  · rw [hcc 3 (by decide) (by decide) (by decide), hmm 2 (by decide) (by decide)]
    exact g1
  · rw [hcc 4 (by decide) (by decide) (by decide), hmm 3 (by decide) (by decide)]
    exact g2
  · rw [hcc 5 (by decide) (by decide) (by decide), hmm 0 (by decide) (by decide)]
    exact g3
  · rw [hcc 6 (by decide) (by decide) (by decide), hmm 4 (by decide) (by decide)]
    exact g4
  · rw [hcc 7 (by decide) (by decide) (by decide), hmm 5 (by decide) (by decide)]
    exact g5
  · rw [hcc 9 (by decide) (by decide) (by decide), hmm 6 (by decide) (by decide)]
    exact g6
  · intro k hk
    rw [hcc 9 (by decide) (by decide) (by decide), hcc 10 (by decide) (by decide) (by decide), hmm 7 (by decide) (by decide)]
    exact g7 k hk
  · rw [hcc 12 (by decide) (by decide) (by decide), hmm 8 (by decide) (by decide)]
    exact g8
  · rw [hcc 15 (by decide) (by decide) (by decide), hmm 12 (by decide) (by decide)]
    exact g9
  · rw [hcc 16 (by decide) (by decide) (by decide), hmm 13 (by decide) (by decide)]
    exact g10
  · rw [hcc 13 (by decide) (by decide) (by decide), hmm 0 (by decide) (by decide)]
    exact g11
  · rw [hcc 20 (by decide) (by decide) (by decide), hmm 0 (by decide) (by decide)]
    rfl
  · rw [hcc 20 (by decide) (by decide) (by decide), hmm 0 (by decide) (by decide)]
    rfl
  · rw [hcc 20 (by decide) (by decide) (by decide), hmm 0 (by decide) (by decide)]
    rfl
  · rw [hcc 20 (by decide) (by decide) (by decide), hmm 0 (by decide) (by decide)]
    show S.1 20 4 + 1 = T.1 0 17 + 1; rw [g15]
  · rw [hcc 20 (by decide) (by decide) (by decide), hmm 0 (by decide) (by decide)]
    rfl
  · rw [hmm 0 (by decide) (by decide)]
    rfl
  · rw [h22, h9, g4, g18]
  · rw [h23, h10, g5, g19]
  · rw [hcc 0 (by decide) (by decide) (by decide), hmm 0 (by decide) (by decide)]
    exact g20
  · rw [hcc 0 (by decide) (by decide) (by decide), hmm 0 (by decide) (by decide)]
    exact g21
  · have hd : c ≠ 21 ∧ c ≠ 22 ∧ c ≠ 23 ∧ c ≠ 20 := by simp at hc; omega
    rw [hcc c hd.1 hd.2.1 hd.2.2.1]; unfold cT0; simp only [si_1, if_neg hd.2.2.2]
  · unfold cTell; rw [si_2, cCp_2]; rfl
  · rw [hcc 20 (by decide) (by decide) (by decide)]; rfl
  · have hd : c ≠ 9 ∧ c ≠ 10 ∧ c ≠ 0 := by simp at hc; omega
    rw [hmm c hd.1 hd.2.1]; unfold mT0; simp only [si_1, if_neg hd.2.2]
  · rw [hmm 0 (by decide) (by decide)]; rfl
  · rw [hmm 0 (by decide) (by decide)]; rfl
  · rw [hmm 0 (by decide) (by decide)]; rfl
