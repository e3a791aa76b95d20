/-! forget; the start; all calls -/
section FORGET
def fil (S : St) (c : Nat) (v : Int32) (i : Nat) : Nat → St
  | 0 => S
  | m + 1 => fil (si S c i v) c v (i + 1) m
def flf (f : Nat → Int32) (v : Int32) (i : Nat) : Nat → Nat → Int32
  | 0 => f
  | m + 1 => flf (upd f i v) v (i + 1) m
theorem fil_1 {c v} : ∀ (m i : Nat) (S : St) (c' : Nat), c' ≠ c → (fil S c v i m).1 c' = S.1 c' := by
  intro m
  induction m with
  | zero => intro i S c' _; rfl
  | succ m ih =>
    intro i S c' h
    show (fil (si S c i v) c v (i + 1) m).1 c' = _
    rw [ih _ _ _ h, si_1, if_neg h]
theorem fil_c {c v} : ∀ (m i : Nat) (S : St), (fil S c v i m).1 c = flf (S.1 c) v i m := by
  intro m
  induction m with
  | zero => intro i S; rfl
  | succ m ih =>
    intro i S
    show (fil (si S c i v) c v (i + 1) m).1 c = flf (upd (S.1 c) i v) v (i + 1) m
    rw [ih, si_1, if_pos rfl]
theorem flf_lo {v} : ∀ (m i : Nat) (f : Nat → Int32) (k : Nat), k < i → flf f v i m k = f k := by
  intro m
  induction m with
  | zero => intro i f k _; rfl
  | succ m ih =>
    intro i f k h
    show flf (upd f i v) v (i + 1) m k = f k
    rw [ih _ _ _ (by omega), upd_n _ _ (by omega)]
theorem flf_hi {v} : ∀ (m i : Nat) (f : Nat → Int32) (k : Nat), i + m ≤ k → flf f v i m k = f k := by
  intro m
  induction m with
  | zero => intro i f k _; rfl
  | succ m ih =>
    intro i f k h
    show flf (upd f i v) v (i + 1) m k = f k
    rw [ih _ _ _ (by omega), upd_n _ _ (by omega)]
theorem flf_in {v} : ∀ (m i : Nat) (f : Nat → Int32) (k : Nat), i ≤ k → k < i + m → flf f v i m k = v := by
  intro m
  induction m with
  | zero => intro i f k _ _; omega
  | succ m ih =>
    intro i f k h1 h2
    show flf (upd f i v) v (i + 1) m k = v
    by_cases e : k = i
    · rw [flf_lo _ _ _ _ (by omega), e, upd_s]
    · exact ih _ _ _ (by omega) (by omega)
/-- the table's wipe -/
def wip (S : St) (i : Nat) : Nat → St
  | 0 => S
  | m + 1 => wip (si (si S 9 i (-1)) 10 i 0) (i + 1) m
theorem wip_1 : ∀ (m i : Nat) (S : St) (c' : Nat), c' ≠ 9 → c' ≠ 10 → (wip S i m).1 c' = S.1 c' := by
  intro m
  induction m with
  | zero => intro i S c' _ _; rfl
  | succ m ih =>
    intro i S c' h h2
    show (wip _ (i + 1) m).1 c' = _
    rw [ih _ _ _ h h2, si_1, if_neg h2, si_1, if_neg h]
theorem wip_9 : ∀ (m i : Nat) (S : St), (wip S i m).1 9 = flf (S.1 9) (-1) i m ∧ (wip S i m).1 10 = flf (S.1 10) 0 i m := by
  intro m
  induction m with
  | zero => intro i S; exact ⟨rfl, rfl⟩
  | succ m ih => intro i S; exact ih (i + 1) _
def cw (f : Nat → Int32) (i : Nat) (q : Int32) : Nat → Int32
  | 0 => q
  | m + 1 => cw f (i + 1) (if f i = -1 then q else q + 1) m
theorem cw_c {f g : Nat → Int32} : ∀ (m i : Nat) (q : Int32), (∀ k, i ≤ k → f k = g k) → cw f i q m = cw g i q m := by
  intro m
  induction m with
  | zero => intro i q _; rfl
  | succ m ih =>
    intro i q h
    show cw f (i + 1) (if f i = -1 then q else q + 1) m = cw g (i + 1) (if g i = -1 then q else q + 1) m
    rw [h i (by omega), ih _ _ (fun k hk => h k (by omega))]
theorem fill_l : ∀ (m i f : Nat) (S : St), i + m = 12 → m < f → fJ7_fill_53178_12_5 f (-1) (nI i) 12 S = some (0, fil S 12 (-1) i m) := by
  intro m
  induction m with
  | zero =>
    intro i f S h hf
    obtain ⟨f, rfl⟩ : ∃ g, f = g + 1 := ⟨f - 1, by omega⟩
    rw [fJ7_fill_53178_12_5.eq_2, if_pos (by rw [lit 12, leI (by omega) (by omega)]; omega)]
    rfl
  | succ m ih =>
    intro i f S h hf
    obtain ⟨f, rfl⟩ : ∃ g, f = g + 1 := ⟨f - 1, by omega⟩
    rw [fJ7_fill_53178_12_5.eq_2, if_neg (by rw [lit 12, leI (by omega) (by omega)]; omega), if_pos (vqI (by omega) (by omega)), nI_clamp (by omega), stp_x, stv_x, nI_1]
    exact ih (i + 1) f _ (by omega) (by omega)
theorem wipe_l : ∀ (m i f : Nat) (q : Int32) (S : St), i + m = 40 → m < f → fX6_wipe_8_4 f q (nI i) S = some (cw (S.1 9) i q m, wip S i m) := by
  intro m
  induction m with
  | zero =>
    intro i f q S h hf
    obtain ⟨f, rfl⟩ : ∃ g, f = g + 1 := ⟨f - 1, by omega⟩
    rw [fX6_wipe_8_4.eq_2, if_pos (by rw [lit 40, leI (by omega) (by omega)]; omega)]
    rfl
  | succ m ih =>
    intro i f q S h hf
    obtain ⟨f, rfl⟩ : ∃ g, f = g + 1 := ⟨f - 1, by omega⟩
    have e : ∀ q', cw (S.1 9) (i + 1) q' m = cw ((si (si S 9 i (-1)) 10 i 0).1 9) (i + 1) q' m := fun q' => cw_c _ _ _ (fun k hk => by
      show S.1 9 k = upd (S.1 9) i (-1) k
      rw [upd_n _ _ (by omega)])
    rw [fX6_wipe_8_4.eq_2, if_neg (by rw [lit 40, leI (by omega) (by omega)]; omega), if_pos (vqI (by omega) (by omega))]
    simp only [nI_clamp (show i < 2 ^ 31 by omega)]
    show _ = some (cw (S.1 9) (i + 1) (if S.1 9 i = -1 then q else q + 1) m, wip (si (si S 9 i (-1)) 10 i 0) (i + 1) m)
    rw [e]
    by_cases z : S.1 9 i = -1
    · rw [if_pos z, if_pos z, if_pos (vqI (by omega) (by omega)), stp_x, if_pos (vqI (by omega) (by omega)), stp_x, stv_x, nI_1]
      exact ih (i + 1) f q _ (by omega) (by omega)
    · rw [if_neg z, if_neg z, stv_x, if_pos (vqI (by omega) (by omega)), stp_x, if_pos (vqI (by omega) (by omega)), stp_x, stv_x, nI_1]
      exact ih (i + 1) f (q + 1) _ (by omega) (by omega)
def cl2 (T : St) : St := si (si (si (si (si (si (si T 0 10 0) 0 11 (-1)) 0 12 0) 0 13 0) 0 16 0) 0 17 0) 0 18 0
def clr (T : St) : St := cl2 (fil (fil T 6 (-1) 0 40) 8 (-1) 0 12)
theorem cl23 : ∀ (m i f : Nat) (T : St), i + m = 12 → m < f → fX8_clearAll_0_23 f (nI i) T = some (0, cl2 (fil T 8 (-1) i m)) := by
  intro m
  induction m with
  | zero =>
    intro i f T h hf
    obtain ⟨f, rfl⟩ : ∃ g, f = g + 1 := ⟨f - 1, by omega⟩
    rw [fX8_clearAll_0_23.eq_2, if_pos (by rw [lit 12, leI (by omega) (by omega)]; omega)]
    rfl
  | succ m ih =>
    intro i f T h hf
    obtain ⟨f, rfl⟩ : ∃ g, f = g + 1 := ⟨f - 1, by omega⟩
    rw [fX8_clearAll_0_23.eq_2, if_neg (by rw [lit 12, leI (by omega) (by omega)]; omega), if_pos (vqI (by omega) (by omega)), nI_clamp (by omega), stp_x, stv_x, nI_1]
    exact ih (i + 1) f _ (by omega) (by omega)
theorem cl40 : ∀ (m i f : Nat) (T : St), i + m = 40 → m < f → fX8_clearAll_0_2 f (nI i) T = some (0, cl2 (fil (fil T 6 (-1) i m) 8 (-1) 0 12)) := by
  intro m
  induction m with
  | zero =>
    intro i f T h hf
    obtain ⟨f, rfl⟩ : ∃ g, f = g + 1 := ⟨f - 1, by omega⟩
    rw [fX8_clearAll_0_2.eq_2, if_pos (by rw [lit 40, leI (by omega) (by omega)]; omega), stv_x]
    exact cl23 12 0 500 T (by omega) (by omega)
  | succ m ih =>
    intro i f T h hf
    obtain ⟨f, rfl⟩ : ∃ g, f = g + 1 := ⟨f - 1, by omega⟩
    rw [fX8_clearAll_0_2.eq_2, if_neg (by rw [lit 40, leI (by omega) (by omega)]; omega), if_pos (vqI (by omega) (by omega)), nI_clamp (by omega), stp_x, stv_x, nI_1]
    exact ih (i + 1) f _ (by omega) (by omega)
theorem clearAll_ok (T : St) : fX8_clearAll_0 T = some (0, clr T) := by
  unfold fX8_clearAll_0
  rw [stv_x]
  exact cl40 40 0 500 T (by omega) (by omega)
theorem frg_l : ∀ (m i f : Nat) (q : Int32) (T : St), i + m = 40 → m < f → fX8_forget_0_9 f q (nI i) T = some (cw (T.1 6) i q m, clr T) := by
  intro m
  induction m with
  | zero =>
    intro i f q T h hf
    obtain ⟨f, rfl⟩ : ∃ g, f = g + 1 := ⟨f - 1, by omega⟩
    rw [fX8_forget_0_9.eq_2, if_pos (by rw [lit 40, leI (by omega) (by omega)]; omega), clearAll_ok, bnd_x]
    rfl
  | succ m ih =>
    intro i f q T h hf
    obtain ⟨f, rfl⟩ : ∃ g, f = g + 1 := ⟨f - 1, by omega⟩
    rw [fX8_forget_0_9.eq_2, if_neg (by rw [lit 40, leI (by omega) (by omega)]; omega), if_pos (vqI (by omega) (by omega)), nI_clamp (by omega)]
    show _ = some (cw (T.1 6) (i + 1) (if T.1 6 i = -1 then q else q + 1) m, clr T)
    by_cases z : T.1 6 i = -1
    · rw [if_pos z, if_pos z, stv_x, nI_1]
      exact ih (i + 1) f q T (by omega) (by omega)
    · rw [if_neg z, if_neg z, stv_x, stv_x, nI_1]
      exact ih (i + 1) f (q + 1) T (by omega) (by omega)
theorem cl2_n (X : St) (c : Nat) (h0 : c ≠ 0) : (cl2 X).1 c = X.1 c := by
  unfold cl2
  simp only [si_1, if_neg h0]
theorem cl2_0 (X : St) (k : Nat) (h : k ∉ [10, 11, 12, 13, 16, 17, 18]) : (cl2 X).1 0 k = X.1 0 k := by
  simp at h
  show upd (upd (upd (upd (upd (upd (upd (X.1 0) 10 0) 11 (-1)) 12 0) 13 0) 16 0) 17 0) 18 0 k = X.1 0 k
  rw [upd_n _ _ (by omega), upd_n _ _ (by omega), upd_n _ _ (by omega), upd_n _ _ (by omega), upd_n _ _ (by omega), upd_n _ _ (by omega), upd_n _ _ (by omega)]
theorem cl2_v (X : St) : (cl2 X).1 0 10 = 0 ∧ (cl2 X).1 0 11 = -1 ∧ (cl2 X).1 0 12 = 0 ∧ (cl2 X).1 0 13 = 0 ∧ (cl2 X).1 0 16 = 0 ∧ (cl2 X).1 0 17 = 0 ∧ (cl2 X).1 0 18 = 0 := ⟨rfl, rfl, rfl, rfl, rfl, rfl, rfl⟩
theorem clr_v (T : St) : (clr T).1 0 10 = 0 ∧ (clr T).1 0 11 = -1 ∧ (clr T).1 0 12 = 0 ∧ (clr T).1 0 13 = 0 ∧ (clr T).1 0 16 = 0 ∧ (clr T).1 0 17 = 0 ∧ (clr T).1 0 18 = 0 := by
  unfold clr
  exact cl2_v _
theorem clr_n (T : St) (c : Nat) (h0 : c ≠ 0) (h6 : c ≠ 6) (h8 : c ≠ 8) : (clr T).1 c = T.1 c := by
  unfold clr
  rw [cl2_n _ _ h0, fil_1 _ _ _ _ h8, fil_1 _ _ _ _ h6]
theorem clr_6 (T : St) : (clr T).1 6 = flf (T.1 6) (-1) 0 40 := by
  unfold clr
  rw [cl2_n _ _ (by decide), fil_1 _ _ _ _ (by decide), fil_c]
theorem clr_8 (T : St) : (clr T).1 8 = flf (T.1 8) (-1) 0 12 := by
  unfold clr
  rw [cl2_n _ _ (by decide), fil_c, fil_1 _ _ _ _ (by decide)]
theorem clr_0 (T : St) (k : Nat) (h : k ∉ [10, 11, 12, 13, 16, 17, 18]) : (clr T).1 0 k = T.1 0 k := by
  unfold clr
  rw [cl2_0 _ _ h, fil_1 _ _ _ _ (by decide), fil_1 _ _ _ _ (by decide)]
/-- the class after forget -/
def cF2 (S : St) : St := si (si (si (si (si (si (si S 20 1 0) 20 2 (-1)) 20 3 0) 20 4 0) 20 5 0) 21 2 (nI 0)) 0 7 0
def cF (S : St) : St := wip (cF2 (fil S 12 (-1) 0 12)) 0 40
theorem cF2_n (X : St) (c : Nat) (h0 : c ≠ 0) (h20 : c ≠ 20) (h21 : c ≠ 21) : (cF2 X).1 c = X.1 c := by
  unfold cF2
  simp only [si_1, if_neg h0, if_neg h20, if_neg h21]
theorem cF2_0 (X : St) (k : Nat) (h : k ≠ 7) : (cF2 X).1 0 k = X.1 0 k := by
  show upd (X.1 0) 7 0 k = _
  rw [upd_n _ _ h]
theorem cF2_v (X : St) : (cF2 X).1 20 1 = 0 ∧ (cF2 X).1 20 2 = -1 ∧ (cF2 X).1 20 3 = 0 ∧ (cF2 X).1 20 4 = 0 ∧ (cF2 X).1 20 5 = 0 ∧ (cF2 X).1 21 2 = 0 ∧ (cF2 X).1 0 7 = 0 := ⟨rfl, rfl, rfl, rfl, rfl, rfl, rfl⟩
theorem cF_s (S : St) (c : Nat) (h9 : c ≠ 9) (h10 : c ≠ 10) : (cF S).1 c = (cF2 (fil S 12 (-1) 0 12)).1 c := by
  unfold cF
  rw [wip_1 _ _ _ _ h9 h10]
theorem cF_v (S : St) : (cF S).1 20 1 = 0 ∧ (cF S).1 20 2 = -1 ∧ (cF S).1 20 3 = 0 ∧ (cF S).1 20 4 = 0 ∧ (cF S).1 20 5 = 0 ∧ (cF S).1 21 2 = 0 ∧ (cF S).1 0 7 = 0 := by
  rw [cF_s S 20 (by decide) (by decide), cF_s S 21 (by decide) (by decide), cF_s S 0 (by decide) (by decide)]
  exact cF2_v _
theorem cF_n (S : St) (c : Nat) (h0 : c ≠ 0) (h9 : c ≠ 9) (h10 : c ≠ 10) (h12 : c ≠ 12) (h20 : c ≠ 20) (h21 : c ≠ 21) : (cF S).1 c = S.1 c := by
  rw [cF_s S c h9 h10, cF2_n _ _ h0 h20 h21, fil_1 _ _ _ _ h12]
theorem cF_12 (S : St) : (cF S).1 12 = flf (S.1 12) (-1) 0 12 := by
  rw [cF_s S 12 (by decide) (by decide), cF2_n _ _ (by decide) (by decide) (by decide), fil_c]
theorem cF_9 (S : St) : (cF S).1 9 = flf (S.1 9) (-1) 0 40 ∧ (cF S).1 10 = flf (S.1 10) 0 0 40 := by
  unfold cF
  have w := wip_9 40 0 (cF2 (fil S 12 (-1) 0 12))
  rw [cF2_n _ 9 (by decide) (by decide) (by decide), cF2_n _ 10 (by decide) (by decide) (by decide), fil_1 _ _ _ 9 (by decide), fil_1 _ _ _ 10 (by decide)] at w
  exact w
theorem cF_0 (S : St) (k : Nat) (h : k ≠ 7) : (cF S).1 0 k = S.1 0 k := by
  rw [cF_s S 0 (by decide) (by decide), cF2_0 _ _ h, fil_1 _ _ _ _ (by decide)]
theorem forget_c {n : Nat} {S : St} (hn : n ≤ 60) (h : S.1 21 2 = nI n) : fX7_forget_0 S = some (cw (S.1 9) 0 0 40, cF S) := by
  unfold fX7_forget_0 fX1_wipe_11 fJ7_fill_53178_12
  have e1 := fill_l 12 0 500 S (by omega) (by omega)
  have e1 : fJ7_fill_53178_12_5 500 (-1) 0 12 S = some (0, fil S 12 (-1) 0 12) := e1
  rw [stv_x, stv_x, e1, bnd_x, bnd_x]
  have h2 : (fil S 12 (-1) 0 12).1 21 2 = nI n := by rw [fil_1 _ _ _ _ (by decide)]; exact h
  generalize hX : fil S 12 (-1) 0 12 = X at *
  have e2 : fX5_wipe_20 X = some (0, si (si (si (si (si (si X 20 1 0) 20 2 (-1)) 20 3 0) 20 4 0) 20 5 0) 21 2 (nI 0)) := by
    unfold fX5_wipe_20 fX2_count_21 fX2_takeOff_21
    rw [stp_x, stp_x, stp_x, stp_x, stp_x, bnd_x]
    have e3 : (si (si (si (si (si X 20 1 0) 20 2 (-1)) 20 3 0) 20 4 0) 20 5 0).1 21 2 = nI n := h2
    rw [e3, if_neg (nI_pos (by omega)), if_neg (by rw [ltI (by omega) (by omega)]; omega), subI (by omega), show n - n = 0 by omega]
    rfl
  rw [e2, bnd_x, stp_x]
  unfold fX6_wipe_8
  rw [stv_x, stv_x]
  have e4 := wipe_l 40 0 500 0 (cF2 X) (by omega) (by omega)
  have e5 : (cF2 X).1 9 = S.1 9 := by
    show X.1 9 = _
    rw [← hX, fil_1 _ _ _ _ (by decide)]
  rw [e5] at e4
  have e4 : fX6_wipe_8_4 500 0 0 (cF2 X) = some (cw (S.1 9) 0 0 40, wip (cF2 X) 0 40) := e4
  show bnd (fX6_wipe_8_4 500 0 0 (cF2 X)) _ = _
  rw [e4, bnd_x]
  unfold cF
  rw [hX]
theorem forget_eq (S T : St) (h : Rc S T) : ∃ (v : Int32) (S1 T1 : St), fX7_forget_0 S = some (v, S1) ∧ fX8_forget_0 T = some (v, T1) ∧ Rc S1 T1 := by
  have hx := rc_x h 0
  obtain ⟨n, hE, h2, h3, h4, h5, h6, ⟨kn, k1, k2⟩, h8⟩ := hx
  have eT : fX8_forget_0 T = some (cw ((si T 0 0 0).1 6) 0 0 40, clr (si T 0 0 0)) := by
    unfold fX8_forget_0
    rw [stp_x, stv_x, stv_x]
    exact frg_l 40 0 500 0 _ (by omega) (by omega)
  generalize hY : si T 0 0 0 = Y at *
  obtain ⟨g0, g1, g2, g3, g4, g5, g6, g7, g8, g9, g10, g11, g12, g13, g14, g15, g16, g17, g18, g19, g20, g21⟩ := hE
  refine ⟨cw (S.1 9) 0 0 40, cF S, clr Y, forget_c k1 k2, by rw [eT, g6], n, ⟨?_, ?_, ?_, ?_, ?_, ?_, ?_, ?_, ?_, ?_, ?_, ?_, ?_, ?_, ?_, ?_, ?_, ?_, ?_, ?_, ?_, ?_⟩, ?_, ?_, ?_, ?_, ?_, ?_, ?_⟩
  · rw [cF_n S 2 (by decide) (by decide) (by decide) (by decide) (by decide) (by decide), clr_n Y 1 (by decide) (by decide) (by decide)]; exact g0
  · rw [cF_n S 3 (by decide) (by decide) (by decide) (by decide) (by decide) (by decide), clr_n Y 2 (by decide) (by decide) (by decide)]; exact g1
  · rw [cF_n S 4 (by decide) (by decide) (by decide) (by decide) (by decide) (by decide), clr_n Y 3 (by decide) (by decide) (by decide)]; exact g2
  · rw [cF_n S 5 (by decide) (by decide) (by decide) (by decide) (by decide) (by decide), clr_0 Y 6 (by decide)]; exact g3
  · rw [cF_n S 6 (by decide) (by decide) (by decide) (by decide) (by decide) (by decide), clr_n Y 4 (by decide) (by decide) (by decide)]; exact g4
  · rw [cF_n S 7 (by decide) (by decide) (by decide) (by decide) (by decide) (by decide), clr_n Y 5 (by decide) (by decide) (by decide)]; exact g5
  · rw [(cF_9 S).1, clr_6, g6]
  · intro k hk z
    rw [(cF_9 S).1, flf_in _ _ _ _ (by omega) (by omega)] at z
    exact absurd rfl z
  · rw [cF_12, clr_8, g8]
  · rw [cF_n S 15 (by decide) (by decide) (by decide) (by decide) (by decide) (by decide), clr_n Y 12 (by decide) (by decide) (by decide)]; exact g9
  · rw [cF_n S 16 (by decide) (by decide) (by decide) (by decide) (by decide) (by decide), clr_n Y 13 (by decide) (by decide) (by decide)]; exact g10
  · rw [cF_n S 13 (by decide) (by decide) (by decide) (by decide) (by decide) (by decide), clr_0 Y 27 (by decide)]; exact g11
  · rw [(cF_v S).1, (clr_v Y).1]
  · rw [(cF_v S).2.1, (clr_v Y).2.1]
  · rw [(cF_v S).2.2.1, (clr_v Y).2.2.2.1]
  · rw [(cF_v S).2.2.2.1, (clr_v Y).2.2.2.2.2.1]
  · rw [(cF_v S).2.2.2.2.1, (clr_v Y).2.2.1]
  · rw [(cF_v S).2.2.2.2.2.1, (clr_v Y).2.2.2.2.1]
  · rw [cF_n S 22 (by decide) (by decide) (by decide) (by decide) (by decide) (by decide), clr_n Y 9 (by decide) (by decide) (by decide)]; exact g18
  · rw [cF_n S 23 (by decide) (by decide) (by decide) (by decide) (by decide) (by decide), clr_n Y 10 (by decide) (by decide) (by decide)]; exact g19
  · rw [(cF_v S).2.2.2.2.2.2, (clr_v Y).2.2.2.2.2.2]
  · rw [cF_0 S 10 (by decide), clr_0 Y 28 (by decide)]; exact g21
  · unfold Tok
    rw [cF_n S 2 (by decide) (by decide) (by decide) (by decide) (by decide) (by decide), cF_n S 3 (by decide) (by decide) (by decide) (by decide) (by decide) (by decide), cF_n S 4 (by decide) (by decide) (by decide) (by decide) (by decide) (by decide)]
    exact h2
  · unfold Pil
    rw [cF_n S 5 (by decide) (by decide) (by decide) (by decide) (by decide) (by decide), cF_n S 6 (by decide) (by decide) (by decide) (by decide) (by decide) (by decide), cF_n S 7 (by decide) (by decide) (by decide) (by decide) (by decide) (by decide)]
    exact h3
  · intro k hk
    rw [(cF_9 S).1, (cF_9 S).2]
    exact Or.inl ⟨flf_in _ _ _ _ (by omega) (by omega), flf_in _ _ _ _ (by omega) (by omega)⟩
  · intro e he
    rw [cF_12]
    exact Or.inl (flf_in _ _ _ _ (by omega) (by omega))
  · constructor
    · exact Or.inl (cF_v S).2.2.2.2.2.2
    · exact Or.inl (cF_v S).2.2.2.2.1
  · exact ⟨0, by omega, (cF_v S).2.2.2.2.2.1⟩
  · rw [cF_0 S 9 (by decide), clr_0 Y 26 (by decide)]; exact h8
theorem start_eq : Rc iE (clr z0) := by
  have t6 : iE.1 9 = (clr z0).1 6 := by
    rw [clr_6]
    funext k
    by_cases z : k < 40
    · rw [flf_in _ _ _ _ (by omega) (by omega)]
      show (if k < 40 then (-1 : Int32) else 0) = -1
      rw [if_pos z]
    · rw [flf_hi _ _ _ _ (by omega)]
      show (if k < 40 then (-1 : Int32) else 0) = 0
      rw [if_neg z]
  have t8 : iE.1 12 = (clr z0).1 8 := by
    rw [clr_8]
    funext k
    by_cases z : k < 12
    · rw [flf_in _ _ _ _ (by omega) (by omega)]
      show (if k < 12 then (-1 : Int32) else 0) = -1
      rw [if_pos z]
    · rw [flf_hi _ _ _ _ (by omega)]
      show (if k < 12 then (-1 : Int32) else 0) = 0
      rw [if_neg z]
  refine ⟨0, ⟨?_, ?_, ?_, ?_, ?_, ?_, t6, ?_, t8, ?_, ?_, ?_, (clr_v z0).1.symm, (clr_v z0).2.1.symm, (clr_v z0).2.2.2.1.symm, (clr_v z0).2.2.2.2.2.1.symm, (clr_v z0).2.2.1.symm, (clr_v z0).2.2.2.2.1.symm, ?_, ?_, (clr_v z0).2.2.2.2.2.2.symm, ?_⟩, ?_, ⟨by omega, rfl, fun i hi => absurd hi (by omega)⟩, ?_, ?_, ⟨Or.inl rfl, Or.inl rfl⟩, ⟨0, by omega, rfl⟩, ?_⟩
  · rw [clr_n z0 1 (by decide) (by decide) (by decide)]; rfl
  · rw [clr_n z0 2 (by decide) (by decide) (by decide)]; rfl
  · rw [clr_n z0 3 (by decide) (by decide) (by decide)]; rfl
  · rw [clr_0 z0 6 (by decide)]; rfl
  · rw [clr_n z0 4 (by decide) (by decide) (by decide)]; rfl
  · rw [clr_n z0 5 (by decide) (by decide) (by decide)]; rfl
  · intro k hk z
    have : iE.1 9 k = -1 := if_pos hk
    exact absurd this z
  · rw [clr_n z0 12 (by decide) (by decide) (by decide)]; rfl
  · rw [clr_n z0 13 (by decide) (by decide) (by decide)]; rfl
  · rw [clr_0 z0 27 (by decide)]; rfl
  · rw [clr_n z0 9 (by decide) (by decide) (by decide)]; rfl
  · rw [clr_n z0 10 (by decide) (by decide) (by decide)]; rfl
  · rw [clr_0 z0 28 (by decide)]; rfl
  · intro p hp
    exact ⟨0, by omega, rfl, fun j hj => absurd hj (by omega)⟩
  · intro k hk
    exact Or.inl ⟨if_pos hk, rfl⟩
  · intro e he
    exact Or.inl (if_pos he)
  · rw [clr_0 z0 26 (by decide)]; rfl
theorem sim_all : Sim Rc := ⟨token_eq, clear_eq, push_eq, drop_eq, run_eq, interrupt_eq, size_eq, value_eq, record_eq, kept_eq, handler_eq, named_eq, forget_eq⟩
end FORGET
