/-! PURE PART: the class's and the reference's functions over their stores -/
theorem lit (m : Nat) : (@OfNat.ofNat Int32 m _) = nI m := rfl
theorem si_1 (S : St) (c k : Nat) (v : Int32) (c' : Nat) : (si S c k v).1 c' = if c' = c then upd (S.1 c) k v else S.1 c' := rfl
theorem si_2 (S : St) (c k : Nat) (v : Int32) : (si S c k v).2 = S.2 := rfl
theorem sl_1 (S : St) (k : Nat) (v : Int64) : (sl S k v).1 = S.1 := rfl
theorem sl_2 (S : St) (k : Nat) (v : Int64) : (sl S k v).2 = vp_updL S.2 k v := rfl
theorem upd_s (f : Nat → Int32) (k : Nat) (v : Int32) : upd f k v k = v := if_pos rfl
theorem upd_n (f : Nat → Int32) {k j : Nat} (v : Int32) (h : j ≠ k) : upd f k v j = f j := if_neg h
theorem upd_self (f : Nat → Int32) (k : Nat) : upd f k (f k) = f := by
  funext j
  by_cases h : j = k
  · rw [h, upd_s]
  · rw [upd_n _ _ h]
theorem upd_upd (f : Nat → Int32) (k : Nat) (v w : Int32) : upd (upd f k v) k w = upd f k w := by
  funext j
  by_cases h : j = k
  · rw [h, upd_s, upd_s]
  · rw [upd_n _ _ h, upd_n _ _ h, upd_n _ _ h]
theorem upd_comm (f : Nat → Int32) {k j : Nat} (v w : Int32) (h : k ≠ j) : upd (upd f k v) j w = upd (upd f j w) k v := by
  funext i
  by_cases h1 : i = k
  · subst h1; rw [upd_n _ _ h, upd_s, upd_s]
  · by_cases h2 : i = j
    · subst h2; rw [upd_s, upd_n _ _ h1, upd_s]
    · rw [upd_n _ _ h2, upd_n _ _ h1, upd_n _ _ h1, upd_n _ _ h2]
theorem si_self (S : St) (c k : Nat) : si S c k (S.1 c k) = S := by
  show (_, _) = S
  rw [upd_self]
  have : (fun c' => if c' = c then S.1 c else S.1 c') = S.1 := by
    funext c'
    by_cases h : c' = c
    · rw [if_pos h, h]
    · rw [if_neg h]
  rw [this]
theorem si_si (S : St) (c k : Nat) (v w : Int32) : si (si S c k v) c k w = si S c k w := by
  show (_, _) = (_, _)
  have : (fun c' => if c' = c then upd ((si S c k v).1 c) k w else (si S c k v).1 c') = fun c' => if c' = c then upd (S.1 c) k w else S.1 c' := by
    funext c'
    by_cases h : c' = c
    · rw [if_pos h, if_pos h, si_1, if_pos rfl, upd_upd]
    · rw [if_neg h, if_neg h, si_1, if_neg h]
  rw [this]; rfl
theorem vqI {i N : Nat} (h : i < N) (hN : N < 2 ^ 31) : vq (nI i) N := vp_in_nI h hN
theorem ltI {a b : Nat} (ha : a < 2 ^ 31) (hb : b < 2 ^ 31) : nI a < nI b ↔ a < b := nI_ltI ha hb
theorem leI {a b : Nat} (ha : a < 2 ^ 31) (hb : b < 2 ^ 31) : nI a ≤ nI b ↔ a ≤ b := nI_leI ha hb
theorem eqI {a b : Nat} (ha : a < 2 ^ 31) (hb : b < 2 ^ 31) : nI a = nI b ↔ a = b := nI_eq ha hb
theorem subI {a b : Nat} (h : b ≤ a) : nI a - nI b = nI (a - b) := pk_sub h
theorem neg1 {n : Nat} (h : n < 2 ^ 31) : ¬ nI n = -1 := by
  intro e
  have h1 := congrArg Int32.toInt e
  rw [nI_toInt h] at h1
  have h2 : (-1 : Int32).toInt = -1 := by decide
  omega
theorem decI {n : Nat} (h : 0 < n) : nI n + (-1) = nI (n - 1) := by
  obtain ⟨m, rfl⟩ : ∃ m, n = m + 1 := ⟨n - 1, by omega⟩
  exact pk_m1 m
theorem m1_lt : (-1 : Int32) < 0 := by decide
theorem sub1_0 : nI 0 - 1 = (-1 : Int32) := by decide
/-- a value whose number its KIND allows, as far as it is used -/
def okV (k v : Int32) : Prop := k ≠ -1 ∧ (k = 2 → ∃ n, n < 40 ∧ v = nI n) ∧ (k = 4 → ∃ n, n < 20 ∧ v = nI n)
def okT (k v : Int32) : Prop := okV k v ∧ (k = 5 → ∃ n, n < 28 ∧ v = nI n)
def Tok (S : St) : Prop := ∀ p, p < 20 → ∃ n, n ≤ 24 ∧ S.1 4 p = nI n ∧ ∀ j, j < n → okT (S.1 2 (24 * p + j)) (S.1 3 (24 * p + j))
def Pil (S : St) (n : Nat) : Prop := n ≤ 60 ∧ S.1 5 2 = nI n ∧ ∀ i, i < n → okV (S.1 6 i) (S.1 7 i)
def Tab (S : St) : Prop := ∀ k, k < 40 → (S.1 9 k = -1 ∧ S.1 10 k = 0) ∨ okV (S.1 9 k) (S.1 10 k)
def Hnd (S : St) : Prop := ∀ e, e < 12 → S.1 12 e = -1 ∨ ∃ p, p < 20 ∧ S.1 12 e = nI p
def Flg (S : St) : Prop := (S.1 0 7 = 0 ∨ S.1 0 7 = 1) ∧ (S.1 20 5 = 0 ∨ S.1 20 5 = 1)
def Kep (S : St) : Prop := ∃ n, n ≤ 60 ∧ S.1 21 2 = nI n
/-- what class and reference hold alike -/
def Eqd (S T : St) : Prop :=
  S.1 2 = T.1 1 ∧ S.1 3 = T.1 2 ∧ S.1 4 = T.1 3 ∧
  S.1 5 2 = T.1 0 6 ∧ S.1 6 = T.1 4 ∧ S.1 7 = T.1 5 ∧
  S.1 9 = T.1 6 ∧ (∀ k, k < 40 → S.1 9 k ≠ -1 → S.1 10 k = T.1 7 k) ∧
  S.1 12 = T.1 8 ∧
  S.1 15 = T.1 12 ∧ S.1 16 = T.1 13 ∧ S.1 13 7 = T.1 0 27 ∧
  S.1 20 1 = T.1 0 10 ∧ S.1 20 2 = T.1 0 11 ∧ S.1 20 3 = T.1 0 13 ∧ S.1 20 4 = T.1 0 17 ∧ S.1 20 5 = T.1 0 12 ∧ S.1 21 2 = T.1 0 16 ∧ S.1 22 = T.1 9 ∧ S.1 23 = T.1 10 ∧
  S.1 0 7 = T.1 0 18 ∧ S.1 0 10 = T.1 0 28
/-- a frame, in both -/
def prc (S : St) (i : Nat) : Prop := ∃ p, p < 20 ∧ S.1 15 i = nI p
def frm (S T : St) (i : Nat) : Prop :=
  (S.1 14 i = 0 ∧ T.1 11 i = 0 ∧ prc S i ∧ ∃ q, q ≤ 24 ∧ S.1 16 i = nI q) ∨
  (S.1 14 i = 1 ∧ T.1 11 i = 1 ∧ prc S i ∧ S.1 18 i = 1 ∧ ∃ t u : Nat, u ≤ t ∧ t < 2 ^ 31 ∧ S.1 19 i = nI t ∧ S.2 i = lN (u + 1) ∧ T.2 i = lN (t - u)) ∨
  (S.1 14 i = 1 ∧ T.1 11 i = 3 ∧ prc S i ∧ S.1 18 i = 0) ∨
  (S.1 14 i = 2 ∧ T.1 11 i = 2 ∧ prc S i ∧ S.1 18 i ≠ 0 ∧ S.1 18 i = T.1 15 i ∧ S.1 19 i = T.1 16 i ∧ S.2 i = T.2 i) ∨
  (S.1 14 i = 3 ∧ T.1 11 i = 4) ∨
  (S.1 14 i = 4 ∧ T.1 11 i = 5 ∧ ∃ e, 1 ≤ e ∧ e ≤ 11 ∧ S.1 15 i = nI e)
def Fr (S T : St) (d : Nat) : Prop := d ≤ 30 ∧ S.1 13 6 = nI d ∧ T.1 0 19 = nI d ∧ ∀ i, i < d → frm S T i
/-- within a run -/
def Rx (K : Int32) (S T : St) (n d : Nat) : Prop := Eqd S T ∧ Tok S ∧ Pil S n ∧ Tab S ∧ Hnd S ∧ Flg S ∧ Kep S ∧ Fr S T d ∧ S.1 0 8 = T.1 0 29 ∧ T.1 0 26 = K
/-- between calls -/
def Rc (S T : St) : Prop := ∃ n, Eqd S T ∧ Tok S ∧ Pil S n ∧ Tab S ∧ Hnd S ∧ Flg S ∧ Kep S ∧ S.1 0 9 = T.1 0 26
theorem q_tk {S T : St} (h : Eqd S T) (i : Nat) (v : Int32) : Eqd (si S 2 i v) (si T 1 i v) := by
  obtain ⟨h0, h1, h2, h3, h4, h5, h6, h7, h8, h9, h10, h11, h12, h13, h14, h15, h16, h17, h18, h19, h20, h21⟩ := h
  exact ⟨congrArg (fun f => upd f i v) h0, h1, h2, h3, h4, h5, h6, h7, h8, h9, h10, h11, h12, h13, h14, h15, h16, h17, h18, h19, h20, h21⟩
theorem q_tn {S T : St} (h : Eqd S T) (i : Nat) (v : Int32) : Eqd (si S 3 i v) (si T 2 i v) := by
  obtain ⟨h0, h1, h2, h3, h4, h5, h6, h7, h8, h9, h10, h11, h12, h13, h14, h15, h16, h17, h18, h19, h20, h21⟩ := h
  exact ⟨h0, congrArg (fun f => upd f i v) h1, h2, h3, h4, h5, h6, h7, h8, h9, h10, h11, h12, h13, h14, h15, h16, h17, h18, h19, h20, h21⟩
theorem q_tl {S T : St} (h : Eqd S T) (i : Nat) (v : Int32) : Eqd (si S 4 i v) (si T 3 i v) := by
  obtain ⟨h0, h1, h2, h3, h4, h5, h6, h7, h8, h9, h10, h11, h12, h13, h14, h15, h16, h17, h18, h19, h20, h21⟩ := h
  exact ⟨h0, h1, congrArg (fun f => upd f i v) h2, h3, h4, h5, h6, h7, h8, h9, h10, h11, h12, h13, h14, h15, h16, h17, h18, h19, h20, h21⟩
theorem q_sz {S T : St} (h : Eqd S T) (v : Int32) : Eqd (si S 5 2 v) (si T 0 6 v) := by
  obtain ⟨h0, h1, h2, h3, h4, h5, h6, h7, h8, h9, h10, h11, h12, h13, h14, h15, h16, h17, h18, h19, h20, h21⟩ := h
  exact ⟨h0, h1, h2, rfl, h4, h5, h6, h7, h8, h9, h10, h11, h12, h13, h14, h15, h16, h17, h18, h19, h20, h21⟩
theorem q_pk {S T : St} (h : Eqd S T) (i : Nat) (v : Int32) : Eqd (si S 6 i v) (si T 4 i v) := by
  obtain ⟨h0, h1, h2, h3, h4, h5, h6, h7, h8, h9, h10, h11, h12, h13, h14, h15, h16, h17, h18, h19, h20, h21⟩ := h
  exact ⟨h0, h1, h2, h3, congrArg (fun f => upd f i v) h4, h5, h6, h7, h8, h9, h10, h11, h12, h13, h14, h15, h16, h17, h18, h19, h20, h21⟩
theorem q_pn {S T : St} (h : Eqd S T) (i : Nat) (v : Int32) : Eqd (si S 7 i v) (si T 5 i v) := by
  obtain ⟨h0, h1, h2, h3, h4, h5, h6, h7, h8, h9, h10, h11, h12, h13, h14, h15, h16, h17, h18, h19, h20, h21⟩ := h
  exact ⟨h0, h1, h2, h3, h4, congrArg (fun f => upd f i v) h5, h6, h7, h8, h9, h10, h11, h12, h13, h14, h15, h16, h17, h18, h19, h20, h21⟩
theorem q_hd {S T : St} (h : Eqd S T) (i : Nat) (v : Int32) : Eqd (si S 12 i v) (si T 8 i v) := by
  obtain ⟨h0, h1, h2, h3, h4, h5, h6, h7, h8, h9, h10, h11, h12, h13, h14, h15, h16, h17, h18, h19, h20, h21⟩ := h
  exact ⟨h0, h1, h2, h3, h4, h5, h6, h7, congrArg (fun f => upd f i v) h8, h9, h10, h11, h12, h13, h14, h15, h16, h17, h18, h19, h20, h21⟩
theorem q_sb {S T : St} (h : Eqd S T) (i : Nat) (v : Int32) : Eqd (si S 15 i v) (si T 12 i v) := by
  obtain ⟨h0, h1, h2, h3, h4, h5, h6, h7, h8, h9, h10, h11, h12, h13, h14, h15, h16, h17, h18, h19, h20, h21⟩ := h
  exact ⟨h0, h1, h2, h3, h4, h5, h6, h7, h8, congrArg (fun f => upd f i v) h9, h10, h11, h12, h13, h14, h15, h16, h17, h18, h19, h20, h21⟩
theorem q_pl {S T : St} (h : Eqd S T) (i : Nat) (v : Int32) : Eqd (si S 16 i v) (si T 13 i v) := by
  obtain ⟨h0, h1, h2, h3, h4, h5, h6, h7, h8, h9, h10, h11, h12, h13, h14, h15, h16, h17, h18, h19, h20, h21⟩ := h
  exact ⟨h0, h1, h2, h3, h4, h5, h6, h7, h8, h9, congrArg (fun f => upd f i v) h10, h11, h12, h13, h14, h15, h16, h17, h18, h19, h20, h21⟩
theorem q_mo {S T : St} (h : Eqd S T) (v : Int32) : Eqd (si S 13 7 v) (si T 0 27 v) := by
  obtain ⟨h0, h1, h2, h3, h4, h5, h6, h7, h8, h9, h10, h11, h12, h13, h14, h15, h16, h17, h18, h19, h20, h21⟩ := h
  exact ⟨h0, h1, h2, h3, h4, h5, h6, h7, h8, h9, h10, rfl, h12, h13, h14, h15, h16, h17, h18, h19, h20, h21⟩
theorem q_r1 {S T : St} (h : Eqd S T) (v : Int32) : Eqd (si S 20 1 v) (si T 0 10 v) := by
  obtain ⟨h0, h1, h2, h3, h4, h5, h6, h7, h8, h9, h10, h11, h12, h13, h14, h15, h16, h17, h18, h19, h20, h21⟩ := h
  exact ⟨h0, h1, h2, h3, h4, h5, h6, h7, h8, h9, h10, h11, rfl, h13, h14, h15, h16, h17, h18, h19, h20, h21⟩
theorem q_r2 {S T : St} (h : Eqd S T) (v : Int32) : Eqd (si S 20 2 v) (si T 0 11 v) := by
  obtain ⟨h0, h1, h2, h3, h4, h5, h6, h7, h8, h9, h10, h11, h12, h13, h14, h15, h16, h17, h18, h19, h20, h21⟩ := h
  exact ⟨h0, h1, h2, h3, h4, h5, h6, h7, h8, h9, h10, h11, h12, rfl, h14, h15, h16, h17, h18, h19, h20, h21⟩
theorem q_r3 {S T : St} (h : Eqd S T) (v : Int32) : Eqd (si S 20 3 v) (si T 0 13 v) := by
  obtain ⟨h0, h1, h2, h3, h4, h5, h6, h7, h8, h9, h10, h11, h12, h13, h14, h15, h16, h17, h18, h19, h20, h21⟩ := h
  exact ⟨h0, h1, h2, h3, h4, h5, h6, h7, h8, h9, h10, h11, h12, h13, rfl, h15, h16, h17, h18, h19, h20, h21⟩
theorem q_r4 {S T : St} (h : Eqd S T) (v : Int32) : Eqd (si S 20 4 v) (si T 0 17 v) := by
  obtain ⟨h0, h1, h2, h3, h4, h5, h6, h7, h8, h9, h10, h11, h12, h13, h14, h15, h16, h17, h18, h19, h20, h21⟩ := h
  exact ⟨h0, h1, h2, h3, h4, h5, h6, h7, h8, h9, h10, h11, h12, h13, h14, rfl, h16, h17, h18, h19, h20, h21⟩
theorem q_r5 {S T : St} (h : Eqd S T) (v : Int32) : Eqd (si S 20 5 v) (si T 0 12 v) := by
  obtain ⟨h0, h1, h2, h3, h4, h5, h6, h7, h8, h9, h10, h11, h12, h13, h14, h15, h16, h17, h18, h19, h20, h21⟩ := h
  exact ⟨h0, h1, h2, h3, h4, h5, h6, h7, h8, h9, h10, h11, h12, h13, h14, h15, rfl, h17, h18, h19, h20, h21⟩
theorem q_ks {S T : St} (h : Eqd S T) (v : Int32) : Eqd (si S 21 2 v) (si T 0 16 v) := by
  obtain ⟨h0, h1, h2, h3, h4, h5, h6, h7, h8, h9, h10, h11, h12, h13, h14, h15, h16, h17, h18, h19, h20, h21⟩ := h
  exact ⟨h0, h1, h2, h3, h4, h5, h6, h7, h8, h9, h10, h11, h12, h13, h14, h15, h16, rfl, h18, h19, h20, h21⟩
theorem q_kk {S T : St} (h : Eqd S T) (i : Nat) (v : Int32) : Eqd (si S 22 i v) (si T 9 i v) := by
  obtain ⟨h0, h1, h2, h3, h4, h5, h6, h7, h8, h9, h10, h11, h12, h13, h14, h15, h16, h17, h18, h19, h20, h21⟩ := h
  exact ⟨h0, h1, h2, h3, h4, h5, h6, h7, h8, h9, h10, h11, h12, h13, h14, h15, h16, h17, congrArg (fun f => upd f i v) h18, h19, h20, h21⟩
theorem q_kn {S T : St} (h : Eqd S T) (i : Nat) (v : Int32) : Eqd (si S 23 i v) (si T 10 i v) := by
  obtain ⟨h0, h1, h2, h3, h4, h5, h6, h7, h8, h9, h10, h11, h12, h13, h14, h15, h16, h17, h18, h19, h20, h21⟩ := h
  exact ⟨h0, h1, h2, h3, h4, h5, h6, h7, h8, h9, h10, h11, h12, h13, h14, h15, h16, h17, h18, congrArg (fun f => upd f i v) h19, h20, h21⟩
theorem q_it {S T : St} (h : Eqd S T) (v : Int32) : Eqd (si S 0 7 v) (si T 0 18 v) := by
  obtain ⟨h0, h1, h2, h3, h4, h5, h6, h7, h8, h9, h10, h11, h12, h13, h14, h15, h16, h17, h18, h19, h20, h21⟩ := h
  exact ⟨h0, h1, h2, h3, h4, h5, h6, h7, h8, h9, h10, h11, h12, h13, h14, h15, h16, h17, h18, h19, rfl, h21⟩
theorem q_hb {S T : St} (h : Eqd S T) (v : Int32) : Eqd (si S 0 10 v) (si T 0 28 v) := by
  obtain ⟨h0, h1, h2, h3, h4, h5, h6, h7, h8, h9, h10, h11, h12, h13, h14, h15, h16, h17, h18, h19, h20, h21⟩ := h
  exact ⟨h0, h1, h2, h3, h4, h5, h6, h7, h8, h9, h10, h11, h12, h13, h14, h15, h16, h17, h18, h19, h20, rfl⟩
theorem q_cs {S T : St} (h : Eqd S T) (i : Nat) (v : Int32) : Eqd (si S 14 i v) T := h
theorem q_cb {S T : St} (h : Eqd S T) (i : Nat) (v : Int32) : Eqd (si S 18 i v) T := h
theorem q_cl {S T : St} (h : Eqd S T) (i : Nat) (v : Int32) : Eqd (si S 19 i v) T := h
theorem q_cc {S T : St} (h : Eqd S T) (v : Int32) : Eqd (si S 13 6 v) T := h
theorem q_ce {S T : St} (h : Eqd S T) (v : Int32) : Eqd (si S 0 8 v) T := h
theorem q_cd {S T : St} (h : Eqd S T) (v : Int32) : Eqd (si S 0 9 v) T := h
theorem q_ms {S T : St} (h : Eqd S T) (i : Nat) (v : Int32) : Eqd S (si T 11 i v) := h
theorem q_mb {S T : St} (h : Eqd S T) (i : Nat) (v : Int32) : Eqd S (si T 15 i v) := h
theorem q_ml {S T : St} (h : Eqd S T) (i : Nat) (v : Int32) : Eqd S (si T 16 i v) := h
theorem q_mc {S T : St} (h : Eqd S T) (v : Int32) : Eqd S (si T 0 19 v) := h
theorem q_me {S T : St} (h : Eqd S T) (v : Int32) : Eqd S (si T 0 29 v) := h
theorem q_mt {S T : St} (h : Eqd S T) (v : Int32) : Eqd S (si T 0 26 v) := h
theorem q_mx {S T : St} (h : Eqd S T) (v : Int32) : Eqd S (si T 0 0 v) := h
theorem q_cn {S T : St} (h : Eqd S T) (i : Nat) (v : Int64) : Eqd (sl S i v) T := h
theorem q_mn {S T : St} (h : Eqd S T) (i : Nat) (v : Int64) : Eqd S (sl T i v) := h
