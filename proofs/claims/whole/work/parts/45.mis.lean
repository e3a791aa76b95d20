/-! what an operator takes, in both -/
def mf (S : St) (n : Nat) : List Int32 → Nat → Int32 → Int32
  | [], _, a => a
  | k :: ks, j, a => if j < n then (if k = -2 then mf S n ks (j + 1) a else if S.1 6 (n - (j + 1)) = k then mf S n ks (j + 1) a else mf S n ks (j + 1) 3) else 1
def fts (S : St) (n : Nat) : List Int32 → Nat → Prop
  | [], _ => True
  | k :: ks, j => (k = -2 ∨ S.1 6 (n - (j + 1)) = k) ∧ fts S n ks (j + 1)
theorem mf_few {S : St} {n : Nat} : ∀ (ks : List Int32) (j : Nat) (a : Int32), j ≤ n → n < j + ks.length → mf S n ks j a = 1 := by
  intro ks
  induction ks with
  | nil => intro j a h1 h2; exact absurd h2 (by show ¬ n < j + 0; omega)
  | cons k ks ih =>
    intro j a h1 h2
    have h3 : n < j + 1 + ks.length := by have : n < j + (ks.length + 1) := h2; omega
    unfold mf
    by_cases hj : j < n
    · rw [if_pos hj]
      by_cases e1 : k = -2
      · rw [if_pos e1]; exact ih _ _ hj h3
      · rw [if_neg e1]
        by_cases e2 : S.1 6 (n - (j + 1)) = k
        · rw [if_pos e2]; exact ih _ _ hj h3
        · rw [if_neg e2]; exact ih _ _ hj h3
    · rw [if_neg hj]
theorem mf_ok {S : St} {n : Nat} : ∀ (ks : List Int32) (j : Nat) (a : Int32), j + ks.length ≤ n → fts S n ks j → mf S n ks j a = a := by
  intro ks
  induction ks with
  | nil => intro j a h1 h2; rfl
  | cons k ks ih =>
    intro j a h1 h2
    have h3 : j + 1 + ks.length ≤ n := by have : j + (ks.length + 1) ≤ n := h1; omega
    unfold mf
    rw [if_pos (by omega)]
    by_cases e1 : k = -2
    · rw [if_pos e1]; exact ih _ _ h3 h2.2
    · rw [if_neg e1, if_pos (h2.1.resolve_left e1)]; exact ih _ _ h3 h2.2
theorem mf_3 {S : St} {n : Nat} : ∀ (ks : List Int32) (j : Nat), j + ks.length ≤ n → mf S n ks j 3 = 3 := by
  intro ks
  induction ks with
  | nil => intro j h1; rfl
  | cons k ks ih =>
    intro j h1
    have h3 : j + 1 + ks.length ≤ n := by have : j + (ks.length + 1) ≤ n := h1; omega
    unfold mf
    rw [if_pos (by omega), ih _ h3]
    by_cases e1 : k = -2
    · rw [if_pos e1]
    · rw [if_neg e1]
      by_cases e2 : S.1 6 (n - (j + 1)) = k
      · rw [if_pos e2]
      · rw [if_neg e2]
theorem mf_bad {S : St} {n : Nat} : ∀ (ks : List Int32) (j : Nat) (a : Int32), j + ks.length ≤ n → ¬ fts S n ks j → mf S n ks j a = 3 := by
  intro ks
  induction ks with
  | nil => intro j a h1 h2; exact absurd trivial h2
  | cons k ks ih =>
    intro j a h1 h2
    have h3 : j + 1 + ks.length ≤ n := by have : j + (ks.length + 1) ≤ n := h1; omega
    unfold mf
    rw [if_pos (by omega)]
    by_cases e1 : k = -2
    · rw [if_pos e1]; exact ih _ _ h3 (fun z => h2 ⟨Or.inl e1, z⟩)
    · rw [if_neg e1]
      by_cases e2 : S.1 6 (n - (j + 1)) = k
      · rw [if_pos e2]; exact ih _ _ h3 (fun z => h2 ⟨Or.inr e2, z⟩)
      · rw [if_neg e2]; exact mf_3 _ _ h3
theorem ml {S : St} {n b : Nat} (h : S.1 5 2 = nI n) (hn : n ≤ 60) (hb : b + 4 ≤ 112) : ∀ (ks : List Int32) (j f : Nat) (a : Int32), ks.length < f → j + ks.length ≤ 4 → (∀ i, i < ks.length → tkF (b + j + i) = ks.getD i 0 ∧ ks.getD i 0 ≠ -3) → (j + ks.length = 4 ∨ tkF (b + j + ks.length) = -3) → fX7_misfit_0_25 tkF f (nI b) a (nI j) S = some (mf S n ks j a, S) := by
  intro ks
  induction ks with
  | nil =>
    intro j f a hf h4 hk he
    obtain ⟨f, rfl⟩ : ∃ g, f = g + 1 := ⟨f - 1, by omega⟩
    have h4 : j ≤ 4 := h4
    rw [fX7_misfit_0_25.eq_2]
    by_cases e4 : j = 4
    · subst e4
      rw [if_pos (by decide)]; rfl
    · have h3 : tkF (b + j) = -3 := he.resolve_left e4
      rw [if_neg (by rw [lit 4, leI (by omega) (by omega)]; omega), nI_add, if_pos (vqI (by omega) (by omega)), nI_clamp (by omega), stv_x, h3, if_pos rfl]
      rfl
  | cons k ks ih =>
    intro j f a hf h4 hk he
    have hf : ks.length + 1 < f := hf
    have h4 : j + (ks.length + 1) ≤ 4 := h4
    obtain ⟨f, rfl⟩ : ∃ g, f = g + 1 := ⟨f - 1, by omega⟩
    have h0 := hk 0 (Nat.zero_lt_succ _)
    have h0a : tkF (b + j) = k := h0.1
    have h0b : k ≠ -3 := h0.2
    rw [fX7_misfit_0_25.eq_2, if_neg (by rw [lit 4, leI (by omega) (by omega)]; omega), nI_add, if_pos (vqI (by omega) (by omega)), nI_clamp (by omega), stv_x, h0a, if_neg h0b, cnt, bnd_x, h]
    have hk2 : ∀ i, i < ks.length → tkF (b + (j + 1) + i) = ks.getD i 0 ∧ ks.getD i 0 ≠ -3 := by
      intro i hi
      have := hk (i + 1) (Nat.succ_lt_succ hi)
      rw [show b + j + (i + 1) = b + (j + 1) + i by omega] at this
      exact this
    have he2 : j + 1 + ks.length = 4 ∨ tkF (b + (j + 1) + ks.length) = -3 := by
      have he : j + (ks.length + 1) = 4 ∨ tkF (b + j + (ks.length + 1)) = -3 := he
      rw [show b + j + (ks.length + 1) = b + (j + 1) + ks.length by omega] at he
      rcases he with he | he
      · exact Or.inl (by omega)
      · exact Or.inr he
    unfold mf
    by_cases hj : j < n
    · rw [if_pos (by rw [ltI (by omega) (by omega)]; exact hj), if_pos hj]
      by_cases e1 : k = -2
      · rw [if_pos e1, if_pos e1, stv_x, nI_1]
        exact ih _ _ _ (by omega) (by omega) hk2 he2
      · rw [if_neg e1, if_neg e1, ku h hn hj, bnd_x, show n - 1 - j = n - (j + 1) by omega]
        by_cases e2 : S.1 6 (n - (j + 1)) = k
        · rw [if_pos e2, if_pos e2, stv_x, nI_1]
          exact ih _ _ _ (by omega) (by omega) hk2 he2
        · rw [if_neg e2, if_neg e2, stv_x, stv_x, nI_1]
          exact ih _ _ _ (by omega) (by omega) hk2 he2
    · rw [if_neg (by rw [ltI (by omega) (by omega)]; exact hj), if_neg hj]
/-- what the operator o takes, from the top -/
def tkP : Nat → List Int32
  | 0 => [0, 0] | 1 => [0, 0] | 2 => [0, 0] | 3 => [0, 0] | 4 => [-2, -2] | 5 => [0, 0] | 6 => [1] | 7 => [-2] | 8 => [-2] | 9 => [-2, -2] | 10 => [0]
  | 14 => [-2, 2] | 15 => [2] | 16 => [-2] | 17 => [4, 1] | 18 => [4, 4, 1] | 19 => [4, 0] | 20 => [4, 0, 0, 0] | 21 => [4] | 24 => [4] | 25 => [-2, 0] | 26 => [0] | 27 => [0]
  | _ => []
theorem tkP_ok : ∀ o, o < 28 → (tkP o).length ≤ 4 ∧ (∀ i, i < (tkP o).length → tkF (4 * o + i) = (tkP o).getD i 0 ∧ (tkP o).getD i 0 ≠ -3) ∧ ((tkP o).length = 4 ∨ tkF (4 * o + (tkP o).length) = -3) := by decide +kernel
theorem mis {S : St} {n o : Nat} (h : S.1 5 2 = nI n) (hn : n ≤ 60) (ho : o < 28) : fX7_misfit_0 tkF (nI o) S = some (mf S n (tkP o) 0 0, S) := by
  obtain ⟨a1, a2, a3⟩ := tkP_ok o ho
  unfold fX7_misfit_0
  rw [stv_x]
  have e : nI o * 4 = nI (4 * o) := by rw [lit 4, pk_mul, Nat.mul_comm]
  rw [e, if_neg (nI_pos (by omega)), if_pos (by show nI (4 * o) ≤ nI 108; rw [leI (by omega) (by omega)]; omega), stv_x, stv_x]
  exact ml h hn (by omega) (tkP o) 0 500 0 (by omega) (by omega) a2 (by rw [Nat.zero_add]; exact a3)
