variable {K : Int32}
theorem k_c0 {S T : St} {n d : Nat} (h : Rx K S T n d) (hj : 0 < n) : fX2_kindUnder_5 0 S = some (S.1 6 (n - 1), S) := by
  have e := ku (j := 0) (rx_S h).1 (rx_S h).2.2.1 hj
  rw [show n - 1 - 0 = n - 1 by omega] at e
  exact e
theorem n_c0 {S T : St} {n d : Nat} (h : Rx K S T n d) (hj : 0 < n) : fX2_numberUnder_5 0 S = some (S.1 7 (n - 1), S) := by
  have e := nu (j := 0) (rx_S h).1 (rx_S h).2.2.1 hj
  rw [show n - 1 - 0 = n - 1 by omega] at e
  exact e
theorem k_m0 {S T : St} {n d : Nat} (h : Rx K S T n d) (hj : 0 < n) : fX8_kind_0 0 T = some (S.1 6 (n - 1), T) := by
  have e := kd (j := 0) (rx_S h).2.1 (rx_S h).2.2.1 hj
  rw [show n - 1 - 0 = n - 1 by omega, ← h.1.2.2.2.2.1] at e
  exact e
theorem n_m0 {S T : St} {n d : Nat} (h : Rx K S T n d) (hj : 0 < n) : fX8_number_0 0 T = some (S.1 7 (n - 1), T) := by
  have e := nb (j := 0) (rx_S h).2.1 (rx_S h).2.2.1 hj
  rw [show n - 1 - 0 = n - 1 by omega, ← h.1.2.2.2.2.2.1] at e
  exact e
theorem k_c1 {S T : St} {n d : Nat} (h : Rx K S T n d) (hj : 1 < n) : fX2_kindUnder_5 1 S = some (S.1 6 (n - 2), S) := by
  have e := ku (j := 1) (rx_S h).1 (rx_S h).2.2.1 hj
  rw [show n - 1 - 1 = n - 2 by omega] at e
  exact e
theorem n_c1 {S T : St} {n d : Nat} (h : Rx K S T n d) (hj : 1 < n) : fX2_numberUnder_5 1 S = some (S.1 7 (n - 2), S) := by
  have e := nu (j := 1) (rx_S h).1 (rx_S h).2.2.1 hj
  rw [show n - 1 - 1 = n - 2 by omega] at e
  exact e
theorem k_m1 {S T : St} {n d : Nat} (h : Rx K S T n d) (hj : 1 < n) : fX8_kind_0 1 T = some (S.1 6 (n - 2), T) := by
  have e := kd (j := 1) (rx_S h).2.1 (rx_S h).2.2.1 hj
  rw [show n - 1 - 1 = n - 2 by omega, ← h.1.2.2.2.2.1] at e
  exact e
theorem n_m1 {S T : St} {n d : Nat} (h : Rx K S T n d) (hj : 1 < n) : fX8_number_0 1 T = some (S.1 7 (n - 2), T) := by
  have e := nb (j := 1) (rx_S h).2.1 (rx_S h).2.2.1 hj
  rw [show n - 1 - 1 = n - 2 by omega, ← h.1.2.2.2.2.2.1] at e
  exact e
theorem k_c2 {S T : St} {n d : Nat} (h : Rx K S T n d) (hj : 2 < n) : fX2_kindUnder_5 2 S = some (S.1 6 (n - 3), S) := by
  have e := ku (j := 2) (rx_S h).1 (rx_S h).2.2.1 hj
  rw [show n - 1 - 2 = n - 3 by omega] at e
  exact e
theorem n_c2 {S T : St} {n d : Nat} (h : Rx K S T n d) (hj : 2 < n) : fX2_numberUnder_5 2 S = some (S.1 7 (n - 3), S) := by
  have e := nu (j := 2) (rx_S h).1 (rx_S h).2.2.1 hj
  rw [show n - 1 - 2 = n - 3 by omega] at e
  exact e
theorem k_m2 {S T : St} {n d : Nat} (h : Rx K S T n d) (hj : 2 < n) : fX8_kind_0 2 T = some (S.1 6 (n - 3), T) := by
  have e := kd (j := 2) (rx_S h).2.1 (rx_S h).2.2.1 hj
  rw [show n - 1 - 2 = n - 3 by omega, ← h.1.2.2.2.2.1] at e
  exact e
theorem n_m2 {S T : St} {n d : Nat} (h : Rx K S T n d) (hj : 2 < n) : fX8_number_0 2 T = some (S.1 7 (n - 3), T) := by
  have e := nb (j := 2) (rx_S h).2.1 (rx_S h).2.2.1 hj
  rw [show n - 1 - 2 = n - 3 by omega, ← h.1.2.2.2.2.2.1] at e
  exact e
theorem k_c3 {S T : St} {n d : Nat} (h : Rx K S T n d) (hj : 3 < n) : fX2_kindUnder_5 3 S = some (S.1 6 (n - 4), S) := by
  have e := ku (j := 3) (rx_S h).1 (rx_S h).2.2.1 hj
  rw [show n - 1 - 3 = n - 4 by omega] at e
  exact e
theorem n_c3 {S T : St} {n d : Nat} (h : Rx K S T n d) (hj : 3 < n) : fX2_numberUnder_5 3 S = some (S.1 7 (n - 4), S) := by
  have e := nu (j := 3) (rx_S h).1 (rx_S h).2.2.1 hj
  rw [show n - 1 - 3 = n - 4 by omega] at e
  exact e
theorem k_m3 {S T : St} {n d : Nat} (h : Rx K S T n d) (hj : 3 < n) : fX8_kind_0 3 T = some (S.1 6 (n - 4), T) := by
  have e := kd (j := 3) (rx_S h).2.1 (rx_S h).2.2.1 hj
  rw [show n - 1 - 3 = n - 4 by omega, ← h.1.2.2.2.2.1] at e
  exact e
theorem n_m3 {S T : St} {n d : Nat} (h : Rx K S T n d) (hj : 3 < n) : fX8_number_0 3 T = some (S.1 7 (n - 4), T) := by
  have e := nb (j := 3) (rx_S h).2.1 (rx_S h).2.2.1 hj
  rw [show n - 1 - 3 = n - 4 by omega, ← h.1.2.2.2.2.2.1] at e
  exact e
theorem tks (T : St) : ∀ o, o < 28 → fX8_takes (nI o) T = some (nI (tkP o).length, T)
  | 0, _ => rfl
  | 1, _ => rfl
  | 2, _ => rfl
  | 3, _ => rfl
  | 4, _ => rfl
  | 5, _ => rfl
  | 6, _ => rfl
  | 7, _ => rfl
  | 8, _ => rfl
  | 9, _ => rfl
  | 10, _ => rfl
  | 11, _ => rfl
  | 12, _ => rfl
  | 13, _ => rfl
  | 14, _ => rfl
  | 15, _ => rfl
  | 16, _ => rfl
  | 17, _ => rfl
  | 18, _ => rfl
  | 19, _ => rfl
  | 20, _ => rfl
  | 21, _ => rfl
  | 22, _ => rfl
  | 23, _ => rfl
  | 24, _ => rfl
  | 25, _ => rfl
  | 26, _ => rfl
  | 27, _ => rfl
  | n + 28, h => absurd h (by omega)
theorem ak_0 {S T : St} {n d : Nat} (h : Rx K S T n d) (hn : 2 ≤ n) : (fts S n (tkP 0) 0 → fX8_areKinds_0 (nI 0) T = some (1, T)) ∧ (¬ fts S n (tkP 0) 0 → fX8_areKinds_0 (nI 0) T = some (0, T)) := by
  have e : fX8_areKinds_0 (nI 0) T = fX8_areKinds_0_128 T := rfl
  rw [e]; unfold fX8_areKinds_0_128
  constructor
  · intro hf
    have f0 : S.1 6 (n - 1) = 0 := hf.1.resolve_left (by decide)
    have f1 : S.1 6 (n - 2) = 0 := hf.2.1.resolve_left (by decide)
    rw [k_m0 h (by omega), bnd_x, f0, if_pos rfl, k_m1 h (by omega), bnd_x, f1, if_pos rfl]
  · intro hf
    rw [k_m0 h (by omega), bnd_x]
    by_cases f0 : S.1 6 (n - 1) = 0
    · rw [f0, if_pos rfl]
      rw [k_m1 h (by omega), bnd_x]
      by_cases f1 : S.1 6 (n - 2) = 0
      · rw [f1, if_pos rfl]
        exact absurd ⟨Or.inr f0, ⟨Or.inr f1, trivial⟩⟩ hf
      · rw [if_neg f1]; rfl
    · rw [if_neg f0]; rfl
theorem ak_1 {S T : St} {n d : Nat} (h : Rx K S T n d) (hn : 2 ≤ n) : (fts S n (tkP 1) 0 → fX8_areKinds_0 (nI 1) T = some (1, T)) ∧ (¬ fts S n (tkP 1) 0 → fX8_areKinds_0 (nI 1) T = some (0, T)) := by
  have e : fX8_areKinds_0 (nI 1) T = fX8_areKinds_0_128 T := rfl
  rw [e]; unfold fX8_areKinds_0_128
  constructor
  · intro hf
    have f0 : S.1 6 (n - 1) = 0 := hf.1.resolve_left (by decide)
    have f1 : S.1 6 (n - 2) = 0 := hf.2.1.resolve_left (by decide)
    rw [k_m0 h (by omega), bnd_x, f0, if_pos rfl, k_m1 h (by omega), bnd_x, f1, if_pos rfl]
  · intro hf
    rw [k_m0 h (by omega), bnd_x]
    by_cases f0 : S.1 6 (n - 1) = 0
    · rw [f0, if_pos rfl]
      rw [k_m1 h (by omega), bnd_x]
      by_cases f1 : S.1 6 (n - 2) = 0
      · rw [f1, if_pos rfl]
        exact absurd ⟨Or.inr f0, ⟨Or.inr f1, trivial⟩⟩ hf
      · rw [if_neg f1]; rfl
    · rw [if_neg f0]; rfl
theorem ak_2 {S T : St} {n d : Nat} (h : Rx K S T n d) (hn : 2 ≤ n) : (fts S n (tkP 2) 0 → fX8_areKinds_0 (nI 2) T = some (1, T)) ∧ (¬ fts S n (tkP 2) 0 → fX8_areKinds_0 (nI 2) T = some (0, T)) := by
  have e : fX8_areKinds_0 (nI 2) T = fX8_areKinds_0_128 T := rfl
  rw [e]; unfold fX8_areKinds_0_128
  constructor
  · intro hf
    have f0 : S.1 6 (n - 1) = 0 := hf.1.resolve_left (by decide)
    have f1 : S.1 6 (n - 2) = 0 := hf.2.1.resolve_left (by decide)
    rw [k_m0 h (by omega), bnd_x, f0, if_pos rfl, k_m1 h (by omega), bnd_x, f1, if_pos rfl]
  · intro hf
    rw [k_m0 h (by omega), bnd_x]
    by_cases f0 : S.1 6 (n - 1) = 0
    · rw [f0, if_pos rfl]
      rw [k_m1 h (by omega), bnd_x]
      by_cases f1 : S.1 6 (n - 2) = 0
      · rw [f1, if_pos rfl]
        exact absurd ⟨Or.inr f0, ⟨Or.inr f1, trivial⟩⟩ hf
      · rw [if_neg f1]; rfl
    · rw [if_neg f0]; rfl
theorem ak_3 {S T : St} {n d : Nat} (h : Rx K S T n d) (hn : 2 ≤ n) : (fts S n (tkP 3) 0 → fX8_areKinds_0 (nI 3) T = some (1, T)) ∧ (¬ fts S n (tkP 3) 0 → fX8_areKinds_0 (nI 3) T = some (0, T)) := by
  have e : fX8_areKinds_0 (nI 3) T = fX8_areKinds_0_128 T := rfl
  rw [e]; unfold fX8_areKinds_0_128
  constructor
  · intro hf
    have f0 : S.1 6 (n - 1) = 0 := hf.1.resolve_left (by decide)
    have f1 : S.1 6 (n - 2) = 0 := hf.2.1.resolve_left (by decide)
    rw [k_m0 h (by omega), bnd_x, f0, if_pos rfl, k_m1 h (by omega), bnd_x, f1, if_pos rfl]
  · intro hf
    rw [k_m0 h (by omega), bnd_x]
    by_cases f0 : S.1 6 (n - 1) = 0
    · rw [f0, if_pos rfl]
      rw [k_m1 h (by omega), bnd_x]
      by_cases f1 : S.1 6 (n - 2) = 0
      · rw [f1, if_pos rfl]
        exact absurd ⟨Or.inr f0, ⟨Or.inr f1, trivial⟩⟩ hf
      · rw [if_neg f1]; rfl
    · rw [if_neg f0]; rfl
theorem ak_4 {S T : St} {n d : Nat} (h : Rx K S T n d) (hn : 2 ≤ n) : (fts S n (tkP 4) 0 → fX8_areKinds_0 (nI 4) T = some (1, T)) ∧ (¬ fts S n (tkP 4) 0 → fX8_areKinds_0 (nI 4) T = some (0, T)) := by
  exact ⟨fun _ => rfl, fun z => absurd ⟨Or.inl rfl, ⟨Or.inl rfl, trivial⟩⟩ z⟩
theorem ak_5 {S T : St} {n d : Nat} (h : Rx K S T n d) (hn : 2 ≤ n) : (fts S n (tkP 5) 0 → fX8_areKinds_0 (nI 5) T = some (1, T)) ∧ (¬ fts S n (tkP 5) 0 → fX8_areKinds_0 (nI 5) T = some (0, T)) := by
  have e : fX8_areKinds_0 (nI 5) T = fX8_areKinds_0_128 T := rfl
  rw [e]; unfold fX8_areKinds_0_128
  constructor
  · intro hf
    have f0 : S.1 6 (n - 1) = 0 := hf.1.resolve_left (by decide)
    have f1 : S.1 6 (n - 2) = 0 := hf.2.1.resolve_left (by decide)
    rw [k_m0 h (by omega), bnd_x, f0, if_pos rfl, k_m1 h (by omega), bnd_x, f1, if_pos rfl]
  · intro hf
    rw [k_m0 h (by omega), bnd_x]
    by_cases f0 : S.1 6 (n - 1) = 0
    · rw [f0, if_pos rfl]
      rw [k_m1 h (by omega), bnd_x]
      by_cases f1 : S.1 6 (n - 2) = 0
      · rw [f1, if_pos rfl]
        exact absurd ⟨Or.inr f0, ⟨Or.inr f1, trivial⟩⟩ hf
      · rw [if_neg f1]; rfl
    · rw [if_neg f0]; rfl
theorem ak_6 {S T : St} {n d : Nat} (h : Rx K S T n d) (hn : 1 ≤ n) : (fts S n (tkP 6) 0 → fX8_areKinds_0 (nI 6) T = some (1, T)) ∧ (¬ fts S n (tkP 6) 0 → fX8_areKinds_0 (nI 6) T = some (0, T)) := by
  unfold fX8_areKinds_0
  rw [if_neg (by decide), if_neg (by decide), if_neg (by decide), if_neg (by decide), if_neg (by decide), if_neg (by decide), if_pos (by decide)]
  constructor
  · intro hf
    have f0 : S.1 6 (n - 1) = 1 := hf.1.resolve_left (by decide)
    rw [k_m0 h (by omega), bnd_x, f0, if_pos rfl]
  · intro hf
    rw [k_m0 h (by omega), bnd_x]
    by_cases f0 : S.1 6 (n - 1) = 1
    · rw [f0, if_pos rfl]
      exact absurd ⟨Or.inr f0, trivial⟩ hf
    · rw [if_neg f0]
theorem ak_7 {S T : St} {n d : Nat} (h : Rx K S T n d) (hn : 1 ≤ n) : (fts S n (tkP 7) 0 → fX8_areKinds_0 (nI 7) T = some (1, T)) ∧ (¬ fts S n (tkP 7) 0 → fX8_areKinds_0 (nI 7) T = some (0, T)) := by
  exact ⟨fun _ => rfl, fun z => absurd ⟨Or.inl rfl, trivial⟩ z⟩
theorem ak_8 {S T : St} {n d : Nat} (h : Rx K S T n d) (hn : 1 ≤ n) : (fts S n (tkP 8) 0 → fX8_areKinds_0 (nI 8) T = some (1, T)) ∧ (¬ fts S n (tkP 8) 0 → fX8_areKinds_0 (nI 8) T = some (0, T)) := by
  exact ⟨fun _ => rfl, fun z => absurd ⟨Or.inl rfl, trivial⟩ z⟩
theorem ak_9 {S T : St} {n d : Nat} (h : Rx K S T n d) (hn : 2 ≤ n) : (fts S n (tkP 9) 0 → fX8_areKinds_0 (nI 9) T = some (1, T)) ∧ (¬ fts S n (tkP 9) 0 → fX8_areKinds_0 (nI 9) T = some (0, T)) := by
  exact ⟨fun _ => rfl, fun z => absurd ⟨Or.inl rfl, ⟨Or.inl rfl, trivial⟩⟩ z⟩
theorem ak_10 {S T : St} {n d : Nat} (h : Rx K S T n d) (hn : 1 ≤ n) : (fts S n (tkP 10) 0 → fX8_areKinds_0 (nI 10) T = some (1, T)) ∧ (¬ fts S n (tkP 10) 0 → fX8_areKinds_0 (nI 10) T = some (0, T)) := by
  have e : fX8_areKinds_0 (nI 10) T = fX8_areKinds_0_165 T := rfl
  rw [e]; unfold fX8_areKinds_0_165
  constructor
  · intro hf
    have f0 : S.1 6 (n - 1) = 0 := hf.1.resolve_left (by decide)
    rw [k_m0 h (by omega), bnd_x, f0, if_pos rfl]
  · intro hf
    rw [k_m0 h (by omega), bnd_x]
    by_cases f0 : S.1 6 (n - 1) = 0
    · rw [f0, if_pos rfl]
      exact absurd ⟨Or.inr f0, trivial⟩ hf
    · rw [if_neg f0]
theorem ak_11 {S T : St} {n d : Nat} (h : Rx K S T n d) (hn : 0 ≤ n) : (fts S n (tkP 11) 0 → fX8_areKinds_0 (nI 11) T = some (1, T)) ∧ (¬ fts S n (tkP 11) 0 → fX8_areKinds_0 (nI 11) T = some (0, T)) := by
  exact ⟨fun _ => rfl, fun z => absurd trivial z⟩
theorem ak_12 {S T : St} {n d : Nat} (h : Rx K S T n d) (hn : 0 ≤ n) : (fts S n (tkP 12) 0 → fX8_areKinds_0 (nI 12) T = some (1, T)) ∧ (¬ fts S n (tkP 12) 0 → fX8_areKinds_0 (nI 12) T = some (0, T)) := by
  exact ⟨fun _ => rfl, fun z => absurd trivial z⟩
theorem ak_13 {S T : St} {n d : Nat} (h : Rx K S T n d) (hn : 0 ≤ n) : (fts S n (tkP 13) 0 → fX8_areKinds_0 (nI 13) T = some (1, T)) ∧ (¬ fts S n (tkP 13) 0 → fX8_areKinds_0 (nI 13) T = some (0, T)) := by
  exact ⟨fun _ => rfl, fun z => absurd trivial z⟩
theorem ak_14 {S T : St} {n d : Nat} (h : Rx K S T n d) (hn : 2 ≤ n) : (fts S n (tkP 14) 0 → fX8_areKinds_0 (nI 14) T = some (1, T)) ∧ (¬ fts S n (tkP 14) 0 → fX8_areKinds_0 (nI 14) T = some (0, T)) := by
  unfold fX8_areKinds_0
  rw [if_neg (by decide), if_neg (by decide), if_neg (by decide), if_neg (by decide), if_neg (by decide), if_neg (by decide), if_neg (by decide), if_neg (by decide), if_neg (by decide), if_neg (by decide), if_neg (by decide), if_neg (by decide), if_neg (by decide), if_neg (by decide), if_pos (by decide)]
  constructor
  · intro hf
    have f1 : S.1 6 (n - 2) = 2 := hf.2.1.resolve_left (by decide)
    rw [k_m1 h (by omega), bnd_x, f1, if_pos rfl]
  · intro hf
    rw [k_m1 h (by omega), bnd_x]
    by_cases f1 : S.1 6 (n - 2) = 2
    · rw [f1, if_pos rfl]
      exact absurd ⟨Or.inl rfl, ⟨Or.inr f1, trivial⟩⟩ hf
    · rw [if_neg f1]
theorem ak_15 {S T : St} {n d : Nat} (h : Rx K S T n d) (hn : 1 ≤ n) : (fts S n (tkP 15) 0 → fX8_areKinds_0 (nI 15) T = some (1, T)) ∧ (¬ fts S n (tkP 15) 0 → fX8_areKinds_0 (nI 15) T = some (0, T)) := by
  unfold fX8_areKinds_0
  rw [if_neg (by decide), if_neg (by decide), if_neg (by decide), if_neg (by decide), if_neg (by decide), if_neg (by decide), if_neg (by decide), if_neg (by decide), if_neg (by decide), if_neg (by decide), if_neg (by decide), if_neg (by decide), if_neg (by decide), if_neg (by decide), if_neg (by decide), if_pos (by decide)]
  constructor
  · intro hf
    have f0 : S.1 6 (n - 1) = 2 := hf.1.resolve_left (by decide)
    rw [k_m0 h (by omega), bnd_x, f0, if_pos rfl]
  · intro hf
    rw [k_m0 h (by omega), bnd_x]
    by_cases f0 : S.1 6 (n - 1) = 2
    · rw [f0, if_pos rfl]
      exact absurd ⟨Or.inr f0, trivial⟩ hf
    · rw [if_neg f0]
theorem ak_16 {S T : St} {n d : Nat} (h : Rx K S T n d) (hn : 1 ≤ n) : (fts S n (tkP 16) 0 → fX8_areKinds_0 (nI 16) T = some (1, T)) ∧ (¬ fts S n (tkP 16) 0 → fX8_areKinds_0 (nI 16) T = some (0, T)) := by
  exact ⟨fun _ => rfl, fun z => absurd ⟨Or.inl rfl, trivial⟩ z⟩
theorem ak_17 {S T : St} {n d : Nat} (h : Rx K S T n d) (hn : 2 ≤ n) : (fts S n (tkP 17) 0 → fX8_areKinds_0 (nI 17) T = some (1, T)) ∧ (¬ fts S n (tkP 17) 0 → fX8_areKinds_0 (nI 17) T = some (0, T)) := by
  unfold fX8_areKinds_0
  rw [if_neg (by decide), if_neg (by decide), if_neg (by decide), if_neg (by decide), if_neg (by decide), if_neg (by decide), if_neg (by decide), if_neg (by decide), if_neg (by decide), if_neg (by decide), if_neg (by decide), if_neg (by decide), if_neg (by decide), if_neg (by decide), if_neg (by decide), if_neg (by decide), if_neg (by decide), if_pos (by decide)]
  constructor
  · intro hf
    have f0 : S.1 6 (n - 1) = 4 := hf.1.resolve_left (by decide)
    have f1 : S.1 6 (n - 2) = 1 := hf.2.1.resolve_left (by decide)
    rw [k_m0 h (by omega), bnd_x, f0, if_pos rfl, k_m1 h (by omega), bnd_x, f1, if_pos rfl]
  · intro hf
    rw [k_m0 h (by omega), bnd_x]
    by_cases f0 : S.1 6 (n - 1) = 4
    · rw [f0, if_pos rfl]
      rw [k_m1 h (by omega), bnd_x]
      by_cases f1 : S.1 6 (n - 2) = 1
      · rw [f1, if_pos rfl]
        exact absurd ⟨Or.inr f0, ⟨Or.inr f1, trivial⟩⟩ hf
      · rw [if_neg f1]; rfl
    · rw [if_neg f0]; rfl
theorem ak_18 {S T : St} {n d : Nat} (h : Rx K S T n d) (hn : 3 ≤ n) : (fts S n (tkP 18) 0 → fX8_areKinds_0 (nI 18) T = some (1, T)) ∧ (¬ fts S n (tkP 18) 0 → fX8_areKinds_0 (nI 18) T = some (0, T)) := by
  unfold fX8_areKinds_0
  rw [if_neg (by decide), if_neg (by decide), if_neg (by decide), if_neg (by decide), if_neg (by decide), if_neg (by decide), if_neg (by decide), if_neg (by decide), if_neg (by decide), if_neg (by decide), if_neg (by decide), if_neg (by decide), if_neg (by decide), if_neg (by decide), if_neg (by decide), if_neg (by decide), if_neg (by decide), if_neg (by decide), if_pos (by decide)]
  constructor
  · intro hf
    have f0 : S.1 6 (n - 1) = 4 := hf.1.resolve_left (by decide)
    have f1 : S.1 6 (n - 2) = 4 := hf.2.1.resolve_left (by decide)
    have f2 : S.1 6 (n - 3) = 1 := hf.2.2.1.resolve_left (by decide)
    rw [k_m0 h (by omega), bnd_x, f0, if_pos rfl, k_m1 h (by omega), bnd_x, f1, if_pos rfl, k_m2 h (by omega), bnd_x, f2, if_pos rfl]
  · intro hf
    rw [k_m0 h (by omega), bnd_x]
    by_cases f0 : S.1 6 (n - 1) = 4
    · rw [f0, if_pos rfl]
      rw [k_m1 h (by omega), bnd_x]
      by_cases f1 : S.1 6 (n - 2) = 4
      · rw [f1, if_pos rfl]
        rw [k_m2 h (by omega), bnd_x]
        by_cases f2 : S.1 6 (n - 3) = 1
        · rw [f2, if_pos rfl]
          exact absurd ⟨Or.inr f0, ⟨Or.inr f1, ⟨Or.inr f2, trivial⟩⟩⟩ hf
        · rw [if_neg f2]; rfl
      · rw [if_neg f1]; rfl
    · rw [if_neg f0]; rfl
theorem ak_19 {S T : St} {n d : Nat} (h : Rx K S T n d) (hn : 2 ≤ n) : (fts S n (tkP 19) 0 → fX8_areKinds_0 (nI 19) T = some (1, T)) ∧ (¬ fts S n (tkP 19) 0 → fX8_areKinds_0 (nI 19) T = some (0, T)) := by
  unfold fX8_areKinds_0
  rw [if_neg (by decide), if_neg (by decide), if_neg (by decide), if_neg (by decide), if_neg (by decide), if_neg (by decide), if_neg (by decide), if_neg (by decide), if_neg (by decide), if_neg (by decide), if_neg (by decide), if_neg (by decide), if_neg (by decide), if_neg (by decide), if_neg (by decide), if_neg (by decide), if_neg (by decide), if_neg (by decide), if_neg (by decide), if_pos (by decide)]
  constructor
  · intro hf
    have f0 : S.1 6 (n - 1) = 4 := hf.1.resolve_left (by decide)
    have f1 : S.1 6 (n - 2) = 0 := hf.2.1.resolve_left (by decide)
    rw [k_m0 h (by omega), bnd_x, f0, if_pos rfl, k_m1 h (by omega), bnd_x, f1, if_pos rfl]
  · intro hf
    rw [k_m0 h (by omega), bnd_x]
    by_cases f0 : S.1 6 (n - 1) = 4
    · rw [f0, if_pos rfl]
      rw [k_m1 h (by omega), bnd_x]
      by_cases f1 : S.1 6 (n - 2) = 0
      · rw [f1, if_pos rfl]
        exact absurd ⟨Or.inr f0, ⟨Or.inr f1, trivial⟩⟩ hf
      · rw [if_neg f1]; rfl
    · rw [if_neg f0]; rfl
theorem ak_20 {S T : St} {n d : Nat} (h : Rx K S T n d) (hn : 4 ≤ n) : (fts S n (tkP 20) 0 → fX8_areKinds_0 (nI 20) T = some (1, T)) ∧ (¬ fts S n (tkP 20) 0 → fX8_areKinds_0 (nI 20) T = some (0, T)) := by
  unfold fX8_areKinds_0
  rw [if_neg (by decide), if_neg (by decide), if_neg (by decide), if_neg (by decide), if_neg (by decide), if_neg (by decide), if_neg (by decide), if_neg (by decide), if_neg (by decide), if_neg (by decide), if_neg (by decide), if_neg (by decide), if_neg (by decide), if_neg (by decide), if_neg (by decide), if_neg (by decide), if_neg (by decide), if_neg (by decide), if_neg (by decide), if_neg (by decide), if_pos (by decide)]
  constructor
  · intro hf
    have f0 : S.1 6 (n - 1) = 4 := hf.1.resolve_left (by decide)
    have f1 : S.1 6 (n - 2) = 0 := hf.2.1.resolve_left (by decide)
    have f2 : S.1 6 (n - 3) = 0 := hf.2.2.1.resolve_left (by decide)
    have f3 : S.1 6 (n - 4) = 0 := hf.2.2.2.1.resolve_left (by decide)
    rw [k_m0 h (by omega), bnd_x, f0, if_pos rfl, k_m1 h (by omega), bnd_x, f1, if_pos rfl, k_m2 h (by omega), bnd_x, f2, if_pos rfl, k_m3 h (by omega), bnd_x, f3, if_pos rfl]
  · intro hf
    rw [k_m0 h (by omega), bnd_x]
    by_cases f0 : S.1 6 (n - 1) = 4
    · rw [f0, if_pos rfl]
      rw [k_m1 h (by omega), bnd_x]
      by_cases f1 : S.1 6 (n - 2) = 0
      · rw [f1, if_pos rfl]
        rw [k_m2 h (by omega), bnd_x]
        by_cases f2 : S.1 6 (n - 3) = 0
        · rw [f2, if_pos rfl]
          rw [k_m3 h (by omega), bnd_x]
          by_cases f3 : S.1 6 (n - 4) = 0
          · rw [f3, if_pos rfl]
            exact absurd ⟨Or.inr f0, ⟨Or.inr f1, ⟨Or.inr f2, ⟨Or.inr f3, trivial⟩⟩⟩⟩ hf
          · rw [if_neg f3]; rfl
        · rw [if_neg f2]; rfl
      · rw [if_neg f1]; rfl
    · rw [if_neg f0]; rfl
theorem ak_21 {S T : St} {n d : Nat} (h : Rx K S T n d) (hn : 1 ≤ n) : (fts S n (tkP 21) 0 → fX8_areKinds_0 (nI 21) T = some (1, T)) ∧ (¬ fts S n (tkP 21) 0 → fX8_areKinds_0 (nI 21) T = some (0, T)) := by
  have e : fX8_areKinds_0 (nI 21) T = fX8_areKinds_0_328 T := rfl
  rw [e]; unfold fX8_areKinds_0_328
  constructor
  · intro hf
    have f0 : S.1 6 (n - 1) = 4 := hf.1.resolve_left (by decide)
    rw [k_m0 h (by omega), bnd_x, f0, if_pos rfl]
  · intro hf
    rw [k_m0 h (by omega), bnd_x]
    by_cases f0 : S.1 6 (n - 1) = 4
    · rw [f0, if_pos rfl]
      exact absurd ⟨Or.inr f0, trivial⟩ hf
    · rw [if_neg f0]
theorem ak_22 {S T : St} {n d : Nat} (h : Rx K S T n d) (hn : 0 ≤ n) : (fts S n (tkP 22) 0 → fX8_areKinds_0 (nI 22) T = some (1, T)) ∧ (¬ fts S n (tkP 22) 0 → fX8_areKinds_0 (nI 22) T = some (0, T)) := by
  exact ⟨fun _ => rfl, fun z => absurd trivial z⟩
theorem ak_23 {S T : St} {n d : Nat} (h : Rx K S T n d) (hn : 0 ≤ n) : (fts S n (tkP 23) 0 → fX8_areKinds_0 (nI 23) T = some (1, T)) ∧ (¬ fts S n (tkP 23) 0 → fX8_areKinds_0 (nI 23) T = some (0, T)) := by
  exact ⟨fun _ => rfl, fun z => absurd trivial z⟩
theorem ak_24 {S T : St} {n d : Nat} (h : Rx K S T n d) (hn : 1 ≤ n) : (fts S n (tkP 24) 0 → fX8_areKinds_0 (nI 24) T = some (1, T)) ∧ (¬ fts S n (tkP 24) 0 → fX8_areKinds_0 (nI 24) T = some (0, T)) := by
  have e : fX8_areKinds_0 (nI 24) T = fX8_areKinds_0_328 T := rfl
  rw [e]; unfold fX8_areKinds_0_328
  constructor
  · intro hf
    have f0 : S.1 6 (n - 1) = 4 := hf.1.resolve_left (by decide)
    rw [k_m0 h (by omega), bnd_x, f0, if_pos rfl]
  · intro hf
    rw [k_m0 h (by omega), bnd_x]
    by_cases f0 : S.1 6 (n - 1) = 4
    · rw [f0, if_pos rfl]
      exact absurd ⟨Or.inr f0, trivial⟩ hf
    · rw [if_neg f0]
theorem ak_26 {S T : St} {n d : Nat} (h : Rx K S T n d) (hn : 1 ≤ n) : (fts S n (tkP 26) 0 → fX8_areKinds_0 (nI 26) T = some (1, T)) ∧ (¬ fts S n (tkP 26) 0 → fX8_areKinds_0 (nI 26) T = some (0, T)) := by
  have e : fX8_areKinds_0 (nI 26) T = fX8_areKinds_0_165 T := rfl
  rw [e]; unfold fX8_areKinds_0_165
  constructor
  · intro hf
    have f0 : S.1 6 (n - 1) = 0 := hf.1.resolve_left (by decide)
    rw [k_m0 h (by omega), bnd_x, f0, if_pos rfl]
  · intro hf
    rw [k_m0 h (by omega), bnd_x]
    by_cases f0 : S.1 6 (n - 1) = 0
    · rw [f0, if_pos rfl]
      exact absurd ⟨Or.inr f0, trivial⟩ hf
    · rw [if_neg f0]
theorem ak_27 {S T : St} {n d : Nat} (h : Rx K S T n d) (hn : 1 ≤ n) : (fts S n (tkP 27) 0 → fX8_areKinds_0 (nI 27) T = some (1, T)) ∧ (¬ fts S n (tkP 27) 0 → fX8_areKinds_0 (nI 27) T = some (0, T)) := by
  have e : fX8_areKinds_0 (nI 27) T = fX8_areKinds_0_165 T := rfl
  rw [e]; unfold fX8_areKinds_0_165
  constructor
  · intro hf
    have f0 : S.1 6 (n - 1) = 0 := hf.1.resolve_left (by decide)
    rw [k_m0 h (by omega), bnd_x, f0, if_pos rfl]
  · intro hf
    rw [k_m0 h (by omega), bnd_x]
    by_cases f0 : S.1 6 (n - 1) = 0
    · rw [f0, if_pos rfl]
      exact absurd ⟨Or.inr f0, trivial⟩ hf
    · rw [if_neg f0]
def Op (K o : Int32) (S T : St) : Prop :=
  (∃ e : Nat, 1 ≤ e ∧ e ≤ 11 ∧ fX7_operate_0 tkF o S = some (nI e, S) ∧ fX8_wrong_0 o T = some (nI e, T)) ∨
  (∃ S1 T1 n1 d1, fX7_operate_0 tkF o S = some (0, S1) ∧ fX8_wrong_0 o T = some (0, T) ∧ fX8_work_0 o T = some (0, T1) ∧ Rx K S1 T1 n1 d1) ∨
  (∃ e : Nat, 1 ≤ e ∧ e ≤ 11 ∧ fX7_operate_0 tkF o S = some (nI e, S) ∧ fX8_wrong_0 o T = some (0, T) ∧ ∀ T1, fX8_arise_0 (nI e) o T = some (0, T1) → fX8_work_0 o T = some (0, T1))
section OPS
variable {S T : St} {n d o : Nat}
theorem oc_err (h : Rx K S T n d) (hi : S.1 0 7 = 0) (ho : o < 28) {e : Nat} (h0 : 0 < e) (he : e ≤ 11) (hm : mf S n (tkP o) 0 0 = nI e) : fX7_operate_0 tkF (nI o) S = some (nI e, S) := by
  unfold fX7_operate_0
  rw [if_pos hi, mis (rx_S h).1 (rx_S h).2.2.1 ho, bnd_x, hm, if_neg (nI_ne0 h0 (by omega))]
theorem op_few (h : Rx K S T n d) (hi : S.1 0 7 = 0) (ho : o < 28) (hn : n < (tkP o).length) : Op K (nI o) S T := by
  refine Or.inl ⟨1, by omega, by omega, oc_err h hi ho (by omega) (by omega) (mf_few _ _ _ (by omega) (by omega)), ?_⟩
  have hl := (tkP_ok o ho).1
  unfold fX8_wrong_0
  rw [tks T o ho, bnd_x, (rx_S h).2.1, if_neg (by rw [leI (by omega) (by omega)]; omega)]
  rfl
theorem wr_1 (h : Rx K S T n d) (ho : o < 28) (h10 : o ≠ 10) (hn : (tkP o).length ≤ n) : fX8_wrong_0 (nI o) T = fX8_wrong_0_61 (nI o) T := by
  have hl := (tkP_ok o ho).1
  have hn2 := (rx_S h).2.2.1
  unfold fX8_wrong_0
  rw [tks T o ho, bnd_x, (rx_S h).2.1, if_pos (by rw [leI (by omega) (by omega)]; omega), if_neg (by rw [lit 10, eqI (by omega) (by omega)]; exact h10)]
  rfl
theorem op_bad (h : Rx K S T n d) (hi : S.1 0 7 = 0) (ho : o < 28) (h10 : o ≠ 10) (hn : (tkP o).length ≤ n) (hf : ¬ fts S n (tkP o) 0) (hk : fX8_areKinds_0 (nI o) T = some (0, T)) : Op K (nI o) S T := by
  refine Or.inl ⟨3, by omega, by omega, oc_err h hi ho (by omega) (by omega) (mf_bad _ _ _ (by omega) hf), ?_⟩
  rw [wr_1 h ho h10 hn]
  unfold fX8_wrong_0_61
  rw [hk, bnd_x, if_pos rfl]
  rfl
theorem wr_2 (h : Rx K S T n d) (ho : o < 28) (h10 : o ≠ 10) (h12 : o ≠ 12) (h13 : o ≠ 13) (hn : (tkP o).length ≤ n) (hk : fX8_areKinds_0 (nI o) T = some (1, T)) : fX8_wrong_0 (nI o) T = fX8_wrong_0_93 (nI o) T := by
  rw [wr_1 h ho h10 hn]
  unfold fX8_wrong_0_61
  rw [hk, bnd_x, if_neg (by decide), if_neg (by rw [lit 12, eqI (by omega) (by omega)]; exact h12), if_neg (by rw [lit 13, eqI (by omega) (by omega)]; exact h13)]
theorem oc_low (h : Rx K S T n d) (hi : S.1 0 7 = 0) (ho : o < 16) (hn : (tkP o).length ≤ n) (hf : fts S n (tkP o) 0) {r : Int32} {S1 : St} (hc : fX3_operate_24 (nI o) S = some (r, S1)) : fX7_operate_0 tkF (nI o) S = some (r, S1) := by
  unfold fX7_operate_0
  rw [if_pos hi, mis (rx_S h).1 (rx_S h).2.2.1 (by omega), bnd_x, mf_ok _ _ _ (by omega) hf, if_pos rfl]
  rw [if_neg (by rw [show (16 : Int32) = nI 16 from rfl, eqI (by omega) (by omega)]; omega), if_neg (by rw [show (17 : Int32) = nI 17 from rfl, eqI (by omega) (by omega)]; omega), if_neg (by rw [show (18 : Int32) = nI 18 from rfl, eqI (by omega) (by omega)]; omega), if_neg (by rw [show (19 : Int32) = nI 19 from rfl, eqI (by omega) (by omega)]; omega), if_neg (by rw [show (20 : Int32) = nI 20 from rfl, eqI (by omega) (by omega)]; omega), if_neg (by rw [show (21 : Int32) = nI 21 from rfl, eqI (by omega) (by omega)]; omega), if_neg (by rw [show (22 : Int32) = nI 22 from rfl, eqI (by omega) (by omega)]; omega), if_neg (by rw [show (23 : Int32) = nI 23 from rfl, eqI (by omega) (by omega)]; omega), if_neg (by rw [show (24 : Int32) = nI 24 from rfl, eqI (by omega) (by omega)]; omega), if_neg (by rw [show (25 : Int32) = nI 25 from rfl, eqI (by omega) (by omega)]; omega), if_neg (by rw [show (26 : Int32) = nI 26 from rfl, eqI (by omega) (by omega)]; omega), if_neg (by rw [show (27 : Int32) = nI 27 from rfl, eqI (by omega) (by omega)]; omega), hc, bnd_x]
end OPS
