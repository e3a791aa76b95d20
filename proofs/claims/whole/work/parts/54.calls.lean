/-! the other calls -/
section CALLS
variable {S T : St} {n d c o : Nat}
theorem rc_n (h : Rc S T) : ∃ n, n ≤ 60 ∧ S.1 5 2 = nI n ∧ T.1 0 6 = nI n := by
  obtain ⟨n, h1, h2, h3, h4, h5, h6, h7, h8⟩ := h
  exact ⟨n, h3.1, h3.2.1, h1.2.2.2.1 ▸ h3.2.1⟩
theorem fit46 {v a b r : Int32} (h : ∀ T, fX8_in v a b T = some (r, T)) (T : St) : fX8_fits_46 v a b T = if r = 0 then some (0, T) else some (1, T) := by
  unfold fX8_fits_46 fX8_fits_52
  rw [h, bnd_x]
/-- a number of a kind, in both -/
theorem knd : ∀ (j : Nat) (v : Int32), j < 6 → ((∀ S, fX7_isOfKind (nI j) v S = some (1, S)) ∧ (∀ T, fX8_fits (nI j) v T = some (1, T)) ∧ okT (nI j) v) ∨ ((∀ S, fX7_isOfKind (nI j) v S = some (0, S)) ∧ ∀ T, fX8_fits (nI j) v T = some (0, T))
  | 0, v, _ => Or.inl ⟨fun _ => rfl, fun _ => rfl, okN _, fun h => absurd h (by decide)⟩
  | 1, v, _ => by
    have ef : ∀ T, fX8_fits (nI 1) v T = fX8_fits_46 v 0 1 T := fun _ => rfl
    have ec : ∀ S, fX7_isOfKind (nI 1) v S = if v = 0 then some (1, S) else if v = 1 then some (1, S) else some (0, S) := fun _ => rfl
    rcases in_or v (N := 2) (by omega) (by omega) with ⟨j, hj, hx, hi⟩ | ⟨z, hi⟩
    · refine Or.inl ⟨fun S => ?_, fun T => ?_, okT1 _, fun h => absurd h (by decide)⟩
      · rw [ec]
        by_cases e : j = 0
        · rw [hx, e, if_pos (by decide)]
        · have : j = 1 := by omega
          rw [hx, this, if_neg (by decide), if_pos (by decide)]
      · rw [ef]
        exact fit46 (r := 1) hi T
    · refine Or.inr ⟨fun S => ?_, fun T => ?_⟩
      · rw [ec]
        have n0 : ¬ v = 0 := fun e => by rw [e] at z; exact absurd z (by decide)
        have n1 : ¬ v = 1 := fun e => by rw [e] at z; exact absurd z (by decide)
        rw [if_neg n0, if_neg n1]
      · rw [ef]
        exact fit46 (r := 0) hi T
  | 2, v, _ => by
    have ef : ∀ T, fX8_fits (nI 2) v T = fX8_fits_46 v 0 39 T := fun _ => rfl
    have ec : ∀ S, fX7_isOfKind (nI 2) v S = if v < 0 then some (0, S) else if 40 ≤ v then some (0, S) else some (1, S) := fun _ => rfl
    rcases in_or v (N := 40) (by omega) (by omega) with ⟨j, hj, hx, hi⟩ | ⟨z, hi⟩
    · refine Or.inl ⟨fun S => ?_, fun T => ?_, ⟨by decide, fun _ => ⟨j, hj, hx⟩, fun h => absurd h (by decide)⟩, fun h => absurd h (by decide)⟩
      · rw [ec, hx, if_neg (nI_pos (by omega)), if_neg (by rw [lit 40, leI (by omega) (by omega)]; omega)]
      · rw [ef]
        exact fit46 (r := 1) hi T
    · refine Or.inr ⟨fun S => ?_, fun T => ?_⟩
      · rw [ec]
        by_cases y : v < 0
        · rw [if_pos y]
        · rw [if_neg y, if_pos (show (40 : Int32) ≤ v from z.resolve_left y)]
      · rw [ef]
        exact fit46 (r := 0) hi T
  | 3, v, _ => by
    have ef : ∀ T, fX8_fits (nI 3) v T = fX8_fits_46 v 0 0 T := fun _ => rfl
    have ec : ∀ S, fX7_isOfKind (nI 3) v S = if v = 0 then some (1, S) else some (0, S) := fun _ => rfl
    rcases in_or v (N := 1) (by omega) (by omega) with ⟨j, hj, hx, hi⟩ | ⟨z, hi⟩
    · refine Or.inl ⟨fun S => ?_, fun T => ?_, ⟨by decide, fun h => absurd h (by decide), fun h => absurd h (by decide)⟩, fun h => absurd h (by decide)⟩
      · have : j = 0 := by omega
        rw [ec, hx, this, if_pos (by decide)]
      · rw [ef]
        exact fit46 (r := 1) hi T
    · refine Or.inr ⟨fun S => ?_, fun T => ?_⟩
      · have n0 : ¬ v = 0 := fun e => by rw [e] at z; exact absurd z (by decide)
        rw [ec, if_neg n0]
      · rw [ef]
        exact fit46 (r := 0) hi T
  | 4, v, _ => by
    have ef : ∀ T, fX8_fits (nI 4) v T = fX8_fits_46 v 0 19 T := fun _ => rfl
    have ec : ∀ S, fX7_isOfKind (nI 4) v S = if v < 0 then some (0, S) else if 20 ≤ v then some (0, S) else some (1, S) := fun _ => rfl
    rcases in_or v (N := 20) (by omega) (by omega) with ⟨j, hj, hx, hi⟩ | ⟨z, hi⟩
    · refine Or.inl ⟨fun S => ?_, fun T => ?_, ⟨by decide, fun h => absurd h (by decide), fun _ => ⟨j, hj, hx⟩⟩, fun h => absurd h (by decide)⟩
      · rw [ec, hx, if_neg (nI_pos (by omega)), if_neg (by rw [lit 20, leI (by omega) (by omega)]; omega)]
      · rw [ef]
        exact fit46 (r := 1) hi T
    · refine Or.inr ⟨fun S => ?_, fun T => ?_⟩
      · rw [ec]
        by_cases y : v < 0
        · rw [if_pos y]
        · rw [if_neg y, if_pos (show (20 : Int32) ≤ v from z.resolve_left y)]
      · rw [ef]
        exact fit46 (r := 0) hi T
  | 5, v, _ => by
    have ef : ∀ T, fX8_fits (nI 5) v T = fX8_fits_46 v 0 27 T := fun _ => rfl
    have ec : ∀ S, fX7_isOfKind (nI 5) v S = if v < 0 then some (0, S) else if 28 ≤ v then some (0, S) else some (1, S) := fun _ => rfl
    rcases in_or v (N := 28) (by omega) (by omega) with ⟨j, hj, hx, hi⟩ | ⟨z, hi⟩
    · refine Or.inl ⟨fun S => ?_, fun T => ?_, ⟨by decide, fun h => absurd h (by decide), fun h => absurd h (by decide)⟩, fun _ => ⟨j, hj, hx⟩⟩
      · rw [ec, hx, if_neg (nI_pos (by omega)), if_neg (by rw [lit 28, leI (by omega) (by omega)]; omega)]
      · rw [ef]
        exact fit46 (r := 1) hi T
    · refine Or.inr ⟨fun S => ?_, fun T => ?_⟩
      · rw [ec]
        by_cases y : v < 0
        · rw [if_pos y]
        · rw [if_neg y, if_pos (show (28 : Int32) ≤ v from z.resolve_left y)]
      · rw [ef]
        exact fit46 (r := 0) hi T
  | j + 6, v, h => absurd h (by omega)
theorem rc_tok {p len : Nat} {k v : Int32} (h : Rc S T) (hp : p < 20) (hl : len < 24) (hL : S.1 4 p = nI len) (hk : okT k v) : Rc (si (si (si S 2 (24 * p + len) k) 3 (24 * p + len) v) 4 p (nI (len + 1))) (si (si (si T 1 (24 * p + len) k) 2 (24 * p + len) v) 3 p (nI (len + 1))) := by
  obtain ⟨n, h1, h2, h3, h4, h5, h6, h7, h8⟩ := h
  refine ⟨n, q_tl (q_tn (q_tk h1 _ _) _ _) _ _, ?_, h3, h4, h5, h6, h7, h8⟩
  intro p' hp'
  obtain ⟨m, hm, hM, hO⟩ := h2 p' hp'
  show ∃ n, n ≤ 24 ∧ upd (S.1 4) p (nI (len + 1)) p' = nI n ∧ ∀ j, j < n → okT (upd (S.1 2) (24 * p + len) k (24 * p' + j)) (upd (S.1 3) (24 * p + len) v (24 * p' + j))
  by_cases e : p' = p
  · subst e
    have : m = len := by
      rw [hL, eqI (by omega) (by omega)] at hM
      exact hM.symm
    subst this
    refine ⟨m + 1, by omega, upd_s _ _ _, fun j hj => ?_⟩
    by_cases ej : j = m
    · rw [ej, upd_s, upd_s]; exact hk
    · rw [upd_n _ _ (by omega), upd_n _ _ (by omega)]; exact hO j (by omega)
  · refine ⟨m, hm, by rw [upd_n _ _ e]; exact hM, fun j hj => ?_⟩
    rw [upd_n _ _ (by omega), upd_n _ _ (by omega)]; exact hO j hj
theorem token_eq (p1 p2 p3 : Int32) (S T : St) (h : Rc S T) : ∃ (v : Int32) (S1 T1 : St), fX7_token_0 p1 p2 p3 S = some (v, S1) ∧ fX8_token_0 p1 p2 p3 T = some (v, T1) ∧ Rc S1 T1 := by
  have hx := rc_x h 0
  unfold fX7_token_0 fX8_token_0
  rw [stp_x]
  rcases has_p p1 with ⟨p, hp, hP, hS, hT⟩ | ⟨hS, hT⟩
  · rw [hS, bnd_x, if_neg (show ¬ (1 : Int32) = 0 by decide), hT, bnd_x, if_neg (show ¬ (1 : Int32) = 0 by decide)]
    rcases in_or p2 (N := 6) (by omega) (by omega) with ⟨j, hj, hJ, hi⟩ | ⟨z, hi⟩
    · have hi : ∀ T, fX8_in p2 0 5 T = some (1, T) := hi
      rw [hi, bnd_x, if_neg (show ¬ (1 : Int32) = 0 by decide), hJ, if_neg (nI_pos (by omega)), if_pos (by rw [lit 5, leI (by omega) (by omega)]; omega)]
      rcases knd j p3 hj with ⟨k1, k2, k3⟩ | ⟨k1, k2⟩
      · rw [k1, bnd_x, if_neg (show ¬ (1 : Int32) = 0 by decide), k2, bnd_x, if_neg (show ¬ (1 : Int32) = 0 by decide), hP, len1 hp, bnd_x, if_pos (vqI (by omega) (by omega))]
        obtain ⟨n, h1, h2, -⟩ := id h
        obtain ⟨len, hl, hL, -⟩ := h2 p hp
        have hL2 : (si T 0 0 0).1 3 p = nI len := by
          show T.1 3 p = nI len
          rw [← h1.2.2.1]; exact hL
        simp only [nI_clamp (show p < 2 ^ 31 by omega), hL2, hL]
        by_cases z : len = 24
        · subst z
          rw [if_neg (show ¬ nI 24 < 24 by decide), if_pos (show nI 24 = 24 from rfl)]
          exact ⟨_, _, _, rfl, rfl, hx⟩
        · rw [if_pos (by rw [lit 24, ltI (by omega) (by omega)]; omega), if_neg (by rw [lit 24, eqI (by omega) (by omega)]; exact z), if_pos (vqI (by omega) (by omega)), (tix hp (by omega)).2, stv_x, if_pos (vqI (by omega) (by omega)), stp_x, if_pos (vqI (by omega) (by omega)), stp_x, if_pos (vqI (by omega) (by omega)), if_pos (vqI (by omega) (by omega)), nI_clamp (show 24 * p + len < 2 ^ 31 by omega), stp_x, if_pos (vqI (by omega) (by omega))]
          have e1 : (si (si (si T 0 0 0) 1 (24 * p + len) (nI j)) 2 (24 * p + len) p3).1 3 p = nI len := hL2
          rw [e1, nI_1]
          have e2 : (si (si (si (si T 0 0 0) 1 (24 * p + len) (nI j)) 2 (24 * p + len) p3) 3 p (nI (len + 1))).1 3 p = nI (len + 1) := upd_s _ _ _
          rw [e2]
          have ea : fX4_append_1 (nI p) (nI j) p3 S = some (nI (len + 1), si (si (si S 2 (24 * p + len) (nI j)) 3 (24 * p + len) p3) 4 p (nI (len + 1))) := by
            unfold fX4_append_1
            rw [← hP, hS, hP, bnd_x, if_neg (show ¬ (1 : Int32) = 0 by decide), if_pos (vqI (by omega) (by omega))]
            simp only [nI_clamp (show p < 2 ^ 31 by omega), hL]
            rw [if_pos (by rw [lit 24, ltI (by omega) (by omega)]; omega), if_pos (vqI (by omega) (by omega)), (tix hp (by omega)).1, stv_x, if_pos (vqI (by omega) (by omega)), stp_x, if_pos (vqI (by omega) (by omega)), stp_x, if_pos (vqI (by omega) (by omega)), if_pos (vqI (by omega) (by omega)), nI_clamp (show 24 * p + len < 2 ^ 31 by omega), stp_x, if_pos (vqI (by omega) (by omega))]
            have e1 : (si (si S 2 (24 * p + len) (nI j)) 3 (24 * p + len) p3).1 4 p = nI len := hL
            rw [e1, nI_1]
            have e2 : (si (si (si S 2 (24 * p + len) (nI j)) 3 (24 * p + len) p3) 4 p (nI (len + 1))).1 4 p = nI (len + 1) := upd_s _ _ _
            rw [e2]
          rw [ea, bnd_x]
          exact ⟨_, _, _, rfl, rfl, rc_tok hx hp (by omega) hL k3⟩
      · rw [k1, bnd_x, if_pos rfl, k2, bnd_x, if_pos rfl]
        exact ⟨_, _, _, rfl, rfl, hx⟩
    · have hi : ∀ T, fX8_in p2 0 5 T = some (0, T) := hi
      rw [hi, bnd_x, if_pos rfl]
      refine ⟨-1, S, si T 0 0 0, ?_, rfl, hx⟩
      by_cases y : p2 < 0
      · rw [if_pos y]; rfl
      · have y2 := z.resolve_left y
        have y3 : ¬ p2 ≤ 5 := by
          rw [Int32.le_iff_toInt_le] at y2 ⊢
          have i6 : (nI 6).toInt = 6 := by decide
          have i5 : (5 : Int32).toInt = 5 := by decide
          omega
        rw [if_neg y, if_neg y3]; rfl
  · rw [hS, bnd_x, if_pos rfl, hT, bnd_x, if_pos rfl]
    exact ⟨_, _, _, rfl, rfl, hx⟩
theorem clear_eq (p1 : Int32) (S T : St) (h : Rc S T) : ∃ (v : Int32) (S1 T1 : St), fX7_clear_0 p1 S = some (v, S1) ∧ fX8_clear_0 p1 T = some (v, T1) ∧ Rc S1 T1 := by
  have hx := rc_x h 0
  unfold fX7_clear_0 fX8_clear_0 fX4_wipe_1
  rw [stp_x]
  rcases has_p p1 with ⟨p, hp, hP, hS, hT⟩ | ⟨hS, hT⟩
  · have e3 : (si T 0 0 0).1 3 p = S.1 4 p := (congrFun h.choose_spec.1.2.2.1 p).symm
    rw [hS, bnd_x, if_neg (show ¬ (1 : Int32) = 0 by decide), hT, bnd_x, if_neg (show ¬ (1 : Int32) = 0 by decide), hP, len1 hp, bnd_x, ← hP, hS, bnd_x, if_neg (show ¬ (1 : Int32) = 0 by decide), hP, if_pos (vqI (by omega) (by omega)), if_pos (vqI (by omega) (by omega)), stv_x, if_pos (vqI (by omega) (by omega)), nI_clamp (by omega), e3]
    refine ⟨S.1 4 p, _, _, rfl, rfl, ?_⟩
    obtain ⟨n, h1, h2, h3, h4, h5, h6, h7, h8⟩ := hx
    refine ⟨n, q_tl h1 p 0, ?_, h3, h4, h5, h6, h7, h8⟩
    intro p' hp'
    show ∃ n, n ≤ 24 ∧ upd (S.1 4) p 0 p' = nI n ∧ ∀ j, j < n → okT (S.1 2 (24 * p' + j)) (S.1 3 (24 * p' + j))
    by_cases e : p' = p
    · exact ⟨0, by omega, by rw [e, upd_s]; rfl, fun j hj => absurd hj (by omega)⟩
    · rw [upd_n _ _ e]; exact h2 p' hp'
  · rw [hS, bnd_x, if_pos rfl, hT, bnd_x, if_pos rfl]
    exact ⟨_, _, _, rfl, rfl, hx⟩
theorem rc_put {n : Nat} {k v : Int32} (h : Rc S T) (hN : S.1 5 2 = nI n) (hn : n < 60) (hv : okV k v) : Rc (cPut S n k v) (mPut T n k v) := by
  obtain ⟨m, h1, h2, h3, h4, h5, h6, h7, h8⟩ := h
  have e := h3.2.1
  rw [hN, eqI (by omega) (by have := h3.1; omega)] at e
  subst e
  refine ⟨n + 1, q_sz (q_pn (q_pk h1 n k) n v) (nI (n + 1)), h2, ⟨by omega, rfl, ?_⟩, h4, h5, h6, h7, h8⟩
  intro i hi
  show okV (upd (S.1 6) n k i) (upd (S.1 7) n v i)
  by_cases e : i = n
  · rw [e, upd_s, upd_s]; exact hv
  · rw [upd_n _ _ e, upd_n _ _ e]; exact h3.2.2 i (by omega)
theorem push_eq (p1 p2 : Int32) (S T : St) (h : Rc S T) : ∃ (v : Int32) (S1 T1 : St), fX7_push_0 p1 p2 S = some (v, S1) ∧ fX8_push_0 p1 p2 T = some (v, T1) ∧ Rc S1 T1 := by
  have hx := rc_x h 0
  obtain ⟨n, g3, g1, g2⟩ := rc_n h
  have g2 : (si T 0 0 0).1 0 6 = nI n := g2
  unfold fX7_push_0 fX8_push_0
  rw [stp_x]
  rcases in_or p1 (N := 5) (by omega) (by omega) with ⟨j, hj, hJ, hi⟩ | ⟨z, hi⟩
  · have hi : ∀ T, fX8_in p1 0 4 T = some (1, T) := hi
    rw [hi, bnd_x, if_neg (show ¬ (1 : Int32) = 0 by decide), hJ, if_neg (nI_pos (by omega)), if_pos (by rw [lit 4, leI (by omega) (by omega)]; omega)]
    rcases knd j p2 (by omega) with ⟨k1, k2, k3⟩ | ⟨k1, k2⟩
    · rw [k1, bnd_x, if_neg (show ¬ (1 : Int32) = 0 by decide), k2, bnd_x, if_neg (show ¬ (1 : Int32) = 0 by decide), g2]
      by_cases hn : n = 60
      · subst hn
        rw [put0 g1, bnd_x, if_pos rfl, if_pos (show nI 60 = 60 from rfl)]
        exact ⟨_, _, _, rfl, rfl, hx⟩
      · rw [put1 g1 (by omega), bnd_x, if_neg (show ¬ (1 : Int32) = 0 by decide), cnt, bnd_x, if_neg (by rw [lit 60, eqI (by omega) (by omega)]; exact hn), lay g2 (by omega), bnd_x]
        exact ⟨nI (n + 1), _, _, rfl, rfl, rc_put hx g1 (by omega) k3.1⟩
    · rw [k1, bnd_x, if_pos rfl, k2, bnd_x, if_pos rfl]
      exact ⟨_, _, _, rfl, rfl, hx⟩
  · have hi : ∀ T, fX8_in p1 0 4 T = some (0, T) := hi
    rw [hi, bnd_x, if_pos rfl]
    refine ⟨-1, S, si T 0 0 0, ?_, rfl, hx⟩
    by_cases y : p1 < 0
    · rw [if_pos y]; rfl
    · have y2 := z.resolve_left y
      have y3 : ¬ p1 ≤ 4 := by
        rw [Int32.le_iff_toInt_le] at y2 ⊢
        have i6 : (nI 5).toInt = 5 := by decide
        have i5 : (4 : Int32).toInt = 4 := by decide
        omega
      rw [if_neg y, if_neg y3]; rfl
theorem drop_eq (S T : St) (h : Rc S T) : ∃ (v : Int32) (S1 T1 : St), fX7_drop_0 S = some (v, S1) ∧ fX8_drop_0 T = some (v, T1) ∧ Rc S1 T1 := by
  have hx := rc_x h 0
  obtain ⟨n, g3, g1, g2⟩ := rc_n h
  have g2 : (si T 0 0 0).1 0 6 = nI n := g2
  unfold fX7_drop_0 fX8_drop_0
  rw [cnt, bnd_x, g1, tko g1 g3 (by omega), bnd_x, stp_x, stv_x, g2, stp_x, show n - n = 0 by omega]
  refine ⟨_, _, _, rfl, rfl, ?_⟩
  obtain ⟨m, h1, h2, h3, h4, h5, h6, h7, h8⟩ := hx
  exact ⟨0, q_sz h1 0, h2, ⟨by omega, rfl, fun i hi => absurd hi (by omega)⟩, h4, h5, h6, h7, h8⟩
theorem interrupt_eq (S T : St) (h : Rc S T) : ∃ (v : Int32) (S1 T1 : St), fX7_interrupt_0 S = some (v, S1) ∧ fX8_interrupt_0 T = some (v, T1) ∧ Rc S1 T1 := by
  have hx := rc_x h 0
  obtain ⟨m, h1, h2, h3, h4, h5, h6, h7, h8⟩ := hx
  have e : (si T 0 0 0).1 0 18 = S.1 0 7 := h1.2.2.2.2.2.2.2.2.2.2.2.2.2.2.2.2.2.2.2.2.1.symm
  have hR : Rc (si S 0 7 1) (si (si T 0 0 0) 0 18 1) := ⟨m, q_it h1 1, h2, h3, h4, h5, ⟨Or.inr rfl, h6.2⟩, h7, h8⟩
  unfold fX7_interrupt_0 fX8_interrupt_0
  rw [stp_x, stp_x, stv_x, stp_x, e]
  by_cases z : S.1 0 7 = 0
  · rw [if_pos z, if_pos z]
    exact ⟨_, _, _, rfl, rfl, hR⟩
  · rw [if_neg z, if_neg z]
    refine ⟨0, _, _, rfl, rfl, ?_⟩
    have : si S 0 7 1 = S := si_id (h6.1.resolve_left z)
    rw [this] at hR
    exact hR
theorem size_eq (S T : St) (h : Rc S T) : ∃ (v : Int32) (S1 T1 : St), fX7_size_0 S = some (v, S1) ∧ fX8_size_0 T = some (v, T1) ∧ Rc S1 T1 := by
  have hx := rc_x h 0
  obtain ⟨n, g3, g1, g2⟩ := rc_n h
  refine ⟨nI n, S, si T 0 0 0, ?_, ?_, hx⟩
  · unfold fX7_size_0
    rw [cnt, bnd_x, g1]
  · unfold fX8_size_0
    rw [stp_x]
    show some (T.1 0 6, _) = _
    rw [g2]
theorem kn_or (x : Int32) : ((x = 0 ∨ x = 1) ∧ (∀ S, fX7_isKindOrNumber x S = some (1, S)) ∧ ∀ T, fX8_in x 0 1 T = some (1, T)) ∨ ((∀ S, fX7_isKindOrNumber x S = some (0, S)) ∧ ∀ T, fX8_in x 0 1 T = some (0, T)) := by
  rcases in_or x (N := 2) (by omega) (by omega) with ⟨j, hj, hx, hi⟩ | ⟨z, hi⟩
  · have hj : j = 0 ∨ j = 1 := by omega
    rcases hj with rfl | rfl
    · exact Or.inl ⟨Or.inl hx, fun S => by rw [hx]; rfl, hi⟩
    · exact Or.inl ⟨Or.inr hx, fun S => by rw [hx]; rfl, hi⟩
  · refine Or.inr ⟨fun S => ?_, hi⟩
    have n0 : ¬ x = 0 := fun e => by rw [e] at z; exact absurd z (by decide)
    have n1 : ¬ x = 1 := fun e => by rw [e] at z; exact absurd z (by decide)
    unfold fX7_isKindOrNumber
    rw [if_neg n0, if_neg n1]
theorem in_n (x : Int32) {n : Nat} (hn : n ≤ 60) : (∃ j, j < n ∧ x = nI j ∧ ∀ T, fX8_in x 0 (nI n - 1) T = some (1, T)) ∨ ((x < 0 ∨ nI n ≤ x) ∧ ∀ T, fX8_in x 0 (nI n - 1) T = some (0, T)) := by
  by_cases z : n = 0
  · subst z
    refine Or.inr ⟨?_, fun T => ?_⟩
    · by_cases y : x < 0
      · exact Or.inl y
      · exact Or.inr (Int32.not_lt.mp y)
    · unfold fX8_in fX8_in_14
      by_cases y : x < 0
      · rw [if_pos y]
      · rw [if_neg y, if_pos (Int32.lt_of_lt_of_le (show nI 0 - 1 < 0 by decide) (Int32.not_lt.mp y))]
  · rw [lit 1, subI (by omega)]
    exact in_or x (by omega) (by omega)
theorem value_eq (p1 p2 : Int32) (S T : St) (h : Rc S T) : ∃ (x : Option Int32) (S1 : St) (y : Int32) (T1 : St), fX7_value_0 p1 p2 S = some (x, S1) ∧ fX8_value_0 p1 p2 T = some (y, T1) ∧ Rc S1 T1 ∧ sameX x y T1 := by
  obtain ⟨n, g3, g1, g2⟩ := rc_n h
  have hE := h.choose_spec.1
  unfold fX7_value_0 fX8_value_0 fX2_has_5 fX2_has_5_16
  rw [g2, g1]
  have bad : fX8_value_0_28 p1 p2 T = some (0, si T 0 0 1) := by
    unfold fX8_value_0_28 fX8_value_0_29
    rw [stp_x, if_neg (show ¬ (si T 0 0 1).1 0 0 ≤ 0 from (by decide : ¬ (1 : Int32) ≤ 0))]
  rcases in_n p1 g3 with ⟨j, hj, hJ, hi⟩ | ⟨z, hi⟩
  · rw [hi, bnd_x, if_neg (show ¬ (1 : Int32) = 0 by decide), hJ, if_neg (nI_pos (by omega)), if_neg (by rw [leI (by omega) (by omega)]; omega), bnd_x, if_neg (show ¬ (1 : Int32) = 0 by decide)]
    rcases kn_or p2 with ⟨k0, k1, k2⟩ | ⟨k1, k2⟩
    · rw [k1, bnd_x, if_neg (show ¬ (1 : Int32) = 0 by decide), k2, bnd_x, if_neg (show ¬ (1 : Int32) = 0 by decide)]
      unfold fX8_value_0_29
      rw [stp_x, if_pos (show (si T 0 0 0).1 0 0 ≤ 0 from (by decide : (0 : Int32) ≤ 0)), if_pos (vqI (by omega) (by omega)), if_pos (vqI (by omega) (by omega)), nI_clamp (by omega)]
      by_cases y : p2 = 0
      · rw [if_pos y, if_pos y]
        refine ⟨some (S.1 6 j), S, _, _, ?_, rfl, rc_x h 0, rfl, congrFun hE.2.2.2.2.1 j⟩
        unfold fX2_kindAt_5
        rw [if_neg (nI_pos (by omega)), g1, if_neg (by rw [leI (by omega) (by omega)]; omega), if_pos (vqI (by omega) (by omega)), nI_clamp (by omega), bnd_x]
      · rw [if_neg y, if_neg y]
        refine ⟨some (S.1 7 j), S, _, _, ?_, rfl, rc_x h 0, rfl, congrFun hE.2.2.2.2.2.1 j⟩
        unfold fX2_numberAt_5
        rw [if_neg (nI_pos (by omega)), g1, if_neg (by rw [leI (by omega) (by omega)]; omega), if_pos (vqI (by omega) (by omega)), nI_clamp (by omega), bnd_x]
    · rw [k1, bnd_x, if_pos rfl, k2, bnd_x, if_pos rfl, ← hJ, bad]
      exact ⟨none, S, _, _, rfl, rfl, rc_x h 1, rfl⟩
  · rw [hi, bnd_x, if_pos rfl, bad]
    refine ⟨none, S, _, _, ?_, rfl, rc_x h 1, rfl⟩
    by_cases y : p1 < 0
    · rw [if_pos y, bnd_x, if_pos rfl]; rfl
    · rw [if_neg y, if_pos (z.resolve_left y), bnd_x, if_pos rfl]; rfl
theorem kept_eq (p1 p2 : Int32) (S T : St) (h : Rc S T) : ∃ (x : Option Int32) (S1 : St) (y : Int32) (T1 : St), fX7_kept_0 p1 p2 S = some (x, S1) ∧ fX8_kept_0 p1 p2 T = some (y, T1) ∧ Rc S1 T1 ∧ sameX x y T1 := by
  obtain ⟨_, hE, -, -, -, -, -, ⟨n, g3, g1⟩, -⟩ := id h
  have g2 : T.1 0 16 = nI n := hE.2.2.2.2.2.2.2.2.2.2.2.2.2.2.2.2.2.1 ▸ g1
  unfold fX7_kept_0 fX8_kept_0 fX2_has_21 fX2_has_21_16 fX5_pile_20
  rw [bnd_x, g2, g1]
  have bad : fX8_kept_0_28 p1 p2 T = some (0, si T 0 0 1) := by
    unfold fX8_kept_0_28 fX8_kept_0_29
    rw [stp_x, if_neg (show ¬ (si T 0 0 1).1 0 0 ≤ 0 from (by decide : ¬ (1 : Int32) ≤ 0))]
  rcases in_n p1 g3 with ⟨j, hj, hJ, hi⟩ | ⟨z, hi⟩
  · rw [hi, bnd_x, if_neg (show ¬ (1 : Int32) = 0 by decide), hJ, if_neg (nI_pos (by omega)), if_neg (by rw [leI (by omega) (by omega)]; omega), bnd_x, if_neg (show ¬ (1 : Int32) = 0 by decide)]
    rcases kn_or p2 with ⟨k0, k1, k2⟩ | ⟨k1, k2⟩
    · rw [k1, bnd_x, if_neg (show ¬ (1 : Int32) = 0 by decide), k2, bnd_x, bnd_x, bnd_x, if_neg (show ¬ (1 : Int32) = 0 by decide)]
      unfold fX8_kept_0_29
      rw [stp_x, if_pos (show (si T 0 0 0).1 0 0 ≤ 0 from (by decide : (0 : Int32) ≤ 0)), if_pos (vqI (by omega) (by omega)), if_pos (vqI (by omega) (by omega)), nI_clamp (by omega)]
      by_cases y : p2 = 0
      · rw [if_pos y, if_pos y]
        refine ⟨some (S.1 22 j), S, _, _, ?_, rfl, rc_x h 0, rfl, congrFun hE.2.2.2.2.2.2.2.2.2.2.2.2.2.2.2.2.2.2.1 j⟩
        unfold fX2_kindAt_21
        rw [if_neg (nI_pos (by omega)), g1, if_neg (by rw [leI (by omega) (by omega)]; omega), if_pos (vqI (by omega) (by omega)), nI_clamp (by omega), bnd_x]
      · rw [if_neg y, if_neg y]
        refine ⟨some (S.1 23 j), S, _, _, ?_, rfl, rc_x h 0, rfl, congrFun hE.2.2.2.2.2.2.2.2.2.2.2.2.2.2.2.2.2.2.2.1 j⟩
        unfold fX2_numberAt_21
        rw [if_neg (nI_pos (by omega)), g1, if_neg (by rw [leI (by omega) (by omega)]; omega), if_pos (vqI (by omega) (by omega)), nI_clamp (by omega), bnd_x]
    · rw [k1, bnd_x, if_pos rfl, k2, bnd_x, if_pos rfl, ← hJ, bad]
      exact ⟨none, S, _, _, rfl, rfl, rc_x h 1, rfl⟩
  · rw [hi, bnd_x, if_pos rfl, bad]
    refine ⟨none, S, _, _, ?_, rfl, rc_x h 1, rfl⟩
    by_cases y : p1 < 0
    · rw [if_pos y, bnd_x, if_pos rfl]; rfl
    · rw [if_neg y, if_pos (z.resolve_left y), bnd_x, if_pos rfl]; rfl
theorem handler_eq (p1 : Int32) (S T : St) (h : Rc S T) : ∃ (x : Option Int32) (S1 : St) (y : Int32) (T1 : St), fX7_handler_0 p1 S = some (x, S1) ∧ fX8_handler_0 p1 T = some (y, T1) ∧ Rc S1 T1 ∧ sameX x y T1 := by
  have hE := h.choose_spec.1
  have bad : fX8_handler_0_16 p1 1 T = some (0, si T 0 0 1) := by
    unfold fX8_handler_0_16
    rw [stp_x, if_neg (show ¬ (si T 0 0 1).1 0 0 ≤ 0 from (by decide : ¬ (1 : Int32) ≤ 0))]
  unfold fX7_handler_0 fX8_handler_0 fX1_has_11 fX1_has_11_15 fX8_in fX8_in_14
  by_cases z1 : p1 < 1
  · rw [if_pos z1, if_pos z1, bnd_x, bnd_x, if_pos rfl, if_pos rfl, bad]
    exact ⟨none, S, _, _, rfl, rfl, rc_x h 1, rfl⟩
  · rw [if_neg z1, if_neg z1]
    by_cases z2 : 11 < p1
    · rw [if_pos z2, if_pos z2, bnd_x, bnd_x, if_pos rfl, if_pos rfl, bad]
      exact ⟨none, S, _, _, rfl, rfl, rc_x h 1, rfl⟩
    · rw [if_neg z2, if_neg z2, bnd_x, bnd_x, if_neg (show ¬ (1 : Int32) = 0 by decide), if_neg (show ¬ (1 : Int32) = 0 by decide)]
      have i1 : (1 : Int32).toInt = 1 := by decide
      have i0 : (0 : Int32).toInt = 0 := by decide
      have i11 : (11 : Int32).toInt = 11 := by decide
      have i12 : (nI 12).toInt = 12 := by decide
      rw [Int32.lt_iff_toInt_lt, i1] at z1
      rw [Int32.lt_iff_toInt_lt, i11] at z2
      have : ∃ e, 1 ≤ e ∧ e ≤ 11 ∧ p1 = nI e := by
        rcases pk_ix p1 (n := 12) (by omega) with z | z | ⟨j, hj, rfl⟩
        · rw [Int32.lt_iff_toInt_lt, i0] at z; omega
        · rw [Int32.le_iff_toInt_le, i12] at z; omega
        · rw [nI_toInt (by omega)] at z1
          exact ⟨j, by omega, by omega, rfl⟩
      obtain ⟨e, e1, e2, rfl⟩ := this
      unfold fX8_handler_0_16
      rw [ofh e1 e2, bnd_x, stp_x, if_pos (show (si T 0 0 0).1 0 0 ≤ 0 from (by decide : (0 : Int32) ≤ 0)), if_pos (vqI (by omega) (by omega)), nI_clamp (by omega)]
      exact ⟨some (S.1 12 e), S, _, _, rfl, rfl, rc_x h 0, rfl, congrFun hE.2.2.2.2.2.2.2.2.1 e⟩
theorem named_eq (p1 p2 : Int32) (S T : St) (h : Rc S T) : ∃ (x : Option Int32) (S1 : St) (y : Int32) (T1 : St), fX7_named_0 p1 p2 S = some (x, S1) ∧ fX8_named_0 p1 p2 T = some (y, T1) ∧ Rc S1 T1 ∧ sameX x y T1 := by
  obtain ⟨_, hE, -, -, hTab, -⟩ := id h
  unfold fX7_named_0 fX8_named_0 fX6_has_8 fX6_has_8_14
  have bad : fX8_named_0_24 p1 p2 T = some (0, si T 0 0 1) := by
    unfold fX8_named_0_24 fX8_named_0_25
    rw [stp_x, if_neg (show ¬ (si T 0 0 1).1 0 0 ≤ 0 from (by decide : ¬ (1 : Int32) ≤ 0))]
  rcases in_or p1 (N := 40) (by omega) (by omega) with ⟨j, hj, hJ, hi⟩ | ⟨z, hi⟩
  · have hi : ∀ T, fX8_in p1 0 39 T = some (1, T) := hi
    rw [hi, bnd_x, if_neg (show ¬ (1 : Int32) = 0 by decide), hJ, if_neg (nI_pos (by omega)), if_neg (by rw [lit 40, leI (by omega) (by omega)]; omega), bnd_x, if_neg (show ¬ (1 : Int32) = 0 by decide)]
    rcases kn_or p2 with ⟨k0, k1, k2⟩ | ⟨k1, k2⟩
    · rw [k1, bnd_x, if_neg (show ¬ (1 : Int32) = 0 by decide), k2, bnd_x, if_neg (show ¬ (1 : Int32) = 0 by decide)]
      unfold fX8_named_0_25
      rw [stp_x, if_pos (show (si T 0 0 0).1 0 0 ≤ 0 from (by decide : (0 : Int32) ≤ 0)), if_pos (vqI (by omega) (by omega)), if_pos (vqI (by omega) (by omega)), if_pos (vqI (by omega) (by omega)), nI_clamp (by omega)]
      have e6 : (si T 0 0 0).1 6 j = S.1 9 j := (congrFun hE.2.2.2.2.2.2.1 j).symm
      by_cases y : p2 = 0
      · rw [if_pos y, if_pos y, kof hj, bnd_x, e6]
        exact ⟨some (S.1 9 j), S, _, _, rfl, rfl, rc_x h 0, rfl, rfl⟩
      · rw [if_neg y, if_neg y, nof hj, bnd_x, e6]
        by_cases w : S.1 9 j = -1
        · rw [if_pos w]
          refine ⟨some (S.1 10 j), S, _, _, rfl, rfl, rc_x h 0, rfl, ?_⟩
          rcases hTab j hj with q | q
          · exact q.2
          · exact absurd w q.1
        · rw [if_neg w]
          exact ⟨some (S.1 10 j), S, _, _, rfl, rfl, rc_x h 0, rfl, hE.2.2.2.2.2.2.2.1 j hj w⟩
    · rw [k1, bnd_x, if_pos rfl, k2, bnd_x, if_pos rfl, ← hJ, bad]
      exact ⟨none, S, _, _, rfl, rfl, rc_x h 1, rfl⟩
  · have hi : ∀ T, fX8_in p1 0 39 T = some (0, T) := hi
    rw [hi, bnd_x, if_pos rfl, bad]
    refine ⟨none, S, _, _, ?_, rfl, rc_x h 1, rfl⟩
    by_cases y : p1 < 0
    · rw [if_pos y, bnd_x, if_pos rfl]; rfl
    · rw [if_neg y, if_pos (show (40 : Int32) ≤ p1 from z.resolve_left y), bnd_x, if_pos rfl]; rfl
theorem record_eq (p1 : Int32) (S T : St) (h : Rc S T) : ∃ (x : Option Int32) (S1 : St) (y : Int32) (T1 : St), fX7_record_0 p1 S = some (x, S1) ∧ fX8_record_0 p1 T = some (y, T1) ∧ Rc S1 T1 ∧ sameX x y T1 := by
  obtain ⟨_, hE, -, -, -, -, -, -, h09⟩ := id h
  have h7 : S.1 13 7 = T.1 0 27 := hE.2.2.2.2.2.2.2.2.2.2.2.1
  have h8 : S.1 0 10 = T.1 0 28 := hE.2.2.2.2.2.2.2.2.2.2.2.2.2.2.2.2.2.2.2.2.2
  unfold fX7_record_0 fX8_record_0
  have bad : fX8_record_0_16 p1 1 T = some (0, si T 0 0 1) := by
    unfold fX8_record_0_16
    rw [stp_x, if_neg (show ¬ (si T 0 0 1).1 0 0 ≤ 0 from (by decide : ¬ (1 : Int32) ≤ 0))]
  rcases in_or p1 (N := 9) (by omega) (by omega) with ⟨j, hj, hJ, hi⟩ | ⟨z, hi⟩
  · have hi : ∀ T, fX8_in p1 0 8 T = some (1, T) := hi
    rw [hi, bnd_x, if_neg (show ¬ (1 : Int32) = 0 by decide), hJ]
    unfold fX8_record_0_16
    rw [stp_x, if_pos (show (si T 0 0 0).1 0 0 ≤ 0 from (by decide : (0 : Int32) ≤ 0))]
    by_cases j6 : j < 6
    · rw [(has_j j j6).1, bnd_x, if_neg (show ¬ (1 : Int32) = 0 by decide), if_neg (by rw [lit 6, leI (by omega) (by omega)]; omega)]
      obtain ⟨v, v1, v2⟩ := told_j (S := S) (T := si T 0 0 0) hE ((si T 0 0 0).1 0 6) j j6
      rw [si_self] at v2
      rw [v1, bnd_x, v2, bnd_x]
      exact ⟨some v, S, v, _, rfl, rfl, rc_x h 0, rfl, rfl⟩
    · rw [if_pos (by rw [lit 6, leI (by omega) (by omega)]; omega)]
      have : j = 6 ∨ j = 7 ∨ j = 8 := by omega
      rcases this with rfl | rfl | rfl
      · rw [show fX5_has_20 (nI 6) S = some (0, S) from rfl, bnd_x, if_pos rfl, if_pos (by decide), if_pos (by decide)]
        exact ⟨_, S, _, _, rfl, rfl, rc_x h 0, rfl, h09⟩
      · rw [show fX5_has_20 (nI 7) S = some (0, S) from rfl, bnd_x, if_pos rfl, if_neg (by decide), if_pos (by decide), if_neg (by decide), if_pos (by decide)]
        exact ⟨some (S.1 13 7), S, _, _, rfl, rfl, rc_x h 0, rfl, h7⟩
      · rw [show fX5_has_20 (nI 8) S = some (0, S) from rfl, bnd_x, if_pos rfl, if_neg (by decide), if_neg (by decide), if_pos (by decide), if_neg (by decide), if_neg (by decide)]
        exact ⟨_, S, _, _, rfl, rfl, rc_x h 0, rfl, h8⟩
  · have hi : ∀ T, fX8_in p1 0 8 T = some (0, T) := hi
    rw [hi, bnd_x, if_pos rfl, bad]
    refine ⟨none, S, _, _, ?_, rfl, rc_x h 1, rfl⟩
    have n6 : ¬ p1 = 6 := fun e => by rw [e] at z; exact absurd z (by decide)
    have n7 : ¬ p1 = 7 := fun e => by rw [e] at z; exact absurd z (by decide)
    have n8 : ¬ p1 = 8 := fun e => by rw [e] at z; exact absurd z (by decide)
    rcases has_or p1 with ⟨j, hj, rfl⟩ | ⟨eS, -⟩
    · rw [leI (by omega) (by omega)] at z
      rcases z with z | z
      · exact absurd z (nI_pos (by omega))
      · omega
    · rw [eS, bnd_x, if_pos rfl, if_neg n6, if_neg n7, if_neg n8]
end CALLS
