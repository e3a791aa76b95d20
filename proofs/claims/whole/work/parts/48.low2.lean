variable {K : Int32}
section LOW2
variable {S T : St} {n d o : Nat}
theorem st_ext {A B : St} (h1 : ∀ c, A.1 c = B.1 c) (h2 : A.2 = B.2) : A = B := by
  have : A.1 = B.1 := funext h1
  cases A; cases B
  cases this; cases h2; rfl
theorem upd_id {f : Nat → Int32} {k : Nat} {v : Int32} (h : f k = v) : upd f k v = f := by rw [← h, upd_self]
theorem si_id {S : St} {c k : Nat} {v : Int32} (h : S.1 c k = v) : si S c k v = S := by rw [← h, si_self]
theorem x_num {m : Nat} {v : Int32} (h : Rx K S T n d) (hm : m < n) (hk : S.1 6 m = 1) : Rx K (si S 7 m v) (si T 5 m v) n d := by
  obtain ⟨h1, h2, h3, h4, h5, h6, h7, h8, h9⟩ := h
  refine ⟨q_pn h1 m v, h2, ⟨h3.1, h3.2.1, ?_⟩, h4, h5, h6, h7, h8, h9⟩
  intro i hi
  show okV (S.1 6 i) (upd (S.1 7) m v i)
  by_cases e : i = m
  · rw [e, hk]; exact okT1 _
  · rw [upd_n _ _ e]; exact h3.2.2 i hi
theorem op_6 (h : Rx K S T n d) (hi : S.1 0 7 = 0) : Op K (nI 6) S T := by
  refine op_mk h hi (by omega) (by omega) (by omega) (by omega) (ak_6 h) (fun hn hf => ?_)
  have hn : 1 ≤ n := hn
  have h60 := (rx_S h).2.2.1
  have f0 : S.1 6 (n - 1) = 1 := hf.1.resolve_left (by decide)
  refine Or.inr ⟨_, _, _, _, ?_, rfl, ?_, x_num (m := n - 1) (v := 1 - S.1 7 (n - 1)) h (by omega) f0⟩
  · unfold fX3_operate_24
    rw [if_neg (by decide), if_neg (by decide), if_neg (by decide), if_neg (by decide), if_neg (by decide), if_neg (by decide), if_pos (by decide), n_c0 h (by omega), bnd_x, rpa h hn, bnd_x]
    have e1 : cRep S (n - 1) 1 (1 - S.1 7 (n - 1)) = si S 7 (n - 1) (1 - S.1 7 (n - 1)) := by
      unfold cRep
      rw [show n - 1 + 1 = n by omega, si_id (rx_S h).1, si_id f0]
    rw [e1]
  · unfold fX8_work_0 fX8_handle_0
    rw [if_neg (by decide), if_neg (by decide), if_neg (by decide), stv_x, if_neg (by decide), if_neg (by decide), if_pos (by decide), ts1 h hn, if_pos (vqI (by omega) (by omega)), if_pos (vqI (by omega) (by omega)), nI_clamp (by omega), stp_x, bnd_x, ← h.1.2.2.2.2.2.1]
theorem op_9 (h : Rx K S T n d) (hi : S.1 0 7 = 0) : Op K (nI 9) S T := by
  refine op_mk h hi (by omega) (by omega) (by omega) (by omega) (ak_9 h) (fun hn hf => ?_)
  have hn : 2 ≤ n := hn
  have h60 := (rx_S h).2.2.1
  have x1 := x_rep (m := n - 2) (k := S.1 6 (n - 1)) (v := S.1 7 (n - 1)) h (by omega) (okI h (by omega))
  have x2 := x_put (k := S.1 6 (n - 2)) (v := S.1 7 (n - 2)) x1 (by omega) (okI h (by omega))
  refine Or.inr ⟨_, _, _, _, ?_, rfl, ?_, x2⟩
  · unfold fX3_operate_24 fX3_swap_24
    rw [if_neg (by decide), if_neg (by decide), if_neg (by decide), if_neg (by decide), if_neg (by decide), if_neg (by decide), if_neg (by decide), if_neg (by decide), if_neg (by decide), if_pos (by decide), k_c1 h (by omega), bnd_x, n_c1 h (by omega), bnd_x, k_c0 h (by omega), bnd_x, n_c0 h (by omega), bnd_x, rpb h hn, bnd_x, put1 (rx_S x1).1 (by omega), bnd_x, bnd_x]
  · unfold fX8_work_0 fX8_handle_0
    have e2 : nI (n - 1) - 1 = nI (n - 2) := by rw [lit 1, subI (by omega)]; rfl
    rw [if_neg (by decide), if_neg (by decide), if_neg (by decide), stv_x, if_neg (by decide), if_neg (by decide), if_neg (by decide), if_neg (by decide), if_neg (by decide), if_pos (by decide), ts1 h (by omega), e2, if_pos (vqI (by omega) (by omega)), stv_x, if_pos (vqI (by omega) (by omega)), stv_x, if_pos (vqI (by omega) (by omega)), if_pos (vqI (by omega) (by omega)), stp_x, if_pos (vqI (by omega) (by omega)), if_pos (vqI (by omega) (by omega)), stp_x, if_pos (vqI (by omega) (by omega)), stp_x, if_pos (vqI (by omega) (by omega)), stp_x, bnd_x, nI_clamp (by omega), nI_clamp (by omega)]
    have e3 : (si T 4 (n - 1) (T.1 4 (n - 2))).1 5 (n - 2) = T.1 5 (n - 2) := rfl
    rw [e3]
    have e4 := h.1.2.2.2.2.1
    have e5 := h.1.2.2.2.2.2.1
    refine congrArg (fun z => some ((0 : Int32), z)) (st_ext (fun c => ?_) rfl)
    unfold mPut
    simp only [si_1]
    by_cases c0 : c = 0
    · subst c0
      show T.1 0 = upd (upd (upd (T.1 0) 6 (nI (n - 2))) 6 (nI (n - 2 + 1))) 6 (nI (n - 2 + 1 + 1))
      rw [upd_upd, upd_upd]
      exact (upd_id (by rw [show n - 2 + 1 + 1 = n by omega]; exact (rx_S h).2.1)).symm
    · by_cases c4 : c = 4
      · subst c4
        simp [e4]
        rw [show n - 2 + 1 = n - 1 by omega, upd_comm _ _ _ (by omega)]
      · by_cases c5 : c = 5
        · subst c5
          simp [e5]
          rw [show n - 2 + 1 = n - 1 by omega, upd_comm _ _ _ (by omega)]
        · simp only [if_neg c0, if_neg c4, if_neg c5]
theorem op_10 (h : Rx K S T n d) (hi : S.1 0 7 = 0) : Op K (nI 10) S T := by
  have h60 := (rx_S h).2.2.1
  by_cases hn : 1 ≤ n
  · by_cases hf : fts S n (tkP 10) 0
    · have f0 : S.1 6 (n - 1) = 0 := hf.1.resolve_left (by decide)
      have w0 : fX8_wrong_0 (nI 10) T = if S.1 7 (n - 1) < 0 then fX8_wrong_0_39 (nI 10) T else fX8_wrong_0_40 (nI 10) 1 T := by
        unfold fX8_wrong_0
        rw [tks T 10 (by omega), bnd_x, (rx_S h).2.1, if_pos (by rw [leI (by show 1 < 2 ^ 31; omega) (by omega)]; exact hn), if_pos (by decide), k_m0 h (by omega), bnd_x, if_pos f0, n_m0 h (by omega), bnd_x]
      have hk := (ak_10 h hn).1 hf
      have w61 : fX8_wrong_0_61 (nI 10) T = fX8_wrong_0_93 (nI 10) T := by
        unfold fX8_wrong_0_61
        rw [hk, bnd_x, if_neg (by decide), if_neg (by decide), if_neg (by decide)]
      have w93 : fX8_wrong_0_93 (nI 10) T = if S.1 7 (n - 1) < 0 then some (nI 4, T) else some (0, T) := by
        unfold fX8_wrong_0_93 fX8_isInRange_0
        rw [if_pos (by decide), n_m0 h (by omega), bnd_x]
        by_cases z : S.1 7 (n - 1) < 0
        · rw [if_pos z, if_pos z, bnd_x, if_pos rfl]; rfl
        · rw [if_neg z, if_neg z, bnd_x]; rfl
      have c0 : ∀ r S1, fX3_pick_24 (S.1 7 (n - 1)) S = some (r, S1) → fX7_operate_0 tkF (nI 10) S = some (r, S1) := by
        intro r S1 hp
        refine oc_low (o := 10) h hi (by omega) hn hf ?_
        unfold fX3_operate_24
        rw [if_neg (by decide), if_neg (by decide), if_neg (by decide), if_neg (by decide), if_neg (by decide), if_neg (by decide), if_neg (by decide), if_neg (by decide), if_neg (by decide), if_neg (by decide), if_pos (by decide), n_c0 h (by omega), bnd_x, hp, bnd_x]
      by_cases hz : S.1 7 (n - 1) < 0
      · refine Or.inl ⟨4, by omega, by omega, c0 _ _ ?_, ?_⟩
        · unfold fX3_pick_24
          rw [if_neg (Int32.not_le.mpr hz)]; rfl
        · rw [w0, if_pos hz]
          show fX8_wrong_0_61 (nI 10) T = _
          rw [w61, w93, if_pos hz]
      · obtain ⟨v, hv, hV⟩ := nI_of hz
        rw [hV] at w0 w93 c0
        have w40 : fX8_wrong_0 (nI 10) T = if v + 1 < n then some (0, T) else some (nI 1, T) := by
          rw [w0, if_neg (nI_pos hv)]
          unfold fX8_wrong_0_40
          rw [if_neg (by decide), n_m0 h (by omega), bnd_x, hV, (rx_S h).2.1]
          by_cases hv1 : v + 1 < n
          · rw [if_pos hv1, lit 2, subI (by omega), if_pos (by rw [leI (by omega) (by omega)]; omega), w61, w93, if_neg (nI_pos hv)]
          · rw [if_neg hv1]
            have : ¬ nI v ≤ nI n - 2 := by
              by_cases n1 : n = 1
              · rw [n1, show nI 1 - 2 = (-1 : Int32) by decide]
                intro z
                have := Int32.lt_of_le_of_lt z m1_lt
                exact nI_pos hv this
              · rw [lit 2, subI (by omega), leI (by omega) (by omega)]; omega
            rw [if_neg this]; rfl
        by_cases hv1 : v + 1 < n
        · refine Or.inr (Or.inl ⟨_, _, _, _, c0 _ _ ?_, ?_, ?_, x_rep (m := n - 1) (k := S.1 6 (n - (v + 2))) (v := S.1 7 (n - (v + 2))) h (by omega) (okI h (by omega))⟩)
          · unfold fX3_pick_24
            rw [if_pos (nI_pos' hv), cnt, bnd_x, (rx_S h).1, lit 1, subI hn, if_pos (by rw [ltI (by omega) (by omega)]; omega), nI_add, ku (rx_S h).1 h60 (by omega), bnd_x, nu (rx_S h).1 h60 (by omega), bnd_x, show n - 1 - (v + 1) = n - (v + 2) by omega]
            rw [show fX2_replace_5 (nI 1) (S.1 6 (n - (v + 2))) (S.1 7 (n - (v + 2))) S = _ from rpa h hn, bnd_x]
          · rw [w40, if_pos hv1]
          · unfold fX8_work_0 fX8_handle_0
            have e5 : T.1 5 (n - 1) = nI v := by rw [← h.1.2.2.2.2.2.1]; exact hV
            rw [if_neg (by decide), if_neg (by decide), if_neg (by decide), stv_x, if_neg (by decide), if_neg (by decide), if_neg (by decide), if_neg (by decide), if_neg (by decide), if_neg (by decide), if_pos (by decide), ts1 h hn, if_pos (vqI (by omega) (by omega)), nI_clamp (by omega), e5, stv_x, lit 1, subI (by omega), subI (by omega), stp_x, if_pos (vqI (by omega) (by omega)), if_pos (vqI (by omega) (by omega)), nI_clamp (by omega), lyn (by omega), bnd_x, bnd_x, show n - 1 - 1 - v = n - (v + 2) by omega]
            show some ((0 : Int32), mPut (si T 0 6 (nI (n - 1))) (n - 1) (T.1 4 (n - (v + 2))) (T.1 5 (n - (v + 2)))) = _
            rw [← h.1.2.2.2.2.1, ← h.1.2.2.2.2.2.1]
        · refine Or.inl ⟨1, by omega, by omega, c0 _ _ ?_, ?_⟩
          · unfold fX3_pick_24
            rw [if_pos (nI_pos' hv), cnt, bnd_x, (rx_S h).1, lit 1, subI hn, if_neg (by rw [ltI (by omega) (by omega)]; omega)]
          · rw [w40, if_neg hv1]
    · have f0 : ¬ S.1 6 (n - 1) = 0 := fun z => hf ⟨Or.inr z, trivial⟩
      refine Or.inl ⟨3, by omega, by omega, oc_err h hi (by omega) (by omega) (by omega) (mf_bad _ _ _ (by show 0 + 1 ≤ n; omega) hf), ?_⟩
      unfold fX8_wrong_0
      rw [tks T 10 (by omega), bnd_x, (rx_S h).2.1, if_pos (by rw [leI (by show 1 < 2 ^ 31; omega) (by omega)]; exact hn), if_pos (by decide), k_m0 h (by omega), bnd_x, if_neg f0]
      show fX8_wrong_0_61 (nI 10) T = _
      unfold fX8_wrong_0_61
      rw [(ak_10 h hn).2 hf, bnd_x, if_pos rfl]; rfl
  · exact op_few h hi (by omega) (by show n < 1; omega)
theorem mk_eq (h : Rx K S T n d) : last (fun i => S.1 6 i = 3) n = last (fun i => T.1 4 i = 3) n := by rw [h.1.2.2.2.2.1]
theorem w83 (h : Rx K S T n d) (o : Int32) : fX8_wrong_0_83 o T = if last (fun i => S.1 6 i = 3) n = none then some (nI 7, T) else fX8_wrong_0_93 o T := by
  have h60 := (rx_S h).2.2.1
  unfold fX8_wrong_0_83
  rw [mrk (rx_S h).2.1 h60, bnd_x, ← mk_eq h]
  cases hc : last (fun i => S.1 6 i = 3) n with
  | none => rw [if_pos rfl, if_neg (by decide)]; rfl
  | some i =>
    have := last_lt hc
    rw [show lastv (some i) = nI i from rfl, if_pos (nI_pos' (by omega)), if_neg (by intro z; cases z)]
theorem op_12 (h : Rx K S T n d) (hi : S.1 0 7 = 0) : Op K (nI 12) S T := by
  have h60 := (rx_S h).2.2.1
  have w1 : fX8_wrong_0 (nI 12) T = fX8_wrong_0_83 (nI 12) T := by
    rw [wr_1 h (by omega) (by omega) (Nat.zero_le _)]; rfl
  have e : fX8_wrong_0_93 (nI 12) T = fX8_wrong_0_211 T := rfl
  have c0 : ∀ r S1, fX3_countToMark_24 S = some (r, S1) → fX7_operate_0 tkF (nI 12) S = some (r, S1) := by
    intro r S1 hp
    refine oc_low (o := 12) h hi (by omega) (Nat.zero_le _) trivial ?_
    unfold fX3_operate_24
    rw [if_neg (by decide), if_neg (by decide), if_neg (by decide), if_neg (by decide), if_neg (by decide), if_neg (by decide), if_neg (by decide), if_neg (by decide), if_neg (by decide), if_neg (by decide), if_neg (by decide), if_neg (by decide), if_pos (by decide), hp, bnd_x]
  rw [w83 h] at w1
  cases hc : last (fun i => S.1 6 i = 3) n with
  | none =>
    rw [hc, if_pos rfl] at w1
    refine Or.inl ⟨7, by omega, by omega, c0 _ _ ?_, w1⟩
    unfold fX3_countToMark_24
    rw [tmk (rx_S h).1 h60, bnd_x, hc, if_pos (show lastv none = -1 from rfl)]; rfl
  | some i =>
    have hi2 := (last_lt hc).1
    rw [hc, if_neg (by intro z; cases z), e] at w1
    by_cases hz : n = 60
    · refine Or.inl ⟨2, by omega, by omega, c0 _ _ ?_, w1.trans ((w211 h).1 hz)⟩
      have h6 : S.1 5 2 = nI 60 := by rw [(rx_S h).1, hz]
      unfold fX3_countToMark_24
      rw [tmk (rx_S h).1 h60, bnd_x, hc, show lastv (some i) = nI i from rfl, if_neg (neg1 (by omega)), cnt, bnd_x, put0 h6, bnd_x, if_pos rfl]; rfl
    · refine Or.inr (Or.inl ⟨_, _, _, _, c0 _ _ ?_, w1.trans ((w211 h).2 hz), ?_, x_put (k := 0) (v := nI n - 1 - nI i) h (by omega) (okN _)⟩)
      · unfold fX3_countToMark_24
        rw [tmk (rx_S h).1 h60, bnd_x, hc, show lastv (some i) = nI i from rfl, if_neg (neg1 (by omega)), cnt, bnd_x, put1 (rx_S h).1 (by omega), bnd_x, if_neg (by decide), (rx_S h).1]
      · unfold fX8_work_0 fX8_handle_0
        rw [if_neg (by decide), if_neg (by decide), if_neg (by decide), stv_x, if_neg (by decide), if_neg (by decide), if_neg (by decide), if_neg (by decide), if_neg (by decide), if_neg (by decide), if_neg (by decide), if_neg (by decide), if_pos (by decide), mrk (rx_S h).2.1 h60, bnd_x, ← mk_eq h, hc, show lastv (some i) = nI i from rfl, lyh h hz, bnd_x, bnd_x, (rx_S h).2.1]
theorem op_13 (h : Rx K S T n d) (hi : S.1 0 7 = 0) : Op K (nI 13) S T := by
  have h60 := (rx_S h).2.2.1
  have w1 : fX8_wrong_0 (nI 13) T = fX8_wrong_0_83 (nI 13) T := by
    rw [wr_1 h (by omega) (by omega) (Nat.zero_le _)]; rfl
  have e : fX8_wrong_0_93 (nI 13) T = some (0, T) := rfl
  have c0 : ∀ r S1, fX3_clearToMark_24 S = some (r, S1) → fX7_operate_0 tkF (nI 13) S = some (r, S1) := by
    intro r S1 hp
    refine oc_low (o := 13) h hi (by omega) (Nat.zero_le _) trivial ?_
    unfold fX3_operate_24
    rw [if_neg (by decide), if_neg (by decide), if_neg (by decide), if_neg (by decide), if_neg (by decide), if_neg (by decide), if_neg (by decide), if_neg (by decide), if_neg (by decide), if_neg (by decide), if_neg (by decide), if_neg (by decide), if_neg (by decide), if_pos (by decide), hp, bnd_x]
  rw [w83 h] at w1
  cases hc : last (fun i => S.1 6 i = 3) n with
  | none =>
    rw [hc, if_pos rfl] at w1
    refine Or.inl ⟨7, by omega, by omega, c0 _ _ ?_, w1⟩
    unfold fX3_clearToMark_24
    rw [tmk (rx_S h).1 h60, bnd_x, hc, if_pos (show lastv none = -1 from rfl)]; rfl
  | some i =>
    have hi2 := (last_lt hc).1
    rw [hc, if_neg (by intro z; cases z), e] at w1
    refine Or.inr (Or.inl ⟨_, _, _, _, c0 _ _ ?_, w1, ?_, x_size (m := i) h (by omega)⟩)
    · unfold fX3_clearToMark_24
      rw [tmk (rx_S h).1 h60, bnd_x, hc, show lastv (some i) = nI i from rfl, if_neg (neg1 (by omega)), cnt, bnd_x, (rx_S h).1, subI (by omega), tko (rx_S h).1 h60 (by omega), bnd_x, show n - (n - i) = i by omega]
    · unfold fX8_work_0 fX8_handle_0 fX8_handle_0_304
      rw [if_neg (by decide), if_neg (by decide), if_neg (by decide), stv_x, if_neg (by decide), if_neg (by decide), if_neg (by decide), if_neg (by decide), if_neg (by decide), if_neg (by decide), if_neg (by decide), if_neg (by decide), if_neg (by decide), mrk (rx_S h).2.1 h60, bnd_x, ← mk_eq h, hc, show lastv (some i) = nI i from rfl, stp_x, bnd_x]
theorem x_tab {v : Nat} {k w : Int32} (h : Rx K S T n d) (hv : v < 40) (hk : okV k w) : Rx K (si (si S 9 v k) 10 v w) (si (si T 6 v k) 7 v w) n d := by
  obtain ⟨⟨g0, g1, g2, g3, g4, g5, g6, g7, g8, g9, g10, g11, g12, g13, g14, g15, g16, g17, g18, g19, g20, g21⟩, h2, h3, h4, h5, h6, h7, h8, h9⟩ := h
  refine ⟨⟨g0, g1, g2, g3, g4, g5, congrArg (fun f => upd f v k) g6, ?_, g8, g9, g10, g11, g12, g13, g14, g15, g16, g17, g18, g19, g20, g21⟩, h2, h3, ?_, h5, h6, h7, h8, h9⟩
  · intro i hi
    show upd (S.1 9) v k i ≠ -1 → upd (S.1 10) v w i = upd (T.1 7) v w i
    intro z
    by_cases e : i = v
    · rw [e, upd_s, upd_s]
    · rw [upd_n _ _ e] at z
      rw [upd_n _ _ e, upd_n _ _ e]; exact g7 i hi z
  · intro i hi
    show (upd (S.1 9) v k i = -1 ∧ upd (S.1 10) v w i = 0) ∨ okV (upd (S.1 9) v k i) (upd (S.1 10) v w i)
    by_cases e : i = v
    · rw [e, upd_s, upd_s]; exact Or.inr hk
    · rw [upd_n _ _ e, upd_n _ _ e]; exact h4 i hi
theorem giv {v : Nat} {k w : Int32} (hv : v < 40) : fX6_give_8 (nI v) k w S = some (0, si (si S 9 v k) 10 v w) := by
  unfold fX6_give_8
  rw [if_neg (nI_pos (by omega)), if_neg (by rw [lit 40, leI (by omega) (by omega)]; omega), if_pos (vqI (by omega) (by omega)), stp_x, if_pos (vqI (by omega) (by omega)), nI_clamp (by omega)]
  rfl
theorem kof {v : Nat} (hv : v < 40) : fX6_kindOf_8 (nI v) S = some (S.1 9 v, S) := by
  unfold fX6_kindOf_8
  rw [if_neg (nI_pos (by omega)), if_neg (by rw [lit 40, leI (by omega) (by omega)]; omega), if_pos (vqI (by omega) (by omega)), nI_clamp (by omega)]
theorem nof {v : Nat} (hv : v < 40) : fX6_numberOf_8 (nI v) S = some (S.1 10 v, S) := by
  unfold fX6_numberOf_8
  rw [if_neg (nI_pos (by omega)), if_neg (by rw [lit 40, leI (by omega) (by omega)]; omega), if_pos (vqI (by omega) (by omega)), nI_clamp (by omega)]
theorem op_14 (h : Rx K S T n d) (hi : S.1 0 7 = 0) : Op K (nI 14) S T := by
  refine op_mk h hi (by omega) (by omega) (by omega) (by omega) (ak_14 h) (fun hn hf => ?_)
  have hn : 2 ≤ n := hn
  have h60 := (rx_S h).2.2.1
  have f1 : S.1 6 (n - 2) = 2 := hf.2.1.resolve_left (by decide)
  obtain ⟨v, hv, hV⟩ := (okI h (i := n - 2) (by omega)).2.1 f1
  have x1 := x_tab (k := S.1 6 (n - 1)) (w := S.1 7 (n - 1)) h hv (okI h (by omega))
  have x0 := x_size (m := n - 2) x1 (by omega)
  refine Or.inr ⟨_, _, _, _, ?_, rfl, ?_, x0⟩
  · unfold fX3_operate_24 fX3_define_24
    rw [if_neg (by decide), if_neg (by decide), if_neg (by decide), if_neg (by decide), if_neg (by decide), if_neg (by decide), if_neg (by decide), if_neg (by decide), if_neg (by decide), if_neg (by decide), if_neg (by decide), if_neg (by decide), if_neg (by decide), if_neg (by decide), if_pos (by decide), n_c1 h (by omega), bnd_x, k_c0 h (by omega), bnd_x, n_c0 h (by omega), bnd_x, hV, giv hv, bnd_x, to2 x1 hn, bnd_x, bnd_x]
  · unfold fX8_work_0 fX8_perform_0
    have ep : fX8_procedureOf_0 (nI 14) T = some (-1, T) := rfl
    have y1 : T.1 0 6 = nI n := (rx_S h).2.1
    have q1 : fX8_number_0 1 (si T 6 v (S.1 6 (n - 1))) = some (T.1 5 (n - 1 - 1), si T 6 v (S.1 6 (n - 1))) := nb (j := 1) (T := si T 6 v (S.1 6 (n - 1))) y1 h60 (by omega)
    have q0 : fX8_number_0 0 (si T 6 v (S.1 6 (n - 1))) = some (T.1 5 (n - 1 - 0), si T 6 v (S.1 6 (n - 1))) := nb (j := 0) (T := si T 6 v (S.1 6 (n - 1))) y1 h60 (by omega)
    have e5 := h.1.2.2.2.2.2.1
    rw [← e5, show n - 1 - 1 = n - 2 by omega, hV] at q1
    rw [← e5, show n - 1 - 0 = n - 1 by omega] at q0
    rw [if_neg (by decide), if_neg (by decide), if_pos (by decide), if_neg (by decide), ep, bnd_x, if_pos (by decide), n_m1 h (by omega), bnd_x, k_m0 h (by omega), bnd_x, hV, if_pos (vqI (by omega) (by omega)), nI_clamp (by omega), stp_x, q1, bnd_x, q0, bnd_x, if_pos (vqI (by omega) (by omega)), nI_clamp (by omega), stp_x, ts2 x1 hn, stp_x, bnd_x]
theorem lku {v : Nat} (h : Rx K S T n d) (hn : 1 ≤ n) (hv : v < 40) : fX3_lookUp_24 (nI v) S = if S.1 9 v = -1 then some (nI 5, S) else some (0, cRep S (n - 1) (S.1 9 v) (S.1 10 v)) := by
  unfold fX3_lookUp_24
  rw [kof hv, bnd_x]
  by_cases z : S.1 9 v = -1
  · rw [if_pos z, if_pos z]; rfl
  · rw [if_neg z, if_neg z, nof hv, bnd_x, rpa h hn, bnd_x]
theorem w129 {v o : Nat} (h : Rx K S T n d) (hn : 1 ≤ n) (hv : v < 40) (hV : S.1 7 (n - 1) = nI v) : fX8_wrong_0_129 (nI o) 1 T = if S.1 9 v = -1 then some (nI 5, T) else fX8_wrong_0_150 (nI o) T := by
  unfold fX8_wrong_0_129
  rw [if_neg (by decide), n_m0 h (by omega), bnd_x, hV, if_pos (vqI (by omega) (by omega)), nI_clamp (by omega), ← h.1.2.2.2.2.2.2.1]
  rfl
theorem p80 {v : Nat} (h : Rx K S T n d) (hn : 1 ≤ n) (hv : v < 40) (hV : S.1 7 (n - 1) = nI v) (hz : S.1 9 v ≠ -1) : fX8_perform_0_80 T = some (0, mPut (si T 0 6 (nI (n - 1))) (n - 1) (S.1 9 v) (S.1 10 v)) := by
  have h60 := (rx_S h).2.2.1
  unfold fX8_perform_0_80
  rw [n_m0 h (by omega), bnd_x, ts1 h hn, stp_x, hV, if_pos (vqI (by omega) (by omega)), if_pos (vqI (by omega) (by omega)), nI_clamp (by omega), lyn (by omega), bnd_x]
  show some ((0 : Int32), mPut (si T 0 6 (nI (n - 1))) (n - 1) (T.1 6 v) (T.1 7 v)) = _
  rw [← h.1.2.2.2.2.2.2.1, h.1.2.2.2.2.2.2.2.1 v hv hz]
theorem op_15 (h : Rx K S T n d) (hi : S.1 0 7 = 0) : Op K (nI 15) S T := by
  refine op_mk h hi (by omega) (by omega) (by omega) (by omega) (ak_15 h) (fun hn hf => ?_)
  have hn : 1 ≤ n := hn
  have h60 := (rx_S h).2.2.1
  have f0 : S.1 6 (n - 1) = 2 := hf.1.resolve_left (by decide)
  obtain ⟨v, hv, hV⟩ := (okI h (i := n - 1) (by omega)).2.1 f0
  have e1 : fX8_wrong_0_93 (nI 15) T = fX8_wrong_0_129 (nI 15) 1 T := rfl
  have e2 : fX8_wrong_0_150 (nI 15) T = some (0, T) := rfl
  have c0 : ∀ r S1, fX3_lookUp_24 (nI v) S = some (r, S1) → fX3_operate_24 (nI 15) S = some (r, S1) := by
    intro r S1 hp
    unfold fX3_operate_24
    rw [if_neg (by decide), if_neg (by decide), if_neg (by decide), if_neg (by decide), if_neg (by decide), if_neg (by decide), if_neg (by decide), if_neg (by decide), if_neg (by decide), if_neg (by decide), if_neg (by decide), if_neg (by decide), if_neg (by decide), if_neg (by decide), if_neg (by decide), if_pos (by decide), n_c0 h (by omega), bnd_x, hV, hp, bnd_x]
  have l0 := lku h hn hv
  have w0 := w129 (o := 15) h hn hv hV
  by_cases z : S.1 9 v = -1
  · rw [if_pos z] at l0 w0
    exact Or.inl ⟨5, by omega, by omega, c0 _ _ l0, e1.trans w0⟩
  · rw [if_neg z] at l0 w0
    refine Or.inr ⟨_, _, _, _, c0 _ _ l0, e1.trans (w0.trans e2), ?_, x_rep (m := n - 1) h (by omega) ((h.2.2.2.1 v hv).resolve_left (fun y => z y.1))⟩
    have ep : fX8_procedureOf_0 (nI 15) T = some (-1, T) := rfl
    unfold fX8_work_0 fX8_perform_0
    rw [if_neg (by decide), if_neg (by decide), if_pos (by decide), if_neg (by decide), ep, bnd_x, if_neg (by decide), if_pos (by decide), p80 h hn hv hV z, bnd_x]
end LOW2
