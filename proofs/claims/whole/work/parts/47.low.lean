variable {K : Int32}
/-! the operators 0 to 15 -/
section LOW
variable {S T : St} {n d o : Nat}
theorem op_mk (h : Rx K S T n d) (hi : S.1 0 7 = 0) (ho : o < 16) (h10 : o ≠ 10) (h12 : o ≠ 12) (h13 : o ≠ 13)
    (ak : (tkP o).length ≤ n → (fts S n (tkP o) 0 → fX8_areKinds_0 (nI o) T = some (1, T)) ∧ (¬ fts S n (tkP o) 0 → fX8_areKinds_0 (nI o) T = some (0, T)))
    (go : (tkP o).length ≤ n → fts S n (tkP o) 0 → (∃ e : Nat, 1 ≤ e ∧ e ≤ 11 ∧ fX3_operate_24 (nI o) S = some (nI e, S) ∧ fX8_wrong_0_93 (nI o) T = some (nI e, T)) ∨ ∃ S1 T1 n1 d1, fX3_operate_24 (nI o) S = some (0, S1) ∧ fX8_wrong_0_93 (nI o) T = some (0, T) ∧ fX8_work_0 (nI o) T = some (0, T1) ∧ Rx K S1 T1 n1 d1) : Op K (nI o) S T := by
  by_cases hn : (tkP o).length ≤ n
  · by_cases hf : fts S n (tkP o) 0
    · have w := wr_2 h (by omega) h10 h12 h13 hn ((ak hn).1 hf)
      rcases go hn hf with ⟨e, a1, a2, a3, a4⟩ | ⟨S1, T1, n1, d1, a1, a2, a3, a4⟩
      · exact Or.inl ⟨e, a1, a2, oc_low h hi ho hn hf a3, w.trans a4⟩
      · exact Or.inr (Or.inl ⟨S1, T1, n1, d1, oc_low h hi ho hn hf a1, w.trans a2, a3, a4⟩)
    · exact op_bad h hi (by omega) h10 hn hf ((ak hn).2 hf)
  · exact op_few h hi (by omega) (by omega)
theorem rpa {k v : Int32} (h : Rx K S T n d) (hn : 1 ≤ n) : fX2_replace_5 1 k v S = some (0, cRep S (n - 1) k v) := rpl (j := 1) (rx_S h).1 (rx_S h).2.2.1 (by omega) hn
theorem rpb {k v : Int32} (h : Rx K S T n d) (hn : 2 ≤ n) : fX2_replace_5 2 k v S = some (0, cRep S (n - 2) k v) := rpl (j := 2) (rx_S h).1 (rx_S h).2.2.1 (by omega) hn
theorem to1 (h : Rx K S T n d) (hn : 1 ≤ n) : fX2_takeOff_5 1 S = some (0, si S 5 2 (nI (n - 1))) := tko (j := 1) (rx_S h).1 (rx_S h).2.2.1 hn
theorem to2 (h : Rx K S T n d) (hn : 2 ≤ n) : fX2_takeOff_5 2 S = some (0, si S 5 2 (nI (n - 2))) := tko (j := 2) (rx_S h).1 (rx_S h).2.2.1 hn
theorem to3 (h : Rx K S T n d) (hn : 3 ≤ n) : fX2_takeOff_5 3 S = some (0, si S 5 2 (nI (n - 3))) := tko (j := 3) (rx_S h).1 (rx_S h).2.2.1 hn
theorem to4 (h : Rx K S T n d) (hn : 4 ≤ n) : fX2_takeOff_5 4 S = some (0, si S 5 2 (nI (n - 4))) := tko (j := 4) (rx_S h).1 (rx_S h).2.2.1 hn
theorem ts1 (h : Rx K S T n d) (hn : 1 ≤ n) : T.1 0 6 - 1 = nI (n - 1) := by rw [(rx_S h).2.1, lit 1, subI hn]
theorem ts2 (h : Rx K S T n d) (hn : 2 ≤ n) : T.1 0 6 - 2 = nI (n - 2) := by rw [(rx_S h).2.1, lit 2, subI hn]
theorem ts4 (h : Rx K S T n d) (hn : 4 ≤ n) : T.1 0 6 - 4 = nI (n - 4) := by rw [(rx_S h).2.1, lit 4, subI hn]
theorem lyn {k v : Int32} {m : Nat} (hm : m < 60) : fX8_lay_0 k v (si T 0 6 (nI m)) = some (0, mPut (si T 0 6 (nI m)) m k v) := lay rfl hm
theorem okI (h : Rx K S T n d) {i : Nat} (hi : i < n) : okV (S.1 6 i) (S.1 7 i) := h.2.2.1.2.2 i hi
theorem rec_c {k v : Int32} (h : Rx K S T n d) (hn : 2 ≤ n) : fX3_reckoned_24 k v S = some (0, cRep S (n - 2) k v) := by
  unfold fX3_reckoned_24
  rw [rpb h hn, bnd_x]
theorem op_0 (h : Rx K S T n d) (hi : S.1 0 7 = 0) : Op K (nI 0) S T := by
  refine op_mk h hi (by omega) (by omega) (by omega) (by omega) (ak_0 h) (fun hn hf => Or.inr ⟨_, _, _, _, ?_, rfl, ?_, x_rep (m := n - 2) (k := 0) (v := S.1 7 (n - 2) + S.1 7 (n - 1)) h (by have : 2 ≤ n := hn; omega) (okN _)⟩)
  · have hn : 2 ≤ n := hn
    unfold fX3_operate_24
    rw [if_pos (by decide), n_c1 h (by omega), bnd_x, n_c0 h (by omega), bnd_x, rec_c h hn, bnd_x]
  · have hn : 2 ≤ n := hn
    have h60 := (rx_S h).2.2.1
    unfold fX8_work_0 fX8_work_0_10 fX8_reckon_0 fX8_reckon_0_92
    rw [if_pos (by decide), n_m0 h (by omega), bnd_x, n_m1 h (by omega), bnd_x, ts2 h hn, stp_x, if_neg (by decide), if_pos (by decide), lyn (by omega), bnd_x, bnd_x]
theorem op_1 (h : Rx K S T n d) (hi : S.1 0 7 = 0) : Op K (nI 1) S T := by
  refine op_mk h hi (by omega) (by omega) (by omega) (by omega) (ak_1 h) (fun hn hf => Or.inr ⟨_, _, _, _, ?_, rfl, ?_, x_rep (m := n - 2) (k := 0) (v := S.1 7 (n - 2) - S.1 7 (n - 1)) h (by have : 2 ≤ n := hn; omega) (okN _)⟩)
  · have hn : 2 ≤ n := hn
    unfold fX3_operate_24
    rw [if_neg (by decide), if_pos (by decide), n_c1 h (by omega), bnd_x, n_c0 h (by omega), bnd_x, rec_c h hn, bnd_x]
  · have hn : 2 ≤ n := hn
    have h60 := (rx_S h).2.2.1
    unfold fX8_work_0 fX8_work_0_10 fX8_reckon_0 fX8_reckon_0_92
    rw [if_pos (by decide), n_m0 h (by omega), bnd_x, n_m1 h (by omega), bnd_x, ts2 h hn, stp_x, if_neg (by decide), if_neg (by decide), if_pos (by decide), lyn (by omega), bnd_x, bnd_x]
theorem op_2 (h : Rx K S T n d) (hi : S.1 0 7 = 0) : Op K (nI 2) S T := by
  refine op_mk h hi (by omega) (by omega) (by omega) (by omega) (ak_2 h) (fun hn hf => Or.inr ⟨_, _, _, _, ?_, rfl, ?_, x_rep (m := n - 2) (k := 0) (v := S.1 7 (n - 2) * S.1 7 (n - 1)) h (by have : 2 ≤ n := hn; omega) (okN _)⟩)
  · have hn : 2 ≤ n := hn
    unfold fX3_operate_24
    rw [if_neg (by decide), if_neg (by decide), if_pos (by decide), n_c1 h (by omega), bnd_x, n_c0 h (by omega), bnd_x, rec_c h hn, bnd_x]
  · have hn : 2 ≤ n := hn
    have h60 := (rx_S h).2.2.1
    unfold fX8_work_0 fX8_work_0_10 fX8_reckon_0 fX8_reckon_0_92
    rw [if_pos (by decide), n_m0 h (by omega), bnd_x, n_m1 h (by omega), bnd_x, ts2 h hn, stp_x, if_neg (by decide), if_neg (by decide), if_neg (by decide), if_pos (by decide), lyn (by omega), bnd_x, bnd_x]
theorem divm1 (x : Int32) : x / (-1) = -x := by
  apply Int32.toInt_inj.mp
  rw [Int32.toInt_div]
  have e : (-1 : Int32).toInt = -1 := by decide
  rw [e, Int.tdiv_neg, Int.tdiv_one, Int32.toInt_neg]
theorem op_3 (h : Rx K S T n d) (hi : S.1 0 7 = 0) : Op K (nI 3) S T := by
  refine op_mk h hi (by omega) (by omega) (by omega) (by omega) (ak_3 h) (fun hn hf => ?_)
  have hn : 2 ≤ n := hn
  have h60 := (rx_S h).2.2.1
  by_cases hz : S.1 7 (n - 1) = 0
  · refine Or.inl ⟨6, by omega, by omega, ?_, ?_⟩
    · unfold fX3_operate_24 fX3_divide_24
      rw [if_neg (by decide), if_neg (by decide), if_neg (by decide), if_pos (by decide), n_c1 h (by omega), bnd_x, n_c0 h (by omega), bnd_x, if_pos hz, bnd_x]
      rfl
    · have e : fX8_wrong_0_93 (nI 3) T = fX8_wrong_0_150 (nI 3) T := rfl
      rw [e]
      unfold fX8_wrong_0_150
      rw [if_pos (by decide), n_m0 h (by omega), bnd_x, if_pos hz]
      rfl
  · refine Or.inr ⟨_, _, _, _, ?_, ?_, ?_, x_rep (m := n - 2) (k := 0) (v := S.1 7 (n - 2) / S.1 7 (n - 1)) h (by omega) (okN _)⟩
    · unfold fX3_operate_24 fX3_divide_24
      rw [if_neg (by decide), if_neg (by decide), if_neg (by decide), if_pos (by decide), n_c1 h (by omega), bnd_x, n_c0 h (by omega), bnd_x, if_neg hz, if_pos hz, rpb h hn, bnd_x, bnd_x]
    · have e : fX8_wrong_0_93 (nI 3) T = fX8_wrong_0_150 (nI 3) T := rfl
      rw [e]
      unfold fX8_wrong_0_150
      rw [if_pos (by decide), n_m0 h (by omega), bnd_x, if_neg hz]
      rfl
    · unfold fX8_work_0 fX8_work_0_10 fX8_reckon_0 fX8_reckon_0_92
      rw [if_pos (by decide), n_m0 h (by omega), bnd_x, n_m1 h (by omega), bnd_x, ts2 h hn, stp_x, if_neg (by decide), if_neg (by decide), if_neg (by decide), if_neg (by decide)]
      by_cases hm : S.1 7 (n - 1) = -1
      · rw [if_pos hm, lyn (by omega), bnd_x, bnd_x, hm, divm1]
      · rw [if_neg hm, if_pos hz, lyn (by omega), bnd_x, bnd_x]
theorem op_4 (h : Rx K S T n d) (hi : S.1 0 7 = 0) : Op K (nI 4) S T := by
  refine op_mk h hi (by omega) (by omega) (by omega) (by omega) (ak_4 h) (fun hn hf => ?_)
  have hn : 2 ≤ n := hn
  have h60 := (rx_S h).2.2.1
  by_cases hz : S.1 6 (n - 1) = S.1 6 (n - 2) ∧ S.1 7 (n - 1) = S.1 7 (n - 2)
  · refine Or.inr ⟨_, _, _, _, ?_, rfl, ?_, x_rep (m := n - 2) (k := 1) (v := 1) h (by omega) (okT1 _)⟩
    · unfold fX3_operate_24 fX3_topTwoAreTheSame_24 fX3_operate_24_184
      rw [if_neg (by decide), if_neg (by decide), if_neg (by decide), if_neg (by decide), if_pos (by decide), k_c0 h (by omega), bnd_x, k_c1 h (by omega), bnd_x, if_pos hz.1, n_c0 h (by omega), bnd_x, n_c1 h (by omega), bnd_x, if_pos hz.2, bnd_x, if_neg (by decide), rec_c h hn, bnd_x]
    · unfold fX8_work_0 fX8_handle_0 fX8_handle_0_91 fX8_handle_0_113
      rw [if_neg (by decide), if_neg (by decide), if_neg (by decide), stv_x, if_pos (by decide), k_m0 h (by omega), bnd_x, k_m1 h (by omega), bnd_x, if_pos hz.1, n_m0 h (by omega), bnd_x, n_m1 h (by omega), bnd_x, if_pos hz.2, ts2 h hn, stp_x, if_neg (by decide), lyn (by omega), bnd_x, bnd_x]
  · refine Or.inr ⟨_, _, _, _, ?_, rfl, ?_, x_rep (m := n - 2) (k := 1) (v := 0) h (by omega) (okT1 _)⟩
    · unfold fX3_operate_24 fX3_topTwoAreTheSame_24 fX3_topTwoAreTheSame_24_42 fX3_operate_24_184
      rw [if_neg (by decide), if_neg (by decide), if_neg (by decide), if_neg (by decide), if_pos (by decide), k_c0 h (by omega), bnd_x, k_c1 h (by omega), bnd_x]
      by_cases z1 : S.1 6 (n - 1) = S.1 6 (n - 2)
      · rw [if_pos z1, n_c0 h (by omega), bnd_x, n_c1 h (by omega), bnd_x, if_neg (fun z => hz ⟨z1, z⟩), bnd_x, if_pos rfl, rec_c h hn, bnd_x]
      · rw [if_neg z1, bnd_x, if_pos rfl, rec_c h hn, bnd_x]
    · unfold fX8_work_0 fX8_handle_0 fX8_handle_0_90 fX8_handle_0_91 fX8_handle_0_113
      rw [if_neg (by decide), if_neg (by decide), if_neg (by decide), stv_x, if_pos (by decide), k_m0 h (by omega), bnd_x, k_m1 h (by omega), bnd_x]
      by_cases z1 : S.1 6 (n - 1) = S.1 6 (n - 2)
      · rw [if_pos z1, n_m0 h (by omega), bnd_x, n_m1 h (by omega), bnd_x, if_neg (fun z => hz ⟨z1, z⟩), ts2 h hn, stp_x, if_pos rfl, lyn (by omega), bnd_x, bnd_x]
      · rw [if_neg z1, ts2 h hn, stp_x, if_pos rfl, lyn (by omega), bnd_x, bnd_x]
theorem op_5 (h : Rx K S T n d) (hi : S.1 0 7 = 0) : Op K (nI 5) S T := by
  refine op_mk h hi (by omega) (by omega) (by omega) (by omega) (ak_5 h) (fun hn hf => ?_)
  have hn : 2 ≤ n := hn
  have h60 := (rx_S h).2.2.1
  by_cases hz : S.1 7 (n - 1) ≤ S.1 7 (n - 2)
  · refine Or.inr ⟨_, _, _, _, ?_, rfl, ?_, x_rep (m := n - 2) (k := 1) (v := 0) h (by omega) (okT1 _)⟩
    · unfold fX3_operate_24 fX3_operate_24_214
      rw [if_neg (by decide), if_neg (by decide), if_neg (by decide), if_neg (by decide), if_neg (by decide), if_pos (by decide), n_c1 h (by omega), bnd_x, n_c0 h (by omega), bnd_x, if_pos hz, rec_c h hn, bnd_x]
    · unfold fX8_work_0 fX8_work_0_10 fX8_reckon_0 fX8_reckon_0_39
      rw [if_neg (by decide), if_pos (by decide), n_m0 h (by omega), bnd_x, n_m1 h (by omega), bnd_x, ts2 h hn, stp_x, if_pos (by decide), if_pos hz, lyn (by omega), bnd_x, bnd_x]
  · refine Or.inr ⟨_, _, _, _, ?_, rfl, ?_, x_rep (m := n - 2) (k := 1) (v := 1) h (by omega) (okT1 _)⟩
    · unfold fX3_operate_24 fX3_operate_24_214
      rw [if_neg (by decide), if_neg (by decide), if_neg (by decide), if_neg (by decide), if_neg (by decide), if_pos (by decide), n_c1 h (by omega), bnd_x, n_c0 h (by omega), bnd_x, if_neg hz, rec_c h hn, bnd_x]
    · unfold fX8_work_0 fX8_work_0_10 fX8_reckon_0 fX8_reckon_0_39
      rw [if_neg (by decide), if_pos (by decide), n_m0 h (by omega), bnd_x, n_m1 h (by omega), bnd_x, ts2 h hn, stp_x, if_pos (by decide), if_neg hz, lyn (by omega), bnd_x, bnd_x]
theorem op_7 (h : Rx K S T n d) (hi : S.1 0 7 = 0) : Op K (nI 7) S T := by
  refine op_mk h hi (by omega) (by omega) (by omega) (by omega) (ak_7 h) (fun hn hf => Or.inr ⟨_, _, _, _, ?_, rfl, ?_, x_size (m := n - 1) h (by omega)⟩)
  · have hn : 1 ≤ n := hn
    unfold fX3_operate_24
    rw [if_neg (by decide), if_neg (by decide), if_neg (by decide), if_neg (by decide), if_neg (by decide), if_neg (by decide), if_neg (by decide), if_pos (by decide), to1 h hn, bnd_x]
  · have hn : 1 ≤ n := hn
    unfold fX8_work_0 fX8_handle_0
    rw [if_neg (by decide), if_neg (by decide), if_neg (by decide), stv_x, if_neg (by decide), if_neg (by decide), if_neg (by decide), if_pos (by decide), ts1 h hn, stp_x, bnd_x]
theorem mor0 {k v : Int32} (h : Rx K S T n d) (hn : n = 60) : fX3_more_24 k v S = some (2, S) := by
  subst hn
  unfold fX3_more_24
  rw [put0 (rx_S h).1, bnd_x, if_pos rfl]
theorem mor1 {k v : Int32} (h : Rx K S T n d) (hn : n ≠ 60) : fX3_more_24 k v S = some (0, cPut S n k v) := by
  have h60 := (rx_S h).2.2.1
  unfold fX3_more_24
  rw [put1 (rx_S h).1 (by omega), bnd_x, if_neg (by decide)]
theorem w211 (h : Rx K S T n d) : (n = 60 → fX8_wrong_0_211 T = some (nI 2, T)) ∧ (n ≠ 60 → fX8_wrong_0_211 T = some (0, T)) := by
  have h60 := (rx_S h).2.2.1
  unfold fX8_wrong_0_211 fX8_wrong_0_224
  rw [(rx_S h).2.1]
  constructor
  · intro e; rw [e, if_pos (by decide)]; rfl
  · intro e; rw [if_neg (by rw [lit 60, eqI (by omega) (by omega)]; exact e)]
theorem lyh {k v : Int32} (h : Rx K S T n d) (hn : n ≠ 60) : fX8_lay_0 k v T = some (0, mPut T n k v) := by
  have h60 := (rx_S h).2.2.1
  exact lay (rx_S h).2.1 (by omega)
theorem op_8 (h : Rx K S T n d) (hi : S.1 0 7 = 0) : Op K (nI 8) S T := by
  refine op_mk h hi (by omega) (by omega) (by omega) (by omega) (ak_8 h) (fun hn hf => ?_)
  have hn : 1 ≤ n := hn
  have h60 := (rx_S h).2.2.1
  have e : fX8_wrong_0_93 (nI 8) T = fX8_wrong_0_211 T := rfl
  by_cases hz : n = 60
  · refine Or.inl ⟨2, by omega, by omega, ?_, e.trans ((w211 h).1 hz)⟩
    unfold fX3_operate_24
    rw [if_neg (by decide), if_neg (by decide), if_neg (by decide), if_neg (by decide), if_neg (by decide), if_neg (by decide), if_neg (by decide), if_neg (by decide), if_pos (by decide), k_c0 h (by omega), bnd_x, n_c0 h (by omega), bnd_x, mor0 h hz, bnd_x]
    rfl
  · refine Or.inr ⟨_, _, _, _, ?_, e.trans ((w211 h).2 hz), ?_, x_put (k := S.1 6 (n - 1)) (v := S.1 7 (n - 1)) h (by omega) (okI h (by omega))⟩
    · unfold fX3_operate_24
      rw [if_neg (by decide), if_neg (by decide), if_neg (by decide), if_neg (by decide), if_neg (by decide), if_neg (by decide), if_neg (by decide), if_neg (by decide), if_pos (by decide), k_c0 h (by omega), bnd_x, n_c0 h (by omega), bnd_x, mor1 h hz, bnd_x]
    · unfold fX8_work_0 fX8_handle_0
      rw [if_neg (by decide), if_neg (by decide), if_neg (by decide), stv_x, if_neg (by decide), if_neg (by decide), if_neg (by decide), if_neg (by decide), if_pos (by decide), ts1 h hn, if_pos (vqI (by omega) (by omega)), if_pos (vqI (by omega) (by omega)), nI_clamp (by omega), lyh h hz, bnd_x, bnd_x, ← h.1.2.2.2.2.1, ← h.1.2.2.2.2.2.1]
theorem op_11 (h : Rx K S T n d) (hi : S.1 0 7 = 0) : Op K (nI 11) S T := by
  refine op_mk h hi (by omega) (by omega) (by omega) (by omega) (ak_11 h) (fun hn hf => ?_)
  have h60 := (rx_S h).2.2.1
  have e : fX8_wrong_0_93 (nI 11) T = fX8_wrong_0_211 T := rfl
  by_cases hz : n = 60
  · refine Or.inl ⟨2, by omega, by omega, ?_, e.trans ((w211 h).1 hz)⟩
    unfold fX3_operate_24
    rw [if_neg (by decide), if_neg (by decide), if_neg (by decide), if_neg (by decide), if_neg (by decide), if_neg (by decide), if_neg (by decide), if_neg (by decide), if_neg (by decide), if_neg (by decide), if_neg (by decide), if_pos (by decide), cnt, bnd_x, mor0 h hz, bnd_x]
    rfl
  · refine Or.inr ⟨_, _, _, _, ?_, e.trans ((w211 h).2 hz), ?_, x_put (k := 0) (v := nI n) h (by omega) (okN _)⟩
    · unfold fX3_operate_24
      rw [if_neg (by decide), if_neg (by decide), if_neg (by decide), if_neg (by decide), if_neg (by decide), if_neg (by decide), if_neg (by decide), if_neg (by decide), if_neg (by decide), if_neg (by decide), if_neg (by decide), if_pos (by decide), cnt, bnd_x, mor1 h hz, bnd_x, (rx_S h).1]
    · unfold fX8_work_0 fX8_handle_0
      rw [if_neg (by decide), if_neg (by decide), if_neg (by decide), stv_x, if_neg (by decide), if_neg (by decide), if_neg (by decide), if_neg (by decide), if_neg (by decide), if_neg (by decide), if_neg (by decide), if_pos (by decide), (rx_S h).2.1, lyh h hz, bnd_x, bnd_x]
end LOW
