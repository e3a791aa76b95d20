variable {K : Int32}
/-! loops, stops, handlers, records -/
section HIGH2
variable {S T : St} {n d c o : Nat}
/-- a loop's counters, in the class, at its frame -/
def cCnt (S : St) (d : Nat) (a b e : Int32) : St := si (si (sl S d a.toInt64) 18 d b) 19 d e
theorem cby {a b e : Int32} (h : S.1 13 6 = nI (d + 1)) (hd : d < 30) : fX0_countBy_13 a b e S = some (0, cCnt S d a b e) := by
  unfold fX0_countBy_13
  have h2 : (sl S d a.toInt64).1 13 6 = nI (d + 1) := h
  have h3 : (si (sl S d a.toInt64) 18 d b).1 13 6 = nI (d + 1) := h
  rw [h, if_neg (nI_nle (by omega) (by omega)), predI, if_pos (vqI hd (by omega)), nI_clamp (by omega), stp_x, h2, predI, if_pos (vqI hd (by omega)), nI_clamp (by omega), stp_x, h3, predI, if_pos (vqI hd (by omega)), nI_clamp (by omega)]
  rfl
/-- what a loop's frame holds in the reference -/
def mCnt (T : St) (d : Nat) (v : Int64) : St := sl T d v
theorem x_loop {s s' w a b e : Int32} {T1 : St} (h : Rx K S T n d) (hd : d < 30)
    (hT : T1 = mCom T d s' w ∨ ∃ b' e', T1 = si (si (mCom T d s' w) 15 d b') 16 d e') (v : Int64)
    (hf : frm (cCnt (cAdd S d s w) d a b e) (sl T1 d v) d) : Rx K (cCnt (cAdd S d s w) d a b e) (sl T1 d v) n (d + 1) := by
  have hfr := rx_f h
  obtain ⟨h1, h2, h3, h4, h5, h6, h7, h8, h9⟩ := h
  have e7 : S.1 13 7 = T.1 0 27 := h1.2.2.2.2.2.2.2.2.2.2.2.1
  have g1 := q_pl (q_sb (q_ms (q_cs h1 d s) d s') d w) d 0
  have g2 := q_mc (q_cc g1 (nI (d + 1))) (nI (d + 1))
  have g3 := q_mo g2 (nmo (S.1 13 7) (nI (d + 1)))
  have g4 : Eqd (cAdd S d s w) (mCom T d s' w) := by
    unfold cAdd mCom
    rw [← e7]
    exact g3
  have hs : ∀ i, i ≠ d → (sl S d a.toInt64).2 i = S.2 i := fun i e => if_neg e
  have ht : ∀ i, i ≠ d → (sl T d v).2 i = T.2 i := fun i e => if_neg e
  rcases hT with rfl | ⟨b', e', rfl⟩
  · refine ⟨g4, h2, h3, h4, h5, h6, h7, ⟨by omega, rfl, rfl, ?_⟩, h9⟩
    intro i hi
    by_cases e : i = d
    · rw [e]; exact hf
    · exact frm_c (hfr i (by omega)) (upd_n _ _ e) (upd_n _ _ e) (upd_n _ _ e) (upd_n _ _ e) (upd_n _ _ e) (upd_n _ _ e) (hs i e) rfl rfl (ht i e)
  · refine ⟨g4, h2, h3, h4, h5, h6, h7, ⟨by omega, rfl, rfl, ?_⟩, h9⟩
    intro i hi
    by_cases e : i = d
    · rw [e]; exact hf
    · exact frm_c (hfr i (by omega)) (upd_n _ _ e) (upd_n _ _ e) (upd_n _ _ e) (upd_n _ _ e) (upd_n _ _ e) (upd_n _ _ e) (hs i e) (upd_n _ _ e) (upd_n _ _ e) (ht i e)
/-- the class begins a loop -/
theorem bl_c {s a b e : Int32} {j p : Nat} (h : Rx K S T n d) (hj : 1 ≤ j) (hn : j ≤ n) (hP : S.1 7 (n - 1) = nI p) : fX7_beginLoop_0 s a b e (nI j) S = if d = 30 then some (nI 8, S) else some (0, si (cCnt (cAdd S d s (nI p)) d a b e) 5 2 (nI (n - j))) := by
  obtain ⟨g1, g2, g3, g4, g5, g6⟩ := rx_S h
  unfold fX7_beginLoop_0
  by_cases hd : d = 30
  · have hr : fX0_roomFor_13 1 S = some (0, S) := rf0 (j := 1) g4 (by omega) g6 (by omega)
    rw [hr, bnd_x, if_pos rfl, if_pos hd]; rfl
  · have hr : fX0_roomFor_13 1 S = some (1, S) := rf1 (j := 1) g4 (by omega)
    rw [hr, bnd_x, if_neg (by decide), if_neg hd, n_c0 h (by omega), bnd_x, hP, add1 g4 (by omega), bnd_x, cby (d := d) rfl (by omega), bnd_x, tko (S := cCnt (cAdd S d s (nI p)) d a b e) g1 g3 hn, bnd_x]
theorem hfr_l (h : Rx K S T n d) (ho : nI o = 19 ∨ nI o = 20 ∨ nI o = 21) : fX8_hasFrames_0 (nI o) T = if d = 30 then some (0, T) else some (1, T) := by
  have g6 := (rx_S h).2.2.2.2.2
  unfold fX8_hasFrames_0
  have e1 : fX8_in (nI o) 16 18 T = some (0, T) := by rcases ho with e | e | e <;> rw [e] <;> rfl
  have e2 : fX8_in (nI o) 19 21 T = some (1, T) := by rcases ho with e | e | e <;> rw [e] <;> rfl
  have e3 : fX8_hasFrames_0_52 (nI o) T = some (1, T) := by rcases ho with e | e | e <;> rw [e] <;> rfl
  rw [e1, bnd_x, if_pos rfl, e2, bnd_x, if_neg (by decide), (rx_S h).2.2.2.2.1, e3]
  by_cases hd : d = 30
  · rw [if_pos hd, if_pos (by rw [hd]; rfl)]; rfl
  · rw [if_neg hd, if_neg (by rw [lit 30, eqI (by omega) (by omega)]; exact hd)]
theorem w182_l (h : Rx K S T n d) (ho : nI o = 19 ∨ nI o = 20 ∨ nI o = 21) (h1 : o < 28) (h2 : 15 < o) : fX8_wrong_0_182 (nI o) T = if d = 30 then some (nI 8, T) else some (0, T) := by
  have hh := hfr_l h ho
  by_cases hd : d = 30
  · rw [if_pos hd] at hh ⊢
    rw [w182 h1 h2 hh, if_pos rfl]
  · rw [if_neg hd] at hh ⊢
    rw [w182 h1 h2 hh, if_neg (by decide)]
theorem lt0_or (x : Int32) : x < 0 ∨ ∃ t, t < 2 ^ 31 ∧ x = nI t := by
  by_cases h : x < 0
  · exact Or.inl h
  · exact Or.inr (nI_of h)
theorem mn (h : Rx K S T n d) {j : Nat} (hj : j < n) {s w : Int32} : fX8_number_0 (nI j) (mCom T d s w) = some (S.1 7 (n - (j + 1)), mCom T d s w) := by
  have e := nb (j := j) (T := mCom T d s w) (rx_S h).2.1 (rx_S h).2.2.1 hj
  rw [e, show n - 1 - j = n - (j + 1) by omega, h.1.2.2.2.2.2.1]; rfl
theorem op_19 (h : Rx K S T n d) (hi : S.1 0 7 = 0) : Op K (nI 19) S T := by
  refine op_mh h hi (by omega) (by omega) (ak_19 h) (fun hn hf => ?_)
  have hm := oc_mis h (o := 19) (by omega) hn hf
  have hn : 2 ≤ n := hn
  obtain ⟨g1, g2, g3, g4, g5, g6⟩ := rx_S h
  have f0 : S.1 6 (n - 1) = 4 := hf.1.resolve_left (by decide)
  obtain ⟨p, hp, hP⟩ := (okI h (i := n - 1) (by omega)).2.2 f0
  have c0 : ∀ r S1, fX7_repeat_0 (S.1 7 (n - 2)) S = some (r, S1) → fX7_operate_0 tkF (nI 19) S = some (r, S1) := by
    intro r S1 hp
    unfold fX7_operate_0
    rw [if_pos hi, hm, bnd_x, if_pos rfl, if_neg (by decide), if_neg (by decide), if_neg (by decide), if_pos (by decide), n_c1 h (by omega), bnd_x, hp, bnd_x]
  have w93 : fX8_wrong_0_93 (nI 19) T = if S.1 7 (n - 2) < 0 then some (nI 4, T) else fX8_wrong_0_182 (nI 19) T := by
    unfold fX8_wrong_0_93 fX8_isInRange_0
    rw [if_neg (by decide), if_neg (by decide), if_neg (by decide), if_neg (by decide), if_neg (by decide), if_neg (by decide), if_neg (by decide), if_neg (by decide), if_neg (by decide), if_pos (by decide), n_m1 h (by omega), bnd_x]
    by_cases z : S.1 7 (n - 2) < 0
    · rw [if_pos z, if_pos z, bnd_x, if_pos rfl]; rfl
    · rw [if_neg z, if_neg z, bnd_x, if_neg (by decide), if_neg (by decide), if_neg (by decide)]; rfl
  rcases lt0_or (S.1 7 (n - 2)) with z | ⟨t, ht, hT⟩
  · rw [if_pos z] at w93
    refine Or.inl ⟨4, by omega, by omega, c0 _ _ ?_, w93⟩
    unfold fX7_repeat_0
    rw [if_neg (Int32.not_le.mpr z)]; rfl
  · rw [hT, if_neg (nI_pos ht), w182_l (o := 19) h (by decide) (by omega) (by omega)] at w93
    rw [hT] at c0
    have cb := bl_c (s := 1) (a := 1) (b := 1) (e := nI t) (j := 2) h (by omega) hn hP
    by_cases hd : d = 30
    · rw [if_pos hd] at w93 cb
      refine Or.inl ⟨8, by omega, by omega, c0 _ _ ?_, w93⟩
      unfold fX7_repeat_0
      rw [if_pos (nI_pos' ht), show fX7_beginLoop_0 1 1 1 (nI t) 2 S = _ from cb, bnd_x]
    · rw [if_neg hd] at w93 cb
      have x1 : Rx K (cCnt (cAdd S d 1 (nI p)) d 1 1 (nI t)) (sl (mCom T d 1 (nI p)) d (nI t).toInt64) n (d + 1) := by
        refine x_loop h (by omega) (Or.inl rfl) _ (Or.inr (Or.inl ⟨upd_s _ _ _, upd_s _ _ _, ⟨p, hp, upd_s _ _ _⟩, upd_s _ _ _, t, 0, by omega, ht, upd_s _ _ _, ?_, ?_⟩))
        · show vp_updL _ d _ d = _
          rw [pk_uLs]; decide
        · show vp_updL _ d _ d = _
          rw [pk_uLs, nI_l ht]; rfl
      refine Or.inr (Or.inl ⟨_, _, _, _, c0 _ _ ?_, w93, ?_, x_size (m := n - 2) x1 (by omega)⟩)
      · unfold fX7_repeat_0
        rw [if_pos (nI_pos' ht), show fX7_beginLoop_0 1 1 1 (nI t) 2 S = _ from cb, bnd_x]
      · unfold fX8_work_0 fX8_loopOf_0 fX8_loopOf_0_28
        have q1 : fX8_number_0 1 (mCom T d 1 (nI p)) = _ := mn (j := 1) (s := 1) (w := nI p) h (by omega)
        have e4 : (mCom T d 1 (nI p)).1 0 19 = nI (d + 1) := rfl
        have e5 : (sl (mCom T d 1 (nI p)) d (nI t).toInt64).1 0 6 = nI n := g2
        rw [if_neg (by decide), if_neg (by decide), if_pos (by decide), if_pos (by decide), if_neg (by decide), n_m0 h (by omega), bnd_x, if_pos (by decide), hP, com1 g5 (by omega), bnd_x, e4, predI, stv_x, if_pos (by decide), q1, bnd_x, if_pos (vqI (by omega) (by omega)), nI_clamp (by omega), hT, stp_x, e5, lit 2, subI hn, stp_x, bnd_x]
theorem op_21 (h : Rx K S T n d) (hi : S.1 0 7 = 0) : Op K (nI 21) S T := by
  refine op_mh h hi (by omega) (by omega) (ak_21 h) (fun hn hf => ?_)
  have hm := oc_mis h (o := 21) (by omega) hn hf
  have hn : 1 ≤ n := hn
  obtain ⟨g1, g2, g3, g4, g5, g6⟩ := rx_S h
  have f0 : S.1 6 (n - 1) = 4 := hf.1.resolve_left (by decide)
  obtain ⟨p, hp, hP⟩ := (okI h (i := n - 1) (by omega)).2.2 f0
  have c0 : ∀ r S1, fX7_beginLoop_0 1 0 0 0 1 S = some (r, S1) → fX7_operate_0 tkF (nI 21) S = some (r, S1) := by
    intro r S1 hp
    unfold fX7_operate_0
    rw [if_pos hi, hm, bnd_x, if_pos rfl, if_neg (by decide), if_neg (by decide), if_neg (by decide), if_neg (by decide), if_neg (by decide), if_pos (by decide), hp, bnd_x]
  have w93 : fX8_wrong_0_93 (nI 21) T = fX8_wrong_0_182 (nI 21) T := rfl
  rw [w182_l (o := 21) h (by decide) (by omega) (by omega)] at w93
  have cb := bl_c (s := 1) (a := 0) (b := 0) (e := 0) (j := 1) h (by omega) hn hP
  by_cases hd : d = 30
  · rw [if_pos hd] at w93 cb
    exact Or.inl ⟨8, by omega, by omega, c0 _ _ cb, w93⟩
  · rw [if_neg hd] at w93 cb
    have x1 : Rx K (cCnt (cAdd S d 1 (nI p)) d 0 0 0) (sl (mCom T d 3 (nI p)) d 0) n (d + 1) :=
      x_loop h (by omega) (Or.inl rfl) _ (Or.inr (Or.inr (Or.inl ⟨upd_s _ _ _, upd_s _ _ _, ⟨p, hp, upd_s _ _ _⟩, upd_s _ _ _⟩)))
    refine Or.inr (Or.inl ⟨_, _, _, _, c0 _ _ cb, w93, ?_, x_size (m := n - 1) x1 (by omega)⟩)
    unfold fX8_work_0 fX8_loopOf_0 fX8_loopOf_0_28
    have e4 : (mCom T d 3 (nI p)).1 0 19 = nI (d + 1) := rfl
    have e5 : (sl (mCom T d 3 (nI p)) d 0).1 0 6 = nI n := g2
    rw [if_neg (by decide), if_neg (by decide), if_pos (by decide), if_pos (by decide), if_neg (by decide), n_m0 h (by omega), bnd_x, if_neg (by decide), if_neg (by decide), hP, com1 g5 (by omega), bnd_x, e4, predI, stv_x, if_neg (by decide), if_neg (by decide), if_pos (vqI (by omega) (by omega)), nI_clamp (by omega), stp_x, e5, lit 1, subI hn, stp_x, bnd_x]
theorem op_20 (h : Rx K S T n d) (hi : S.1 0 7 = 0) : Op K (nI 20) S T := by
  refine op_mh h hi (by omega) (by omega) (ak_20 h) (fun hn hf => ?_)
  have hm := oc_mis h (o := 20) (by omega) hn hf
  have hn : 4 ≤ n := hn
  obtain ⟨g1, g2, g3, g4, g5, g6⟩ := rx_S h
  have f0 : S.1 6 (n - 1) = 4 := hf.1.resolve_left (by decide)
  obtain ⟨p, hp, hP⟩ := (okI h (i := n - 1) (by omega)).2.2 f0
  have c0 : ∀ r S1, fX7_countThrough_0 (S.1 7 (n - 4)) (S.1 7 (n - 3)) (S.1 7 (n - 2)) S = some (r, S1) → fX7_operate_0 tkF (nI 20) S = some (r, S1) := by
    intro r S1 hp
    unfold fX7_operate_0
    rw [if_pos hi, hm, bnd_x, if_pos rfl, if_neg (by decide), if_neg (by decide), if_neg (by decide), if_neg (by decide), if_pos (by decide), n_c3 h (by omega), bnd_x, n_c2 h (by omega), bnd_x, n_c1 h (by omega), bnd_x, hp, bnd_x]
  have w93 : fX8_wrong_0_93 (nI 20) T = if S.1 7 (n - 3) = 0 then some (nI 4, T) else fX8_wrong_0_182 (nI 20) T := by
    unfold fX8_wrong_0_93 fX8_isInRange_0
    rw [if_neg (by decide), if_neg (by decide), if_neg (by decide), if_neg (by decide), if_neg (by decide), if_neg (by decide), if_neg (by decide), if_neg (by decide), if_neg (by decide), if_neg (by decide), if_pos (by decide), n_m2 h (by omega), bnd_x]
    by_cases z : S.1 7 (n - 3) = 0
    · rw [if_pos z, if_pos z, bnd_x, if_pos rfl]; rfl
    · rw [if_neg z, if_neg z, bnd_x, if_neg (by decide), if_neg (by decide), if_neg (by decide)]; rfl
  by_cases z : S.1 7 (n - 3) = 0
  · rw [if_pos z] at w93
    refine Or.inl ⟨4, by omega, by omega, c0 _ _ ?_, w93⟩
    unfold fX7_countThrough_0
    rw [if_pos z]; rfl
  · rw [if_neg z, w182_l (o := 20) h (by decide) (by omega) (by omega)] at w93
    have cb := bl_c (s := 2) (a := S.1 7 (n - 4)) (b := S.1 7 (n - 3)) (e := S.1 7 (n - 2)) (j := 4) h (by omega) hn hP
    by_cases hd : d = 30
    · rw [if_pos hd] at w93 cb
      refine Or.inl ⟨8, by omega, by omega, c0 _ _ ?_, w93⟩
      unfold fX7_countThrough_0
      rw [if_neg z, show fX7_beginLoop_0 2 (S.1 7 (n - 4)) (S.1 7 (n - 3)) (S.1 7 (n - 2)) 4 S = _ from cb, bnd_x]
    · rw [if_neg hd] at w93 cb
      have x1 : Rx K (cCnt (cAdd S d 2 (nI p)) d (S.1 7 (n - 4)) (S.1 7 (n - 3)) (S.1 7 (n - 2))) (sl (si (si (mCom T d 2 (nI p)) 15 d (S.1 7 (n - 3))) 16 d (S.1 7 (n - 2))) d (S.1 7 (n - 4)).toInt64) n (d + 1) := by
        refine x_loop h (by omega) (Or.inr ⟨_, _, rfl⟩) _ (Or.inr (Or.inr (Or.inr (Or.inl ⟨upd_s _ _ _, upd_s _ _ _, ⟨p, hp, upd_s _ _ _⟩, ?_, ?_, ?_, ?_⟩))))
        · show upd _ d _ d ≠ 0
          rw [upd_s]; exact z
        · show upd _ d _ d = upd _ d _ d
          rw [upd_s, upd_s]
        · show upd _ d _ d = upd _ d _ d
          rw [upd_s, upd_s]
        · show vp_updL _ d _ d = vp_updL _ d _ d
          rw [pk_uLs, pk_uLs]
      refine Or.inr (Or.inl ⟨_, _, _, _, c0 _ _ ?_, w93, ?_, x_size (m := n - 4) x1 (by omega)⟩)
      · unfold fX7_countThrough_0
        rw [if_neg z, show fX7_beginLoop_0 2 (S.1 7 (n - 4)) (S.1 7 (n - 3)) (S.1 7 (n - 2)) 4 S = _ from cb, bnd_x]
      · unfold fX8_work_0 fX8_loopOf_0 fX8_loopOf_0_28
        have q3 : fX8_number_0 3 (mCom T d 2 (nI p)) = some (S.1 7 (n - 4), mCom T d 2 (nI p)) := mn (j := 3) (s := 2) (w := nI p) h (by omega)
        have e4 : (mCom T d 2 (nI p)).1 0 19 = nI (d + 1) := rfl
        have nbx : ∀ (X : St) (j : Nat), X.1 0 6 = nI n → X.1 5 = T.1 5 → j < n → fX8_number_0 (nI j) X = some (S.1 7 (n - (j + 1)), X) := by
          intro X j a1 a2 a3
          rw [nb a1 g3 a3, a2, show n - 1 - j = n - (j + 1) by omega, h.1.2.2.2.2.2.1]
        have q2 := nbx (sl (mCom T d 2 (nI p)) d (S.1 7 (n - 4)).toInt64) 2 g2 rfl (by omega)
        have q1 := nbx (si (sl (mCom T d 2 (nI p)) d (S.1 7 (n - 4)).toInt64) 15 d (S.1 7 (n - 3))) 1 g2 rfl (by omega)
        have q2 : fX8_number_0 2 (sl (mCom T d 2 (nI p)) d (S.1 7 (n - 4)).toInt64) = some (S.1 7 (n - 3), _) := q2
        have q1 : fX8_number_0 1 (si (sl (mCom T d 2 (nI p)) d (S.1 7 (n - 4)).toInt64) 15 d (S.1 7 (n - 3))) = some (S.1 7 (n - 2), _) := q1
        have e5 : (si (si (sl (mCom T d 2 (nI p)) d (S.1 7 (n - 4)).toInt64) 15 d (S.1 7 (n - 3))) 16 d (S.1 7 (n - 2))).1 0 6 = nI n := g2
        rw [if_neg (by decide), if_neg (by decide), if_pos (by decide), if_pos (by decide), if_neg (by decide), n_m0 h (by omega), bnd_x, if_neg (by decide), if_pos (by decide), hP, com1 g5 (by omega), bnd_x, e4, predI, stv_x, if_neg (by decide), if_pos (by decide), q3, bnd_x, if_pos (vqI (by omega) (by omega))]
        simp only [nI_clamp (show d < 2 ^ 31 by omega)]
        rw [stp_x, q2, bnd_x, if_pos (vqI (by omega) (by omega)), stp_x, q1, bnd_x, if_pos (vqI (by omega) (by omega)), stp_x, e5, lit 4, subI hn, stp_x, bnd_x]
        rfl
end HIGH2
