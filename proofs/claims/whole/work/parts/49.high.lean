variable {K : Int32}
/-! the operators 16 to 27 -/
section HIGH
variable {S T : St} {n d c o : Nat}
theorem spt (h : Rx K S T n (c + 1)) (h0 : S.1 14 c = 0) : ∃ p q l, p < 20 ∧ q ≤ 24 ∧ l ≤ 24 ∧ S.1 15 c = nI p ∧ S.1 16 c = nI q ∧ S.1 4 p = nI l ∧ (∀ j, j < l → okT (S.1 2 (24 * p + j)) (S.1 3 (24 * p + j))) ∧ fX8_isSpent_0 T = some (if q < l then 0 else 1, T) := by
  have hd := (rx_S h).2.2.2.2.2
  have f := rx_f h c (by omega)
  have f1 : T.1 11 c = 0 := (frm_0 f).mp h0
  have f2 : prc S c ∧ ∃ q, q ≤ 24 ∧ S.1 16 c = nI q := by
    rcases f with f | f | f | f | f | f
    · exact f.2.2
    · rw [h0] at f; exact absurd f.1 (by decide)
    · rw [h0] at f; exact absurd f.1 (by decide)
    · rw [h0] at f; exact absurd f.1 (by decide)
    · rw [h0] at f; exact absurd f.1 (by decide)
    · rw [h0] at f; exact absurd f.1 (by decide)
  obtain ⟨⟨p, hp, hP⟩, q, hq, hQ⟩ := f2
  obtain ⟨l, hl, hL, hO⟩ := h.2.1 p hp
  refine ⟨p, q, l, hp, hq, hl, hP, hQ, hL, hO, ?_⟩
  have t1 : T.1 12 c = nI p := by rw [← h.1.2.2.2.2.2.2.2.2.2.1]; exact hP
  have t2 : T.1 13 c = nI q := by rw [← h.1.2.2.2.2.2.2.2.2.2.2.1]; exact hQ
  have t3 : T.1 3 p = nI l := by rw [← h.1.2.2.1]; exact hL
  unfold fX8_isSpent_0
  rw [(rx_S h).2.2.2.2.1, if_neg (nI_nle (by omega) (by omega)), predI, if_pos (vqI (by omega) (by omega)), if_pos (vqI (by omega) (by omega)), if_pos (vqI (by omega) (by omega)), nI_clamp (show c < 2 ^ 31 by omega), f1, if_pos rfl, t1, t2, if_pos (vqI (by omega) (by omega)), nI_clamp (by omega), t3]
  by_cases e : q < l
  · rw [if_pos (by rw [ltI (by omega) (by omega)]; exact e), if_pos e]; rfl
  · rw [if_neg (by rw [ltI (by omega) (by omega)]; exact e), if_neg e]
theorem bg {p j : Nat} (h : Rx K S T n (c + 1)) (h0 : S.1 14 c = 0) (hp : p < 20) (hj : j ≤ n) :
    (fX7_begin_0 (nI p) (nI j) S = some (nI 8, S) ∧ fX8_mayBegin_0 T = some (0, T)) ∨
    (fX8_mayBegin_0 T = some (1, T) ∧ ∃ S1 T1 d1, fX7_begin_0 (nI p) (nI j) S = some (0, S1) ∧ fX8_begin_0 (nI p) (si T 0 6 (nI (n - j))) = some (0, T1) ∧ Rx K S1 T1 (n - j) d1) := by
  obtain ⟨g1, g2, g3, g4, g5, g6⟩ := rx_S h
  obtain ⟨p', q, l, hp', hq, hl, hP, hQ, hL, -, hsp⟩ := spt h h0
  have xs := x_size (m := n - j) h (by omega)
  have hsp2 : fX8_isSpent_0 (si T 0 6 (nI (n - j))) = some (if q < l then 0 else 1, si T 0 6 (nI (n - j))) := by
    obtain ⟨p2, q2, l2, b0, b1, b2, b3, b4, b5, -, b6⟩ := spt xs h0
    have c3 : nI p2 = nI p' := b3.symm.trans hP
    have c4 : nI q2 = nI q := b4.symm.trans hQ
    rw [eqI (by omega) (by omega)] at c4
    have hp2 : p2 = p' := by
      have := eqI (a := p2) (b := p') (by omega) (by omega)
      exact this.mp c3
    subst hp2
    have c5 : nI l2 = nI l := b5.symm.trans hL
    rw [eqI (by omega) (by omega)] at c5
    rw [c4, c5] at b6
    exact b6
  have hmay : fX8_mayBegin_0 T = if c + 1 < 30 ∨ ¬ q < l then some (1, T) else some (0, T) := by
    unfold fX8_mayBegin_0
    rw [g5]
    by_cases e1 : c + 1 < 30
    · rw [if_pos (by rw [lit 30, ltI (by omega) (by omega)]; exact e1), if_pos (Or.inl e1)]; rfl
    · rw [if_neg (by rw [lit 30, ltI (by omega) (by omega)]; exact e1), hsp, bnd_x]
      by_cases e2 : q < l
      · rw [if_pos e2, if_pos rfl, if_neg (fun z => z.elim e1 (fun z => z e2))]
      · rw [if_neg e2, if_neg (by decide), if_pos (Or.inr e2)]; rfl
  have hbc : fX7_begin_0 (nI p) (nI j) S = if q < l then fX7_begin_0_38 (nI p) (nI j) S else fX7_begin_0_39 (nI p) (nI j) 1 S := by
    unfold fX7_begin_0
    rw [tsr g4 (by omega), bnd_x, h0, if_pos rfl, tpl g4 (by omega), bnd_x, tsu g4 (by omega), bnd_x, hP, hQ, len1 hp', bnd_x, hL]
    by_cases e2 : q < l
    · rw [if_pos e2, if_pos (by rw [ltI (by omega) (by omega)]; exact e2)]
    · rw [if_neg e2, if_neg (by rw [ltI (by omega) (by omega)]; exact e2)]
  by_cases e2 : q < l
  · rw [if_pos e2] at hbc hsp2
    by_cases e1 : c + 1 < 30
    · rw [if_pos (Or.inl e1)] at hmay
      refine Or.inr ⟨hmay, _, _, _, ?_, ?_, x_add (s := 0) (s' := 0) (w := nI p) xs e1 (f_row hp)⟩
      · rw [hbc]
        unfold fX7_begin_0_38 fX7_begin_0_39 fX7_begin_0_68
        have hr : fX0_roomFor_13 1 S = some (1, S) := rf1 (j := 1) g4 (by omega)
        rw [if_pos rfl, hr, bnd_x, if_neg (by decide), tko g1 g3 hj, bnd_x, add1 (d := c + 1) (rx_S xs).2.2.2.1 e1, bnd_x]
      · unfold fX8_begin_0 fX8_begin_0_21
        rw [hsp2, bnd_x, if_pos rfl, stp_x, si_self, com1 (d := c + 1) (rx_S xs).2.2.2.2.1 e1, bnd_x]
    · rw [if_neg (fun z => z.elim e1 (fun z => z e2))] at hmay
      refine Or.inl ⟨?_, hmay⟩
      rw [hbc]
      unfold fX7_begin_0_38 fX7_begin_0_39
      have hr : fX0_roomFor_13 1 S = some (0, S) := rf0 (j := 1) g4 (by omega) g6 (by omega)
      rw [if_pos rfl, hr, bnd_x, if_pos rfl]; rfl
  · rw [if_neg e2] at hbc hsp2
    rw [if_pos (Or.inr e2)] at hmay
    have xc := x_cut (j := c) xs (by omega)
    refine Or.inr ⟨hmay, _, _, _, ?_, ?_, x_add (s := 0) (s' := 0) (w := nI p) xc (by omega) (f_row hp)⟩
    · rw [hbc]
      unfold fX7_begin_0_39 fX7_begin_0_68
      rw [if_neg (by decide), tkt g4 (by omega), bnd_x, tko (S := si S 13 6 (nI c)) g1 g3 hj, bnd_x, si_comm S 6 2 _ _ (show 13 ≠ 5 by decide), add1 (d := c) rfl (by omega), bnd_x]
    · unfold fX8_begin_0 fX8_begin_0_21
      have e6 : (si T 0 6 (nI (n - j))).1 0 19 = nI (c + 1) := g5
      rw [hsp2, bnd_x, if_neg (by decide), e6, predI, stp_x, com1 (d := c) rfl (by omega), bnd_x]
theorem oc_mis (h : Rx K S T n d) (ho : o < 28) (hn : (tkP o).length ≤ n) (hf : fts S n (tkP o) 0) : fX7_misfit_0 tkF (nI o) S = some (0, S) := by
  rw [mis (rx_S h).1 (rx_S h).2.2.1 ho, mf_ok _ _ _ (by omega) hf]
/-- as op_mk, for the operators above 15 -/
theorem op_mh (h : Rx K S T n d) (hi : S.1 0 7 = 0) (ho : o < 28) (h10 : 15 < o)
    (ak : (tkP o).length ≤ n → (fts S n (tkP o) 0 → fX8_areKinds_0 (nI o) T = some (1, T)) ∧ (¬ fts S n (tkP o) 0 → fX8_areKinds_0 (nI o) T = some (0, T)))
    (go : (tkP o).length ≤ n → fts S n (tkP o) 0 → (∃ e : Nat, 1 ≤ e ∧ e ≤ 11 ∧ fX7_operate_0 tkF (nI o) S = some (nI e, S) ∧ fX8_wrong_0_93 (nI o) T = some (nI e, T)) ∨ (∃ S1 T1 n1 d1, fX7_operate_0 tkF (nI o) S = some (0, S1) ∧ fX8_wrong_0_93 (nI o) T = some (0, T) ∧ fX8_work_0 (nI o) T = some (0, T1) ∧ Rx K S1 T1 n1 d1) ∨
      (∃ e : Nat, 1 ≤ e ∧ e ≤ 11 ∧ fX7_operate_0 tkF (nI o) S = some (nI e, S) ∧ fX8_wrong_0_93 (nI o) T = some (0, T) ∧ ∀ T1, fX8_arise_0 (nI e) (nI o) T = some (0, T1) → fX8_work_0 (nI o) T = some (0, T1))) : Op K (nI o) S T := by
  by_cases hn : (tkP o).length ≤ n
  · by_cases hf : fts S n (tkP o) 0
    · have w := wr_2 h ho (by omega) (by omega) (by omega) hn ((ak hn).1 hf)
      rcases go hn hf with ⟨e, a1, a2, a3, a4⟩ | ⟨S1, T1, n1, d1, a1, a2, a3, a4⟩ | ⟨e, a1, a2, a3, a4, a5⟩
      · exact Or.inl ⟨e, a1, a2, a3, w.trans a4⟩
      · exact Or.inr (Or.inl ⟨S1, T1, n1, d1, a1, w.trans a2, a3, a4⟩)
      · exact Or.inr (Or.inr ⟨e, a1, a2, a3, w.trans a4, a5⟩)
    · exact op_bad h hi ho (by omega) hn hf ((ak hn).2 hf)
  · exact op_few h hi ho (by omega)
/-- wrong's end where frames are asked for -/
theorem w182 (ho : o < 28) (h15 : 15 < o) {r : Int32} (hf : fX8_hasFrames_0 (nI o) T = some (r, T)) : fX8_wrong_0_182 (nI o) T = if r = 0 then some (nI 8, T) else some (0, T) := by
  unfold fX8_wrong_0_182
  rw [hf, bnd_x]
  by_cases e : r = 0
  · rw [if_pos e, if_pos e]; rfl
  · rw [if_neg e, if_neg e, if_neg (by rw [lit 8, eqI (by omega) (by omega)]; omega), if_neg (by rw [lit 11, eqI (by omega) (by omega)]; omega), if_neg (by rw [lit 12, eqI (by omega) (by omega)]; omega)]
    rfl
theorem hfr_b {r m : Int32} (ho : nI o = 16 ∨ nI o = 17 ∨ nI o = 18) (hp : fX8_procedureOf_0 (nI o) T = some (r, T)) (hm : fX8_mayBegin_0 T = some (m, T)) : fX8_hasFrames_0 (nI o) T = if r < 0 then some (1, T) else some (if m = 0 then 0 else 1, T) := by
  unfold fX8_hasFrames_0
  have e : fX8_in (nI o) 16 18 T = some (1, T) := by rcases ho with e | e | e <;> rw [e] <;> rfl
  rw [e, bnd_x, if_neg (by decide), hp, bnd_x]
  by_cases z : r < 0
  · rw [if_pos z, if_pos z]; rfl
  · rw [if_neg z, if_neg z, hm, bnd_x]
    by_cases y : m = 0
    · rw [if_pos y, if_pos y]
    · rw [if_neg y, if_neg y]; rfl
theorem pf125 {p j : Nat} (h : Rx K S T n d) (ho : nI o - 15 = nI j) (hj : j ≤ n) {T1 : St} (hp : p < 20) (hb : fX8_begin_0 (nI p) (si T 0 6 (nI (n - j))) = some (0, T1)) : fX8_perform_0_125 (nI o) (nI p) T = some (0, T1) := by
  unfold fX8_perform_0_125
  rw [ho, (rx_S h).2.1, subI hj, stp_x, if_neg (nI_pos (by omega)), hb, bnd_x]
theorem op_17 (h : Rx K S T n (c + 1)) (h0 : S.1 14 c = 0) (hi : S.1 0 7 = 0) : Op K (nI 17) S T := by
  refine op_mh h hi (by omega) (by omega) (ak_17 h) (fun hn hf => ?_)
  have hm := oc_mis h (o := 17) (by omega) hn hf
  have hn : 2 ≤ n := hn
  have f0 : S.1 6 (n - 1) = 4 := hf.1.resolve_left (by decide)
  obtain ⟨p, hp, hP⟩ := (okI h (i := n - 1) (by omega)).2.2 f0
  have e1 : fX8_wrong_0_93 (nI 17) T = fX8_wrong_0_182 (nI 17) T := rfl
  have c0 : ∀ r S1, fX7_beginIf_0 S = some (r, S1) → fX7_operate_0 tkF (nI 17) S = some (r, S1) := by
    intro r S1 hp
    unfold fX7_operate_0
    rw [if_pos hi, hm, bnd_x, if_pos rfl, if_neg (by decide), if_pos (by decide), hp, bnd_x]
  have po : fX8_procedureOf_0 (nI 17) T = some (if S.1 7 (n - 2) = 1 then nI p else -1, T) := by
    unfold fX8_procedureOf_0
    rw [if_neg (by decide), if_pos (by decide), n_m1 h (by omega), bnd_x]
    by_cases z : S.1 7 (n - 2) = 1
    · rw [if_pos z, if_pos z, n_m0 h (by omega), bnd_x, hP]
    · rw [if_neg z, if_neg z]
  by_cases z : S.1 7 (n - 2) = 1
  · rw [if_pos z] at po
    have cb : ∀ r S1, fX7_begin_0 (nI p) (nI 2) S = some (r, S1) → fX7_operate_0 tkF (nI 17) S = some (r, S1) := by
      intro r S1 hb
      refine c0 _ _ ?_
      unfold fX7_beginIf_0
      rw [n_c1 h (by omega), bnd_x, if_pos z, n_c0 h (by omega), bnd_x, hP, show fX7_begin_0 (nI p) 2 S = some (r, S1) from hb, bnd_x]
    rcases bg (p := p) (j := 2) h h0 hp hn with ⟨b1, b2⟩ | ⟨b1, S1, T1, d1, b2, b3, b4⟩
    · have hh := hfr_b (o := 17) (by decide) po b2
      rw [if_neg (nI_pos (by omega)), if_pos rfl] at hh
      have w := w182 (o := 17) (by omega) (by omega) hh
      rw [if_pos rfl] at w
      exact Or.inl ⟨8, by omega, by omega, cb _ _ b1, e1.trans w⟩
    · have hh := hfr_b (o := 17) (by decide) po b1
      rw [if_neg (nI_pos (by omega)), if_neg (by decide)] at hh
      have w := w182 (o := 17) (by omega) (by omega) hh
      rw [if_neg (by decide)] at w
      refine Or.inr (Or.inl ⟨S1, T1, _, d1, cb _ _ b2, e1.trans w, ?_, b4⟩)
      unfold fX8_work_0 fX8_perform_0 fX8_perform_0_115
      rw [if_neg (by decide), if_neg (by decide), if_pos (by decide), if_neg (by decide), po, bnd_x, if_neg (by decide), if_neg (by decide), if_neg (by decide), if_neg (by decide), pf125 (o := 17) h (by decide) hn hp b3, bnd_x]
  · rw [if_neg z] at po
    have hh : fX8_hasFrames_0 (nI 17) T = some (1, T) := by
      unfold fX8_hasFrames_0
      rw [show fX8_in (nI 17) 16 18 T = some (1, T) from rfl, bnd_x, if_neg (by decide), po, bnd_x, if_pos m1_lt]; rfl
    have w := w182 (o := 17) (by omega) (by omega) hh
    rw [if_neg (by decide)] at w
    refine Or.inr (Or.inl ⟨_, _, _, _, c0 _ _ ?_, e1.trans w, ?_, x_size (m := n - 2) h (by omega)⟩)
    · unfold fX7_beginIf_0
      rw [n_c1 h (by omega), bnd_x, if_neg z, to2 h hn, bnd_x]
    · unfold fX8_work_0 fX8_perform_0 fX8_perform_0_115 fX8_perform_0_125
      rw [if_neg (by decide), if_neg (by decide), if_pos (by decide), if_neg (by decide), po, bnd_x, if_neg (by decide), if_neg (by decide), if_neg (by decide), if_neg (by decide), show nI 17 - 15 = (2 : Int32) by decide, ts2 h hn, stp_x, if_pos m1_lt, bnd_x]
theorem op_18 (h : Rx K S T n (c + 1)) (h0 : S.1 14 c = 0) (hi : S.1 0 7 = 0) : Op K (nI 18) S T := by
  refine op_mh h hi (by omega) (by omega) (ak_18 h) (fun hn hf => ?_)
  have hm := oc_mis h (o := 18) (by omega) hn hf
  have hn : 3 ≤ n := hn
  have f0 : S.1 6 (n - 1) = 4 := hf.1.resolve_left (by decide)
  have f1 : S.1 6 (n - 2) = 4 := hf.2.1.resolve_left (by decide)
  have e1 : fX8_wrong_0_93 (nI 18) T = fX8_wrong_0_182 (nI 18) T := rfl
  have key : ∃ p, p < 20 ∧ fX8_procedureOf_0 (nI 18) T = some (nI p, T) ∧ ∀ r S1, fX7_begin_0 (nI p) (nI 3) S = some (r, S1) → fX7_operate_0 tkF (nI 18) S = some (r, S1) := by
    by_cases z : S.1 7 (n - 3) = 1
    · obtain ⟨p, hp, hP⟩ := (okI h (i := n - 2) (by omega)).2.2 f1
      refine ⟨p, hp, ?_, ?_⟩
      · unfold fX8_procedureOf_0
        rw [if_neg (by decide), if_neg (by decide), if_pos (by decide), n_m2 h (by omega), bnd_x, if_pos z, n_m1 h (by omega), bnd_x, hP]
      · intro r S1 hb
        unfold fX7_operate_0 fX7_operate_0_124
        rw [if_pos hi, hm, bnd_x, if_pos rfl, if_neg (by decide), if_neg (by decide), if_pos (by decide), n_c2 h (by omega), bnd_x, if_pos z, n_c1 h (by omega), bnd_x, hP, show fX7_begin_0 (nI p) 3 S = some (r, S1) from hb, bnd_x]
    · obtain ⟨p, hp, hP⟩ := (okI h (i := n - 1) (by omega)).2.2 f0
      refine ⟨p, hp, ?_, ?_⟩
      · unfold fX8_procedureOf_0
        rw [if_neg (by decide), if_neg (by decide), if_pos (by decide), n_m2 h (by omega), bnd_x, if_neg z, n_m0 h (by omega), bnd_x, hP]
      · intro r S1 hb
        unfold fX7_operate_0 fX7_operate_0_124
        rw [if_pos hi, hm, bnd_x, if_pos rfl, if_neg (by decide), if_neg (by decide), if_pos (by decide), n_c2 h (by omega), bnd_x, if_neg z, n_c0 h (by omega), bnd_x, hP, show fX7_begin_0 (nI p) 3 S = some (r, S1) from hb, bnd_x]
  obtain ⟨p, hp, po, cb⟩ := key
  rcases bg (p := p) (j := 3) h h0 hp hn with ⟨b1, b2⟩ | ⟨b1, S1, T1, d1, b2, b3, b4⟩
  · have hh := hfr_b (o := 18) (by decide) po b2
    rw [if_neg (nI_pos (by omega)), if_pos rfl] at hh
    have w := w182 (o := 18) (by omega) (by omega) hh
    rw [if_pos rfl] at w
    exact Or.inl ⟨8, by omega, by omega, cb _ _ b1, e1.trans w⟩
  · have hh := hfr_b (o := 18) (by decide) po b1
    rw [if_neg (nI_pos (by omega)), if_neg (by decide)] at hh
    have w := w182 (o := 18) (by omega) (by omega) hh
    rw [if_neg (by decide)] at w
    refine Or.inr (Or.inl ⟨S1, T1, _, d1, cb _ _ b2, e1.trans w, ?_, b4⟩)
    unfold fX8_work_0 fX8_perform_0 fX8_perform_0_115
    rw [if_neg (by decide), if_neg (by decide), if_pos (by decide), if_neg (by decide), po, bnd_x, if_neg (by decide), if_neg (by decide), if_neg (by decide), if_neg (by decide), pf125 (o := 18) h (by decide) hn hp b3, bnd_x]
theorem op_16 (h : Rx K S T n (c + 1)) (h0 : S.1 14 c = 0) (hi : S.1 0 7 = 0) : Op K (nI 16) S T := by
  refine op_mh h hi (by omega) (by omega) (ak_16 h) (fun hn hf => ?_)
  have hm := oc_mis h (o := 16) (by omega) hn hf
  have hn : 1 ≤ n := hn
  have c0 : ∀ r S1, fX7_execute_0 S = some (r, S1) → fX7_operate_0 tkF (nI 16) S = some (r, S1) := by
    intro r S1 hp
    unfold fX7_operate_0
    rw [if_pos hi, hm, bnd_x, if_pos rfl, if_pos (by decide), hp, bnd_x]
  -- a procedure p begins
  have go : ∀ p, p < 20 → fX8_procedureOf_0 (nI 16) T = some (nI p, T) → fX8_wrong_0_93 (nI 16) T = fX8_wrong_0_182 (nI 16) T → (∀ r S1, fX7_begin_0 (nI p) (nI 1) S = some (r, S1) → fX7_operate_0 tkF (nI 16) S = some (r, S1)) → (∃ e : Nat, 1 ≤ e ∧ e ≤ 11 ∧ fX7_operate_0 tkF (nI 16) S = some (nI e, S) ∧ fX8_wrong_0_93 (nI 16) T = some (nI e, T)) ∨ (∃ S1 T1 n1 d1, fX7_operate_0 tkF (nI 16) S = some (0, S1) ∧ fX8_wrong_0_93 (nI 16) T = some (0, T) ∧ fX8_work_0 (nI 16) T = some (0, T1) ∧ Rx K S1 T1 n1 d1) := by
    intro p hp po e1 cb
    rcases bg (p := p) (j := 1) h h0 hp hn with ⟨b1, b2⟩ | ⟨b1, S1, T1, d1, b2, b3, b4⟩
    · have hh := hfr_b (o := 16) (by decide) po b2
      rw [if_neg (nI_pos (by omega)), if_pos rfl] at hh
      have w := w182 (o := 16) (by omega) (by omega) hh
      rw [if_pos rfl] at w
      exact Or.inl ⟨8, by omega, by omega, cb _ _ b1, e1.trans w⟩
    · have hh := hfr_b (o := 16) (by decide) po b1
      rw [if_neg (nI_pos (by omega)), if_neg (by decide)] at hh
      have w := w182 (o := 16) (by omega) (by omega) hh
      rw [if_neg (by decide)] at w
      refine Or.inr ⟨S1, T1, _, d1, cb _ _ b2, e1.trans w, ?_, b4⟩
      unfold fX8_work_0 fX8_perform_0 fX8_perform_0_115
      rw [if_neg (by decide), if_neg (by decide), if_pos (by decide), if_neg (by decide), po, bnd_x, if_neg (by decide), if_neg (by decide), if_pos (by decide), if_pos (nI_pos' (by omega)), if_pos (by decide), if_neg (nI_pos (by omega)), pf125 (o := 16) h (by decide) hn hp b3, bnd_x]
  have hno : fX8_procedureOf_0 (nI 16) T = some (-1, T) → fX8_wrong_0_182 (nI 16) T = some (0, T) := by
    intro po
    have hh : fX8_hasFrames_0 (nI 16) T = some (1, T) := by
      unfold fX8_hasFrames_0
      rw [show fX8_in (nI 16) 16 18 T = some (1, T) from rfl, bnd_x, if_neg (by decide), po, bnd_x, if_pos m1_lt]; rfl
    have w := w182 (o := 16) (by omega) (by omega) hh
    rw [if_neg (by decide)] at w
    exact w
  by_cases k4 : S.1 6 (n - 1) = 4
  · obtain ⟨p, hp, hP⟩ := (okI h (i := n - 1) (by omega)).2.2 k4
    have po : fX8_procedureOf_0 (nI 16) T = some (nI p, T) := by
      unfold fX8_procedureOf_0 fX8_procedureOf_0_42 fX8_procedureOf_0_65
      rw [if_pos (by decide), k_m0 h (by omega), bnd_x, k4, if_neg (by decide), if_pos rfl, k_m0 h (by omega), bnd_x, k4, if_pos rfl, if_pos rfl, n_m0 h (by omega), bnd_x, hP]
    have e1 : fX8_wrong_0_93 (nI 16) T = fX8_wrong_0_182 (nI 16) T := by
      unfold fX8_wrong_0_93
      rw [show fX8_isInRange_0 (nI 16) T = some (1, T) from rfl, bnd_x, if_neg (by decide), if_neg (by decide), if_pos (by decide), k_m0 h (by omega), bnd_x, k4, if_neg (by decide)]
      rfl
    have g := go p hp po e1 (fun r S1 hb => c0 _ _ (by
      unfold fX7_execute_0
      rw [k_c0 h (by omega), bnd_x, n_c0 h (by omega), bnd_x, if_pos k4, hP, show fX7_begin_0 (nI p) 1 S = some (r, S1) from hb, bnd_x]))
    exact g.elim Or.inl (fun z => Or.inr (Or.inl z))
  · by_cases k2 : S.1 6 (n - 1) = 2
    · obtain ⟨v, hv, hV⟩ := (okI h (i := n - 1) (by omega)).2.1 k2
      have e0 : fX8_wrong_0_93 (nI 16) T = fX8_wrong_0_129 (nI 16) 1 T := by
        unfold fX8_wrong_0_93
        rw [show fX8_isInRange_0 (nI 16) T = some (1, T) from rfl, bnd_x, if_neg (by decide), if_neg (by decide), if_pos (by decide), k_m0 h (by omega), bnd_x, if_pos k2]
        rfl
      rw [w129 (o := 16) h hn hv hV] at e0
      have e2 : fX8_wrong_0_150 (nI 16) T = fX8_wrong_0_182 (nI 16) T := rfl
      rw [e2] at e0
      have e6 : T.1 6 v = S.1 9 v := (congrFun h.1.2.2.2.2.2.2.1 v).symm
      have po : fX8_procedureOf_0 (nI 16) T = if S.1 9 v = 4 then some (T.1 7 v, T) else some (-1, T) := by
        unfold fX8_procedureOf_0 fX8_procedureOf_0_42 fX8_procedureOf_0_65
        rw [if_pos (by decide), k_m0 h (by omega), bnd_x, if_pos k2, if_neg (by decide), n_m0 h (by omega), bnd_x, hV, if_pos (vqI (by omega) (by omega)), nI_clamp (by omega), e6]
        by_cases z : S.1 9 v = 4
        · rw [if_pos z, if_pos z, if_neg (by decide), n_m0 h (by omega), bnd_x, hV, if_pos (vqI (by omega) (by omega)), nI_clamp (by omega)]
        · rw [if_neg z, if_neg z]
      have l0 := lku h hn hv
      by_cases z4 : S.1 9 v = 4
      · have z1 : S.1 9 v ≠ -1 := by rw [z4]; decide
        rw [if_neg z1] at e0
        have e7 := h.1.2.2.2.2.2.2.2.1 v hv z1
        obtain ⟨p, hp, hP⟩ := ((h.2.2.2.1 v hv).resolve_left (fun y => z1 y.1)).2.2 z4
        rw [if_pos z4, ← e7, hP] at po
        have g := go p hp po e0 (fun r S1 hb => c0 _ _ (by
          unfold fX7_execute_0
          rw [k_c0 h (by omega), bnd_x, n_c0 h (by omega), bnd_x, if_neg k4, if_pos k2, hV, kof hv, bnd_x, if_pos z4, nof hv, bnd_x, hP, show fX7_begin_0 (nI p) 1 S = some (r, S1) from hb, bnd_x]))
        exact g.elim Or.inl (fun z => Or.inr (Or.inl z))
      · rw [if_neg z4] at po
        have cl : ∀ r S1, fX3_lookUp_24 (nI v) S = some (r, S1) → fX7_operate_0 tkF (nI 16) S = some (r, S1) := fun r S1 hb => c0 _ _ (by
          unfold fX7_execute_0
          rw [k_c0 h (by omega), bnd_x, n_c0 h (by omega), bnd_x, if_neg k4, if_pos k2, hV, kof hv, bnd_x, if_neg z4, hb, bnd_x])
        by_cases z : S.1 9 v = -1
        · rw [if_pos z] at l0 e0
          exact Or.inl ⟨5, by omega, by omega, cl _ _ l0, e0⟩
        · rw [if_neg z] at l0 e0
          refine Or.inr (Or.inl ⟨_, _, _, _, cl _ _ l0, e0.trans (hno po), ?_, x_rep (m := n - 1) h (by omega) ((h.2.2.2.1 v hv).resolve_left (fun y => z y.1))⟩)
          unfold fX8_work_0 fX8_perform_0
          rw [if_neg (by decide), if_neg (by decide), if_pos (by decide), if_neg (by decide), po, bnd_x, if_neg (by decide), if_neg (by decide), if_pos (by decide), if_neg (by decide), k_m0 h (by omega), bnd_x, if_pos k2, p80 h hn hv hV z, bnd_x]
    · have po : fX8_procedureOf_0 (nI 16) T = some (-1, T) := by
        unfold fX8_procedureOf_0 fX8_procedureOf_0_42 fX8_procedureOf_0_65
        rw [if_pos (by decide), k_m0 h (by omega), bnd_x, if_neg k2, if_pos rfl, k_m0 h (by omega), bnd_x, if_neg k4]
      have e1 : fX8_wrong_0_93 (nI 16) T = fX8_wrong_0_182 (nI 16) T := by
        unfold fX8_wrong_0_93
        rw [show fX8_isInRange_0 (nI 16) T = some (1, T) from rfl, bnd_x, if_neg (by decide), if_neg (by decide), if_pos (by decide), k_m0 h (by omega), bnd_x, if_neg k2]
        rfl
      refine Or.inr (Or.inl ⟨S, T, _, _, c0 _ _ ?_, e1.trans (hno po), ?_, h⟩)
      · unfold fX7_execute_0
        rw [k_c0 h (by omega), bnd_x, n_c0 h (by omega), bnd_x, if_neg k4, if_neg k2]
      · unfold fX8_work_0 fX8_perform_0 fX8_perform_0_115
        rw [if_neg (by decide), if_neg (by decide), if_pos (by decide), if_neg (by decide), po, bnd_x, if_neg (by decide), if_neg (by decide), if_pos (by decide), if_neg (by decide), k_m0 h (by omega), bnd_x, if_neg k2, if_pos (by decide), if_pos m1_lt, bnd_x]
end HIGH
