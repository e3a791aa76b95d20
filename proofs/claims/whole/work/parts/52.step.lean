/-! a step, in both -/
variable {K : Int32}
section STEP
variable {S T : St} {n d c o : Nat}
theorem lNt {n : Nat} (h : n < 2 ^ 40) : (lN n).toInt = (n : Int) := lg_ofNat_toInt (by omega)
theorem lNlt {a b : Nat} (ha : a < 2 ^ 40) (hb : b < 2 ^ 40) : lN a < lN b ↔ a < b := by
  rw [Int64.lt_iff_toInt_lt, lNt ha, lNt hb]; omega
theorem op_all (h : Rx K S T n (c + 1)) (h0 : S.1 14 c = 0) (hi : S.1 0 7 = 0) : ∀ o, o < 28 → Op K (nI o) S T
  | 0, _ => op_0 h hi
  | 1, _ => op_1 h hi
  | 2, _ => op_2 h hi
  | 3, _ => op_3 h hi
  | 4, _ => op_4 h hi
  | 5, _ => op_5 h hi
  | 6, _ => op_6 h hi
  | 7, _ => op_7 h hi
  | 8, _ => op_8 h hi
  | 9, _ => op_9 h hi
  | 10, _ => op_10 h hi
  | 11, _ => op_11 h hi
  | 12, _ => op_12 h hi
  | 13, _ => op_13 h hi
  | 14, _ => op_14 h hi
  | 15, _ => op_15 h hi
  | 16, _ => op_16 h h0 hi
  | 17, _ => op_17 h h0 hi
  | 18, _ => op_18 h h0 hi
  | 19, _ => op_19 h hi
  | 20, _ => op_20 h hi
  | 21, _ => op_21 h hi
  | 22, _ => op_22 h hi
  | 23, _ => op_23 h hi
  | 24, _ => op_24 h hi
  | 25, _ => op_25 h hi
  | 26, _ => op_26 h hi
  | 27, _ => op_27 h hi
  | o + 28, ho => absurd ho (by omega)
theorem x_it {v : Int32} (h : Rx K S T n d) (hv : v = 0 ∨ v = 1) : Rx K (si S 0 7 v) (si T 0 18 v) n d := by
  obtain ⟨h1, h2, h3, h4, h5, h6, h7, h8, h9⟩ := h
  exact ⟨q_it h1 v, h2, h3, h4, h5, ⟨hv, h6.2⟩, h7, h8, h9⟩
/-- what the class does with an operator, and the reference with it -/
def cTok (r7 : Int32) (S : St) : Option (Int32 × St) :=
      bnd (fX7_operate_0 tkF r7 S) fun r9 S9 =>
      if r9 = 0 then
        fX7_goOn_0_90 tkF S9
      else
        bnd (fX7_arise_0 r9 r7 S9) fun _ S11 =>
        fX7_goOn_0_90 tkF S11
def mTok (y2 : Int32) (S : St) : Option (Int32 × St) :=
    if (S.1 0 18) = 0 then
      bnd (fX8_wrong_0 y2 S) fun r6 S6 =>
      fX8_token__0_34 y2 r6 S6
    else
      fX8_token__0_34 y2 (11 : Int32) S
theorem tok_op (h : Rx K S T n (c + 1)) (h0 : S.1 14 c = 0) (ho : o < 28) : ∃ S1 T1 n1 d1, cTok (nI o) S = some (0, S1) ∧ mTok (nI o) T = some (0, T1) ∧ Rx K S1 T1 n1 d1 := by
  have e7 : S.1 0 7 = T.1 0 18 := h.1.2.2.2.2.2.2.2.2.2.2.2.2.2.2.2.2.2.2.2.2.1
  unfold cTok mTok
  by_cases hi : S.1 0 7 = 0
  · have hi2 : T.1 0 18 = 0 := e7 ▸ hi
    have hs : si T 0 18 0 = T := si_id hi2
    rw [if_pos hi2]
    rcases op_all h h0 hi o ho with ⟨e, a1, a2, a3, a4⟩ | ⟨S1, T1, n1, d1, a1, a2, a3, a4⟩ | ⟨e, a1, a2, a3, a4, a5⟩
    · obtain ⟨S1, T1, n1, d1, b1, b2, b3⟩ := arise_eq h a1 a2 (nI o)
      refine ⟨S1, T1, n1, d1, ?_, ?_, b3⟩
      · rw [a3, bnd_x, if_neg (nI_ne0 (by omega) (by omega)), b1, bnd_x]; rfl
      · unfold fX8_token__0_34
        rw [a4, bnd_x, stp_x, hs, if_neg (nI_nle (by omega) (by omega)), b2, bnd_x]; rfl
    · refine ⟨S1, T1, n1, d1, ?_, ?_, a4⟩
      · rw [a1, bnd_x, if_pos rfl]; rfl
      · unfold fX8_token__0_34
        rw [a2, bnd_x, stp_x, hs, if_pos (by decide), a3, bnd_x]; rfl
    · obtain ⟨S1, T1, n1, d1, b1, b2, b3⟩ := arise_eq h a1 a2 (nI o)
      refine ⟨S1, T1, n1, d1, ?_, ?_, b3⟩
      · rw [a3, bnd_x, if_neg (nI_ne0 (by omega) (by omega)), b1, bnd_x]; rfl
      · unfold fX8_token__0_34
        rw [a4, bnd_x, stp_x, hs, if_pos (by decide), a5 T1 b2, bnd_x]; rfl
  · have hi2 : ¬ T.1 0 18 = 0 := e7 ▸ hi
    obtain ⟨S1, T1, n1, d1, b1, b2, b3⟩ := arise_eq (e := 11) (x_it (v := 0) h (Or.inl rfl)) (by omega) (by omega) (nI o)
    rw [if_neg hi2]
    refine ⟨S1, T1, n1, d1, ?_, ?_, b3⟩
    · unfold fX7_operate_0
      rw [if_neg hi, stp_x, bnd_x, if_neg (by decide), show fX7_arise_0 11 (nI o) (si S 0 7 0) = _ from b1, bnd_x]; rfl
    · unfold fX8_token__0_34
      rw [stp_x, if_neg (by decide), show fX8_arise_0 11 (nI o) (si T 0 18 0) = _ from b2, bnd_x]; rfl
theorem x_goby {q : Nat} (h : Rx K S T n (c + 1)) (h0 : S.1 14 c = 0) (hq : q < 24) : Rx K (si S 16 c (nI (q + 1))) (si T 13 c (nI (q + 1))) n (c + 1) := by
  have hfr := rx_f h
  have hd := (rx_S h).2.2.2.2.2
  obtain ⟨p, q', l, hp, -, -, hP, -, -, -, -⟩ := spt h h0
  obtain ⟨h1, h2, h3, h4, h5, h6, h7, h8, h9⟩ := h
  refine ⟨q_pl h1 c _, h2, h3, h4, h5, h6, h7, ⟨h8.1, h8.2.1, h8.2.2.1, ?_⟩, h9⟩
  intro i hi
  by_cases e : i = c
  · rw [e]
    exact Or.inl ⟨h0, (frm_0 (hfr c (by omega))).mp h0, ⟨p, hp, hP⟩, q + 1, by omega, upd_s _ _ _⟩
  · exact frm_c (hfr i hi) rfl rfl rfl (upd_n _ _ e) rfl rfl rfl rfl rfl rfl
theorem tix {p q : Nat} (hp : p < 20) (hq : q < 24) : nI p * 24 + nI q = nI (24 * p + q) ∧ 24 * nI p + nI q = nI (24 * p + q) := by
  constructor
  · rw [lit 24, pk_mul, nI_add, Nat.mul_comm]
  · rw [lit 24, pk_mul, nI_add]
theorem htk {p q l : Nat} (hp : p < 20) (hq : q < l) (hl : l ≤ 24) (hL : S.1 4 p = nI l) : fX4_hasToken_1 (nI p) (nI q) S = some (1, S) := by
  unfold fX4_hasToken_1
  rw [if_neg (nI_pos (by omega)), len1 hp, bnd_x, hL, if_neg (by rw [leI (by omega) (by omega)]; omega)]
theorem kat {p q l : Nat} (hp : p < 20) (hq : q < l) (hl : l ≤ 24) (hL : S.1 4 p = nI l) : fX4_kindAt_1 (nI p) (nI q) S = some (S.1 2 (24 * p + q), S) := by
  unfold fX4_kindAt_1
  rw [htk hp hq hl hL, bnd_x, if_neg (by decide), (tix hp (by omega)).1, if_pos (vqI (by omega) (by omega)), nI_clamp (by omega)]
theorem nat_ {p q l : Nat} (hp : p < 20) (hq : q < l) (hl : l ≤ 24) (hL : S.1 4 p = nI l) : fX4_numberAt_1 (nI p) (nI q) S = some (S.1 3 (24 * p + q), S) := by
  unfold fX4_numberAt_1
  rw [htk hp hq hl hL, bnd_x, if_neg (by decide), (tix hp (by omega)).1, if_pos (vqI (by omega) (by omega)), nI_clamp (by omega)]
/-- a value of a row comes on the pile -/
theorem tok_put {k v a : Int32} {e : Nat} (h : Rx K S T n d) (hk : okV k v) : ∃ S1 T1 n1 d1, (bnd (fX2_put_5 k v S) fun r12 S12 => if r12 = 0 then bnd (fX7_arise_0 (2 : Int32) a S12) fun _ S14 => some ((0 : Int32), S14) else some ((0 : Int32), S12)) = some (0, S1) ∧ (if T.1 0 6 = 60 then bnd (fX8_arise_0 (2 : Int32) a T) fun _ S8 => some ((0 : Int32), S8) else bnd (fX8_lay_0 k v T) fun _ S10 => some ((0 : Int32), S10)) = some (0, T1) ∧ Rx K S1 T1 n1 d1 := by
  have h60 := (rx_S h).2.2.1
  rw [(rx_S h).2.1]
  by_cases hn : n = 60
  · subst hn
    obtain ⟨S1, T1, n1, d1, b1, b2, b3⟩ := arise_eq (e := 2) h (by omega) (by omega) a
    refine ⟨S1, T1, n1, d1, ?_, ?_, b3⟩
    · rw [put0 (rx_S h).1, bnd_x, if_pos rfl, show fX7_arise_0 2 a S = _ from b1, bnd_x]
    · rw [if_pos (by decide), show fX8_arise_0 2 a T = _ from b2, bnd_x]
  · refine ⟨_, _, _, _, ?_, ?_, x_put (k := k) (v := v) h (by omega) hk⟩
    · rw [put1 (rx_S h).1 (by omega), bnd_x, if_neg (by decide)]
    · rw [if_neg (by rw [lit 60, eqI (by omega) (by omega)]; exact hn), lyh h hn, bnd_x]
theorem row_eq (h : Rx K S T n (c + 1)) (h0 : S.1 14 c = 0) : ∃ S1 T1 n1 d1, fX7_step_0 tkF S = some (0, S1) ∧ fX8_step_0 T = some (0, T1) ∧ Rx K S1 T1 n1 d1 := by
  obtain ⟨g1, g2, g3, g4, g5, g6⟩ := rx_S h
  obtain ⟨p, q, l, hp, hq, hl, hP, hQ, hL, hO, hsp⟩ := spt h h0
  have f1 : T.1 11 c = 0 := (frm_0 (rx_f h c (by omega))).mp h0
  have t1 : T.1 12 c = nI p := by rw [← h.1.2.2.2.2.2.2.2.2.2.1]; exact hP
  have t2 : T.1 13 c = nI q := by rw [← h.1.2.2.2.2.2.2.2.2.2.2.1]; exact hQ
  have cs : ∀ S1, fX7_goOn_0 tkF S = some (0, S1) → fX7_step_0 tkF S = some (0, S1) := by
    intro S1 hg
    unfold fX7_step_0
    rw [tsr g4 (by omega), bnd_x, h0, if_pos rfl, hg, bnd_x]
  have cg : fX7_goOn_0 tkF S = if q < l then (bnd (fX0_goBy_13 S) fun _ S5 =>
    bnd (fX4_kindAt_1 (nI p) (nI q) S5) fun r6 S6 =>
    bnd (fX4_numberAt_1 (nI p) (nI q) S6) fun r7 S7 =>
    if r6 = (5 : Int32) then cTok r7 S7 else bnd (fX2_put_5 r6 r7 S7) fun r12 S12 => if r12 = 0 then bnd (fX7_arise_0 (2 : Int32) (-1) S12) fun _ S14 => some ((0 : Int32), S14) else some ((0 : Int32), S12)) else some (0, si S 13 6 (nI c)) := by
    unfold fX7_goOn_0
    rw [tsu g4 (by omega), bnd_x, tpl g4 (by omega), bnd_x, hP, hQ, len1 hp, bnd_x, hL]
    by_cases e : q < l
    · rw [if_pos e, if_pos (by rw [ltI (by omega) (by omega)]; exact e)]
      rfl
    · rw [if_neg e, if_neg (by rw [ltI (by omega) (by omega)]; exact e), tkt g4 (by omega), bnd_x]
  by_cases e : q < l
  · rw [if_pos e] at cg hsp
    have xg := x_goby h h0 (q := q) (by omega)
    have eg : fX0_goBy_13 S = some (0, si S 16 c (nI (q + 1))) := by rw [gby g4 (by omega), hQ, nI_1]
    rw [eg, bnd_x, kat (S := si S 16 c (nI (q + 1))) hp e hl hL, bnd_x, nat_ (S := si S 16 c (nI (q + 1))) hp e hl hL, bnd_x] at cg
    have k2 : (si S 16 c (nI (q + 1))).1 2 (24 * p + q) = S.1 2 (24 * p + q) := rfl
    have k3 : (si S 16 c (nI (q + 1))).1 3 (24 * p + q) = S.1 3 (24 * p + q) := rfl
    rw [k2, k3] at cg
    have m1 : T.1 1 (24 * p + q) = S.1 2 (24 * p + q) := (congrFun h.1.1 _).symm
    have m2 : T.1 2 (24 * p + q) = S.1 3 (24 * p + q) := (congrFun h.1.2.1 _).symm
    have ms : ∀ T1, fX8_token__0 (nI (24 * p + q)) (si T 13 c (nI (q + 1))) = some (0, T1) → fX8_step_0 T = some (0, T1) := by
      intro T1 ht
      unfold fX8_step_0
      rw [g5, predI, stv_x, if_pos (vqI (by omega) (by omega))]
      simp only [nI_clamp (show c < 2 ^ 31 by omega)]
      rw [if_pos f1, hsp, bnd_x, if_pos rfl, if_pos (vqI (by omega) (by omega)), if_pos (vqI (by omega) (by omega)), t1, t2, (tix hp (by omega)).2, stv_x, if_pos (vqI (by omega) (by omega)), if_pos (vqI (by omega) (by omega)), nI_1, stp_x, ht, bnd_x]
    have mt : fX8_token__0 (nI (24 * p + q)) (si T 13 c (nI (q + 1))) = if S.1 2 (24 * p + q) = 5 then mTok (S.1 3 (24 * p + q)) (si T 13 c (nI (q + 1))) else (if (si T 13 c (nI (q + 1))).1 0 6 = 60 then bnd (fX8_arise_0 (2 : Int32) (-1) (si T 13 c (nI (q + 1)))) fun _ S8 => some ((0 : Int32), S8) else bnd (fX8_lay_0 (S.1 2 (24 * p + q)) (S.1 3 (24 * p + q)) (si T 13 c (nI (q + 1)))) fun _ S10 => some ((0 : Int32), S10)) := by
      unfold fX8_token__0
      have m1 : (si T 13 c (nI (q + 1))).1 1 (24 * p + q) = S.1 2 (24 * p + q) := m1
      have m2 : (si T 13 c (nI (q + 1))).1 2 (24 * p + q) = S.1 3 (24 * p + q) := m2
      rw [if_pos (vqI (by omega) (by omega)), stv_x, if_pos (vqI (by omega) (by omega)), if_pos (vqI (by omega) (by omega)), nI_clamp (show 24 * p + q < 2 ^ 31 by omega), m1, m2]
      rfl
    by_cases k5 : S.1 2 (24 * p + q) = 5
    · obtain ⟨o, ho, hV⟩ := (hO q e).2 k5
      rw [if_pos k5, hV] at cg mt
      obtain ⟨S1, T1, n1, d1, b1, b2, b3⟩ := tok_op xg h0 ho
      exact ⟨S1, T1, n1, d1, cs _ (cg.trans b1), ms _ (mt.trans b2), b3⟩
    · rw [if_neg k5] at cg mt
      obtain ⟨S1, T1, n1, d1, b1, b2, b3⟩ := tok_put (e := 0) (a := -1) xg (hO q e).1
      exact ⟨S1, T1, n1, d1, cs _ (cg.trans b1), ms _ (mt.trans b2), b3⟩
  · rw [if_neg e] at cg hsp
    refine ⟨_, _, _, _, cs _ cg, ?_, x_cut (j := c) h (by omega)⟩
    unfold fX8_step_0
    rw [g5, predI, stv_x, if_pos (vqI (by omega) (by omega))]
    simp only [nI_clamp (show c < 2 ^ 31 by omega)]
    rw [if_pos f1, hsp, bnd_x, if_neg (by decide), g5, predI, stp_x]
theorem x_sl {w w' : Int64} (h : Rx K S T n (c + 1)) (hf : frm (sl S c w) (sl T c w') c) : Rx K (sl S c w) (sl T c w') n (c + 1) := by
  have hfr := rx_f h
  obtain ⟨h1, h2, h3, h4, h5, h6, h7, h8, h9⟩ := h
  refine ⟨h1, h2, h3, h4, h5, h6, h7, ⟨h8.1, h8.2.1, h8.2.2.1, ?_⟩, h9⟩
  intro i hi
  by_cases e : i = c
  · rw [e]; exact hf
  · exact frm_c (hfr i hi) rfl rfl rfl rfl rfl rfl (if_neg e) rfl rfl (if_neg e)
theorem tll (h : S.1 13 6 = nI (c + 1)) (hd : c < 30) : fX0_turnLoop_13 S = some (0, sl S c (S.2 c + (S.1 18 c).toInt64)) := by
  unfold fX0_turnLoop_13
  rw [h, if_neg (nI_nle (by omega) (by omega)), predI, if_pos (vqI hd (by omega)), if_pos (vqI hd (by omega)), if_pos (vqI hd (by omega)), nI_clamp (by omega), stp_x]
theorem ln1 (h : S.1 13 6 = nI (c + 1)) (hd : c < 30) : fX0_loopNumber_13 S = some ((S.2 c).toInt32, S) := by
  unfold fX0_loopNumber_13
  rw [h, if_neg (nI_nle (by omega) (by omega)), predI, if_pos (vqI hd (by omega)), nI_clamp (by omega)]
theorem t115 {p : Nat} {w' : Int64} (h : Rx K S T n (c + 1)) (hc : c + 1 < 30) (hp : p < 20) (hP : S.1 15 c = nI p) (hf : frm (sl S c (S.2 c + (S.1 18 c).toInt64)) (sl T c w') c) : fX7_turn_0_115 S = some (0, cAdd (sl S c (S.2 c + (S.1 18 c).toInt64)) (c + 1) 0 (nI p)) ∧ (∀ z2 z3 : Int64, z2 + z3 = w' → fX8_turn_0_230 (nI c) (nI c) z2 z3 T = some (0, mCom (sl T c w') (c + 1) 0 (nI p))) ∧ Rx K (cAdd (sl S c (S.2 c + (S.1 18 c).toInt64)) (c + 1) 0 (nI p)) (mCom (sl T c w') (c + 1) 0 (nI p)) n (c + 2) := by
  obtain ⟨g1, g2, g3, g4, g5, g6⟩ := rx_S h
  have x1 := x_sl h hf
  have t1 : T.1 12 c = nI p := by rw [← h.1.2.2.2.2.2.2.2.2.2.1]; exact hP
  refine ⟨?_, ?_, x_add (s := 0) (s' := 0) x1 hc (f_row hp)⟩
  · unfold fX7_turn_0_115
    have e1 : (sl S c (S.2 c + (S.1 18 c).toInt64)).1 15 c = nI p := hP
    rw [tll g4 (by omega), bnd_x, tsu (rx_S x1).2.2.2.1 (by omega), bnd_x, e1, add1 (rx_S x1).2.2.2.1 hc, bnd_x]
  · intro z2 z3 hz
    unfold fX8_turn_0_230
    have e1 : (sl T c w').1 12 c = nI p := t1
    rw [if_pos (vqI (by omega) (by omega)), hz, stp_x, if_pos (vqI (by omega) (by omega)), nI_clamp (by omega), e1, com1 (rx_S x1).2.2.2.2.1 hc, bnd_x]
theorem tg {z : Int32} {p : Nat} (h : Rx K S T n (c + 1)) (hz : z = 0 ∨ z = 1) (hp : p < 20) (hP : S.1 15 c = nI p) (hN : z = 1 → S.2 c = T.2 c)
    (hf : frm (sl S c (S.2 c + (S.1 18 c).toInt64)) (sl T c (T.2 c + (if z = 0 then -1 else (T.1 15 c).toInt64))) c) :
    ∃ S1 T1 n1 d1, fX7_turn_0_34 z S = some (0, S1) ∧ fX8_turn_0_108 (nI c) 1 z T = some (0, T1) ∧ Rx K S1 T1 n1 d1 := by
  obtain ⟨g1, g2, g3, g4, g5, g6⟩ := rx_S h
  have xc := x_cut (j := c) h (by omega)
  unfold fX7_turn_0_34 fX8_turn_0_108
  rw [if_neg (show ¬ (1 : Int32) = 0 by decide), g5]
  by_cases hd : c + 1 = 30
  · have hr : fX0_roomFor_13 1 S = some (0, S) := rf0 (j := 1) g4 (by omega) g6 (by omega)
    obtain ⟨S1, T1, n1, d1, b1, b2, b3⟩ := arise_eq (e := 8) xc (by omega) (by omega) (-2)
    refine ⟨S1, T1, n1, d1, ?_, ?_, b3⟩
    · rw [hr, bnd_x, if_pos rfl, tkt g4 (by omega), bnd_x, show fX7_arise_0 8 (-2) (si S 13 6 (nI c)) = _ from b1, bnd_x]
    · unfold fX8_turn_0_148 fX8_turn_0_163
      rw [hd, if_pos (show nI 30 = 30 from rfl), g5, hd, if_pos (show nI 30 = 30 from rfl), ← hd, predI, stp_x, show fX8_arise_0 8 (-2) (si T 0 19 (nI c)) = _ from b2, bnd_x]
  · have hr : fX0_roomFor_13 1 S = some (1, S) := rf1 (j := 1) g4 (by omega)
    have h30 : ¬ nI (c + 1) = 30 := by rw [lit 30, eqI (by omega) (by omega)]; exact hd
    rw [hr, bnd_x, if_neg (by decide), if_neg h30]
    rcases hz with rfl | rfl
    · rw [if_pos rfl] at hf
      obtain ⟨a1, a2, a3⟩ := t115 h (by omega) hp hP hf
      refine ⟨_, _, _, _, ?_, ?_, a3⟩
      · unfold fX7_turn_0_95
        rw [if_pos rfl, if_pos rfl, a1]
      · unfold fX8_turn_0_186 fX8_turn_0_202
        rw [if_pos rfl, if_pos rfl, if_pos (vqI (by omega) (by omega)), if_pos rfl, nI_clamp (show c < 2 ^ 31 by omega), a2 _ _ rfl]
    · rw [if_neg (by decide)] at hf
      rw [if_neg (show ¬ (1 : Int32) = 0 by decide), if_neg (show ¬ (1 : Int32) = 0 by decide), g2]
      by_cases hn : n = 60
      · subst hn
        obtain ⟨S1, T1, n1, d1, b1, b2, b3⟩ := arise_eq (e := 2) xc (by omega) (by omega) (-2)
        refine ⟨S1, T1, n1, d1, ?_, ?_, b3⟩
        · rw [full1 g1, bnd_x, if_neg (by decide), tkt g4 (by omega), bnd_x, show fX7_arise_0 2 (-2) (si S 13 6 (nI c)) = _ from b1, bnd_x]
        · unfold fX8_turn_0_148 fX8_turn_0_163
          rw [if_pos (show nI 60 = 60 from rfl), g5, if_neg h30, predI, stp_x, show fX8_arise_0 2 (-2) (si T 0 19 (nI c)) = _ from b2, bnd_x]
      · have x1 := x_put (k := 0) (v := (S.2 c).toInt32) h (by omega) (okN _)
        obtain ⟨a1, a2, a3⟩ := t115 (w' := T.2 c + (T.1 15 c).toInt64) x1 (by omega) hp hP hf
        refine ⟨_, _, _, _, ?_, ?_, a3⟩
        · unfold fX7_turn_0_95
          rw [full0 g1 (by omega), bnd_x, if_pos rfl, if_neg (by decide), ln1 g4 (by omega), bnd_x, put1 g1 (by omega), bnd_x, a1]
        · unfold fX8_turn_0_186 fX8_turn_0_202
          have q2 : (mPut T n 0 (S.2 c).toInt32).2 c = T.2 c := rfl
          have q3 : (mPut T n 0 (S.2 c).toInt32).1 15 c = T.1 15 c := rfl
          rw [if_neg (by rw [lit 60, eqI (by omega) (by omega)]; exact hn), if_neg (by decide), if_pos (vqI (by omega) (by omega))]
          simp only [nI_clamp (show c < 2 ^ 31 by omega)]
          rw [← hN rfl, lay g2 (by omega), bnd_x, if_pos (vqI (by omega) (by omega)), if_neg (by decide), if_pos (vqI (by omega) (by omega)), q2, q3, a2 _ _ rfl, hN rfl]
theorem turn_ok (h : Rx K S T n (c + 1)) (h12 : S.1 14 c = 1 ∨ S.1 14 c = 2) : ∃ S1 T1 n1 d1, fX7_turn_0 S = some (0, S1) ∧ fX8_turn_0 (nI c) T = some (0, T1) ∧ Rx K S1 T1 n1 d1 := by
  obtain ⟨g1, g2, g3, g4, g5, g6⟩ := rx_S h
  have xc := x_cut (j := c) h (by omega)
  have f := rx_f h c (by omega)
  have v := vqI (i := c) (N := 30) (by omega) (by omega)
  have cl := nI_clamp (show c < 2 ^ 31 by omega)
  have ov : fX0_loopIsOver_13 S = if S.1 18 c ≤ 0 then (if 0 ≤ S.1 18 c then some (0, S) else if 0 ≤ lg_cmp (S.2 c) (S.1 19 c).toInt64 then some (0, S) else some (1, S)) else if 0 < lg_cmp (S.2 c) (S.1 19 c).toInt64 then some (1, S) else some (0, S) := by
    unfold fX0_loopIsOver_13 fX0_loopIsOver_13_42 fX0_loopIsOver_13_72 fX0_loopIsOver_13_68
    rw [g4, if_neg (nI_ne0 (by omega) (by omega)), predI, stv_x]
    simp only [cl, if_pos v]
    by_cases a : S.1 18 c ≤ 0
    · rw [if_pos a, if_pos a]
    · rw [if_neg a, if_neg a]
      by_cases b : 0 < lg_cmp (S.2 c) (S.1 19 c).toInt64
      · rw [if_pos b, if_pos b]
      · rw [if_neg b, if_neg b, if_pos (Int32.le_of_lt (Int32.not_le.mp a))]
  have over : fX0_loopIsOver_13 S = some (1, S) → fX8_turn_0 (nI c) T = fX8_turn_0_108 (nI c) 0 (if T.1 11 c = 2 then 1 else 0) T → ∃ S1 T1 n1 d1, fX7_turn_0 S = some (0, S1) ∧ fX8_turn_0 (nI c) T = some (0, T1) ∧ Rx K S1 T1 n1 d1 := by
    intro a b
    refine ⟨_, _, _, _, ?_, ?_, xc⟩
    · unfold fX7_turn_0
      rw [a, bnd_x, if_neg (by decide), tkt g4 (by omega), bnd_x]
    · rw [b]
      unfold fX8_turn_0_108
      rw [if_pos rfl, g5, predI, stp_x]
  have m92 : ∀ w, fX8_turn_0_92 (nI c) w T = fX8_turn_0_108 (nI c) w (if T.1 11 c = 2 then 1 else 0) T := by
    intro w
    unfold fX8_turn_0_92
    simp only [cl, if_pos v]
    by_cases z : T.1 11 c = 2
    · rw [if_pos z, if_pos z]
    · rw [if_neg z, if_neg z]
  rcases f with f | f | f | f | f | f
  · rw [f.1] at h12; exact absurd h12 (by decide)
  · obtain ⟨f1, f2, ⟨p, hp, hP⟩, f3, t, u, hu, ht, f4, f5, f6⟩ := f
    have o1 : fX0_loopIsOver_13 S = if u < t then some (0, S) else some (1, S) := by
      rw [ov, f3, if_neg (by decide), f4, f5, nI_l ht]
      by_cases z : u < t
      · rw [if_pos z, if_neg (by rw [lg_cmp_gt, lNlt (by omega) (by omega)]; omega)]
      · rw [if_neg z, if_pos (by rw [lg_cmp_gt, lNlt (by omega) (by omega)]; omega)]
    have m0 : fX8_turn_0 (nI c) T = if u < t then fX8_turn_0_92 (nI c) 1 T else fX8_turn_0_92 (nI c) 0 T := by
      unfold fX8_turn_0 fX8_turn_0_87
      simp only [cl, if_pos v]
      rw [f2, if_neg (by decide), if_pos rfl, f6]
      by_cases z : u < t
      · rw [if_pos z, if_pos (by rw [lg_cmp_gt, show (0 : Int64) = lN 0 from rfl, lNlt (by omega) (by omega)]; omega)]
      · rw [if_neg z, if_neg (by rw [lg_cmp_gt, show (0 : Int64) = lN 0 from rfl, lNlt (by omega) (by omega)]; omega)]
        unfold fX8_turn_0_31 fX8_turn_0_91
        simp only [cl, if_pos v]
        rw [f2, if_neg (by decide)]
    rw [m92, m92, f2] at m0
    by_cases z : u < t
    · rw [if_pos z] at o1 m0
      have hf : frm (sl S c (S.2 c + (S.1 18 c).toInt64)) (sl T c (T.2 c + (if (0 : Int32) = 0 then -1 else (T.1 15 c).toInt64))) c := by
        refine Or.inr (Or.inl ⟨f1, f2, ⟨p, hp, hP⟩, f3, t, u + 1, by omega, ht, f4, ?_, ?_⟩)
        · show vp_updL _ c _ c = _
          rw [pk_uLs, f5, f3, show (1 : Int32).toInt64 = lN 1 by decide, lN_add]
        · show vp_updL _ c _ c = _
          rw [pk_uLs, f6, if_pos rfl, show t - u = (t - (u + 1)) + 1 by omega, ← lN_add, show (lN 1 : Int64) = 1 from rfl, Int64.add_assoc, show (1 : Int64) + -1 = 0 by decide, Int64.add_zero]
      obtain ⟨S1, T1, n1, d1, b1, b2, b3⟩ := tg (z := 0) h (Or.inl rfl) hp hP (fun e => absurd e (by decide)) hf
      refine ⟨S1, T1, n1, d1, ?_, ?_, b3⟩
      · unfold fX7_turn_0
        rw [o1, bnd_x, if_pos rfl, tsr g4 (by omega), bnd_x, f1, if_neg (by decide), b1]
      · rw [m0, if_neg (by decide)]; exact b2
    · rw [if_neg z] at o1 m0
      exact over o1 (by rw [m0, f2])
  · obtain ⟨f1, f2, ⟨p, hp, hP⟩, f3⟩ := f
    have o1 : fX0_loopIsOver_13 S = some (0, S) := by
      rw [ov, f3, if_pos (by decide), if_pos (by decide)]
    have m0 : fX8_turn_0 (nI c) T = fX8_turn_0_92 (nI c) 1 T := by
      unfold fX8_turn_0 fX8_turn_0_87
      simp only [cl, if_pos v]
      rw [f2, if_pos rfl]
    rw [m92, f2, if_neg (by decide)] at m0
    have hf : frm (sl S c (S.2 c + (S.1 18 c).toInt64)) (sl T c (T.2 c + (if (0 : Int32) = 0 then -1 else (T.1 15 c).toInt64))) c := Or.inr (Or.inr (Or.inl ⟨f1, f2, ⟨p, hp, hP⟩, f3⟩))
    obtain ⟨S1, T1, n1, d1, b1, b2, b3⟩ := tg (z := 0) h (Or.inl rfl) hp hP (fun e => absurd e (by decide)) hf
    refine ⟨S1, T1, n1, d1, ?_, m0.trans b2, b3⟩
    unfold fX7_turn_0
    rw [o1, bnd_x, if_pos rfl, tsr g4 (by omega), bnd_x, f1, if_neg (by decide), b1]
  · obtain ⟨f1, f2, ⟨p, hp, hP⟩, f3, f4, f5, f6⟩ := f
    have m0 : fX8_turn_0 (nI c) T = if S.1 18 c ≤ 0 then (if lg_cmp (S.2 c) (S.1 19 c).toInt64 < 0 then fX8_turn_0_92 (nI c) 0 T else fX8_turn_0_92 (nI c) 1 T) else if 0 < lg_cmp (S.2 c) (S.1 19 c).toInt64 then fX8_turn_0_92 (nI c) 0 T else fX8_turn_0_92 (nI c) 1 T := by
      unfold fX8_turn_0 fX8_turn_0_31 fX8_turn_0_87 fX8_turn_0_91
      simp only [cl, if_pos v]
      rw [f2, if_neg (by decide), if_neg (by decide), if_pos rfl, f4, f5, f6]
    rw [m92, m92, f2, if_pos rfl] at m0
    have go : fX0_loopIsOver_13 S = some (0, S) → fX8_turn_0 (nI c) T = fX8_turn_0_108 (nI c) 1 1 T → ∃ S1 T1 n1 d1, fX7_turn_0 S = some (0, S1) ∧ fX8_turn_0 (nI c) T = some (0, T1) ∧ Rx K S1 T1 n1 d1 := by
      intro o1 m1
      have hf : frm (sl S c (S.2 c + (S.1 18 c).toInt64)) (sl T c (T.2 c + (if (1 : Int32) = 0 then -1 else (T.1 15 c).toInt64))) c := by
        refine Or.inr (Or.inr (Or.inr (Or.inl ⟨f1, f2, ⟨p, hp, hP⟩, f3, f4, f5, ?_⟩)))
        show vp_updL _ c _ c = vp_updL _ c _ c
        rw [pk_uLs, pk_uLs, if_neg (by decide), f4, f6]
      obtain ⟨S1, T1, n1, d1, b1, b2, b3⟩ := tg (z := 1) h (Or.inr rfl) hp hP (fun _ => f6) hf
      refine ⟨S1, T1, n1, d1, ?_, m1.trans b2, b3⟩
      unfold fX7_turn_0
      rw [o1, bnd_x, if_pos rfl, tsr g4 (by omega), bnd_x, f1, if_pos rfl, b1]
    by_cases a : S.1 18 c ≤ 0
    · rw [if_pos a] at ov m0
      have a2 : ¬ 0 ≤ S.1 18 c := fun z => f3 (Int32.le_antisymm a z)
      rw [if_neg a2] at ov
      by_cases b : lg_cmp (S.2 c) (S.1 19 c).toInt64 < 0
      · rw [if_neg (Int32.not_le.mpr b)] at ov
        rw [if_pos b] at m0
        exact over ov (by rw [m0, f2, if_pos rfl])
      · rw [if_pos (Int32.not_lt.mp b)] at ov
        rw [if_neg b] at m0
        exact go ov m0
    · rw [if_neg a] at ov m0
      by_cases b : 0 < lg_cmp (S.2 c) (S.1 19 c).toInt64
      · rw [if_pos b] at ov m0
        exact over ov (by rw [m0, f2, if_pos rfl])
      · rw [if_neg b] at ov m0
        exact go ov m0
  · rw [f.1] at h12; exact absurd h12 (by decide)
  · rw [f.1] at h12; exact absurd h12 (by decide)
theorem step_eq (h : Rx K S T n (c + 1)) : ∃ S1 T1 n1 d1, fX7_step_0 tkF S = some (0, S1) ∧ fX8_step_0 T = some (0, T1) ∧ Rx K S1 T1 n1 d1 := by
  obtain ⟨g1, g2, g3, g4, g5, g6⟩ := rx_S h
  have f := rx_f h c (by omega)
  have xc := x_cut (j := c) h (by omega)
  have v := vqI (i := c) (N := 30) (by omega) (by omega)
  have cl := nI_clamp (show c < 2 ^ 31 by omega)
  by_cases h0 : S.1 14 c = 0
  · exact row_eq h h0
  · have t0 : ¬ T.1 11 c = 0 := fun z => h0 ((frm_0 f).mpr z)
    have cstep : fX7_step_0 tkF S = if S.1 14 c = 1 then fX7_step_0_43 tkF S else if S.1 14 c = 2 then fX7_step_0_43 tkF S else if S.1 14 c = 3 then (bnd (fX7_endStopped_0 S) fun _ S7 => some (0, S7)) else bnd (fX0_takeTop_13 S) fun _ S8 => some (0, S8) := by
      unfold fX7_step_0
      rw [tsr g4 (by omega), bnd_x, if_neg h0]
    have mstep : fX8_step_0 T = if T.1 11 c = 4 then (if T.1 0 6 = 60 then bnd (fX8_arise_0 2 (-3) (si T 0 19 (nI c))) fun _ S16 => some (0, S16) else bnd (fX8_lay_0 1 0 (si T 0 19 (nI c))) fun _ S17 => some (0, S17)) else if T.1 11 c = 5 then some (0, si T 0 19 (nI c)) else bnd (fX8_turn_0 (nI c) T) fun _ S20 => some (0, S20) := by
      unfold fX8_step_0
      rw [g5, predI, stv_x, if_pos v]
      simp only [cl]
      rw [if_neg t0, stp_x, stp_x]
      rfl
    have go : S.1 14 c = 1 ∨ S.1 14 c = 2 → ¬ T.1 11 c = 4 → ¬ T.1 11 c = 5 → ∃ S1 T1 n1 d1, fX7_step_0 tkF S = some (0, S1) ∧ fX8_step_0 T = some (0, T1) ∧ Rx K S1 T1 n1 d1 := by
      intro z z4 z5
      obtain ⟨S1, T1, n1, d1, b1, b2, b3⟩ := turn_ok h z
      rw [if_neg z4, if_neg z5, b2, bnd_x] at mstep
      refine ⟨S1, T1, n1, d1, ?_, mstep, b3⟩
      rw [cstep]
      have e : fX7_step_0_43 tkF S = some (0, S1) := by unfold fX7_step_0_43; rw [b1, bnd_x]
      by_cases z1 : S.1 14 c = 1
      · rw [if_pos z1, e]
      · rw [if_neg z1, if_pos (z.resolve_left z1), e]
    rcases frm_s f with ⟨a, b⟩ | ⟨a, b | b⟩ | ⟨a, b⟩ | ⟨a, b⟩ | ⟨a, b⟩
    · exact absurd a h0
    · exact go (Or.inl a) (by rw [b]; decide) (by rw [b]; decide)
    · exact go (Or.inl a) (by rw [b]; decide) (by rw [b]; decide)
    · exact go (Or.inr a) (by rw [b]; decide) (by rw [b]; decide)
    · rw [b, if_pos rfl] at mstep
      rw [a, if_neg (by decide), if_neg (by decide), if_pos rfl] at cstep
      obtain ⟨S1, T1, n1, d1, b1, b2, b3⟩ := tok_put (e := 0) (k := 1) (v := 0) (a := -3) xc (okT1 _)
      refine ⟨S1, T1, n1, d1, ?_, mstep.trans b2, b3⟩
      rw [cstep]
      unfold fX7_endStopped_0
      rw [tkt g4 (by omega), bnd_x]
      rw [b1, bnd_x]
    · rw [b, if_neg (by decide), if_pos rfl] at mstep
      rw [a, if_neg (by decide), if_neg (by decide), if_neg (by decide), tkt g4 (by omega), bnd_x] at cstep
      exact ⟨_, _, _, _, cstep, mstep, xc⟩
end STEP
