variable {K : Int32}
theorem rx_S {S T : St} {n d : Nat} (h : Rx K S T n d) : S.1 5 2 = nI n ∧ T.1 0 6 = nI n ∧ n ≤ 60 ∧ S.1 13 6 = nI d ∧ T.1 0 19 = nI d ∧ d ≤ 30 :=
  ⟨h.2.2.1.2.1, h.1.2.2.2.1 ▸ h.2.2.1.2.1, h.2.2.1.1, h.2.2.2.2.2.2.2.1.2.1, h.2.2.2.2.2.2.2.1.2.2.1, h.2.2.2.2.2.2.2.1.1⟩
theorem rx_f {S T : St} {n d : Nat} (h : Rx K S T n d) : ∀ i, i < d → frm S T i := h.2.2.2.2.2.2.2.1.2.2.2
theorem x_hb {S T : St} {n d : Nat} (h : Rx K S T n d) (v : Int32) : Rx K (si S 0 10 v) (si T 0 28 v) n d := by
  obtain ⟨h1, h2, h3, h4, h5, h6, h7, h8, h9⟩ := h
  exact ⟨q_hb h1 v, h2, h3, h4, h5, h6, h7, h8, h9⟩
def cAr (e : Nat) (r2 : Int32) (S3 : St) : Option (Int32 × St) :=
    if r2 = (-1 : Int32) then
      fX7_arise_0_53 (nI e) S3
    else
      bnd (fX0_roomFor_13 (2 : Int32) S3) fun r6 S6 =>
      if r6 = 0 then
        fX7_arise_0_53 (nI e) S6
      else
        bnd (fX0_add_13 (4 : Int32) (nI e) S6) fun _ S8 =>
        bnd (fX0_add_13 (0 : Int32) r2 S8) fun _ S9 =>
        stp (si S9 0 10 ((S9.1 0 10) + (1 : Int32))) fun S10 =>
        some (0, S10)
theorem ar_stop {S T : St} {n d : Nat} (h : Rx K S T n d) (r : Int32) : ∃ S1 T1 n1 d1, fX7_arise_0_53 r S = some (0, S1) ∧ fX8_arise_0_195 r T = some (0, T1) ∧ Rx K S1 T1 n1 d1 := by
  obtain ⟨S1, T1, n1, d1, a, b, c⟩ := stop_eq h r
  refine ⟨S1, T1, n1, d1, ?_, ?_, c⟩
  · unfold fX7_arise_0_53; rw [a, bnd_x]
  · unfold fX8_arise_0_195; rw [b, bnd_x]
theorem ar_go {S T : St} {n d e : Nat} (h : Rx K S T n d) (h1 : 1 ≤ e) (h2 : e ≤ 11) : ∃ S1 T1 n1 d1, cAr e (S.1 12 e) S = some (0, S1) ∧ fX8_arise_0_147 (nI e) T = some (0, T1) ∧ Rx K S1 T1 n1 d1 := by
  obtain ⟨g1, g2, g3, g4, g5, g6⟩ := rx_S h
  have hh : T.1 8 = S.1 12 := h.1.2.2.2.2.2.2.2.2.1.symm
  unfold cAr fX8_arise_0_147
  rw [if_pos (vqI (by omega) (by omega))]
  simp only [nI_clamp (show e < 2 ^ 31 by omega), hh]
  rcases h.2.2.2.2.1 e (by omega) with he | ⟨p, hp, he⟩
  · rw [he, if_pos rfl, if_pos m1_lt]
    exact ar_stop h _
  · rw [he, if_neg (neg1 (by omega)), if_neg (nI_pos (by omega)), g5, lit 29]
    by_cases hd : d ≤ 28
    · have hr : fX0_roomFor_13 2 S = some (1, S) := rf1 (j := 2) g4 (by omega)
      rw [if_neg (by rw [leI (by omega) (by omega)]; omega), hr, bnd_x, if_neg (by decide), add1 g4 (by omega), bnd_x, com1 g5 (by omega), bnd_x, if_pos (vqI (by omega) (by omega))]
      have x1 := x_add (s := 4) (s' := 5) (w := nI e) h (by omega) (f_hnd h1 h2)
      have e1 : (mCom T d 5 (nI e)).1 8 e = nI p := by
        show T.1 8 e = nI p
        rw [hh, he]
      rw [e1, add1 (d := d + 1) rfl (by omega), bnd_x, com1 (d := d + 1) rfl (by omega), bnd_x, stp_x, stp_x]
      have x2 := x_add (s := 0) (s' := 0) (w := nI p) x1 (by omega) (f_row hp)
      have e2 : (cAdd (cAdd S d 4 (nI e)) (d + 1) 0 (nI p)).1 0 10 = (mCom (mCom T d 5 (nI e)) (d + 1) 0 (nI p)).1 0 28 := x2.1.2.2.2.2.2.2.2.2.2.2.2.2.2.2.2.2.2.2.2.2.2
      rw [e2]
      exact ⟨_, _, n, d + 2, rfl, rfl, x_hb x2 _⟩
    · have hr : fX0_roomFor_13 2 S = some (0, S) := rf0 (j := 2) g4 (by omega) g6 (by omega)
      rw [if_pos (by rw [leI (by omega) (by omega)]; omega), hr, bnd_x, if_pos rfl]
      exact ar_stop h _
theorem arise_eq {S T : St} {n d e : Nat} (h : Rx K S T n d) (h1 : 1 ≤ e) (h2 : e ≤ 11) (c : Int32) : ∃ S1 T1 n1 d1, fX7_arise_0 (nI e) c S = some (0, S1) ∧ fX8_arise_0 (nI e) c T = some (0, T1) ∧ Rx K S1 T1 n1 d1 := by
  obtain ⟨g1, g2, g3, g4, g5, g6⟩ := rx_S h
  have eT : fX8_arise_0 (nI e) c T = fX8_arise_0_40 500 (nI e) (nI 0) (mT0 T n (nI e) c 0) := by
    unfold fX8_arise_0 mT0
    rw [stp_x, stp_x, stp_x, stp_x, stp_x, stp_x, stv_x, ← g2]
    rfl
  have eT2 : fX8_arise_0 (nI e) c T = fX8_arise_0_115 (nI e) (lastv (last (fun i => (mTell T n (nI e) c 0).1 11 i = 4 ∨ (mTell T n (nI e) c 0).1 11 i = 5) d)) (mTell T n (nI e) c 0) := by
    rw [eT, mcp_loop g3 (nI e) n 0 500 (mT0 T n (nI e) c 0) (by omega) (by omega) g2]
    have e3 : (mT0 T n (nI e) c 0).1 0 19 = nI d := g5
    rw [e3]
    exact ar_loop g6 (nI e) 500 (by omega)
  have e11 : (mTell T n (nI e) c 0).1 11 = T.1 11 := mCp_n _ _ _ _ (by decide) (by decide)
  have e12 : (mTell T n (nI e) c 0).1 12 = T.1 12 := mCp_n _ _ _ _ (by decide) (by decide)
  have hl : last (fun i => T.1 11 i = 4 ∨ T.1 11 i = 5) d = top34 S d := last_congr (fun i hi => by
    have f := rx_f h i hi
    rw [frm_3 f, frm_4 f])
  have hSe : ∀ w, (cTell S n (nI e) c w).1 12 e = S.1 12 e := by
    intro w
    unfold cTell
    rw [si_1, if_neg (by decide), cCp_n _ _ _ _ (by decide) (by decide)]; rfl
  rw [eT2, e11, hl]
  unfold fX7_arise_0
  rw [ehd g4 g6, bnd_x, ofh h1 h2, bnd_x, tell g1 g3, bnd_x]
  have hgo : ehv S d = 0 → (q : Int32) → fX8_arise_0_115 (nI e) q (mTell T n (nI e) c 0) = fX8_arise_0_147 (nI e) (mTell T n (nI e) c 0) → ∃ S1 T1 n1 d1, (if ehv S d = 0 then cAr e (S.1 12 e) (cTell S n (nI e) c (ehv S d)) else fX7_arise_0_53 (nI e) (cTell S n (nI e) c (ehv S d))) = some (0, S1) ∧ fX8_arise_0_115 (nI e) q (mTell T n (nI e) c 0) = some (0, T1) ∧ Rx K S1 T1 n1 d1 := by
    intro z q hq
    rw [z, if_pos rfl, hq]
    have := ar_go (x_tell h (nI e) c 0) h1 h2
    rw [hSe] at this
    exact this
  show ∃ S1 T1 n1 d1, (if ehv S d = 0 then cAr e (S.1 12 e) (cTell S n (nI e) c (ehv S d)) else fX7_arise_0_53 (nI e) (cTell S n (nI e) c (ehv S d))) = some (0, S1) ∧ _
  cases ht : top34 S d with
  | none =>
    refine hgo ?_ _ ?_
    · unfold ehv; rw [ht]
    · unfold fX8_arise_0_115
      rw [show lastv none = (-1 : Int32) from rfl, if_pos m1_lt]
  | some i =>
    have hi := last_lt ht
    have f := rx_f h i hi.1
    have hev : ehv S d = if S.1 14 i = 3 then 0 else S.1 15 i := by unfold ehv; rw [ht]
    by_cases h3 : S.1 14 i = 3
    · refine hgo ?_ _ ?_
      · rw [hev, if_pos h3]
      · unfold fX8_arise_0_115
        rw [show lastv (some i) = nI i from rfl, if_neg (nI_pos (by omega)), if_pos (vqI (by omega) (by omega))]
        simp only [nI_clamp (show i < 2 ^ 31 by omega)]
        rw [e11, (frm_3 f).mp h3, if_neg (by decide)]
    · have h4 : S.1 14 i = 4 := hi.2.resolve_left h3
      have h5 := (frm_4 f).mp h4
      have hs : ∃ e', 1 ≤ e' ∧ e' ≤ 11 ∧ S.1 15 i = nI e' := by
        rcases f with f | f | f | f | f | f
        · rw [h4] at f; exact absurd f.1 (by decide)
        · rw [h4] at f; exact absurd f.1 (by decide)
        · rw [h4] at f; exact absurd f.1 (by decide)
        · rw [h4] at f; exact absurd f.1 (by decide)
        · rw [h4] at f; exact absurd f.1 (by decide)
        · exact f.2.2
      obtain ⟨e', a1, a2, a3⟩ := hs
      have e15 : T.1 12 i = S.1 15 i := (congrFun h.1.2.2.2.2.2.2.2.2.2.1 i).symm
      rw [hev, if_neg h3, a3, if_neg (nI_ne0 (by omega) (by omega))]
      have eq : fX8_arise_0_115 (nI e) (lastv (some i)) (mTell T n (nI e) c 0) = fX8_arise_0_195 (nI e) (mTell T n (nI e) c (nI e')) := by
        unfold fX8_arise_0_115
        rw [show lastv (some i) = nI i from rfl, if_neg (nI_pos (by omega)), if_pos (vqI (by omega) (by omega))]
        simp only [nI_clamp (show i < 2 ^ 31 by omega)]
        rw [e11, if_pos h5, if_pos (vqI (by omega) (by omega)), stp_x, e12, e15, a3, mTell_w]
        rfl
      rw [eq]
      exact ar_stop (x_tell h (nI e) c (nI e')) _
