variable {K : Int32}
/-! moves of class and reference that keep the relation -/
theorem si_comm (S : St) {c c' : Nat} (k k' : Nat) (v v' : Int32) (h : c ≠ c') : si (si S c k v) c' k' v' = si (si S c' k' v') c k v := by
  show (_, _) = (_, _)
  have : (fun x => if x = c' then upd ((si S c k v).1 c') k' v' else (si S c k v).1 x) = fun x => if x = c then upd ((si S c' k' v').1 c) k v else (si S c' k' v').1 x := by
    funext x
    simp only [si_1]
    by_cases h1 : x = c
    · subst h1
      rw [if_neg h, if_pos rfl, if_pos rfl, if_neg h]
    · by_cases h2 : x = c'
      · subst h2
        rw [if_pos rfl, if_neg h1, if_neg h1, if_pos rfl]
      · rw [if_neg h2, if_neg h1, if_neg h1, if_neg h2]
  rw [this]; rfl
theorem si_comk (S : St) (c : Nat) {k k' : Nat} (v v' : Int32) (h : k ≠ k') : si (si S c k v) c k' v' = si (si S c k' v') c k v := by
  show (_, _) = (_, _)
  have : (fun x => if x = c then upd ((si S c k v).1 c) k' v' else (si S c k v).1 x) = fun x => if x = c then upd ((si S c k' v').1 c) k v else (si S c k' v').1 x := by
    funext x
    simp only [si_1]
    by_cases h1 : x = c
    · rw [if_pos h1, if_pos h1, if_pos trivial, if_pos trivial, upd_comm _ _ _ h]
    · rw [if_neg h1, if_neg h1, if_neg h1, if_neg h1]
  rw [this]; rfl
theorem frm_c {S T S' T' : St} {i : Nat} (h : frm S T i) (h1 : S'.1 14 i = S.1 14 i) (h2 : T'.1 11 i = T.1 11 i) (h3 : S'.1 15 i = S.1 15 i) (h4 : S'.1 16 i = S.1 16 i) (h5 : S'.1 18 i = S.1 18 i) (h6 : S'.1 19 i = S.1 19 i) (h7 : S'.2 i = S.2 i) (h8 : T'.1 15 i = T.1 15 i) (h9 : T'.1 16 i = T.1 16 i) (h10 : T'.2 i = T.2 i) : frm S' T' i := by
  unfold frm prc at *
  rw [h1, h2, h3, h4, h5, h6, h7, h8, h9, h10]
  exact h
theorem x_put {S T : St} {n d : Nat} {k v : Int32} (h : Rx K S T n d) (hn : n < 60) (hv : okV k v) : Rx K (cPut S n k v) (mPut T n k v) (n + 1) d := by
  obtain ⟨h1, h2, h3, h4, h5, h6, h7, h8, h9⟩ := h
  refine ⟨q_sz (q_pn (q_pk h1 n k) n v) (nI (n + 1)), h2, ⟨by omega, rfl, ?_⟩, h4, h5, h6, h7, h8, h9⟩
  intro i hi
  show okV (upd (S.1 6) n k i) (upd (S.1 7) n v i)
  by_cases e : i = n
  · rw [e, upd_s, upd_s]; exact hv
  · rw [upd_n _ _ e, upd_n _ _ e]; exact h3.2.2 i (by omega)
theorem x_size {S T : St} {n d m : Nat} (h : Rx K S T n d) (hm : m ≤ n) : Rx K (si S 5 2 (nI m)) (si T 0 6 (nI m)) m d := by
  obtain ⟨h1, h2, h3, h4, h5, h6, h7, h8, h9⟩ := h
  exact ⟨q_sz h1 (nI m), h2, ⟨Nat.le_trans hm h3.1, rfl, fun i hi => h3.2.2 i (by omega)⟩, h4, h5, h6, h7, h8, h9⟩
theorem cRep_eq (S : St) (m : Nat) (k v : Int32) : cRep S m k v = cPut (si S 5 2 (nI m)) m k v := by
  unfold cRep cPut
  rw [si_comm S 2 m _ _ (show 5 ≠ 6 by decide), si_comm (si S 6 m k) 2 m _ _ (show 5 ≠ 7 by decide), si_comm S 2 m _ _ (show 5 ≠ 6 by decide), si_comm (si S 6 m k) 2 m _ _ (show 5 ≠ 7 by decide), si_si]
theorem x_rep {S T : St} {n d m : Nat} {k v : Int32} (h : Rx K S T n d) (hm : m < n) (hv : okV k v) : Rx K (cRep S m k v) (mPut (si T 0 6 (nI m)) m k v) (m + 1) d := by
  rw [cRep_eq]
  have hn := h.2.2.1.1
  exact x_put (x_size h (Nat.le_of_lt hm)) (by omega) hv
theorem x_cut {S T : St} {n d j : Nat} (h : Rx K S T n d) (hj : j ≤ d) : Rx K (si S 13 6 (nI j)) (si T 0 19 (nI j)) n j := by
  obtain ⟨h1, h2, h3, h4, h5, h6, h7, h8, h9⟩ := h
  exact ⟨q_mc (q_cc h1 _) _, h2, h3, h4, h5, h6, h7, ⟨Nat.le_trans hj h8.1, rfl, rfl, fun i hi => h8.2.2.2 i (by omega)⟩, h9⟩
theorem x_add {S T : St} {n d : Nat} {s s' w : Int32} (h : Rx K S T n d) (hd : d < 30) (hf : frm (cAdd S d s w) (mCom T d s' w) d) : Rx K (cAdd S d s w) (mCom T d s' w) n (d + 1) := by
  obtain ⟨h1, h2, h3, h4, h5, h6, h7, h8, h9⟩ := h
  have e7 : S.1 13 7 = T.1 0 27 := h1.2.2.2.2.2.2.2.2.2.2.2.1
  refine ⟨?_, h2, h3, h4, h5, h6, h7, ⟨by omega, rfl, rfl, ?_⟩, h9⟩
  · have g1 := q_pl (q_sb (q_ms (q_cs h1 d s) d s') d w) d 0
    have g2 := q_mc (q_cc g1 (nI (d + 1))) (nI (d + 1))
    have g3 := q_mo g2 (nmo (S.1 13 7) (nI (d + 1)))
    unfold cAdd mCom
    rw [← e7]
    exact g3
  · intro i hi
    by_cases e : i = d
    · rw [e]; exact hf
    · exact frm_c (h8.2.2.2 i (by omega)) (upd_n _ _ e) (upd_n _ _ e) (upd_n _ _ e) (upd_n _ _ e) rfl rfl rfl rfl rfl rfl
theorem f_row {S T : St} {d p : Nat} (hp : p < 20) : frm (cAdd S d 0 (nI p)) (mCom T d 0 (nI p)) d := Or.inl ⟨upd_s _ _ _, upd_s _ _ _, ⟨p, hp, upd_s _ _ _⟩, 0, by omega, upd_s _ _ _⟩
theorem f_stp {S T : St} {d : Nat} {w : Int32} : frm (cAdd S d 3 w) (mCom T d 4 w) d := Or.inr (Or.inr (Or.inr (Or.inr (Or.inl ⟨upd_s _ _ _, upd_s _ _ _⟩))))
theorem f_hnd {S T : St} {d e : Nat} (h1 : 1 ≤ e) (h2 : e ≤ 11) : frm (cAdd S d 4 (nI e)) (mCom T d 5 (nI e)) d := Or.inr (Or.inr (Or.inr (Or.inr (Or.inr ⟨upd_s _ _ _, upd_s _ _ _, e, h1, h2, upd_s _ _ _⟩))))
/-- the sorts of a frame, in both -/
theorem frm_s {S T : St} {i : Nat} (h : frm S T i) : (S.1 14 i = 0 ∧ T.1 11 i = 0) ∨ (S.1 14 i = 1 ∧ (T.1 11 i = 1 ∨ T.1 11 i = 3)) ∨ (S.1 14 i = 2 ∧ T.1 11 i = 2) ∨ (S.1 14 i = 3 ∧ T.1 11 i = 4) ∨ (S.1 14 i = 4 ∧ T.1 11 i = 5) := by
  rcases h with h | h | h | h | h | h
  · exact Or.inl ⟨h.1, h.2.1⟩
  · exact Or.inr (Or.inl ⟨h.1, Or.inl h.2.1⟩)
  · exact Or.inr (Or.inl ⟨h.1, Or.inr h.2.1⟩)
  · exact Or.inr (Or.inr (Or.inl ⟨h.1, h.2.1⟩))
  · exact Or.inr (Or.inr (Or.inr (Or.inl ⟨h.1, h.2⟩)))
  · exact Or.inr (Or.inr (Or.inr (Or.inr ⟨h.1, h.2.1⟩)))
theorem frm_3 {S T : St} {i : Nat} (h : frm S T i) : S.1 14 i = 3 ↔ T.1 11 i = 4 := by
  rcases frm_s h with ⟨a, b⟩ | ⟨a, b | b⟩ | ⟨a, b⟩ | ⟨a, b⟩ | ⟨a, b⟩ <;> rw [a, b] <;> decide
theorem frm_4 {S T : St} {i : Nat} (h : frm S T i) : S.1 14 i = 4 ↔ T.1 11 i = 5 := by
  rcases frm_s h with ⟨a, b⟩ | ⟨a, b | b⟩ | ⟨a, b⟩ | ⟨a, b⟩ | ⟨a, b⟩ <;> rw [a, b] <;> decide
theorem frm_0 {S T : St} {i : Nat} (h : frm S T i) : S.1 14 i = 0 ↔ T.1 11 i = 0 := by
  rcases frm_s h with ⟨a, b⟩ | ⟨a, b | b⟩ | ⟨a, b⟩ | ⟨a, b⟩ | ⟨a, b⟩ <;> rw [a, b] <;> decide
-- stop
theorem tms_loop {S : St} {d : Nat} (hd : d ≤ 30) : ∀ f, d < f → fX0_topmostStopped_13_7 f (nI d - 1) S = some (lastv (last (fun i => S.1 14 i = 3) d), S) := by
  induction d with
  | zero =>
    intro f hf
    obtain ⟨f, rfl⟩ : ∃ g, f = g + 1 := ⟨f - 1, by omega⟩
    rw [fX0_topmostStopped_13_7.eq_2, sub1_0, if_pos m1_lt]
    rfl
  | succ n ih =>
    intro f hf
    obtain ⟨f, rfl⟩ : ∃ g, f = g + 1 := ⟨f - 1, by omega⟩
    rw [fX0_topmostStopped_13_7.eq_2, predI, if_neg (nI_pos (by omega)), if_pos (vqI (by omega) (by omega)), nI_clamp (by omega)]
    by_cases h3 : S.1 14 n = 3
    · rw [if_pos h3]
      unfold last
      rw [if_pos h3]; rfl
    · rw [if_neg h3]
      unfold last stv
      rw [if_neg h3, addm1]
      exact ih (by omega) f (by omega)
theorem tms {S : St} {d : Nat} (h : S.1 13 6 = nI d) (hd : d ≤ 30) : fX0_topmostStopped_13 S = some (lastv (last (fun i => S.1 14 i = 3) d), S) := by
  unfold fX0_topmostStopped_13 stv
  rw [h]
  exact tms_loop hd 500 (by omega)
def upto (o : Option Nat) : Nat := match o with
  | none => 0
  | some i => i + 1
theorem stop_loop (q : Int32) (g : Nat → Int32) : ∀ (d f : Nat) (T : St), d ≤ 30 → d < f → T.1 0 19 = nI d → T.1 11 = g → fX8_stop_0_0 f q T = fX8_stop_0_35 q (si T 0 19 (nI (upto (last (fun i => g i = 4) d)))) := by
  intro d
  induction d with
  | zero =>
    intro f T _ hf h hg
    obtain ⟨f, rfl⟩ : ∃ g, f = g + 1 := ⟨f - 1, by omega⟩
    rw [fX8_stop_0_0.eq_2, h, if_pos (by decide)]
    have e : si T 0 19 (nI (upto (last (fun i => g i = 4) 0))) = T := by
      show si T 0 19 (nI 0) = T
      rw [← h, si_self]
    rw [e]
  | succ n ih =>
    intro f T hd hf h hg
    obtain ⟨f, rfl⟩ : ∃ g, f = g + 1 := ⟨f - 1, by omega⟩
    rw [fX8_stop_0_0.eq_2, h, if_neg (nI_nle (by omega) (by omega)), predI, if_pos (vqI (by omega) (by omega)), nI_clamp (by omega), hg]
    by_cases h4 : g n = 4
    · rw [if_pos h4]
      have e : si T 0 19 (nI (upto (last (fun i => g i = 4) (n + 1)))) = T := by
        have e2 : last (fun i => g i = 4) (n + 1) = some n := if_pos h4
        rw [e2]
        show si T 0 19 (nI (n + 1)) = T
        rw [← h, si_self]
      rw [e]
    · rw [if_neg h4, stp_x, ih f (si T 0 19 (nI n)) (by omega) (by omega) rfl hg, si_si]
      have e2 : last (fun i => g i = 4) (n + 1) = last (fun i => g i = 4) n := if_neg h4
      rw [e2]
theorem x_end {S T : St} {n d : Nat} (h : Rx K S T n d) (v : Int32) : Rx K (si S 0 8 v) (si T 0 29 v) n d := by
  obtain ⟨h1, h2, h3, h4, h5, h6, h7, h8, h9⟩ := h
  exact ⟨q_me (q_ce h1 v) v, h2, h3, h4, h5, h6, h7, h8, rfl, h9.2⟩
theorem okT1 (v : Int32) : okV 1 v := ⟨by decide, fun h => absurd h (by decide), fun h => absurd h (by decide)⟩
theorem okN (v : Int32) : okV 0 v := ⟨by decide, fun h => absurd h (by decide), fun h => absurd h (by decide)⟩
theorem stop_eq {S T : St} {n d : Nat} (h : Rx K S T n d) (r : Int32) : ∃ S1 T1 n1 d1, fX7_stopBy_0 r S = some (0, S1) ∧ fX8_stop_0 r T = some (0, T1) ∧ Rx K S1 T1 n1 d1 := by
  have hS : S.1 13 6 = nI d := h.2.2.2.2.2.2.2.1.2.1
  have hT : T.1 0 19 = nI d := h.2.2.2.2.2.2.2.1.2.2.1
  have hd : d ≤ 30 := h.2.2.2.2.2.2.2.1.1
  have hfr := h.2.2.2.2.2.2.2.1.2.2.2
  have hl : last (fun i => S.1 14 i = 3) d = last (fun i => T.1 11 i = 4) d := last_congr (fun i hi => frm_3 (hfr i hi))
  unfold fX7_stopBy_0 fX8_stop_0
  rw [tms hS hd, bnd_x, stop_loop r (T.1 11) d 500 T hd (by omega) hT rfl, ← hl]
  cases hc : last (fun i => S.1 14 i = 3) d with
  | none =>
    show ∃ S1 T1 n1 d1, (if (-1 : Int32) = -1 then _ else _) = _ ∧ _
    have hcut : fX0_cutTo_13 0 S = some (0, si S 13 6 (nI 0)) := cut (j := 0) hS hd (Nat.zero_le _)
    rw [if_pos rfl, hcut, bnd_x]
    refine ⟨_, _, n, 0, rfl, ?_, x_end (x_cut h (Nat.zero_le _)) r⟩
    show fX8_stop_0_35 r (si T 0 19 (nI 0)) = _
    unfold fX8_stop_0_35
    rw [if_pos (show (si T 0 19 (nI 0)).1 0 19 = 0 from rfl)]
    rfl
  | some i =>
    have hi := last_lt hc
    rw [show lastv (some i) = nI i from rfl, show upto (some i) = i + 1 from rfl, if_neg (neg1 (by omega)), cut (j := i) hS hd (by omega), bnd_x]
    have h2 := x_cut h (j := i) (by omega)
    unfold fX8_stop_0_35
    have e0 : (si T 0 19 (nI (i + 1))).1 0 19 = nI (i + 1) := rfl
    rw [e0, if_neg (nI_ne0 (by omega) (by omega)), predI, stp_x, si_si]
    have hn : n ≤ 60 := h2.2.2.1.1
    have hp : (si S 13 6 (nI i)).1 5 2 = nI n := h2.2.2.1.2.1
    have hq : (si T 0 19 (nI i)).1 0 6 = nI n := h2.1.2.2.2.1 ▸ hp
    by_cases hf : n = 60
    · subst hf
      have htk : fX2_takeOff_5 1 (si S 13 6 (nI i)) = some (0, si (si S 13 6 (nI i)) 5 2 (nI 59)) := tko (j := 1) hp hn (by omega)
      rw [full1 hp, bnd_x, if_neg (by decide), htk, bnd_x]
      unfold fX7_stopBy_0_53
      have h3 := x_size h2 (m := 59) (by omega)
      rw [put1 (n := 59) rfl (by omega), bnd_x, hq, if_pos (show nI 60 = 60 from rfl)]
      unfold fX8_stop_0_77
      rw [stp_x, lay (n := 59) rfl (by omega), bnd_x]
      exact ⟨_, _, 60, i, rfl, rfl, x_put h3 (by omega) (okT1 _)⟩
    · rw [full0 hp (by omega), bnd_x, if_pos rfl]
      unfold fX7_stopBy_0_53
      rw [put1 hp (by omega), bnd_x, hq, if_neg (by rw [lit 60, eqI (by omega) (by omega)]; exact hf)]
      unfold fX8_stop_0_77
      have e3 : si (si T 0 19 (nI i)) 0 6 (nI n) = si T 0 19 (nI i) := by rw [← hq, si_self]
      rw [stp_x, e3, lay hq (by omega), bnd_x]
      exact ⟨_, _, n + 1, i, rfl, rfl, x_put h2 (by omega) (okT1 _)⟩
