/-! what the small methods do, in Nats -/
def cPut (S : St) (n : Nat) (k v : Int32) : St := si (si (si S 6 n k) 7 n v) 5 2 (nI (n + 1))
def mPut (T : St) (n : Nat) (k v : Int32) : St := si (si (si T 4 n k) 5 n v) 0 6 (nI (n + 1))
def cRep (S : St) (m : Nat) (k v : Int32) : St := si (si (si S 5 2 (nI (m + 1))) 6 m k) 7 m v
def nmo (m c : Int32) : Int32 := if c ≤ m then m else c
def cAdd (S : St) (d : Nat) (s w : Int32) : St := si (si (si (si (si S 14 d s) 15 d w) 16 d 0) 13 6 (nI (d + 1))) 13 7 (nmo (S.1 13 7) (nI (d + 1)))
def mCom (T : St) (d : Nat) (s w : Int32) : St := si (si (si (si (si T 11 d s) 12 d w) 13 d 0) 0 19 (nI (d + 1))) 0 27 (nmo (T.1 0 27) (nI (d + 1)))
/-- the greatest i < n with P -/
def last (P : Nat → Prop) [DecidablePred P] : Nat → Option Nat
  | 0 => none
  | n + 1 => if P n then some n else last P n
def lastv (o : Option Nat) : Int32 := match o with
  | none => -1
  | some i => nI i
theorem last_lt {P : Nat → Prop} [DecidablePred P] {n i : Nat} (h : last P n = some i) : i < n ∧ P i := by
  induction n with
  | zero => cases h
  | succ n ih =>
    unfold last at h
    by_cases hp : P n
    · rw [if_pos hp] at h; cases h; exact ⟨Nat.lt_succ_self _, hp⟩
    · rw [if_neg hp] at h; exact ⟨Nat.lt_succ_of_lt (ih h).1, (ih h).2⟩
theorem last_congr {P Q : Nat → Prop} [DecidablePred P] [DecidablePred Q] {n : Nat} (h : ∀ i, i < n → (P i ↔ Q i)) : last P n = last Q n := by
  induction n with
  | zero => rfl
  | succ n ih =>
    unfold last
    by_cases hp : P n
    · rw [if_pos hp, if_pos ((h n (Nat.lt_succ_self _)).mp hp)]
    · rw [if_neg hp, if_neg (fun q => hp ((h n (Nat.lt_succ_self _)).mpr q)), ih (fun i hi => h i (Nat.lt_succ_of_lt hi))]
theorem last_no {P : Nat → Prop} [DecidablePred P] {n : Nat} (h : last P n = none) : ∀ i, i < n → ¬ P i := by
  induction n with
  | zero => intro i hi; omega
  | succ n ih =>
    unfold last at h
    by_cases hp : P n
    · rw [if_pos hp] at h; cases h
    · rw [if_neg hp] at h
      intro i hi
      by_cases e : i = n
      · rw [e]; exact hp
      · exact ih h i (by omega)
theorem last_top {P : Nat → Prop} [DecidablePred P] {n i : Nat} (h : last P n = some i) : ∀ j, i < j → j < n → ¬ P j := by
  induction n with
  | zero => cases h
  | succ n ih =>
    unfold last at h
    by_cases hp : P n
    · rw [if_pos hp] at h; cases h; intro j h1 h2; omega
    · rw [if_neg hp] at h
      intro j h1 h2
      by_cases e : j = n
      · rw [e]; exact hp
      · exact ih h j h1 (by omega)
theorem addm1 (x : Int32) : x + (-1) = x - 1 := by rw [Int32.sub_eq_add_neg]
theorem predI (n : Nat) : nI (n + 1) - 1 = nI n := nI_pred n
theorem stp_x {α : Type} (S : St) (k : St → Option α) : stp S k = k S := rfl
theorem stv_x {α : Type} (v : Int32) (k : Int32 → Option α) : stv v k = k v := rfl
theorem stw_x {α : Type} (v : Int64) (k : Int64 → Option α) : stw v k = k v := rfl
theorem bnd_x {α : Type} (r : Int32) (S : St) (k : Int32 → St → Option α) : bnd (some (r, S)) k = k r S := rfl
section PL
variable {S T : St} {n d : Nat}
theorem ku {j : Nat} (h : S.1 5 2 = nI n) (hn : n ≤ 60) (hj : j < n) : fX2_kindUnder_5 (nI j) S = some (S.1 6 (n - 1 - j), S) := by
  unfold fX2_kindUnder_5
  rw [h, if_neg (nI_pos (by omega)), if_neg (by rw [leI (by omega) (by omega)]; omega), lit 1, subI (by omega), subI (by omega), if_pos (vqI (by omega) (by omega)), nI_clamp (by omega)]
theorem nu {j : Nat} (h : S.1 5 2 = nI n) (hn : n ≤ 60) (hj : j < n) : fX2_numberUnder_5 (nI j) S = some (S.1 7 (n - 1 - j), S) := by
  unfold fX2_numberUnder_5
  rw [h, if_neg (nI_pos (by omega)), if_neg (by rw [leI (by omega) (by omega)]; omega), lit 1, subI (by omega), subI (by omega), if_pos (vqI (by omega) (by omega)), nI_clamp (by omega)]
theorem put1 {k v : Int32} (h : S.1 5 2 = nI n) (hn : n < 60) : fX2_put_5 k v S = some (1, cPut S n k v) := by
  unfold fX2_put_5
  rw [if_pos (by rw [h, lit 60, ltI (by omega) (by omega)]; exact hn), if_pos (by rw [h]; exact vqI hn (by omega)), h, nI_clamp (by omega)]
  have e1 : (si S 6 n k).1 5 2 = nI n := h
  have e2 : (si (si S 6 n k) 7 n v).1 5 2 = nI n := h
  rw [stp_x, e1, if_pos (vqI hn (by omega)), nI_clamp (by omega), stp_x, e2, nI_1]
  rfl
theorem put0 {k v : Int32} (h : S.1 5 2 = nI 60) : fX2_put_5 k v S = some (0, S) := by
  unfold fX2_put_5
  rw [if_neg (by rw [h]; decide)]
theorem full1 (h : S.1 5 2 = nI 60) : fX2_full_5 S = some (1, S) := by
  unfold fX2_full_5
  rw [if_neg (by rw [h]; decide)]
theorem full0 (h : S.1 5 2 = nI n) (hn : n < 60) : fX2_full_5 S = some (0, S) := by
  unfold fX2_full_5
  rw [if_pos (by rw [h, lit 60, ltI (by omega) (by omega)]; exact hn)]
theorem tko {j : Nat} (h : S.1 5 2 = nI n) (hn : n ≤ 60) (hj : j ≤ n) : fX2_takeOff_5 (nI j) S = some (0, si S 5 2 (nI (n - j))) := by
  unfold fX2_takeOff_5
  rw [if_neg (nI_pos (by omega)), if_neg (by rw [h, ltI (by omega) (by omega)]; omega), h, subI hj]
  rfl
theorem rpl {j : Nat} {k v : Int32} (h : S.1 5 2 = nI n) (hn : n ≤ 60) (h1 : 1 ≤ j) (hj : j ≤ n) : fX2_replace_5 (nI j) k v S = some (0, cRep S (n - j) k v) := by
  unfold fX2_replace_5
  rw [if_neg (nI_nle (by omega) (by omega)), if_neg (by rw [h, ltI (by omega) (by omega)]; omega), h, lit 1, subI h1, subI (by omega)]
  have e0 : n - (j - 1) = n - j + 1 := by omega
  rw [e0]
  have e1 : (si S 5 2 (nI (n - j + 1))).1 5 2 = nI (n - j + 1) := rfl
  have e2 : (si (si S 5 2 (nI (n - j + 1))) 6 (n - j) k).1 5 2 = nI (n - j + 1) := e1
  rw [stp_x, e1, subI (by omega), show n - j + 1 - 1 = n - j by omega, if_pos (vqI (by omega) (by omega)), nI_clamp (by omega), stp_x, e2, subI (by omega), show n - j + 1 - 1 = n - j by omega, if_pos (vqI (by omega) (by omega)), nI_clamp (by omega)]
  rfl
theorem cnt : fX2_count_5 S = some (S.1 5 2, S) := rfl
theorem tmk_loop (hn : n ≤ 60) : ∀ f, n < f → fX2_topmostMark_5_7 f (nI n - 1) S = some (lastv (last (fun i => S.1 6 i = 3) n), S) := by
  induction n with
  | zero =>
    intro f hf
    obtain ⟨f, rfl⟩ : ∃ g, f = g + 1 := ⟨f - 1, by omega⟩
    rw [fX2_topmostMark_5_7.eq_2, sub1_0, if_pos m1_lt]
    rfl
  | succ n ih =>
    intro f hf
    obtain ⟨f, rfl⟩ : ∃ g, f = g + 1 := ⟨f - 1, by omega⟩
    rw [fX2_topmostMark_5_7.eq_2, predI, if_neg (nI_pos (by omega)), if_pos (vqI (by omega) (by omega)), nI_clamp (by omega)]
    by_cases h3 : S.1 6 n = 3
    · rw [if_pos h3]
      unfold last
      rw [if_pos h3]; rfl
    · rw [if_neg h3]
      unfold last stv
      rw [if_neg h3, addm1]
      exact ih (by omega) f (by omega)
theorem tmk (h : S.1 5 2 = nI n) (hn : n ≤ 60) : fX2_topmostMark_5 S = some (lastv (last (fun i => S.1 6 i = 3) n), S) := by
  unfold fX2_topmostMark_5 stv
  rw [h]
  exact tmk_loop hn 500 (by omega)
-- the reference's pile
theorem kd {j : Nat} (h : T.1 0 6 = nI n) (hn : n ≤ 60) (hj : j < n) : fX8_kind_0 (nI j) T = some (T.1 4 (n - 1 - j), T) := by
  unfold fX8_kind_0
  rw [h, lit 1, subI (by omega), subI (by omega), if_pos (vqI (by omega) (by omega)), nI_clamp (by omega)]
theorem nb {j : Nat} (h : T.1 0 6 = nI n) (hn : n ≤ 60) (hj : j < n) : fX8_number_0 (nI j) T = some (T.1 5 (n - 1 - j), T) := by
  unfold fX8_number_0
  rw [h, lit 1, subI (by omega), subI (by omega), if_pos (vqI (by omega) (by omega)), nI_clamp (by omega)]
theorem lay {k v : Int32} (h : T.1 0 6 = nI n) (hn : n < 60) : fX8_lay_0 k v T = some (0, mPut T n k v) := by
  unfold fX8_lay_0
  rw [if_pos (by rw [h]; exact vqI hn (by omega)), h, nI_clamp (by omega)]
  have e1 : (si T 4 n k).1 0 6 = nI n := h
  have e2 : (si (si T 4 n k) 5 n v).1 0 6 = nI n := h
  rw [stp_x, e1, if_pos (vqI hn (by omega)), nI_clamp (by omega), stp_x, e2, nI_1]
  rfl
theorem mrk_loop (hn : n ≤ 60) : ∀ f, n < f → fX8_mark_0_7 f (nI n - 1) T = some (lastv (last (fun i => T.1 4 i = 3) n), T) := by
  induction n with
  | zero =>
    intro f hf
    obtain ⟨f, rfl⟩ : ∃ g, f = g + 1 := ⟨f - 1, by omega⟩
    rw [fX8_mark_0_7.eq_2, sub1_0, if_pos m1_lt]
    rfl
  | succ n ih =>
    intro f hf
    obtain ⟨f, rfl⟩ : ∃ g, f = g + 1 := ⟨f - 1, by omega⟩
    rw [fX8_mark_0_7.eq_2, predI, if_neg (nI_pos (by omega)), if_pos (vqI (by omega) (by omega)), nI_clamp (by omega)]
    by_cases h3 : T.1 4 n = 3
    · rw [if_pos h3]
      unfold last
      rw [if_pos h3]; rfl
    · rw [if_neg h3]
      unfold last stv
      rw [if_neg h3, addm1]
      exact ih (by omega) f (by omega)
theorem mrk (h : T.1 0 6 = nI n) (hn : n ≤ 60) : fX8_mark_0 T = some (lastv (last (fun i => T.1 4 i = 3) n), T) := by
  unfold fX8_mark_0 stv
  rw [h]
  exact mrk_loop hn 500 (by omega)
-- frames
theorem add1 {s w : Int32} (h : S.1 13 6 = nI d) (hd : d < 30) : fX0_add_13 s w S = some (0, cAdd S d s w) := by
  unfold fX0_add_13
  rw [if_pos (by rw [h, lit 30, ltI (by omega) (by omega)]; exact hd), if_pos (by rw [h]; exact vqI hd (by omega)), h, nI_clamp (by omega)]
  have e1 : (si S 14 d s).1 13 6 = nI d := h
  have e2 : (si (si S 14 d s) 15 d w).1 13 6 = nI d := h
  have e3 : (si (si (si S 14 d s) 15 d w) 16 d 0).1 13 6 = nI d := h
  rw [stp_x, e1, if_pos (vqI hd (by omega)), nI_clamp (by omega), stp_x, e2, if_pos (vqI hd (by omega)), nI_clamp (by omega), stp_x, e3, nI_1, stp_x]
  generalize hX : si (si (si (si S 14 d s) 15 d w) 16 d 0) 13 6 (nI (d + 1)) = X
  have e4 : X.1 13 6 = nI (d + 1) := by rw [← hX]; rfl
  have e5 : X.1 13 7 = S.1 13 7 := by rw [← hX]; rfl
  rw [e4, e5]
  unfold cAdd nmo
  rw [hX]
  by_cases hc : nI (d + 1) ≤ S.1 13 7
  · rw [if_pos hc, if_pos hc, ← e5, si_self]
  · rw [if_neg hc, if_neg hc, stp_x]
theorem com1 {s w : Int32} (h : T.1 0 19 = nI d) (hd : d < 30) : fX8_come_0 s w T = some (0, mCom T d s w) := by
  unfold fX8_come_0
  rw [if_pos (by rw [h]; exact vqI hd (by omega)), h, nI_clamp (by omega)]
  have e1 : (si T 11 d s).1 0 19 = nI d := h
  have e2 : (si (si T 11 d s) 12 d w).1 0 19 = nI d := h
  have e3 : (si (si (si T 11 d s) 12 d w) 13 d 0).1 0 19 = nI d := h
  rw [stp_x, e1, if_pos (vqI hd (by omega)), nI_clamp (by omega), stp_x, e2, if_pos (vqI hd (by omega)), nI_clamp (by omega), stp_x, e3, nI_1, stp_x]
  generalize hX : si (si (si (si T 11 d s) 12 d w) 13 d 0) 0 19 (nI (d + 1)) = X
  have e4 : X.1 0 19 = nI (d + 1) := by rw [← hX]; rfl
  have e5 : X.1 0 27 = T.1 0 27 := by rw [← hX]; rfl
  rw [e4, e5]
  unfold mCom nmo fX8_come_0_63 stp
  rw [hX]
  by_cases hc : nI (d + 1) ≤ T.1 0 27
  · rw [if_pos hc, if_pos hc]
  · rw [if_neg hc, if_neg hc]
theorem rf1 {j : Nat} (h : S.1 13 6 = nI d) (hd : d + j ≤ 30) : fX0_roomFor_13 (nI j) S = some (1, S) := by
  unfold fX0_roomFor_13
  rw [if_neg (by rw [h, nI_add, lit 30, ltI (by omega) (by omega)]; omega)]
theorem rf0 {j : Nat} (h : S.1 13 6 = nI d) (hd : 30 < d + j) (hd2 : d ≤ 30) (hj : j ≤ 2) : fX0_roomFor_13 (nI j) S = some (0, S) := by
  unfold fX0_roomFor_13
  rw [if_pos (by rw [h, nI_add, lit 30, ltI (by omega) (by omega)]; omega)]
theorem tsr (h : S.1 13 6 = nI (d + 1)) (hd : d < 30) : fX0_topSort_13 S = some (S.1 14 d, S) := by
  unfold fX0_topSort_13
  rw [h, if_neg (nI_nle (by omega) (by omega)), predI, if_pos (vqI hd (by omega)), nI_clamp (by omega)]
theorem tsu (h : S.1 13 6 = nI (d + 1)) (hd : d < 30) : fX0_topSubject_13 S = some (S.1 15 d, S) := by
  unfold fX0_topSubject_13
  rw [h, if_neg (nI_nle (by omega) (by omega)), predI, if_pos (vqI hd (by omega)), nI_clamp (by omega)]
theorem tpl (h : S.1 13 6 = nI (d + 1)) (hd : d < 30) : fX0_topPlace_13 S = some (S.1 16 d, S) := by
  unfold fX0_topPlace_13
  rw [h, if_neg (nI_nle (by omega) (by omega)), predI, if_pos (vqI hd (by omega)), nI_clamp (by omega)]
theorem tkt (h : S.1 13 6 = nI (d + 1)) (hd : d < 30) : fX0_takeTop_13 S = some (0, si S 13 6 (nI d)) := by
  unfold fX0_takeTop_13
  rw [h, if_neg (nI_nle (by omega) (by omega)), predI]
  rfl
theorem gby (h : S.1 13 6 = nI (d + 1)) (hd : d < 30) : fX0_goBy_13 S = some (0, si S 16 d (S.1 16 d + 1)) := by
  unfold fX0_goBy_13
  rw [h, if_neg (nI_nle (by omega) (by omega)), predI, if_pos (vqI hd (by omega)), if_pos (vqI hd (by omega)), nI_clamp (by omega)]
  rfl
theorem cut {j : Nat} (h : S.1 13 6 = nI d) (hd : d ≤ 30) (hj : j ≤ d) : fX0_cutTo_13 (nI j) S = some (0, si S 13 6 (nI j)) := by
  unfold fX0_cutTo_13
  rw [if_neg (nI_pos (by omega)), if_neg (by rw [h, ltI (by omega) (by omega)]; omega)]
  rfl
theorem len1 {p : Nat} (hp : p < 20) : fX4_length_1 (nI p) S = some (S.1 4 p, S) := by
  unfold fX4_length_1
  rw [if_neg (nI_pos (by omega)), if_neg (by rw [lit 20, leI (by omega) (by omega)]; omega), if_pos (vqI hp (by omega)), nI_clamp (by omega)]
end PL
