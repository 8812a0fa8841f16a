/-! WHAT IT GOES IN A QUARTER: the reference's against the class's -/
abbrev rLq (f : Nat → Int32) (q : Int32) (e : Nat) : Prop := f (6 + 7 * e + 2) = 0 ∧ f (6 + 7 * e + 5) = 0 ∧ ¬ f (6 + 7 * e + 4) ≤ hRem8 (q + 8 - f (6 + 7 * e + 3))
def rGq (f : Nat → Int32) (E : Nat) (q : Int32) : Int32 := rBy f E (hMk (fun e => rLq f q e) E)
theorem rGo_q (f : Nat → Int32) (E : Nat) : rGo f E = rGq f E (f 2) := by unfold rGo rGq; rw [rLis_mk]
/-- the house of class M and the reference's f, with the set s of those that attend -/
def hMt (M : hc_Mem) (f : Nat → Int32) (E : Nat) (s : Int32) : Prop := f 1 = M 9 1 ∧ ∀ e, e < E → f (6 + 7 * e) = M 10 e ∧ (∃ k, 1 ≤ k ∧ k ≤ 5 ∧ M 10 e = nI k) ∧ f (6 + 7 * e + 1) = M 11 e ∧ f (6 + 7 * e + 3) = M 13 e ∧ f (6 + 7 * e + 4) = M 14 e ∧ ((f (6 + 7 * e + 2) = 0 ∧ f (6 + 7 * e + 5) = 0) ↔ hIn s (nI e))
theorem gift_eq {M : hc_Mem} {f : Nat → Int32} {e : Nat} (h1 : f 1 = M 9 1) (hk : f (6 + 7 * e) = M 10 e) (hr : ∃ k, 1 ≤ k ∧ k ≤ 5 ∧ M 10 e = nI k) (hh : f (6 + 7 * e + 1) = M 11 e) : rHeed f e = hGift M e := by
  have hl : rLeft f e = hLeft M e := by unfold rLeft hLeft; rw [h1, hh]
  unfold rHeed hGift
  rw [hl, hk]
  obtain ⟨k, a, b, e0⟩ := hr
  rw [e0]
  have : k = 1 ∨ k = 2 ∨ k = 3 ∨ k = 4 ∨ k = 5 := by omega
  rcases this with rfl | rfl | rfl | rfl | rfl
  · rw [if_neg (show ¬ nI 1 = 3 by decide), if_neg (show ¬ nI 1 = 4 by decide), if_neg (show ¬ nI 1 = 5 by decide), if_pos (show nI 1 = 1 by decide)]
  · rw [if_neg (show ¬ nI 2 = 3 by decide), if_neg (show ¬ nI 2 = 4 by decide), if_neg (show ¬ nI 2 = 5 by decide), if_neg (show ¬ nI 2 = 1 by decide), if_pos (show nI 2 = 2 by decide)]
  · rw [if_pos (show nI 3 = 3 by decide), if_neg (show ¬ nI 3 = 1 by decide), if_neg (show ¬ nI 3 = 2 by decide), if_pos (show nI 3 = 3 by decide)]
  · rw [if_neg (show ¬ nI 4 = 3 by decide), if_pos (show nI 4 = 4 by decide), if_neg (show ¬ nI 4 = 1 by decide), if_neg (show ¬ nI 4 = 2 by decide), if_neg (show ¬ nI 4 = 3 by decide), if_pos (show nI 4 = 4 by decide)]
    generalize hLeft M e / 2 = y
    split
    · rename_i h
      split
      · rename_i h2; exact Int32.le_antisymm h h2
      · rfl
    · rename_i h
      split
      · rfl
      · rename_i h2; exact absurd (Int32.le_of_lt (Int32.not_le.mp h2)) h
  · rw [if_neg (show ¬ nI 5 = 3 by decide), if_neg (show ¬ nI 5 = 4 by decide), if_pos (show nI 5 = 5 by decide), if_neg (show ¬ nI 5 = 1 by decide), if_neg (show ¬ nI 5 = 2 by decide), if_neg (show ¬ nI 5 = 3 by decide), if_neg (show ¬ nI 5 = 4 by decide)]
theorem given_eq {M : hc_Mem} {f : Nat → Int32} {E : Nat} {s S q : Int32} (h : hMt M f E s) (hE : E ≤ 6) (hS : ∀ e, e < E → (hIn S (nI e) ↔ hIn s (nI e) ∧ hTime M e q)) :
    ∀ k, k ≤ E → rGiv f S 0 k = hPO M s q k ∧ rGiv f S 1 k = hPW M s q k := by
  intro k
  induction k with
  | zero => intro _; exact ⟨rfl, rfl⟩
  | succ k ih =>
    intro hk
    obtain ⟨i0, i1⟩ := ih (by omega)
    obtain ⟨a1, a2, a3, a4, a5, a6⟩ := h.2 k (by omega)
    unfold rGiv hPO hPW
    rw [i0, i1, gift_eq h.1 a1 a2 a3, a1]
    have hs := hS k (by omega)
    by_cases h2 : M 10 k = 2
    · have e1 : hb (M 10 k = 2) = 1 := hb_t h2
      rw [e1]
      refine ⟨?_, ?_⟩
      · rw [if_neg (fun w => absurd w.2 (by decide)), if_neg (fun w => w.2.2 h2), Int32.add_zero]
      · by_cases h3 : hIn S (nI k)
        · rw [if_pos ⟨h3, rfl⟩, if_pos ⟨(hs.mp h3).1, (hs.mp h3).2, h2⟩]
        · rw [if_neg (fun w => h3 w.1), if_neg (fun w => h3 (hs.mpr ⟨w.1, w.2.1⟩)), Int32.add_zero]
    · have e1 : hb (M 10 k = 2) = 0 := hb_f h2
      rw [e1]
      refine ⟨?_, ?_⟩
      · by_cases h3 : hIn S (nI k)
        · rw [if_pos ⟨h3, rfl⟩, if_pos ⟨(hs.mp h3).1, (hs.mp h3).2, h2⟩]
        · rw [if_neg (fun w => h3 w.1), if_neg (fun w => h3 (hs.mpr ⟨w.1, w.2.1⟩)), Int32.add_zero]
      · rw [if_neg (fun w => absurd w.2 (by decide)), if_neg (fun w => h2 w.2.2), Int32.add_zero]
theorem by_eq {M : hc_Mem} {f : Nat → Int32} {E : Nat} {s S q : Int32} (h : hMt M f E s) (hE : E ≤ 6) (hS : ∀ e, e < E → (hIn S (nI e) ↔ hIn s (nI e) ∧ hTime M e q)) : rBy f E S = hPar M E s q := by
  obtain ⟨a, b⟩ := given_eq h hE hS E (Nat.le_refl _)
  unfold rBy hPar
  rw [a, b]
theorem rGq_eq {M : hc_Mem} {f : Nat → Int32} {E : Nat} {s q : Int32} (h : hMt M f E s) (hE : E ≤ 6) : rGq f E q = hPar M E s q := by
  refine by_eq h hE (fun e he => ?_)
  rw [hMk_in E (by omega) e (by omega)]
  obtain ⟨a1, a2, a3, a4, a5, a6⟩ := h.2 e he
  show (e < E ∧ (f (6 + 7 * e + 2) = 0 ∧ f (6 + 7 * e + 5) = 0 ∧ ¬ f (6 + 7 * e + 4) ≤ hRem8 (q + 8 - f (6 + 7 * e + 3)))) ↔ _
  rw [a4, a5]
  constructor
  · rintro ⟨_, b1, b2, b3⟩; exact ⟨a6.mp ⟨b1, b2⟩, b3⟩
  · rintro ⟨b1, b3⟩; exact ⟨he, (a6.mpr b1).1, (a6.mpr b1).2, b3⟩
/-! what stays as quarters pass -/
def rStay (j : Nat) : Prop := j = 0 ∨ j = 1 ∨ j = 4 ∨ j = 5 ∨ (∃ e i, e < 6 ∧ i ≤ 5 ∧ j = 6 + 7 * e + i) ∨ (∃ x i, x < 4 ∧ i ≤ 2 ∧ j = 48 + 5 * x + i)
theorem rP3_st {f : Nat → Int32} {j : Nat} (h : rStay j) : ∀ x, rP3 f x j = f j := by
  intro x
  induction x with
  | zero => rfl
  | succ x ih =>
    show upd (upd (rP3 f x) (48 + 5 * x + 4) _) (48 + 5 * x + 3) _ j = f j
    unfold upd
    rw [if_neg, if_neg]
    · exact ih
    all_goals (rcases h with h | h | h | h | ⟨e, i, h1, h2, h⟩ | ⟨e, i, h1, h2, h⟩ <;> omega)
theorem rPass_st {f : Nat → Int32} {E D j : Nat} (hE : E ≤ 6) (h : rStay j) : rPass f E D j = f j := by
  unfold rPass
  rw [rP3_st h]
  unfold rP2 upd
  rw [if_neg, if_neg]
  · refine rP1_o E (fun x hx => ?_)
    rcases h with h | h | h | h | ⟨e, i, h1, h2, h⟩ | ⟨e, i, h1, h2, h⟩ <;> omega
  all_goals (rcases h with h | h | h | h | ⟨e, i, h1, h2, h⟩ | ⟨e, i, h1, h2, h⟩ <;> omega)
theorem rIter_st {E D j : Nat} (hE : E ≤ 6) (h : rStay j) : ∀ (t : Nat) (f : Nat → Int32), rIter E D t f j = f j := by
  intro t
  induction t with
  | zero => intro f; rfl
  | succ t ih => intro f; show rPass (rIter E D t f) E D j = f j; rw [rPass_st hE h, ih]
theorem rSt_e {e i : Nat} (he : e < 6) (hi : i ≤ 5) : rStay (6 + 7 * e + i) := Or.inr (Or.inr (Or.inr (Or.inr (Or.inl ⟨e, i, he, hi, rfl⟩))))
theorem rSt_d {x i : Nat} (he : x < 4) (hi : i ≤ 2) : rStay (48 + 5 * x + i) := Or.inr (Or.inr (Or.inr (Or.inr (Or.inr ⟨x, i, he, hi, rfl⟩))))
theorem rSt_1 : rStay 1 := Or.inr (Or.inl rfl)
/-- what it goes hangs on what stays alone -/
theorem rHeed_st {f g : Nat → Int32} (h : ∀ j, rStay j → g j = f j) {e : Nat} (he : e < 6) : rHeed g e = rHeed f e := by
  unfold rHeed rLeft
  rw [h 1 rSt_1, h (6 + 7 * e + 1) (rSt_e he (by decide)), show g (6 + 7 * e) = f (6 + 7 * e) from h (6 + 7 * e + 0) (rSt_e he (by decide))]
theorem rGiv_st {f g : Nat → Int32} (h : ∀ j, rStay j → g j = f j) {s w : Int32} : ∀ e, e ≤ 6 → rGiv g s w e = rGiv f s w e := by
  intro e
  induction e with
  | zero => intro _; rfl
  | succ e ih =>
    intro he
    unfold rGiv
    rw [ih (by omega), rHeed_st h (by omega), show g (6 + 7 * e) = f (6 + 7 * e) from h (6 + 7 * e + 0) (rSt_e (by omega) (by decide))]
theorem rBy_st {f g : Nat → Int32} (h : ∀ j, rStay j → g j = f j) {E : Nat} (hE : E ≤ 6) {s : Int32} : rBy g E s = rBy f E s := by
  unfold rBy
  rw [rGiv_st h E hE, rGiv_st h E hE]
theorem hMk_c {P Q : Nat → Prop} [DecidablePred P] [DecidablePred Q] : ∀ E, (∀ e, e < E → (P e ↔ Q e)) → hMk P E = hMk Q E := by
  intro E
  induction E with
  | zero => intro _; rfl
  | succ E ih =>
    intro h
    unfold hMk
    rw [ih (fun e he => h e (by omega))]
    by_cases hp : P E
    · rw [if_pos hp, if_pos ((h E (by omega)).mp hp)]
    · rw [if_neg hp, if_neg (fun w => hp ((h E (by omega)).mpr w))]
theorem rGq_st {f g : Nat → Int32} (h : ∀ j, rStay j → g j = f j) {E : Nat} (hE : E ≤ 6) {q : Int32} : rGq g E q = rGq f E q := by
  unfold rGq
  rw [rBy_st h hE]
  congr 1
  refine hMk_c E (fun e he => ?_)
  show (g (6 + 7 * e + 2) = 0 ∧ g (6 + 7 * e + 5) = 0 ∧ ¬ g (6 + 7 * e + 4) ≤ hRem8 (q + 8 - g (6 + 7 * e + 3))) ↔ _
  rw [h (6 + 7 * e + 2) (rSt_e (by omega) (by decide)), h (6 + 7 * e + 5) (rSt_e (by omega) (by decide)), h (6 + 7 * e + 4) (rSt_e (by omega) (by decide)), h (6 + 7 * e + 3) (rSt_e (by omega) (by decide))]
theorem rPass_2 {f : Nat → Int32} {E D : Nat} : rPass f E D 2 = f 2 + 1 := by
  unfold rPass
  rw [rP3_o (by decide)]
  unfold rP2 upd
  rw [if_pos rfl, if_neg (by decide), rP1_o E (fun x _ => by omega)]
theorem rPass_3 {f : Nat → Int32} {E D : Nat} : rPass f E D 3 = f 3 + rGo f E := by
  unfold rPass
  rw [rP3_o (by decide)]
  unfold rP2 upd
  rw [if_neg (by decide), if_pos rfl, rP1_o E (fun x _ => by omega)]
theorem rP1_l {f : Nat → Int32} {its : Int32} {e : Nat} : ∀ E, e < E → rP1 f its E (6 + 7 * e + 6) = f (6 + 7 * e + 6) + (if f (6 + 7 * e + 2) = 0 then its else 12) := by
  intro E
  induction E with
  | zero => intro h; omega
  | succ E ih =>
    intro h
    show upd (rP1 f its E) (6 + 7 * E + 6) _ (6 + 7 * e + 6) = _
    unfold upd
    by_cases he : e = E
    · subst he
      rw [if_pos rfl, rP1_o e (fun x hx => by omega), rP1_o e (fun x hx => by omega)]
    · rw [if_neg (by omega)]
      exact ih (by omega)
theorem rPass_l {f : Nat → Int32} {E D e : Nat} (he : e < E) (hE : E ≤ 6) : rPass f E D (6 + 7 * e + 6) = f (6 + 7 * e + 6) + (if f (6 + 7 * e + 2) = 0 then rGo f E else 12) := by
  unfold rPass
  rw [rP3_o (by omega)]
  unfold rP2 upd
  rw [if_neg (by omega), if_neg (by omega)]
  exact rP1_l E he
def rSm (f : Nat → Int32) (E : Nat) : Nat → Int32
  | 0 => f 3
  | t + 1 => rSm f E t + rGq f E (f 2 + nI t)
theorem rIter_2 {E D : Nat} : ∀ (t : Nat) (f : Nat → Int32), rIter E D t f 2 = f 2 + nI t := by
  intro t
  induction t with
  | zero => intro f; show f 2 = f 2 + 0; rw [Int32.add_zero]
  | succ t ih => intro f; show rPass (rIter E D t f) E D 2 = _; rw [rPass_2, ih, Int32.add_assoc, nI_1]
theorem rIter_go {E D t : Nat} {f : Nat → Int32} (hE : E ≤ 6) : rGo (rIter E D t f) E = rGq f E (f 2 + nI t) := by
  rw [rGo_q, rIter_2, rGq_st (fun j hj => rIter_st hE hj t f) hE]
theorem rIter_3 {E D : Nat} (hE : E ≤ 6) : ∀ (t : Nat) (f : Nat → Int32), rIter E D t f 3 = rSm f E t := by
  intro t
  induction t with
  | zero => intro f; rfl
  | succ t ih => intro f; show rPass (rIter E D t f) E D 3 = _; rw [rPass_3, ih, rIter_go hE]; rfl
