/-! letters -/
theorem let_cases {b : Int32} (h : ¬ cLet b = 0) : b = 100 ∨ b = 107 ∨ b = 112 ∨ b = 116 ∨ b = 119 := by
  by_cases h1 : b = 100
  · exact Or.inl h1
  by_cases h2 : b = 107
  · exact Or.inr (Or.inl h2)
  by_cases h3 : b = 112
  · exact Or.inr (Or.inr (Or.inl h3))
  by_cases h4 : b = 116
  · exact Or.inr (Or.inr (Or.inr (Or.inl h4)))
  by_cases h5 : b = 119
  · exact Or.inr (Or.inr (Or.inr (Or.inr h5)))
  unfold cLet at h
  rw [if_neg h1, if_neg h2, if_neg h3, if_neg h4, if_neg h5] at h
  exact absurd rfl h
theorem cLet_rKo (b : Int32) : cLet b = rKo b := by
  by_cases h1 : b = 100
  · subst h1; decide
  by_cases h2 : b = 107
  · subst h2; decide
  by_cases h3 : b = 112
  · subst h3; decide
  by_cases h4 : b = 116
  · subst h4; decide
  by_cases h5 : b = 119
  · subst h5; decide
  unfold cLet rKo
  rw [if_neg h1, if_neg h2, if_neg h3, if_neg h4, if_neg h5, if_neg h3, if_neg h5, if_neg h4, if_neg h2, if_neg h1]
theorem rKo_r {b : Int32} (h : ¬ cLet b = 0) : ∃ k, 1 ≤ k ∧ k ≤ 5 ∧ rKo b = nI k := by
  rcases let_cases h with e | e | e | e | e <;> subst e
  · exact ⟨5, by decide, by decide, by decide⟩
  · exact ⟨4, by decide, by decide, by decide⟩
  · exact ⟨1, by decide, by decide, by decide⟩
  · exact ⟨3, by decide, by decide, by decide⟩
  · exact ⟨2, by decide, by decide, by decide⟩
abbrev isLt (b : Int32) : Prop := b = 99 ∨ b = 120 ∨ b = 100 ∨ b = 107 ∨ b = 112 ∨ b = 116 ∨ b = 119
theorem tok_letter {T : Nat → Int32} {n a : Nat} (ha : a < n) (hb : isLt (T a)) : rTk0 T n a = (a + 1, 1, T a) := by
  have h0 : ¬ rIsF (T a) ∧ rKd (T a) = 1 := by
    rcases hb with e | e | e | e | e | e | e <;> rw [e] <;> decide
  unfold rTk0
  rw [rBt_in ha, if_neg h0.1, h0.2, if_neg (by decide)]
theorem tok_1 {T : Nat → Int32} {n a : Nat} (h : (rTk0 T n a).2.1 = 1) : (rTk0 T n a).2.2 = rBt T n a := by
  unfold rTk0 at h ⊢
  by_cases hF : rIsF (rBt T n a)
  · rw [if_pos hF] at h
    exfalso
    revert h
    show (if 3 ≤ nI (rDg T n a (n - a) a 0).1 - nI a then (5 : Int32) else 2) = 1 → False
    split <;> decide
  · rw [if_neg hF]
theorem cByte_in {B T : Nat → Int32} {n a : Nat} {rs : Nat × Nat × Nat × (Nat → Int32) × (Nat → Int32)} (h : tOk B T n) (ha : a < n) : cByte B n (0, a, rs) = T a := by
  unfold cByte
  rw [if_pos (show (0 : Nat) = 0 ∧ a < n from ⟨rfl, ha⟩)]
  exact (h.2 a ha).1
theorem cByte_out {B : Nat → Int32} {n a : Nat} {rs : Nat × Nat × Nat × (Nat → Int32) × (Nat → Int32)} (ha : n ≤ a) : cByte B n (0, a, rs) = -1000000 := by
  unfold cByte
  rw [if_neg (show ¬ ((0 : Nat) = 0 ∧ a < n) from fun w => by omega)]
theorem cByte_f {B : Nat → Int32} {n : Nat} {st : cSt} (h : ¬ st.1 = 0) : cByte B n st = -1000000 := by
  unfold cByte
  rw [if_neg (fun w => h w.1)]
theorem let_iff {B T : Nat → Int32} {n a : Nat} {k : Int32} {rs : Nat × Nat × Nat × (Nat → Int32) × (Nat → Int32)} (h : tOk B T n) (hk : isLt k) : cByte B n (0, a, rs) = k ↔ (rTk0 T n a).2.1 = 1 ∧ (rTk0 T n a).2.2 = k := by
  have hk0 : ¬ k = -1000000 ∧ ¬ k = -1 := by rcases hk with e | e | e | e | e | e | e <;> rw [e] <;> decide
  rcases Nat.lt_or_ge a n with q | q
  · rw [cByte_in h q]
    constructor
    · intro w
      rw [tok_letter q (by rw [w]; exact hk)]
      exact ⟨rfl, w⟩
    · intro w
      rw [tok_1 w.1, rBt_in q] at w
      exact w.2
  · rw [cByte_out q]
    constructor
    · intro w; exact absurd w.symm hk0.1
    · intro w
      rw [tok_1 w.1, rBt_out q] at w
      exact absurd w.2.symm hk0.2
theorem ce_iff {B T : Nat → Int32} {n a : Nat} {k0 : Int32} {rs : Nat × Nat × Nat × (Nat → Int32) × (Nat → Int32)} (h : tOk B T n) : ¬ cLet (cByte B n (0, a, rs)) = 0 ↔ rCe (rWell T n k0 a) := by
  have hc : rCe (rWell T n k0 a) ↔ (rTk0 T n a).2.1 = 1 ∧ ¬ rKo (rTk0 T n a).2.2 ≤ 0 := ⟨fun w => w.2, fun w => ⟨well_fp, w⟩⟩
  rw [hc]
  constructor
  · intro w
    have hl := let_cases w
    have hlt : isLt (cByte B n (0, a, rs)) := Or.inr (Or.inr hl)
    obtain ⟨k1, k2⟩ := (let_iff (a := a) (rs := rs) h hlt).mp rfl
    rw [k2]
    refine ⟨k1, ?_⟩
    rcases hl with e | e | e | e | e <;> rw [e] <;> decide
  · intro w
    have e := tok_1 w.1
    rw [e] at w
    rcases Nat.lt_or_ge a n with q | q
    · rw [cByte_in h q, cLet_rKo, ← rBt_in (T := T) q]
      intro w2
      exact w.2 (by rw [w2]; decide)
    · rw [rBt_out q] at w
      exact absurd w.2 (by decide)
theorem rWell_val {T : Nat → Int32} {n a : Nat} {k0 : Int32} : (rWell T n k0 a).2.2.2.2.2 = (rTk0 T n a).2.2 := rfl
def rg (v lo hi : Int32) : Prop := ¬ v < lo ∧ ¬ hi < v
theorem rg_nI {v lo hi : Int32} {n : Nat} (h : rg v lo hi) (hlo : lo = 0 ∨ lo = 1) (hhi : hi.toInt = n) : ∃ k, k ≤ n ∧ v = nI k ∧ (lo = 1 → 1 ≤ k) := by
  have h0 : ¬ v < 0 := by
    rcases hlo with e | e
    · rw [e] at h; exact h.1
    · intro w
      refine h.1 ?_
      rw [e]
      rw [Int32.lt_iff_toInt_lt] at w ⊢
      have e0 : (0 : Int32).toInt = 0 := rfl
      have e1 : (1 : Int32).toInt = 1 := rfl
      omega
  obtain ⟨k, hk, e⟩ := nI_of2 hhi h0 (Int32.not_lt.mp h.2)
  refine ⟨k, hk, e, fun w => ?_⟩
  have h1 := h.1
  rw [w, e] at h1
  rcases Nat.lt_or_ge k 1 with q | q
  · exfalso
    have : k = 0 := by omega
    subst this
    exact h1 (by decide)
  · exact q
/-- one EAR -/
theorem pr_ear {B T : Nat → Int32} {n a ea dg : Nat} {ki nu : Nat → Int32} {k0 : Int32} {r : rPs} (h : tOk B T n) (hP : PR T n k0 (0, a, ea, dg, 1 + 4 * ea, ki, nu) r) (hc6 : ea ≤ 6) (hL : ¬ cLet (cByte B n (0, a, ea, dg, 1 + 4 * ea, ki, nu)) = 0) :
    PR T n k0 (cEar B n (cLet (cByte B n (0, a, ea, dg, 1 + 4 * ea, ki, nu))) (0, a, ea, dg, 1 + 4 * ea, ki, nu)) (rE6 T n ea r) ∧
    ((cEar B n (cLet (cByte B n (0, a, ea, dg, 1 + 4 * ea, ki, nu))) (0, a, ea, dg, 1 + 4 * ea, ki, nu)).1 = 0 → ea < 6 ∧ (cEar B n (cLet (cByte B n (0, a, ea, dg, 1 + 4 * ea, ki, nu))) (0, a, ea, dg, 1 + 4 * ea, ki, nu)).2.2 = (ea + 1, dg, 1 + 4 * (ea + 1), upd ki ea (rKo r.2.2.2.2.2), upd (upd (upd (upd nu (1 + 4 * ea + 0) (rE2 T n ea r).1) (1 + 4 * ea + 1) (rE3 T n ea r).1) (1 + 4 * ea + 2) (rE4 T n ea r).1) (1 + 4 * ea + 3) (rE5 T n ea r).1) ∧
      rg (rE2 T n ea r).1 1 12 ∧ rg (rE3 T n ea r).1 0 3 ∧ rg (rE4 T n ea r).1 0 7 ∧ rg (rE5 T n ea r).1 1 8 ∧ ∃ k, 1 ≤ k ∧ k ≤ 5 ∧ rKo r.2.2.2.2.2 = nI k) := by
  have hr : r = rWell T n k0 a := hP.wl rfl
  have ha : a ≤ n := hP.1
  have hn := h.1
  have hl := let_cases hL
  have hlt : isLt (cByte B n (0, a, ea, dg, 1 + 4 * ea, ki, nu)) := Or.inr (Or.inr hl)
  have haN : a < n := by
    rcases Nat.lt_or_ge a n with q | q
    · exact q
    · rw [cByte_out q] at hL
      exact absurd (by decide) hL
  have hB : cByte B n (0, a, ea, dg, 1 + 4 * ea, ki, nu) = T a := cByte_in h haN
  rw [hB] at hL hlt ⊢
  have htk := tok_letter haN hlt
  have hv : r.2.2.2.2.2 = T a := by rw [hr, rWell_val, htk]
  rw [hv, cLet_rKo]
  have hko := rKo_r hL
  obtain ⟨q1, hq1⟩ : ∃ q, q = rE1 T n ea r := ⟨_, rfl⟩
  obtain ⟨q2, hq2⟩ : ∃ q, q = rE2 T n ea r := ⟨_, rfl⟩
  obtain ⟨q3, hq3⟩ : ∃ q, q = rE3 T n ea r := ⟨_, rfl⟩
  obtain ⟨q4, hq4⟩ : ∃ q, q = rE4 T n ea r := ⟨_, rfl⟩
  obtain ⟨q5, hq5⟩ : ∃ q, q = rE5 T n ea r := ⟨_, rfl⟩
  obtain ⟨q6, hq6⟩ : ∃ q, q = rE6 T n ea r := ⟨_, rfl⟩
  have e2 : rFg T n 1 12 q1 = q2 := by rw [hq2]; unfold rE2; rw [← hq1]
  have e3 : rFg T n 0 3 (rTk T n (hb (q2.2.2.2.2.2.1 = 3)) 1 q2.2).2 = q3 := by rw [hq3]; unfold rE3 rNx; rw [← hq2]
  have e4 : rFg T n 0 7 (rTk T n (hb (q3.2.2.2.2.2.1 = 3)) 1 q3.2).2 = q4 := by rw [hq4]; unfold rE4 rNx; rw [← hq3]
  have e5 : rFg T n 1 8 (rTk T n (hb (q4.2.2.2.2.2.1 = 3)) 1 q4.2).2 = q5 := by rw [hq5]; unfold rE5 rNx; rw [← hq4]
  have e6 : (rTk T n (hb (q5.2.2.2.2.2.1 = 4)) 1 q5.2).2 = q6 := by rw [hq6]; unfold rE6; rw [← hq5]
  rw [← hq2, ← hq3, ← hq4, ← hq5, ← hq6]
  by_cases h6 : 6 ≤ ea
  · have ec : cEar B n (rKo (T a)) (0, a, ea, dg, 1 + 4 * ea, ki, nu) = (3, a, ea, dg, 1 + 4 * ea, ki, nu) := by
      unfold cEar
      rw [if_pos (show 6 ≤ ea from h6)]
    have e1 : q1 = (3, nI a, (rTk0 T n a).1, a, (rTk0 T n a).2.1, (rTk0 T n a).2.2) := by
      rw [hq1]
      unfold rE1
      rw [hr, hb_f (fun w => w (show nI 6 ≤ nI ea from nI_le h6 (by omega))), take_no]
    have f1 : 0 ≤ q1.2.1 := by rw [e1]; exact nI_pos' (by omega)
    rw [rFg_fault f1] at e2
    subst e2
    have t1 : ∀ b k, rTk T n b k q1 = (0, q1) := fun b k => rTk_fault f1
    have g1 : ∀ lo hi, rFg T n lo hi q1 = (0, q1) := fun lo hi => rFg_fault f1
    simp only [t1, g1] at e3
    subst e3
    simp only [t1, g1] at e4
    subst e4
    simp only [t1, g1] at e5
    subst e5
    simp only [t1] at e6
    rw [ec, ← e6, e1]
    exact ⟨⟨ha, Or.inr ⟨show 1 ≤ 3 by decide, show 3 ≤ 3 by decide, rfl, rfl⟩⟩, fun w => absurd (show 3 = 0 from w) (by decide)⟩
  · have hq1w : q1 = rWell T n k0 (a + 1) := by
      rw [hq1]
      unfold rE1
      rw [hr, hb_t (show ¬ (6 : Int32) ≤ nI ea from nI_ge (a := ea) (b := 6) (by omega) (by decide)), take_yes (by decide), htk]
    have P1 : PR T n k0 (0, a + 1, ea + 1, dg, 1 + 4 * ea, upd ki ea (rKo (T a)), nu) q1 := ⟨haN, Or.inl ⟨rfl, hq1w⟩⟩
    have ec : cEar B n (rKo (T a)) (0, a, ea, dg, 1 + 4 * ea, ki, nu) = cStep B n 1 8 59 (cStep B n 0 7 44 (cStep B n 0 3 44 (cStep B n 1 12 44 (0, a + 1, ea + 1, dg, 1 + 4 * ea, upd ki ea (rKo (T a)), nu)))) := by
      unfold cEar
      rw [if_neg (show ¬ 6 ≤ ea from h6), cNums_s, cNums_s, cNums_s, cNums_s]
      rfl
    rw [ec]
    obtain ⟨s1, hs1⟩ : ∃ s, s = cStep B n 1 12 44 (0, a + 1, ea + 1, dg, 1 + 4 * ea, upd ki ea (rKo (T a)), nu) := ⟨_, rfl⟩
    rw [← hs1]
    obtain ⟨s2, hs2⟩ : ∃ s, s = cStep B n 0 3 44 s1 := ⟨_, rfl⟩
    rw [← hs2]
    obtain ⟨s3, hs3⟩ : ∃ s, s = cStep B n 0 7 44 s2 := ⟨_, rfl⟩
    rw [← hs3]
    obtain ⟨s4, hs4⟩ : ∃ s, s = cStep B n 1 8 59 s3 := ⟨_, rfl⟩
    rw [← hs4]
    have p1 := pr_step (lo := 1) (hi := 12) h P1 (Or.inl ⟨rfl, rfl⟩) (fun _ => show 1 + 4 * ea < 37 by omega)
    rw [← hs1, e2] at p1
    have p2 := pr_step (lo := 0) (hi := 3) h p1.1 (Or.inl ⟨rfl, rfl⟩) (fun w => by rw [(p1.2 w).2.1]; show 1 + 4 * ea + 1 < 37; omega)
    rw [← hs2, e3] at p2
    have p3 := pr_step (lo := 0) (hi := 7) h p2.1 (Or.inl ⟨rfl, rfl⟩) (fun w => by
      obtain ⟨x1, x2, _⟩ := p2.2 w
      rw [x2, (p1.2 x1).2.1]; show 1 + 4 * ea + 1 + 1 < 37; omega)
    rw [← hs3, e4] at p3
    have p4 := pr_step (lo := 1) (hi := 8) h p3.1 (Or.inr ⟨rfl, rfl⟩) (fun w => by
      obtain ⟨x1, x2, _⟩ := p3.2 w
      obtain ⟨y1, y2, _⟩ := p2.2 x1
      rw [x2, y2, (p1.2 y1).2.1]; show 1 + 4 * ea + 1 + 1 + 1 < 37; omega)
    rw [← hs4, e5] at p4
    rw [e6] at p4
    refine ⟨p4.1, fun w => ?_⟩
    obtain ⟨x1, x2, x3⟩ := p4.2 w
    obtain ⟨y1, y2, y3⟩ := p3.2 x1
    obtain ⟨z1, z2, z3⟩ := p2.2 y1
    obtain ⟨w1, w2, w3⟩ := p1.2 z1
    refine ⟨by omega, ?_, w3, z3, y3, x3, hko⟩
    rw [x2, y2, z2, w2]
    rfl
theorem pr_doi {B T : Nat → Int32} {n a ea dg : Nat} {ki nu : Nat → Int32} {k0 : Int32} {r : rPs} (h : tOk B T n) (hP : PR T n k0 (0, a, ea, dg, 1 + 4 * ea + 3 * dg, ki, nu) r) (hE : ea ≤ 6) (hd4 : dg ≤ 4) (hL : cByte B n (0, a, ea, dg, 1 + 4 * ea + 3 * dg, ki, nu) = 120) :
    PR T n k0 (cDoi B n (0, a, ea, dg, 1 + 4 * ea + 3 * dg, ki, nu)) (rD5 T n dg r) ∧
    ((cDoi B n (0, a, ea, dg, 1 + 4 * ea + 3 * dg, ki, nu)).1 = 0 → dg < 4 ∧ (cDoi B n (0, a, ea, dg, 1 + 4 * ea + 3 * dg, ki, nu)).2.2 = (ea, dg + 1, 1 + 4 * ea + 3 * (dg + 1), ki, upd (upd (upd nu (1 + 4 * ea + 3 * dg + 0) (rD2 T n dg r).1) (1 + 4 * ea + 3 * dg + 1) (rD3 T n dg r).1) (1 + 4 * ea + 3 * dg + 2) (rD4 T n dg r).1) ∧
      rg (rD2 T n dg r).1 0 99 ∧ rg (rD3 T n dg r).1 1 40 ∧ rg (rD4 T n dg r).1 0 99) := by
  have hr : r = rWell T n k0 a := hP.wl rfl
  have ha : a ≤ n := hP.1
  have hn := h.1
  have haN : a < n := by
    rcases Nat.lt_or_ge a n with q | q
    · exact q
    · rw [cByte_out q] at hL
      exact absurd hL (by decide)
  have hB : cByte B n (0, a, ea, dg, 1 + 4 * ea + 3 * dg, ki, nu) = T a := cByte_in h haN
  rw [hB] at hL
  have htk := tok_letter haN (show isLt (T a) from Or.inr (Or.inl hL))
  obtain ⟨q1, hq1⟩ : ∃ q, q = rD1 T n dg r := ⟨_, rfl⟩
  obtain ⟨q2, hq2⟩ : ∃ q, q = rD2 T n dg r := ⟨_, rfl⟩
  obtain ⟨q3, hq3⟩ : ∃ q, q = rD3 T n dg r := ⟨_, rfl⟩
  obtain ⟨q4, hq4⟩ : ∃ q, q = rD4 T n dg r := ⟨_, rfl⟩
  obtain ⟨q5, hq5⟩ : ∃ q, q = rD5 T n dg r := ⟨_, rfl⟩
  have e2 : rFg T n 0 99 q1 = q2 := by rw [hq2]; unfold rD2; rw [← hq1]
  have e3 : rFg T n 1 40 (rTk T n (hb (q2.2.2.2.2.2.1 = 3)) 1 q2.2).2 = q3 := by rw [hq3]; unfold rD3 rNx; rw [← hq2]
  have e4 : rFg T n 0 99 (rTk T n (hb (q3.2.2.2.2.2.1 = 3)) 1 q3.2).2 = q4 := by rw [hq4]; unfold rD4 rNx; rw [← hq3]
  have e5 : (rTk T n (hb (q4.2.2.2.2.2.1 = 4)) 1 q4.2).2 = q5 := by rw [hq5]; unfold rD5; rw [← hq4]
  rw [← hq2, ← hq3, ← hq4, ← hq5]
  by_cases h6 : 4 ≤ dg
  · have ec : cDoi B n (0, a, ea, dg, 1 + 4 * ea + 3 * dg, ki, nu) = (3, a, ea, dg, 1 + 4 * ea + 3 * dg, ki, nu) := by
      unfold cDoi
      rw [if_pos (show 4 ≤ dg from h6)]
    have e1 : q1 = (3, nI a, (rTk0 T n a).1, a, (rTk0 T n a).2.1, (rTk0 T n a).2.2) := by
      rw [hq1]
      unfold rD1
      rw [hr, hb_f (fun w => w (show nI 4 ≤ nI dg from nI_le h6 (by omega))), take_no]
    have f1 : 0 ≤ q1.2.1 := by rw [e1]; exact nI_pos' (by omega)
    rw [rFg_fault f1] at e2
    subst e2
    have t1 : ∀ b k, rTk T n b k q1 = (0, q1) := fun b k => rTk_fault f1
    have g1 : ∀ lo hi, rFg T n lo hi q1 = (0, q1) := fun lo hi => rFg_fault f1
    simp only [t1, g1] at e3
    subst e3
    simp only [t1, g1] at e4
    subst e4
    simp only [t1] at e5
    rw [ec, ← e5, e1]
    exact ⟨⟨ha, Or.inr ⟨show 1 ≤ 3 by decide, show 3 ≤ 3 by decide, rfl, rfl⟩⟩, fun w => absurd (show 3 = 0 from w) (by decide)⟩
  · have hq1w : q1 = rWell T n k0 (a + 1) := by
      rw [hq1]
      unfold rD1
      rw [hr, hb_t (show ¬ (4 : Int32) ≤ nI dg from nI_ge (a := dg) (b := 4) (by omega) (by decide)), take_yes (by decide), htk]
    have P1 : PR T n k0 (0, a + 1, ea, dg + 1, 1 + 4 * ea + 3 * dg, ki, nu) q1 := ⟨haN, Or.inl ⟨rfl, hq1w⟩⟩
    have ec : cDoi B n (0, a, ea, dg, 1 + 4 * ea + 3 * dg, ki, nu) = cStep B n 0 99 59 (cStep B n 1 40 44 (cStep B n 0 99 44 (0, a + 1, ea, dg + 1, 1 + 4 * ea + 3 * dg, ki, nu))) := by
      unfold cDoi
      rw [if_neg (show ¬ 4 ≤ dg from h6), cNums_s, cNums_s, cNums_s]
      rfl
    rw [ec]
    obtain ⟨s1, hs1⟩ : ∃ s, s = cStep B n 0 99 44 (0, a + 1, ea, dg + 1, 1 + 4 * ea + 3 * dg, ki, nu) := ⟨_, rfl⟩
    rw [← hs1]
    obtain ⟨s2, hs2⟩ : ∃ s, s = cStep B n 1 40 44 s1 := ⟨_, rfl⟩
    rw [← hs2]
    obtain ⟨s3, hs3⟩ : ∃ s, s = cStep B n 0 99 59 s2 := ⟨_, rfl⟩
    rw [← hs3]
    have p1 := pr_step (lo := 0) (hi := 99) h P1 (Or.inl ⟨rfl, rfl⟩) (fun _ => show 1 + 4 * ea + 3 * dg < 37 by omega)
    rw [← hs1, e2] at p1
    have p2 := pr_step (lo := 1) (hi := 40) h p1.1 (Or.inl ⟨rfl, rfl⟩) (fun w => by rw [(p1.2 w).2.1]; show 1 + 4 * ea + 3 * dg + 1 < 37; omega)
    rw [← hs2, e3] at p2
    have p3 := pr_step (lo := 0) (hi := 99) h p2.1 (Or.inr ⟨rfl, rfl⟩) (fun w => by
      obtain ⟨x1, x2, _⟩ := p2.2 w
      rw [x2, (p1.2 x1).2.1]; show 1 + 4 * ea + 3 * dg + 1 + 1 < 37; omega)
    rw [← hs3, e4] at p3
    rw [e5] at p3
    refine ⟨p3.1, fun w => ?_⟩
    obtain ⟨y1, y2, y3⟩ := p3.2 w
    obtain ⟨z1, z2, z3⟩ := p2.2 y1
    obtain ⟨w1, w2, w3⟩ := p1.2 z1
    refine ⟨by omega, ?_, w3, z3, y3⟩
    rw [y2, z2, w2]
    rfl
