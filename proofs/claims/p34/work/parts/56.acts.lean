theorem hPass_93 {M : hc_Mem} {E q : Nat} : hPass M E q 9 3 = M 9 3 + hPar M E (hAtt M E) (M 9 2) := by
  unfold hPass
  rw [hc_ms_n (by decide), hc_ms_j (by decide), hc_ms_v]
theorem hPass_15 {M : hc_Mem} {E q j : Nat} : hPass M E q 15 j = if j < E then M 15 j + (if M 12 j = 0 then hPar M E (hAtt M E) (M 9 2) else 12) else M 15 j := by
  unfold hPass hGrow
  rw [hc_ms_n (by decide), hc_ms_n (by decide), hc_ms_n (by decide), hc_mf_s]
theorem hPass_19 {M : hc_Mem} {E q i : Nat} : hPass M E q 19 i = if i = q + 1 then M 9 3 + hPar M E (hAtt M E) (M 9 2) else M 19 i := by
  unfold hPass hGrow
  rw [hc_ms_s, hc_ms_n (by decide), hc_ms_n (by decide), hc_mf_n (by decide)]
  rfl
theorem HR.pass {E D q : Nat} {M : hc_Mem} {f : Nat → Int32} (h : HR E D q M f) (hq : q + 1 < 1200) : HR E D (q + 1) (hPass M E q) (rPass f E D) := by
  have hl := h.lim
  have hgo := h.go
  obtain ⟨g, hg, eg⟩ := par_nI h.rg hl.1 (hAtt M E) (M 9 2)
  have h10 : ∀ c, c ≠ 9 → c ≠ 15 → c ≠ 19 → hPass M E q c = M c := fun c a b d => hPass_n a b d
  obtain ⟨p, p0, p1, p2⟩ := h.gp
  have h9q : M 9 3 = nI (p q) := by rw [h.pa.2]; exact p1 q (Nat.le_refl _)
  refine ⟨⟨hl.1, hl.2.1, hq⟩, ?_, ?_, ?_, ?_, ?_, ?_, ?_, fun e he => ?_, fun x hx => ?_, ?_⟩
  · rw [rPass_st hl.1 (Or.inl rfl), hPass_9 (by decide) (by decide)]; exact h.st
  · rw [rPass_st hl.1 rSt_1, hPass_9 (by decide) (by decide)]; exact h.wo
  · rw [rPass_2, hPass_92, h.qu.1]; exact ⟨nI_1 q, rfl⟩
  · rw [rPass_3, hPass_93, hPass_19, if_pos rfl, h.pa.1, hgo]; exact ⟨rfl, rfl⟩
  · rw [rPass_st hl.1 (Or.inr (Or.inr (Or.inl rfl))), hPass_9 (by decide) (by decide)]; exact h.ea
  · rw [rPass_st hl.1 (Or.inr (Or.inr (Or.inr (Or.inl rfl)))), hPass_9 (by decide) (by decide)]; exact h.do
  · rw [hPass_9 (by decide) (by decide)]; exact h.hu
  · have k := h.es e he
    unfold HRe at k ⊢
    rw [rPass_l he hl.1, show rPass f E D (6 + 7 * e) = f (6 + 7 * e) from rPass_st hl.1 (rSt_e (i := 0) (by omega) (by decide)), rPass_st hl.1 (rSt_e (i := 1) (by omega) (by decide)), rPass_st hl.1 (rSt_e (i := 2) (by omega) (by decide)), rPass_st hl.1 (rSt_e (i := 3) (by omega) (by decide)), rPass_st hl.1 (rSt_e (i := 4) (by omega) (by decide)), rPass_st hl.1 (rSt_e (i := 5) (by omega) (by decide)), h10 10 (by decide) (by decide) (by decide), h10 11 (by decide) (by decide) (by decide), h10 12 (by decide) (by decide) (by decide), h10 13 (by decide) (by decide) (by decide), h10 14 (by decide) (by decide) (by decide), hPass_9 (by decide) (by decide), hPass_15, if_pos he]
    obtain ⟨a1, a2, a3, a4, a5, a6, a7, a8⟩ := k
    exact ⟨a1, a2, a3, a4, a5, a6, by rw [a7, a3, hgo], a8⟩
  · obtain ⟨a1, a2, a3, b, n, u, b1, b2, b3, b4, b5, b6, b7, b8, b9⟩ := h.ds x hx
    have r2 : rP2 (rP1 f (rGo f E) E) (rGo f E) 2 = nI (q + 1) := by
      unfold rP2
      rw [upd_eq, upd_ne (by decide), rP1_o E (fun x _ => by omega), h.qu.1]
      exact nI_1 q
    have r3 : rP2 (rP1 f (rGo f E) E) (rGo f E) 3 = M 9 3 + hPar M E (hAtt M E) (M 9 2) := by
      unfold rP2
      rw [upd_ne (by decide), upd_eq, rP1_o E (fun x _ => by omega), hgo, h.pa.1]
    have rh : ∀ j, 48 ≤ j → rP2 (rP1 f (rGo f E) E) (rGo f E) j = f j := by
      intro j hj
      unfold rP2
      rw [upd_ne (by omega), upd_ne (by omega), rP1_o E (fun x _ => by omega)]
    have hat := rP3_at (f := rP2 (rP1 f (rGo f E) E) (rGo f E)) (x := x) D hx
    have hG : ∀ i, i ≤ q → hPass M E q 19 i = M 19 i := fun i hi => by rw [hPass_19, if_neg (by omega)]
    have hG1 : hPass M E q 19 (q + 1) = M 9 3 + hPar M E (hAtt M E) (M 9 2) := by rw [hPass_19, if_pos rfl]
    unfold HRd
    rw [rPass_st hl.1 (rSt_d (by omega) (by decide)), rPass_st hl.1 (rSt_d (by omega) (by decide)), rPass_st hl.1 (rSt_d (by omega) (by decide)), h10 16 (by decide) (by decide) (by decide), h10 17 (by decide) (by decide) (by decide), h10 18 (by decide) (by decide) (by decide)]
    refine ⟨a1, a2, a3, b, n, u, b1, b2, b3, b4, b5, b6, b7, ?_, ?_⟩
    · show rP3 _ D (48 + 5 * x + 3) = _
      rw [hat.2, r2, r3, rh _ (by omega), rh _ (by omega), a1, b5, b8]
      by_cases hb1 : b = q + 1
      · rw [if_pos (by rw [hb1]), if_pos (by omega), hb1, hG1]
      · rw [if_neg (fun w => hb1 ((nI_eq (by omega) (by omega)).mp w))]
        by_cases hbq : b ≤ q
        · rw [if_pos hbq, if_pos (by omega), hG b hbq]
        · rw [if_neg hbq, if_neg (by omega)]
    · show rP3 _ D (48 + 5 * x + 4) = _
      rw [hat.1, r2]
      unfold hDn
      rw [hDn_c q hG, hG1]
      have hi : rIsD (rP2 (rP1 f (rGo f E) E) (rGo f E)) x ↔ (hDn (M 19) b (12 * M 17 x) q = -1000000 ∧ b ≤ q ∧ ¬ M 9 3 + hPar M E (hAtt M E) (M 9 2) < hPass M E q 19 b + 12 * M 17 x) := by
        show (¬ rP2 (rP1 f (rGo f E) E) (rGo f E) (48 + 5 * x + 3) = -1000000 ∧ rP2 (rP1 f (rGo f E) E) (rGo f E) (48 + 5 * x + 4) = -1000000 ∧ ¬ rP2 (rP1 f (rGo f E) E) (rGo f E) 3 < rP2 (rP1 f (rGo f E) E) (rGo f E) (48 + 5 * x + 3) + 12 * rP2 (rP1 f (rGo f E) E) (rGo f E) (48 + 5 * x + 1)) ↔ _
        rw [r3, rh _ (by omega), rh _ (by omega), rh _ (by omega), a2, b8, b9]
        by_cases hbq : b ≤ q
        · rw [if_pos hbq, hG b hbq]
          have hne : ¬ M 19 b = -1000000 := by
            have hpb : ∀ i, i ≤ q → p i ≤ 72 * i := by
              intro i
              induction i with
              | zero => intro _; omega
              | succ i ih => intro hi; have := ih (by omega); have := (p2 i (by omega)).2; omega
            have := hpb b hbq
            rw [p1 b hbq]
            intro w
            have h0 := nI_pos (n := p b) (by omega)
            rw [w] at h0
            exact h0 (by decide)
          exact ⟨fun w => ⟨w.2.1, hbq, w.2.2⟩, fun w => ⟨hne, w.1, w.2.2⟩⟩
        · rw [if_neg hbq]
          exact ⟨fun w => absurd rfl w.1, fun w => absurd w.2.1 hbq⟩
      by_cases hd : rIsD (rP2 (rP1 f (rGo f E) E) (rGo f E)) x
      · rw [if_pos hd, if_pos (hi.mp hd)]
      · rw [if_neg hd, if_neg (fun w => hd (hi.mpr w)), rh _ (by omega), b9]
  · obtain ⟨p', hp'⟩ : ∃ p' : Nat → Nat, ∀ i, p' i = if i = q + 1 then p q + g else p i := ⟨fun i => if i = q + 1 then p q + g else p i, fun _ => rfl⟩
    refine ⟨p', ?_, fun i hi => ?_, fun i hi => ?_⟩
    · rw [hp', if_neg (by omega)]; exact p0
    · rw [hPass_19, hp']
      by_cases hi1 : i = q + 1
      · rw [if_pos hi1, if_pos hi1, h9q, eg, nI_add]
      · rw [if_neg hi1, if_neg hi1]
        exact p1 i (by omega)
    · rw [hp', hp', if_neg (show ¬ i = q + 1 by omega)]
      by_cases hi1 : i = q
      · subst hi1
        rw [if_pos rfl]
        omega
      · rw [if_neg (by omega)]
        exact p2 i (by omega)
/-! AN ACT is undone -/
def hUn (M : hc_Mem) (d w b : Int32) : hc_Mem := if d = 1 then hc_ms M 12 w.toNatClampNeg b else if d = 2 then hc_ms M 9 4 (if b = 1 then M 9 4 ||| ((1 : Int32) <<< (w &&& 31)) else M 9 4 &&& (((1 : Int32) <<< (w &&& 31)) ^^^ -1)) else if d = 3 then hc_ms M 9 1 b else hBack M (M 9 5).toNatClampNeg ((M 9 2).toNatClampNeg - 1)
def aOk (M : hc_Mem) (d w : Int32) : Prop := (d = 0 ∧ ∃ q, q < 999 ∧ M 9 2 = nI (q + 1)) ∨ (d = 1 ∧ ∃ w0, w0 < 6 ∧ w = nI w0) ∨ d = 2 ∨ d = 3
def hEqQ (M M' : hc_Mem) : Prop := ∃ q, q < 1200 ∧ M 9 2 = nI q ∧ hEq q M M'
theorem hBack_n {M : hc_Mem} {E q c : Nat} (h : c ≠ 9) (h2 : c ≠ 15) : hBack M E q c = M c := by
  unfold hBack hGrow
  rw [hc_ms_n h, hc_mf_n h2, hc_ms_n h]
theorem hBack_9 {M : hc_Mem} {E q j : Nat} (h2 : j ≠ 2) (h3 : j ≠ 3) : hBack M E q 9 j = M 9 j := by
  unfold hBack hGrow
  rw [hc_ms_j h3, hc_mf_n (by decide), hc_ms_j h2]
theorem hBack_92 {M : hc_Mem} {E q : Nat} : hBack M E q 9 2 = nI q := by
  unfold hBack hGrow
  rw [hc_ms_j (by decide), hc_mf_n (by decide), hc_ms_v]
theorem hBack_93 {M : hc_Mem} {E q : Nat} : hBack M E q 9 3 = M 19 q := by
  unfold hBack
  rw [hc_ms_v]
theorem hBack_15 {M : hc_Mem} {E q j : Nat} : hBack M E q 15 j = if j < E then M 15 j + (if M 12 j = 0 then M 19 q - M 9 3 else -12) else M 15 j := by
  unfold hBack hGrow
  rw [hc_ms_n (by decide), hc_mf_s, hc_ms_n (by decide), hc_ms_n (by decide)]
theorem hEq_back {M M' : hc_Mem} {E q : Nat} (h : hEq (q + 1) M M') : hEq q (hBack M E q) (hBack M' E q) := by
  obtain ⟨h1, h2, h3, h4⟩ := h
  refine ⟨fun j hj => ?_, fun c a b j hj => ?_, fun c a b j hj => ?_, fun i hi => ?_⟩
  · by_cases j2 : j = 2
    · subst j2; rw [hBack_92, hBack_92]
    by_cases j3 : j = 3
    · subst j3; rw [hBack_93, hBack_93]; exact h4 q (by omega)
    rw [hBack_9 j2 j3, hBack_9 j2 j3]; exact h1 j hj
  · by_cases c15 : c = 15
    · subst c15
      rw [hBack_15, hBack_15, h2 15 (by decide) (by decide) j hj, h2 12 (by decide) (by decide) j hj, h4 q (by omega), h1 3 (by decide)]
    · rw [hBack_n (by omega) c15, hBack_n (by omega) c15]; exact h2 c a b j hj
  · rw [hBack_n (by omega) (by omega), hBack_n (by omega) (by omega)]; exact h3 c a b j hj
  · rw [hBack_n (by decide) (by decide), hBack_n (by decide) (by decide)]; exact h4 i (by omega)
theorem hEq_ms {M M' : hc_Mem} {q c j : Nat} {v : Int32} (h : hEq q M M') : hEq q (hc_ms M c j v) (hc_ms M' c j v) := by
  have key : ∀ c' j', M' c' j' = M c' j' → hc_ms M' c j v c' j' = hc_ms M c j v c' j' := by
    intro c' j' e
    by_cases hc : c' = c
    · subst hc
      rw [hc_ms_s, hc_ms_s]
      unfold upd
      split
      · rfl
      · exact e
    · rw [hc_ms_n hc, hc_ms_n hc]; exact e
  exact ⟨fun j hj => key _ _ (h.1 j hj), fun c a b j hj => key _ _ (h.2.1 c a b j hj), fun c a b j hj => key _ _ (h.2.2.1 c a b j hj), fun i hi => key _ _ (h.2.2.2 i hi)⟩
theorem hUn_c {M M' : hc_Mem} {d w b : Int32} (h : hEqQ M M') (ha : aOk M d w) : hEqQ (hUn M d w b) (hUn M' d w b) := by
  obtain ⟨q, hq, e2, he⟩ := h
  unfold hUn
  rcases ha with ⟨hd, q0, hq0, eq0⟩ | ⟨hd, w0, hw0, ew⟩ | hd | hd
  · subst hd
    rw [if_neg (by decide), if_neg (by decide), if_neg (by decide), if_neg (by decide), if_neg (by decide), if_neg (by decide), he.1 5 (by decide), he.1 2 (by decide), eq0, nI_clamp (by omega)]
    have : q = q0 + 1 := (nI_eq (by omega) (by omega)).mp (e2.symm.trans eq0)
    subst this
    exact ⟨q0, by omega, hBack_92, hEq_back he⟩
  · subst hd
    rw [if_pos rfl, if_pos rfl]
    exact ⟨q, hq, by rw [hc_ms_n (by decide)]; exact e2, hEq_ms he⟩
  · subst hd
    rw [if_neg (show ¬ (2 : Int32) = 1 by decide), if_neg (show ¬ (2 : Int32) = 1 by decide), if_pos rfl, if_pos rfl, he.1 4 (by decide)]
    exact ⟨q, hq, by rw [hc_ms_j (by decide)]; exact e2, hEq_ms he⟩
  · subst hd
    rw [if_neg (show ¬ (3 : Int32) = 1 by decide), if_neg (show ¬ (3 : Int32) = 2 by decide), if_pos rfl, if_neg (show ¬ (3 : Int32) = 1 by decide), if_neg (show ¬ (3 : Int32) = 2 by decide), if_pos rfl]
    exact ⟨q, hq, by rw [hc_ms_j (by decide)]; exact e2, hEq_ms he⟩
def hUs (A : hc_Mem) (k : Nat) : Nat → hc_Mem
  | 0 => A
  | t + 1 => hUn (hUs A k t) (A 43 (k - 1 - t)) (A 44 (k - 1 - t)) (A 45 (k - 1 - t))
/-- the chain of ACTS that can be undone, each with the house that it leads back to -/
def CH (A : hc_Mem) (P : Nat → Int32) (k : Nat) : Prop := ∀ t, t < k → aOk (hUs A k t) (A 43 (k - 1 - t)) (A 44 (k - 1 - t)) ∧ ∃ E D q, q ≤ 999 ∧ HR E D q (hUs A k (t + 1)) (fun j => P (68 * (k - 1 - t) + j))
theorem CH_lvl {A A' : hc_Mem} {P P' : Nat → Int32} {k k' m n o : Nat} (hk : k = n + o) (hk' : k' = m + n) (h : CH A P k) (h0 : hEqQ A (hUs A' k' m))
    (hx : ∀ i, i < n → A' 43 i = A 43 (i + o) ∧ A' 44 i = A 44 (i + o) ∧ A' 45 i = A 45 (i + o)) : ∀ s, s ≤ n → hEqQ (hUs A k s) (hUs A' k' (m + s)) := by
  intro s
  induction s with
  | zero => intro _; exact h0
  | succ s ih =>
    intro hs
    have i1 := ih (by omega)
    have hh := (h s (by omega)).1
    obtain ⟨x1, x2, x3⟩ := hx (n - 1 - s) (by omega)
    have e1 : k - 1 - s = n - 1 - s + o := by omega
    have e2 : k' - 1 - (m + s) = n - 1 - s := by omega
    show hEqQ (hUn (hUs A k s) (A 43 (k - 1 - s)) (A 44 (k - 1 - s)) (A 45 (k - 1 - s))) (hUn (hUs A' k' (m + s)) (A' 43 (k' - 1 - (m + s))) (A' 44 (k' - 1 - (m + s))) (A' 45 (k' - 1 - (m + s))))
    rw [e2, x1, x2, x3, ← e1]
    exact hUn_c i1 hh
theorem aOk_c {M M' : hc_Mem} {d w : Int32} (h : hEqQ M M') (ha : aOk M d w) : aOk M' d w := by
  obtain ⟨q, hq, e2, he⟩ := h
  rcases ha with ⟨hd, q0, hq0, eq0⟩ | k | k | k
  · exact Or.inl ⟨hd, q0, hq0, by rw [he.1 2 (by decide)]; exact eq0⟩
  · exact Or.inr (Or.inl k)
  · exact Or.inr (Or.inr (Or.inl k))
  · exact Or.inr (Or.inr (Or.inr k))
theorem HR_cQ {M M' : hc_Mem} {f : Nat → Int32} {E D q : Nat} (h : hEqQ M M') (hr : HR E D q M f) : HR E D q M' f := by
  obtain ⟨q', hq, e2, he⟩ := h
  have : q' = q := (nI_eq (by omega) (by have := hr.lim; omega)).mp (e2.symm.trans hr.qu.2)
  subst this
  exact hr.c he
theorem CH_tail {A A' : hc_Mem} {P P' : Nat → Int32} {k k' m n o : Nat} (hk : k = n + o) (hk' : k' = m + n) (h : CH A P k) (h0 : hEqQ A (hUs A' k' m))
    (hx : ∀ i, i < n → A' 43 i = A 43 (i + o) ∧ A' 44 i = A 44 (i + o) ∧ A' 45 i = A 45 (i + o)) (hp : ∀ i j, i < n → j < 68 → P' (68 * i + j) = P (68 * (i + o) + j)) :
    ∀ t, m ≤ t → t < k' → aOk (hUs A' k' t) (A' 43 (k' - 1 - t)) (A' 44 (k' - 1 - t)) ∧ ∃ E D q, q ≤ 999 ∧ HR E D q (hUs A' k' (t + 1)) (fun j => P' (68 * (k' - 1 - t) + j)) := by
  intro t hm ht
  obtain ⟨s, hs⟩ : ∃ s, t = m + s := ⟨t - m, by omega⟩
  subst hs
  have hlv := CH_lvl hk hk' h h0 hx (P' := P')
  obtain ⟨a, E, D, q, hq, hr⟩ := h s (by omega)
  obtain ⟨x1, x2, x3⟩ := hx (n - 1 - s) (by omega)
  have e1 : k - 1 - s = n - 1 - s + o := by omega
  have e2 : k' - 1 - (m + s) = n - 1 - s := by omega
  rw [e2, x1, x2, ← e1]
  refine ⟨aOk_c (hlv s (by omega)) a, E, D, q, hq, ?_⟩
  refine (HR_cQ (hlv (s + 1) (by omega)) hr).ag (fun j hj => ?_)
  rw [hp _ j (by omega) hj, e1]
theorem CH_keep {A A' : hc_Mem} {P P' f : Nat → Int32} {k E D q : Nat} (h : CH A P k) (hr : HR E D q A f) (hq : q ≤ 999) (ha : aOk A' (A' 43 k) (A' 44 k)) (hu : hEq q A (hUn A' (A' 43 k) (A' 44 k) (A' 45 k)))
    (hx : ∀ i, i < k → A' 43 i = A 43 i ∧ A' 44 i = A 44 i ∧ A' 45 i = A 45 i) (hp : ∀ i j, i < k → j < 68 → P' (68 * i + j) = P (68 * i + j)) (hf : ∀ j, j < 68 → P' (68 * k + j) = f j) : CH A' P' (k + 1) := by
  intro t ht
  rcases Nat.lt_or_ge 0 t with ht0 | ht0
  · exact CH_tail (k := k) (k' := k + 1) (m := 1) (n := k) (o := 0) rfl (by omega) h ⟨q, by omega, hr.qu.2, hu⟩ hx hp t ht0 ht
  · have : t = 0 := by omega
    subst this
    refine ⟨ha, E, D, q, hq, ?_⟩
    exact (hr.c hu).ag hf
theorem CH_shift {A A' : hc_Mem} {P P' f : Nat → Int32} {E D q : Nat} (h : CH A P 24) (hr : HR E D q A f) (hc : hEq q A A')
    (hx : ∀ i, i < 23 → A' 43 i = A 43 (i + 1) ∧ A' 44 i = A 44 (i + 1) ∧ A' 45 i = A 45 (i + 1)) (hp : ∀ i j, i < 23 → j < 68 → P' (68 * i + j) = P (68 * (i + 1) + j)) : CH A' P' 23 := by
  intro t ht
  exact CH_tail (k := 24) (k' := 23) (m := 0) (n := 23) (o := 1) rfl rfl h ⟨q, by have := hr.lim; omega, hr.qu.2, hc⟩ hx hp t (Nat.zero_le _) ht
/-- undoing one: the rest of the chain -/
theorem CH_undo {A A' : hc_Mem} {P P' : Nat → Int32} {k : Nat} (h : CH A P (k + 1)) (h0 : hEqQ (hUs A (k + 1) 1) A') (hx : ∀ i, i < k → A' 43 i = A 43 i ∧ A' 44 i = A 44 i ∧ A' 45 i = A 45 i) (hp : ∀ i j, i < k → j < 68 → P' (68 * i + j) = P (68 * i + j)) : CH A' P' k := by
  have hB : ∀ s, s ≤ k → hEqQ (hUs A (k + 1) (s + 1)) (hUs A' k s) := by
    intro s
    induction s with
    | zero => intro _; exact h0
    | succ s ih =>
      intro hs
      have hh := (h (s + 1) (by omega)).1
      obtain ⟨x1, x2, x3⟩ := hx (k - 1 - s) (by omega)
      have e1 : k + 1 - 1 - (s + 1) = k - 1 - s := by omega
      show hEqQ (hUn (hUs A (k + 1) (s + 1)) (A 43 (k + 1 - 1 - (s + 1))) (A 44 (k + 1 - 1 - (s + 1))) (A 45 (k + 1 - 1 - (s + 1)))) (hUn (hUs A' k s) (A' 43 (k - 1 - s)) (A' 44 (k - 1 - s)) (A' 45 (k - 1 - s)))
      rw [x1, x2, x3]
      rw [e1] at hh ⊢
      exact hUn_c (ih (by omega)) hh
  intro t ht
  obtain ⟨a, E, D, q, hq, hr⟩ := h (t + 1) (by omega)
  obtain ⟨x1, x2, x3⟩ := hx (k - 1 - t) (by omega)
  have e1 : k + 1 - 1 - (t + 1) = k - 1 - t := by omega
  rw [e1] at a hr
  rw [x1, x2]
  refine ⟨aOk_c (hB t (by omega)) a, E, D, q, hq, ?_⟩
  exact (HR_cQ (hB (t + 1) (by omega)) hr).ag (fun j hj => hp _ j (by omega) hj)
/-- a QUARTER passed and taken back -/
theorem i32_back (x p g : Int32) : x + g + (p - (p + g)) = x := by
  grind
theorem i32_back2 (x : Int32) : x + 12 + (-12) = x := by
  grind
