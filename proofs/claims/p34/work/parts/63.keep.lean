/-! ACTS are kept by both -/
theorem hKp_43 {M : hc_Mem} {k : Nat} {d w b : Int32} : hKp M k d w b 43 = if k < 24 then upd (M 43) k d else upd (va_cpy (M 43) (M 43) 1 0 23) 23 d := by
  unfold hKp
  split
  · rfl
  · rfl
theorem hKp_44 {M : hc_Mem} {k : Nat} {d w b : Int32} : hKp M k d w b 44 = if k < 24 then upd (M 44) k w else upd (va_cpy (M 44) (M 44) 1 0 23) 23 w := by
  unfold hKp
  split
  · rfl
  · rfl
theorem hKp_45 {M : hc_Mem} {k : Nat} {d w b : Int32} : hKp M k d w b 45 = if k < 24 then upd (M 45) k b else upd (va_cpy (M 45) (M 45) 1 0 23) 23 b := by
  unfold hKp
  split
  · rfl
  · rfl
theorem rNo_56 {M : hc_Mem} {k : Nat} : rNo M k 56 = if k < 24 then va_cpy (M 54) (M 56) 0 (68 * k) 68 else va_cpy (M 54) (fun j => if j < 1564 then M 56 (j + 68) else M 56 j) 0 (68 * 23) 68 := by
  unfold rNo
  split
  · rfl
  · rfl
theorem CH_new {A N : hc_Mem} {P P' f : Nat → Int32} {k E D q : Nat} {d w b : Int32} (hk : k ≤ 24) (hr : HR E D q A f) (hq : q ≤ 999) (hc : CH A P k)
    (e43 : N 43 = if k < 24 then upd (A 43) k d else upd (va_cpy (A 43) (A 43) 1 0 23) 23 d) (e44 : N 44 = if k < 24 then upd (A 44) k w else upd (va_cpy (A 44) (A 44) 1 0 23) 23 w) (e45 : N 45 = if k < 24 then upd (A 45) k b else upd (va_cpy (A 45) (A 45) 1 0 23) 23 b)
    (eP : P' = if k < 24 then va_cpy f P 0 (68 * k) 68 else va_cpy f (fun j => if j < 1564 then P (j + 68) else P j) 0 (68 * 23) 68) (ha : aOk N d w) (hu : hEq q A (hUn N d w b)) : CH N P' (min 24 (k + 1)) := by
  by_cases hk24 : k < 24
  · rw [if_pos hk24] at e43 e44 e45 eP
    rw [Nat.min_eq_right (by omega)]
    refine CH_keep hc hr hq ?_ ?_ (fun i hi => ?_) (fun i j hi hj => ?_) (fun j hj => ?_)
    · rw [e43, e44, upd_eq, upd_eq]; exact ha
    · rw [e43, e44, e45, upd_eq, upd_eq, upd_eq]; exact hu
    · rw [e43, e44, e45, upd_ne (by omega), upd_ne (by omega), upd_ne (by omega)]; exact ⟨rfl, rfl, rfl⟩
    · rw [eP]; unfold va_cpy; rw [if_neg (by omega)]
    · rw [eP]; unfold va_cpy; rw [if_pos (by omega)]; congr 1; omega
  · have : k = 24 := by omega
    subst this
    rw [if_neg (by decide)] at e43 e44 e45 eP
    rw [Nat.min_eq_left (by decide)]
    obtain ⟨S, hS⟩ : ∃ S : hc_Mem, S = hFo A := ⟨_, rfl⟩
    have s43 : S 43 = va_cpy (A 43) (A 43) 1 0 23 := by rw [hS]; rfl
    have s44 : S 44 = va_cpy (A 44) (A 44) 1 0 23 := by rw [hS]; rfl
    have s45 : S 45 = va_cpy (A 45) (A 45) 1 0 23 := by rw [hS]; rfl
    have hcS : hEq q A S := hEq.of (fun c a b => by rw [hS]; unfold hFo; rw [hc_mf_n (by omega), hc_mf_n (by omega), hc_mf_n (by omega), hc_ms_n (by omega)])
    have hsh : CH S (fun j => if j < 1564 then P (j + 68) else P j) 23 := by
      refine CH_shift hc hr hcS (fun i hi => ?_) (fun i j hi hj => ?_)
      · rw [s43, s44, s45]
        unfold va_cpy
        rw [if_pos (by omega), if_pos (by omega), if_pos (by omega)]
        refine ⟨?_, ?_, ?_⟩ <;> (congr 1; omega)
      · show (if 68 * i + j < 1564 then P (68 * i + j + 68) else P (68 * i + j)) = _
        rw [if_pos (by omega)]
        congr 1
        omega
    refine CH_keep (k := 23) hsh (hr.c hcS) hq ?_ ?_ (fun i hi => ?_) (fun i j hi hj => ?_) (fun j hj => ?_)
    · rw [e43, e44, upd_eq, upd_eq]; exact ha
    · rw [e43, e44, e45, upd_eq, upd_eq, upd_eq]; exact hcS.sy.tr hu
    · rw [e43, e44, e45, s43, s44, s45, upd_ne (by omega), upd_ne (by omega), upd_ne (by omega)]; exact ⟨rfl, rfl, rfl⟩
    · rw [eP]; unfold va_cpy; rw [if_neg (by omega)]
    · rw [eP]; unfold va_cpy; rw [if_pos (by omega), show 0 + (68 * 23 + j - 68 * 23) = j by omega]
/-- what a QUARTER made is taken back -/
theorem hEq_passback {A X : hc_Mem} {f : Nat → Int32} {E D q : Nat} (hr : HR E D q A f) (hX : hEq (q + 1) (hPass A E q) X) : hEq q A (hBack X E q) := by
  have hl := hr.lim
  obtain ⟨h1, h2, h3, h4⟩ := hX
  have x19 : X 19 q = A 19 q := by rw [h4 q (by omega), hPass_19, if_neg (by omega)]
  have x93 : X 9 3 = A 9 3 + hPar A E (hAtt A E) (A 9 2) := by rw [h1 3 (by decide), hPass_93]
  refine ⟨fun j hj => ?_, fun c a b j hj => ?_, fun c a b j hj => ?_, fun i hi => ?_⟩
  · by_cases j2 : j = 2
    · subst j2; rw [hBack_92, hr.qu.2]
    by_cases j3 : j = 3
    · subst j3; rw [hBack_93, x19, hr.pa.2]
    rw [hBack_9 j2 j3, h1 j hj, hPass_9 j2 j3]
  · by_cases c15 : c = 15
    · subst c15
      rw [hBack_15, h2 15 (by decide) (by decide) j hj, h2 12 (by decide) (by decide) j hj, hPass_15, hPass_n (a := 12) (by decide) (by decide) (by decide), x19, x93, ← hr.pa.2]
      by_cases hjE : j < E
      · rw [if_pos hjE, if_pos hjE]
        by_cases hro : A 12 j = 0
        · rw [if_pos hro, if_pos hro]; exact i32_back _ _ _
        · rw [if_neg hro, if_neg hro]; exact i32_back2 _
      · rw [if_neg hjE, if_neg hjE]
    · rw [hBack_n (by omega) c15, h2 c a b j hj, hPass_n (by omega) c15 (by omega)]
  · rw [hBack_n (by omega) (by omega), h3 c a b j hj, hPass_n (by omega) (by omega) (by omega)]
  · rw [hBack_n (by decide) (by decide), h4 i (by omega), hPass_19, if_neg (by omega)]
/-- the acts' part, over the two sides -/
def IX (A B : hc_Mem) (E D q k : Nat) : Prop := q ≤ 999 ∧ k ≤ 24 ∧ A 42 3 = nI k ∧ B 48 16 = nI k ∧ HR E D q A (B 54) ∧ CH A (B 56) k
theorem IX.quarter {A B : hc_Mem} {E D q k : Nat} (h : IX A B E D q k) (hq : q + 1 ≤ 999) : IX (hKp (hPass A E q) k 0 0 0) (hc_mf (rNo B k) 54 (rPass (B 54) E D)) E D (q + 1) (min 24 (k + 1)) := by
  obtain ⟨h1, h2, h3, h4, h5, h6⟩ := h
  have hP : ∀ c, 9 ≤ c → c ≤ 19 → hKp (hPass A E q) k 0 0 0 c = hPass A E q c := fun c a b => hKp_n (by omega)
  have hA : ∀ c, 43 ≤ c → c ≤ 45 → hPass A E q c = A c := fun c a b => hPass_n (by omega) (by omega) (by omega)
  have hl := h5.lim
  refine ⟨hq, by omega, hKp_42 h2, ?_, ?_, ?_⟩
  · rw [hc_mf_n (by decide)]; exact rNo_16 h2
  · rw [hc_mf_s]
    exact (h5.pass (by omega)).c (hEq.of hP)
  · refine CH_new (d := 0) (w := 0) (b := 0) h2 h5 h1 h6 ?_ ?_ ?_ ?_ ?_ ?_
    · rw [hKp_43, hA 43 (by decide) (by decide)]
    · rw [hKp_44, hA 44 (by decide) (by decide)]
    · rw [hKp_45, hA 45 (by decide) (by decide)]
    · rw [hc_mf_n (by decide), rNo_56]
    · exact Or.inl ⟨rfl, q, by omega, by rw [hP 9 (by decide) (by decide), hPass_92]⟩
    · unfold hUn
      rw [if_neg (by decide), if_neg (by decide), if_neg (by decide), hP 9 (by decide) (by decide), hPass_92, hPass_9 (by decide) (by decide), h5.ea.2, nI_clamp (by omega), nI_clamp (by omega)]
      exact hEq_passback h5 (hEq.of hP)
theorem IX.quarters {A B : hc_Mem} {E D q k : Nat} (h : IX A B E D q k) : ∀ i, q + i ≤ 999 → IX (hQs A E q k i) (rQs B E D k i) E D (q + i) (min 24 (k + i)) := by
  intro i
  induction i with
  | zero => intro _; rw [Nat.add_zero, Nat.add_zero, Nat.min_eq_right h.2.1]; exact h
  | succ i ih =>
    intro hi
    have k1 := (ih (by omega)).quarter (by omega)
    have e : min 24 (min 24 (k + i) + 1) = min 24 (k + (i + 1)) := by omega
    rw [e] at k1
    exact k1
theorem Inv.ix {M : hc_Mem} (h : Inv M) {E D q : Nat} (hq : q ≤ 999) (hr : HR E D q M (M 54)) : ∃ k, IX M M E D q k := by
  obtain ⟨k, hk, h1, h2, h3⟩ := h.2.2.2.2.1
  rcases h3 with ⟨_, hn⟩ | ⟨_, hc⟩
  · exact absurd hn.1 hr.s1
  · exact ⟨k, hq, hk, h1, h2, hr, hc⟩
/-- the acts' part goes back into the whole relation -/
theorem Inv.ac {M M' : hc_Mem} (h : Inv M) {E D q k : Nat} (hx : IX M' M' E D q k) (e : ∀ c, c < 9 ∨ (20 ≤ c ∧ c ≤ 41) ∨ 46 ≤ c → c ≠ 48 → c ≠ 54 → c ≠ 56 → M' c = M c) (f : ∀ j, j ≠ 16 → M' 48 j = M 48 j) : Inv M' := by
  obtain ⟨h1, h2, h3, h4, h5, h6, h7⟩ := h
  obtain ⟨x1, x2, x3, x4, x5, x6⟩ := hx
  refine ⟨h1.c (e 2 (by omega) (by decide) (by decide) (by decide)) (e 3 (by omega) (by decide) (by decide) (by decide)) (e 4 (by omega) (by decide) (by decide) (by decide)) (e 49 (by omega) (by decide) (by decide) (by decide)) (e 50 (by omega) (by decide) (by decide) (by decide)) (e 51 (by omega) (by decide) (by decide) (by decide)), ?_, ?_, ?_, ⟨k, x2, x3, x4, Or.inr ⟨⟨E, D, q, x1, x5⟩, x6⟩⟩, ?_, ?_⟩
  · rw [e 0 (by omega) (by decide) (by decide) (by decide), f 4 (by decide)]; exact h2
  · exact h3.c (by rw [e 5 (by omega) (by decide) (by decide) (by decide)]) (e 6 (by omega) (by decide) (by decide) (by decide)) (f 6 (by decide)) (e 53 (by omega) (by decide) (by decide) (by decide))
  · rw [e 0 (by omega) (by decide) (by decide) (by decide), f 7 (by decide)]; exact h4
  · exact h6.c (fun c a b => e c (by omega) (by omega) (by omega) (by omega)) (e 57 (by omega) (by decide) (by decide) (by decide)) (e 58 (by omega) (by decide) (by decide) (by decide))
  · exact h7.c (by rw [e 46 (by omega) (by decide) (by decide) (by decide)]) (e 47 (by omega) (by decide) (by decide) (by decide)) (f 22 (by decide)) (e 61 (by omega) (by decide) (by decide) (by decide))
/-! the house after an act -/
theorem HR.room {E D q e w : Nat} {M : hc_Mem} {f : Nat → Int32} (h : HR E D q M f) (he : e < E) (hw : w ≤ 3) : HR E D q (hc_ms M 12 e (nI w)) (upd f (6 + 7 * e + 2) (nI w)) := by
  have hl := h.lim
  have h9 : hc_ms M 12 e (nI w) 9 = M 9 := hc_ms_n (by decide)
  have h19 : hc_ms M 12 e (nI w) 19 = M 19 := hc_ms_n (by decide)
  refine ⟨h.lim, ?_, ?_, ?_, ?_, ?_, ?_, ?_, fun e' he' => ?_, fun x hx => ?_, ?_⟩
  · rw [h9, upd_ne (by omega)]; exact h.st
  · rw [h9, upd_ne (by omega)]; exact h.wo
  · rw [h9, upd_ne (by omega)]; exact h.qu
  · rw [h9, h19, upd_ne (by omega)]; exact h.pa
  · rw [h9, upd_ne (by omega)]; exact h.ea
  · rw [h9, upd_ne (by omega)]; exact h.do
  · rw [h9]; exact h.hu
  · have k := h.es e' he'
    unfold HRe at k ⊢
    rw [h9, hc_ms_n (show 10 ≠ 12 by decide), hc_ms_n (show 11 ≠ 12 by decide), hc_ms_n (show 13 ≠ 12 by decide), hc_ms_n (show 14 ≠ 12 by decide), hc_ms_n (show 15 ≠ 12 by decide), hc_ms_s, upd_ne (j := 6 + 7 * e') (by omega), upd_ne (j := 6 + 7 * e' + 1) (by omega), upd_ne (j := 6 + 7 * e' + 3) (by omega), upd_ne (j := 6 + 7 * e' + 4) (by omega), upd_ne (j := 6 + 7 * e' + 5) (by omega), upd_ne (j := 6 + 7 * e' + 6) (by omega)]
    by_cases hee : e' = e
    · subst hee
      rw [upd_eq, upd_eq]
      obtain ⟨a1, a2, a3, a4, a5, a6, a7, a8, a9, a10, a11⟩ := k
      exact ⟨a1, a2, rfl, a4, a5, a6, a7, a8, a9, ⟨w, hw, rfl⟩, a11⟩
    · rw [upd_ne (by omega), upd_ne hee]
      exact k
  · have k := h.ds x hx
    unfold HRd at k ⊢
    rw [h19, hc_ms_n (show 16 ≠ 12 by decide), hc_ms_n (show 17 ≠ 12 by decide), hc_ms_n (show 18 ≠ 12 by decide), upd_ne (by omega), upd_ne (by omega), upd_ne (by omega), upd_ne (by omega), upd_ne (by omega)]
    exact k
  · unfold HRp; rw [h19]; exact h.gp
theorem HR.wool {E D q w : Nat} {M : hc_Mem} {f : Nat → Int32} (h : HR E D q M f) (hw : w ≤ 12) : HR E D q (hc_ms M 9 1 (nI w)) (upd f 1 (nI w)) := by
  have hl := h.lim
  have h9 : ∀ j, j ≠ 1 → hc_ms M 9 1 (nI w) 9 j = M 9 j := fun j hj => hc_ms_j hj
  have hc : ∀ c, c ≠ 9 → hc_ms M 9 1 (nI w) c = M c := fun c hc => hc_ms_n hc
  refine ⟨h.lim, ?_, ?_, ?_, ?_, ?_, ?_, ?_, fun e' he' => ?_, fun x hx => ?_, ?_⟩
  · rw [h9 _ (by decide), upd_ne (by omega)]; exact h.st
  · rw [hc_ms_v, upd_eq]; exact ⟨rfl, w, hw, rfl⟩
  · rw [h9 _ (by decide), upd_ne (by omega)]; exact h.qu
  · rw [h9 _ (by decide), hc 19 (by decide), upd_ne (by omega)]; exact h.pa
  · rw [h9 _ (by decide), upd_ne (by omega)]; exact h.ea
  · rw [h9 _ (by decide), upd_ne (by omega)]; exact h.do
  · rw [h9 _ (by decide)]; exact h.hu
  · have k := h.es e' he'
    unfold HRe at k ⊢
    rw [h9 _ (by decide), hc 10 (by decide), hc 11 (by decide), hc 12 (by decide), hc 13 (by decide), hc 14 (by decide), hc 15 (by decide), upd_ne (j := 6 + 7 * e') (by omega), upd_ne (j := 6 + 7 * e' + 1) (by omega), upd_ne (j := 6 + 7 * e' + 2) (by omega), upd_ne (j := 6 + 7 * e' + 3) (by omega), upd_ne (j := 6 + 7 * e' + 4) (by omega), upd_ne (j := 6 + 7 * e' + 5) (by omega), upd_ne (j := 6 + 7 * e' + 6) (by omega)]
    exact k
  · have k := h.ds x hx
    unfold HRd at k ⊢
    rw [hc 16 (by decide), hc 17 (by decide), hc 18 (by decide), hc 19 (by decide), upd_ne (by omega), upd_ne (by omega), upd_ne (by omega), upd_ne (by omega), upd_ne (by omega)]
    exact k
  · unfold HRp; rw [hc 19 (by decide)]; exact h.gp
theorem HR.hush {E D q e : Nat} {v s' : Int32} {M : hc_Mem} {f : Nat → Int32} (h : HR E D q M f) (he : e < E) (hs : ∃ k, k < 2 ^ E ∧ s' = nI k) (hv : v = hb (hIn s' (nI e))) (ho : ∀ i, i < E → i ≠ e → (hIn s' (nI i) ↔ hIn (M 9 4) (nI i))) : HR E D q (hc_ms M 9 4 s') (upd f (6 + 7 * e + 5) v) := by
  have hl := h.lim
  have h9 : ∀ j, j ≠ 4 → hc_ms M 9 4 s' 9 j = M 9 j := fun j hj => hc_ms_j hj
  have hc : ∀ c, c ≠ 9 → hc_ms M 9 4 s' c = M c := fun c hc => hc_ms_n hc
  refine ⟨h.lim, ?_, ?_, ?_, ?_, ?_, ?_, ?_, fun e' he' => ?_, fun x hx => ?_, ?_⟩
  · rw [h9 _ (by decide), upd_ne (by omega)]; exact h.st
  · rw [h9 _ (by decide), upd_ne (by omega)]; exact h.wo
  · rw [h9 _ (by decide), upd_ne (by omega)]; exact h.qu
  · rw [h9 _ (by decide), hc 19 (by decide), upd_ne (by omega)]; exact h.pa
  · rw [h9 _ (by decide), upd_ne (by omega)]; exact h.ea
  · rw [h9 _ (by decide), upd_ne (by omega)]; exact h.do
  · rw [hc_ms_v]; exact hs
  · have k := h.es e' he'
    unfold HRe at k ⊢
    rw [hc_ms_v, hc 10 (by decide), hc 11 (by decide), hc 12 (by decide), hc 13 (by decide), hc 14 (by decide), hc 15 (by decide), upd_ne (j := 6 + 7 * e') (by omega), upd_ne (j := 6 + 7 * e' + 1) (by omega), upd_ne (j := 6 + 7 * e' + 2) (by omega), upd_ne (j := 6 + 7 * e' + 3) (by omega), upd_ne (j := 6 + 7 * e' + 4) (by omega), upd_ne (j := 6 + 7 * e' + 6) (by omega)]
    obtain ⟨a1, a2, a3, a4, a5, a6, a7⟩ := k
    by_cases hee : e' = e
    · subst hee
      rw [upd_eq]
      exact ⟨a1, a2, a3, a4, a5, hv, a7⟩
    · rw [upd_ne (by omega)]
      refine ⟨a1, a2, a3, a4, a5, ?_, a7⟩
      rw [a6]
      have := ho e' he' hee
      by_cases c : hIn (M 9 4) (nI e')
      · rw [hb_t c, hb_t (this.mpr c)]
      · rw [hb_f c, hb_f (fun w => c (this.mp w))]
  · have k := h.ds x hx
    unfold HRd at k ⊢
    rw [hc 16 (by decide), hc 17 (by decide), hc 18 (by decide), hc 19 (by decide), upd_ne (by omega), upd_ne (by omega), upd_ne (by omega), upd_ne (by omega), upd_ne (by omega)]
    exact k
  · unfold HRp; rw [hc 19 (by decide)]; exact h.gp
