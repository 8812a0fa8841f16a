/-! FORETOLD: the fewest to hush; heed; older; who; odds -/
theorem rHF_oth {f g : Nat → Int32} {s : Int32} {j : Nat} : ∀ E, (∀ e, e < E → j ≠ 6 + 7 * e + 5) → rHF f g s E j = f j := by
  intro E
  induction E with
  | zero => intro _; rfl
  | succ E ih =>
    intro h
    show upd (rHF f g s E) (6 + 7 * E + 5) _ j = f j
    rw [upd_ne (h E (by omega)), ih (fun e he => h e (by omega))]
theorem rHF_at {f g : Nat → Int32} {s : Int32} {e : Nat} : ∀ E, e < E → rHF f g s E (6 + 7 * e + 5) = if hIn s (nI e) then 1 else g (6 + 7 * e + 5) := by
  intro E
  induction E with
  | zero => intro h; omega
  | succ E ih =>
    intro h
    show upd (rHF f g s E) (6 + 7 * E + 5) _ (6 + 7 * e + 5) = _
    by_cases c : e = E
    · subst c; rw [upd_eq]
    · rw [upd_ne (by omega)]; exact ih (by omega)
theorem rHk_iff {g : Nat → Int32} {s b : Int32} : ∀ E, (¬ rHk g s b E = 0 ↔ ¬ b = 0 ∧ ∀ e, e < E → (¬ hIn s (nI e) ∨ g (6 + 7 * e + 5) = 0)) := by
  intro E
  induction E with
  | zero => exact ⟨fun w => ⟨w, fun e he => absurd he (by omega)⟩, fun w => w.1⟩
  | succ E ih =>
    show ¬ hb (¬ rHk g s b E = 0 ∧ (¬ hIn s (nI E) ∨ g (6 + 7 * E + 5) = 0)) = 0 ↔ _
    rw [hb_nz, ih]
    constructor
    · rintro ⟨⟨a, c⟩, d⟩
      refine ⟨a, fun e he => ?_⟩
      rcases Nat.lt_or_ge e E with q | q
      · exact c e q
      · rw [show e = E by omega]; exact d
    · rintro ⟨a, c⟩
      exact ⟨⟨a, fun e he => c e (by omega)⟩, c E (by omega)⟩
theorem and0_iff {x y : Int32} {E : Nat} (hx : ∃ k, k < 2 ^ E ∧ x = nI k) (hE : E ≤ 6) : x &&& y = 0 ↔ ∀ e, e < E → ¬ (hIn x (nI e) ∧ hIn y (nI e)) := by
  constructor
  · intro w e he q
    have : hIn (x &&& y) (nI e) := (hIn_and (by omega)).mpr q
    rw [w] at this
    exact hIn_0 (by omega) this
  · intro w
    refine set_ext (fun i hi => ?_)
    rw [hIn_and hi]
    refine ⟨fun q => ?_, fun q => absurd q (hIn_0 hi)⟩
    rcases Nat.lt_or_ge i E with k | k
    · exact absurd q (w i k)
    · obtain ⟨n, hn, e⟩ := hx
      rw [e] at q
      exact absurd q.1 (hIn_nI_ge hn hE k hi)
theorem hush_mt {E D q : Nat} {M : hc_Mem} {f : Nat → Int32} (h : HR E D q M f) (s : Int32) : hMt M (rHF f f s E) E (hAtt M E &&& (s ^^^ -1)) := by
  have hl := h.lim
  have m := h.mt
  refine ⟨by rw [rHF_oth E (fun e _ => by omega)]; exact m.1, fun e he => ?_⟩
  obtain ⟨a1, a2, a3, a4, a5, a6⟩ := m.2 e he
  rw [rHF_oth (j := 6 + 7 * e) E (fun i _ => by omega), rHF_oth (j := 6 + 7 * e + 1) E (fun i _ => by omega), rHF_oth (j := 6 + 7 * e + 2) E (fun i _ => by omega), rHF_oth (j := 6 + 7 * e + 3) E (fun i _ => by omega), rHF_oth (j := 6 + 7 * e + 4) E (fun i _ => by omega), rHF_at E he]
  refine ⟨a1, a2, a3, a4, a5, ?_⟩
  rw [hIn_and (by omega), hIn_not (by omega), ← a6]
  by_cases c : hIn s (nI e)
  · rw [if_pos c]
    exact ⟨fun w => absurd w.2 (by decide), fun w => absurd c w.2⟩
  · rw [if_neg c]
    exact ⟨fun w => ⟨w, c⟩, fun w => w.1⟩
theorem tohush_eq {E D q N : Nat} {v : Int32} {M : hc_Mem} {f : Nat → Int32} (h : HR E D q M f) (hq : q ≤ 999) (hN : N ≤ 99) : ∀ k, k ≤ 2 ^ E → hFwH M E N v k = rHb f E D v N k ∧ (hFwH M E N v k = -1000000 ∨ ∃ j, j < k ∧ hFwH M E N v k = nI j) := by
  have hl := h.lim
  have h64 : 2 ^ E ≤ 64 := Nat.pow_le_pow_right (by decide) hl.1
  intro k
  induction k with
  | zero => intro _; exact ⟨rfl, Or.inl rfl⟩
  | succ k ih =>
    intro hk
    obtain ⟨i1, i2⟩ := ih (by omega)
    have hsm : rIter E D N (rHF f f (nI k) E) 3 = hAfter M E (hAtt M E &&& (nI k ^^^ -1)) N := by
      rw [rIter_3 hl.1, rSm_eq (hush_mt h (nI k)) hl.1 (by rw [rHF_oth E (fun e _ => by omega), h.qu.1, h.qu.2]) (by rw [rHF_oth E (fun e _ => by omega), h.pa.1]), after_eq h.fl h.qu.2 hq hN]
    have hand : nI k &&& M 9 4 = 0 ↔ ∀ e, e < E → (¬ hIn (nI k) (nI e) ∨ f (6 + 7 * e + 5) = 0) := by
      rw [and0_iff ⟨k, by omega, rfl⟩ hl.1]
      constructor
      · intro w e he
        have := w e he
        rw [(h.es e he).2.2.2.2.2.1, hb_z]
        by_cases c : hIn (nI k) (nI e)
        · exact Or.inr (fun q => this ⟨c, q⟩)
        · exact Or.inl c
      · intro w e he q
        rcases w e he with c | c
        · exact c q.1
        · rw [(h.es e he).2.2.2.2.2.1, hb_z] at c
          exact c q.2
    have hfew : hFew (nI k) (rHb f E D v N k) ↔ (rHb f E D v N k = -1000000 ∨ ¬ rOnes (rHb f E D v N k) 8 ≤ rOnes (nI k) 8) := by
      rw [rOnes_bc k (by omega)]
      rw [i1] at i2
      rcases i2 with w | ⟨j, hj, w⟩
      · exact ⟨fun _ => Or.inl w, fun _ => Or.inl w⟩
      · rw [w, rOnes_bc j (by omega)]
    have e1 : hFwH M E N v (k + 1) = if (nI k &&& M 9 4) = 0 ∧ hFew (nI k) (hFwH M E N v k) ∧ ¬ v < hAfter M E (hAtt M E &&& (nI k ^^^ -1)) N / 12 then nI k else hFwH M E N v k := rfl
    have e2 : rHb f E D v N (k + 1) = if ¬ rHk f (nI k) (hb (rHb f E D v N k = -1000000 ∨ ¬ rOnes (rHb f E D v N k) 8 ≤ rOnes (nI k) 8)) E = 0 ∧ ¬ v < rIter E D N (rHF f f (nI k) E) 3 / 12 then nI k else rHb f E D v N k := rfl
    rw [e1, e2, i1, hsm]
    have hcond : ((nI k &&& M 9 4) = 0 ∧ hFew (nI k) (rHb f E D v N k) ∧ ¬ v < hAfter M E (hAtt M E &&& (nI k ^^^ -1)) N / 12) ↔ (¬ rHk f (nI k) (hb (rHb f E D v N k = -1000000 ∨ ¬ rOnes (rHb f E D v N k) 8 ≤ rOnes (nI k) 8)) E = 0 ∧ ¬ v < hAfter M E (hAtt M E &&& (nI k ^^^ -1)) N / 12) := by
      rw [rHk_iff, hb_nz, hand]
      exact ⟨fun w => ⟨⟨hfew.mp w.2.1, w.1⟩, w.2.2⟩, fun w => ⟨w.1.2, hfew.mpr w.1.1, w.2⟩⟩
    rw [i1] at i2
    by_cases c : (nI k &&& M 9 4) = 0 ∧ hFew (nI k) (rHb f E D v N k) ∧ ¬ v < hAfter M E (hAtt M E &&& (nI k ^^^ -1)) N / 12
    · rw [if_pos c, if_pos (hcond.mp c)]
      exact ⟨rfl, Or.inr ⟨k, by omega, rfl⟩⟩
    · rw [if_neg c, if_neg (fun w => c (hcond.mpr w))]
      refine ⟨rfl, ?_⟩
      rcases i2 with w | ⟨j, hj, w⟩
      · exact Or.inl w
      · exact Or.inr ⟨j, by omega, w⟩
theorem mow_eq {b w : Int32} (hw : ¬ w < 0 ∧ ¬ 1 < w) (hb : b = -1000000 ∨ ∃ j, j < 64 ∧ b = nI j) : hMow b w = if b = -1000000 ∨ w = 1 then b else rOnes b 8 := by
  unfold hMow
  obtain ⟨k, hk, rfl⟩ : ∃ j : Nat, j ≤ 1 ∧ w = nI j := nI_of2 (M := 1) rfl hw.1 (Int32.not_lt.mp hw.2)
  rcases hb with e | ⟨j, hj, e⟩
  · rw [if_pos e, if_pos (Or.inl e), e]
  · have hn : ¬ b = -1000000 := by rw [e]; exact nI_nn (by omega)
    rw [if_neg hn]
    have : k = 0 ∨ k = 1 := by omega
    rcases this with rfl | rfl
    · rw [if_pos (show nI 0 = 0 from rfl), if_neg (fun q => q.elim hn (fun c => absurd c (by decide))), e, rOnes_bc j hj]
    · rw [if_neg (by decide), if_pos (show b = -1000000 ∨ nI 1 = 1 from Or.inr rfl)]
theorem so_iff {E D n : Nat} {M M' : hc_Mem} {f it : Nat → Int32} {s : Int32} (h : hMt M' f E s) (hE : E ≤ 6) (h2 : f 2 = M 9 2) (h9 : M' 9 2 = M 9 2) (base : Nat) (h4 : ∀ t, t < n → M' 4 (base + t) = it t) : hSo M' E s base n ↔ rSo f E D it n := by
  show (∀ k, k < n → hPar M' E s (M' 9 2 + nI k) = M' 4 (base + k)) ↔ (∀ t, t < n → rGo (rIter E D t f) E = it t)
  constructor
  · intro w t ht
    rw [rIter_go hE, rGq_eq h hE, h2, ← h9, w t ht, h4 t ht]
  · intro w k hk
    have := w k hk
    rw [rIter_go hE, rGq_eq h hE, h2] at this
    rw [h9, this, h4 k hk]
theorem heeds_eq {E D q e n base : Nat} {M : hc_Mem} {f it : Nat → Int32} (h : HR E D q M f) (he : e < E) (h4 : ∀ t, t < n → M 4 (base + t) = it t) : ∀ k, k ≤ 12 → hHds M E e base n k = rHd f E D it n e k := by
  have hl := h.lim
  intro k
  induction k with
  | zero => intro _; rfl
  | succ k ih =>
    intro hk
    have hm : hMt (hc_ms M 11 e (nI (k + 1))) (upd f (6 + 7 * e + 1) (nI (k + 1))) E (hAtt M E) := by
      have m := h.mt
      refine ⟨by rw [upd_ne (by omega), hc_ms_n (by decide)]; exact m.1, fun i hi => ?_⟩
      obtain ⟨a1, a2, a3, a4, a5, a6⟩ := m.2 i hi
      rw [upd_ne (j := 6 + 7 * i) (by omega), upd_ne (j := 6 + 7 * i + 2) (by omega), upd_ne (j := 6 + 7 * i + 3) (by omega), upd_ne (j := 6 + 7 * i + 4) (by omega), upd_ne (j := 6 + 7 * i + 5) (by omega), hc_ms_n (show 10 ≠ 11 by decide), hc_ms_n (show 13 ≠ 11 by decide), hc_ms_n (show 14 ≠ 11 by decide), hc_ms_s]
      refine ⟨a1, a2, ?_, a4, a5, a6⟩
      by_cases c : i = e
      · subst c; rw [upd_eq, upd_eq]
      · rw [upd_ne (by omega), upd_ne c]; exact a3
    have hiff := so_iff (D := D) (M := M) (n := n) (it := it) hm hl.1 (by rw [upd_ne (by omega), h.qu.1, h.qu.2]) (by rw [hc_ms_n (by decide)]) base (fun t ht => by rw [hc_ms_n (by decide)]; exact h4 t ht)
    unfold hHds rHd
    rw [ih (by omega), nI_pred]
    by_cases c : hSo (hc_ms M 11 e (nI (k + 1))) E (hAtt M E) base n
    · rw [if_pos c, if_pos (hiff.mp c)]
    · rw [if_neg c, if_neg (fun w => c (hiff.mpr w)), or0]
theorem lived_eq {E D q e N : Nat} {M : hc_Mem} {f : Nat → Int32} (h : HR E D q M f) (hq : q ≤ 999) (hN : N ≤ 99) (he : e < E) : hLvA M E e N = rIter E D N f (6 + 7 * e + 6) := by
  have hl := h.lim
  obtain ⟨a1, a2, a3, a4, a5, a6, a7, _⟩ := h.es e he
  have key : ∀ t, rIter E D t f (6 + 7 * e + 6) = M 15 e + (if M 12 e = 0 then hSm M E (hAtt M E) t - M 9 3 else 12 * nI t) := by
    intro t
    induction t with
    | zero =>
      show f (6 + 7 * e + 6) = _
      rw [a7]
      split
      · show M 15 e = M 15 e + (M 9 3 - M 9 3)
        generalize M 15 e = x
        generalize M 9 3 = y
        grind
      · rw [show nI 0 = 0 from rfl, Int32.mul_zero, Int32.add_zero]
    | succ t ih =>
      show rPass (rIter E D t f) E D (6 + 7 * e + 6) = _
      rw [rPass_l he hl.1, ih, rIter_st hl.1 (rSt_e (i := 2) (by omega) (by decide)), a3, rIter_go hl.1, rGq_eq h.mt hl.1]
      by_cases c : M 12 e = 0
      · rw [if_pos c, if_pos c, if_pos c, h.qu.1]
        show _ = M 15 e + (hSm M E (hAtt M E) t + hPar M E (hAtt M E) (M 9 2 + nI t) - M 9 3)
        rw [h.qu.2]
        generalize M 15 e = x
        generalize M 9 3 = y
        generalize hSm M E (hAtt M E) t = z
        generalize hPar M E (hAtt M E) (nI q + nI t) = p
        grind
      · rw [if_neg c, if_neg c, if_neg c, ← nI_1 t]
        generalize M 15 e = x
        generalize nI t = y
        grind
  rw [key N]
  unfold hLvA
  rw [after_eq h.fl h.qu.2 hq hN]
section
variable {l : Launch} {G : hc_Geo} {M : hc_Mem}
theorem st_toHush (hG : hc_ok G) (hI : Inv M) (v1 v2 v3 : Int32) : hStp l G yX7_toHush cX7_toHush 4 yX8_toHush cX8_toHush 8 [.int v1, .int v2, .int v3] M Eq := by
  rcases hI.hs with hn | ⟨E, D, q, hq, hr⟩
  · exact hStp.id hI (c_X7_toHush_n hG hn.n.1) (c_X8_toHush_n hG hn.n.2) rfl (by decide) (by decide)
  have hl := hr.lim
  by_cases h0 : (¬ v1 < 0 ∧ ¬ 999 < v1) ∧ (¬ v2 < 0 ∧ ¬ 99 < v2) ∧ (¬ v3 < 0 ∧ ¬ 1 < v3)
  · obtain ⟨n, hn, rfl⟩ : ∃ j : Nat, j ≤ 99 ∧ v2 = nI j := nI_of2 (M := 99) rfl h0.2.1.1 (Int32.not_lt.mp h0.2.1.2)
    refine hStp.qu hI (c_X7_toHush_o hG hr.s1 hr.ea.2 hl.1 h0 hn) (c_X8_toHush_o hG hr.st.1 hr.ea.1 hl.1 hr.do.1 hl.2.1 h0.1 hn h0.2.2) ?_ (by decide) (by decide)
    obtain ⟨e, b⟩ := tohush_eq (v := v1) hr hq hn (2 ^ E) (Nat.le_refl _)
    have h64 : 2 ^ E ≤ 64 := Nat.pow_le_pow_right (by decide) hl.1
    rw [e] at b
    rw [e, mow_eq h0.2.2]
    rcases b with b | ⟨j, hj, b⟩
    · exact Or.inl b
    · exact Or.inr ⟨j, by omega, b⟩
  · exact hStp.id hI (c_X7_toHush_b hG hr.s1 h0) (c_X8_toHush_b hG hr.st.1 h0) rfl (by decide) (by decide)
theorem hStp.mono {y1 : MethodName} {c1 : ByteArray} {n1 : Nat} {y2 : MethodName} {c2 : ByteArray} {n2 : Nat} {av : List Value} {R R' : Int32 → Int32 → Prop} (h : hStp l G y1 c1 n1 y2 c2 n2 av M R) (k : ∀ z z', R z z' → R' z z') : hStp l G y1 c1 n1 y2 c2 n2 av M R' := by
  obtain ⟨d1, P1, h1, h2, h3⟩ := h
  refine ⟨d1, P1, h1, h2, fun z M1 w => ?_⟩
  obtain ⟨d2, P2, h4, h5, h6⟩ := h3 z M1 w
  exact ⟨d2, P2, h4, h5, fun z' M2 w2 => ⟨k _ _ (h6 z' M2 w2).1, (h6 z' M2 w2).2⟩⟩
/-- toCall: its answers aren't compared here -/
theorem st_toCall (hG : hc_ok G) (hI : Inv M) (v1 v2 v3 : Int32) : hStp l G yX7_toCall cX7_toCall 4 yX8_toCall cX8_toCall 7 [.int v1, .int v2, .int v3] M (fun _ _ => True) := by
  rcases hI.hs with hn | ⟨E, D, q, hq, hr⟩
  · exact (hStp.id hI (c_X7_toCall_n hG hn.n.1) (c_X8_toCall_n hG hn.n.2) rfl (by decide) (by decide)).mono (fun _ _ _ => trivial)
  have hl := hr.lim
  by_cases h0 : (¬ v1 < 0 ∧ ¬ 999 < v1) ∧ (¬ v2 < 0 ∧ ¬ 99 < v2) ∧ (¬ v3 < 0 ∧ ¬ 1 < v3)
  · obtain ⟨n, hn, rfl⟩ : ∃ j : Nat, j ≤ 99 ∧ v2 = nI j := nI_of2 (M := 99) rfl h0.2.1.1 (Int32.not_lt.mp h0.2.1.2)
    exact hStp.of (c_X7_toCall_o hG hr.s1 hr.ea.2 hl.1 h0 hn) (c_X8_toCall_w hG hr.st.1 hr.ea.1 hl.1 hr.do.1 hl.2.1 h0.1 hn h0.2.2) (fun z M2 w => ⟨trivial, hI.q w⟩) (by decide) (by decide)
  · exact (hStp.id hI (c_X7_toCall_b hG hr.s1 h0) (c_X8_toCall_b hG hr.st.1 h0) rfl (by decide) (by decide)).mono (fun _ _ _ => trivial)
theorem st_older (hG : hc_ok G) (hI : Inv M) (v1 v2 v3 : Int32) : hStp l G yX7_older cX7_older 4 yX8_older cX8_older 4 [.int v1, .int v2, .int v3] M Eq := by
  rcases hI.ear v1 with ⟨a, E, b, c, d⟩ | ⟨E, D, q, e0, hq, hr, he, rfl⟩
  · exact hStp.id hI (c_X7_older_b hG a) (c_X8_older_b hG c b d) rfl (by decide) (by decide)
  have hl := hr.lim
  by_cases h0 : (¬ v2 < 0 ∧ ¬ nI E ≤ v2) ∧ ¬ nI e0 = v2 ∧ (¬ v3 < 0 ∧ ¬ 99 < v3)
  · obtain ⟨e1, he1, rfl⟩ : ∃ i : Nat, i < E ∧ v2 = nI i := hx_ix E rfl h0.1.1 h0.1.2 (by omega)
    obtain ⟨n, hn, rfl⟩ : ∃ j : Nat, j ≤ 99 ∧ v3 = nI j := nI_of2 (M := 99) rfl h0.2.2.1 (Int32.not_lt.mp h0.2.2.2)
    exact hStp.qu hI (c_X7_older_o hG hr.ea.2 hl.1 he he1 h0.2.1 h0.2.2 hn) (c_X8_older_o hG hr.ea.1 hl.1 he he1 (fun w => h0.2.1 (by rw [w])) hn hr.do.1 hl.2.1) (by rw [lived_eq hr hq hn he, lived_eq hr hq hn he1]) (by decide) (by decide)
  · exact hStp.id hI (c_X7_older_b2 hG hr.ea.2 hl.1 he (by rw [hr.ea.2]; exact h0)) (c_X8_older_b2 hG hr.ea.1 hl.1 he (by rw [hr.ea.1]; exact h0)) rfl (by decide) (by decide)
theorem n16 {v : Int32} (h : ¬ v < 1 ∧ ¬ 16 < v) : ∃ n : Nat, 1 ≤ n ∧ n ≤ 16 ∧ v = nI n := by
  obtain ⟨k, hk, e, k1⟩ := rg_nI (n := 16) h (Or.inr rfl) rfl
  exact ⟨k, k1 rfl, hk, e⟩
set_option maxRecDepth 100000 in
theorem st_heed (hG : hc_ok G) (hI : Inv M) (v1 v2 v3 v4 : Int32) : hStp l G yX7_heed cX7_heed 6 yX8_heed cX8_heed 7 [.int v1, .int v2, .int v3, .int v4] M Eq := by
  rcases hI.ear v1 with ⟨a, E, b, c, d⟩ | ⟨E, D, q, e0, hq, hr, he, rfl⟩
  · exact hStp.id hI (c_X7_heed_b hG a) (c_X8_heed_b hG c b d) rfl (by decide) (by decide)
  have hl := hr.lim
  by_cases h0 : (¬ v2 < 0 ∧ ¬ 8 ≤ v2) ∧ (¬ v4 < 1 ∧ ¬ 16 < v4)
  · obtain ⟨j, hj, rfl⟩ : ∃ j : Nat, j < 8 ∧ v2 = nI j := hx_ix 8 rfl h0.1.1 h0.1.2 (by decide)
    by_cases h1 : M 2 j = -1
    · exact hStp.fd hI (c_X7_heed_m hG hr.ea.2 hl.1 he hj h0.2 h1) (c_X8_heed_n (M := hc_ms M 0 8 1) hG hr.ea.1 hl.1 he hj h0.2 ((hI.1.mi hj).mp h1)) rfl (by decide) (by decide)
    · obtain ⟨el, m, hm, e3, e50⟩ := hI.1.pr hj h1
      have h49 : ¬ M 49 j = -1000000 := fun w => h1 ((hI.1.mi hj).mpr w)
      by_cases h2 : rPt (nI m) v3 v4
      · obtain ⟨n, n1, n16, rfl⟩ := n16 h0.2
        obtain ⟨i, n', rfl, en, hin⟩ := rPt_nat hm h2
        have : n = n' := (nI_eq (by omega) (by omega)).mp en
        subst this
        refine hStp.of (c_X7_heed_o hG hr.ea.2 hl.1 he hj (by omega) h0.2 h1 (by rw [e3]; exact h2)) (c_X8_heed_o (M := hc_ms M 0 8 0) hG hr.ea.1 hl.1 he hr.do.1 hl.2.1 hj (by omega) n1 n16 h49 (by show rPt (M 50 j) (nI i) (nI n); rw [e50]; exact h2)) ?_ (by decide) (by decide)
        rintro z' M2 ⟨rfl, Y, hY, rfl⟩
        refine ⟨?_, hI.stat hY⟩
        exact heeds_eq hr he (fun t ht => hI.1.2 _ (by omega)) 12 (Nat.le_refl _)
      · exact hStp.fd hI (c_X7_heed_p hG hr.ea.2 hl.1 he hj h0.2 h1 (by rw [e3]; exact h2)) (c_X8_heed_p (M := hc_ms M 0 8 2) hG hr.ea.1 hl.1 he hj h0.2 h49 (by show ¬ rPt (M 50 j) v3 v4; rw [e50]; exact h2)) rfl (by decide) (by decide)
  · exact hStp.id hI (c_X7_heed_b2 hG hr.ea.2 hl.1 he h0) (c_X8_heed_b2 hG hr.ea.1 hl.1 he h0) rfl (by decide) (by decide)
set_option maxRecDepth 100000 in
theorem st_who_R (hG : hc_ok G) (hI : Inv M) (R : Int32 → Int32 → Prop) (hid : ∀ z, R z z)
    (h00 : ∀ E D q j i n : Nat, q ≤ 999 → HR E D q M (M 54) → j < 8 → i + n ≤ 40 → n ≤ 16 → R (hc_bL (hSets M E (40 * j + i) n (2 ^ E))) (rWc (M 54) E D (fun t => M 51 (40 * j + i + t)) n (2 ^ E)))
    (h11 : ∀ E D q j i n : Nat, q ≤ 999 → HR E D q M (M 54) → j < 8 → i + n ≤ 40 → n ≤ 16 → R (if lg_cmp (hSets M E (40 * j + i) n (2 ^ E)) 0 = 0 then -1000000 else hc_nzL (hSets M E (40 * j + i) n (2 ^ E))) (rWl (M 54) E D (fun t => M 51 (40 * j + i + t)) n (2 ^ E))) (v1 v2 v3 v4 : Int32) : hStp l G yX7_who cX7_who 8 yX8_who cX8_who 9 [.int v1, .int v2, .int v3, .int v4] M R := by
  have hm : ∀ z z' : Int32, z = z' → R z z' := fun z z' e => e ▸ hid z
  rcases hI.hs with hn | ⟨E, D, q, hq, hr⟩
  · exact (hStp.id hI (c_X7_who_n hG hn.n.1) (c_X8_who_n hG hn.n.2) rfl (by decide) (by decide)).mono hm
  have hl := hr.lim
  by_cases h0 : (¬ v1 < 0 ∧ ¬ 8 ≤ v1) ∧ (¬ v3 < 1 ∧ ¬ 16 < v3) ∧ (¬ v4 < 0 ∧ ¬ 1 < v4)
  · obtain ⟨j, hj, rfl⟩ : ∃ j : Nat, j < 8 ∧ v1 = nI j := hx_ix 8 rfl h0.1.1 h0.1.2 (by decide)
    by_cases h1 : M 2 j = -1
    · exact (hStp.fd hI (c_X7_who_m hG hr.s1 hj h0.2 h1) (c_X8_who_m (M := hc_ms M 0 8 1) hG hr.st.1 hj h0.2.1 h0.2.2 ((hI.1.mi hj).mp h1)) rfl (by decide) (by decide)).mono hm
    · obtain ⟨el, m, hm4, e3, e50⟩ := hI.1.pr hj h1
      have h49 : ¬ M 49 j = -1000000 := fun w => h1 ((hI.1.mi hj).mpr w)
      by_cases h2 : rPt (nI m) v2 v3
      · obtain ⟨n, n1, n16, rfl⟩ := n16 h0.2.1
        obtain ⟨i, n', rfl, en, hin⟩ := rPt_nat hm4 h2
        have : n = n' := (nI_eq (by omega) (by omega)).mp en
        subst this
        obtain ⟨w, hw, rfl⟩ : ∃ j : Nat, j ≤ 1 ∧ v4 = nI j := nI_of2 (M := 1) rfl h0.2.2.1 (Int32.not_lt.mp h0.2.2.2)
        have c2 := c_X8_who_o (l := l) (M := hc_ms M 0 8 0) (E := E) (D := D) (r := j) (i := i) (n := n) (v4 := nI w) hG hr.st.1 hr.ea.1 hl.1 hr.do.1 hl.2.1 hj (by omega) n1 n16 h0.2.2 h49 (by show rPt (M 50 j) (nI i) (nI n); rw [e50]; exact h2)
        have hww : w = 0 ∨ w = 1 := by omega
        rcases hww with rfl | rfl
        · refine hStp.of (c_X7_who_o0 hG hr.s1 hj (by omega) hr.ea.2 hl.1 ⟨h0.2.1, by decide, by decide⟩ h1 (by rw [e3]; exact h2)) c2 ?_ (by decide) (by decide)
          rintro z' M2 ⟨rfl, Y, hY, rfl⟩
          refine ⟨?_, hI.stat hY⟩
          show R _ (if nI 0 = 0 then rWc (M 54) E D (fun t => M 51 (40 * j + i + t)) n (2 ^ E) else _)
          rw [if_pos (show nI 0 = 0 from rfl)]
          exact h00 E D q j i n hq hr hj (by omega) n16
        · refine hStp.of (c_X7_who_o1 hG hr.s1 hj (by omega) hr.ea.2 hl.1 ⟨h0.2.1, by decide, by decide⟩ h1 (by rw [e3]; exact h2)) c2 ?_ (by decide) (by decide)
          rintro z' M2 ⟨rfl, Y, hY, rfl⟩
          refine ⟨?_, hI.stat hY⟩
          show R _ (if nI 1 = 0 then _ else rWl (M 54) E D (fun t => M 51 (40 * j + i + t)) n (2 ^ E))
          rw [if_neg (show ¬ nI 1 = 0 by decide)]
          exact h11 E D q j i n hq hr hj (by omega) n16
      · exact (hStp.fd hI (c_X7_who_p hG hr.s1 hj h0.2 h1 (by rw [e3]; exact h2)) (c_X8_who_p (M := hc_ms M 0 8 2) hG hr.st.1 hj h0.2.1 h0.2.2 h49 (by show ¬ rPt (M 50 j) v2 v3; rw [e50]; exact h2)) rfl (by decide) (by decide)).mono hm
  · exact (hStp.id hI (c_X7_who_b hG hr.s1 h0) (c_X8_who_b hG hr.st.1 h0) rfl (by decide) (by decide)).mono hm
theorem st_who_w (hG : hc_ok G) (hI : Inv M) (v1 v2 v3 v4 : Int32) : hStp l G yX7_who cX7_who 8 yX8_who cX8_who 9 [.int v1, .int v2, .int v3, .int v4] M (fun _ _ => True) :=
  st_who_R hG hI _ (fun _ => trivial) (fun _ _ _ _ _ _ _ _ _ _ _ => trivial) (fun _ _ _ _ _ _ _ _ _ _ _ => trivial) v1 v2 v3 v4
end
/-! odds: the reference's numbers stay small, its division ends -/
theorem op_nI {ls x : Int32} {c : Nat} (hc : c ≤ 10) : ∀ E, ∃ r, r ≤ 10 ^ E ∧ rOp ls x (nI c) E = nI r := by
  intro E
  induction E with
  | zero =>
    show ∃ r, r ≤ 10 ^ 0 ∧ (if x &&& (ls ^^^ -1) = 0 then (1 : Int32) else 0) = nI r
    split
    · exact ⟨1, by decide, rfl⟩
    · exact ⟨0, by decide, rfl⟩
  | succ E ih =>
    obtain ⟨r, hr, e⟩ := ih
    show ∃ r', r' ≤ 10 ^ (E + 1) ∧ rOp ls x (nI c) E * (if hIn ls (nI E) then (if hIn x (nI E) then 10 - nI c else nI c) else 1) = nI r'
    rw [e, show (10 : Int32) = nI 10 from rfl, pk_sub hc, Nat.pow_succ]
    split
    · split
      · exact ⟨r * (10 - c), Nat.mul_le_mul hr (by omega), pk_mul _ _⟩
      · exact ⟨r * c, Nat.mul_le_mul hr hc, pk_mul _ _⟩
    · exact ⟨r, Nat.le_trans hr (Nat.le_mul_of_pos_right _ (by decide)), Int32.mul_one _⟩
theorem ow_nI {ls : Int32} : ∀ E, ∃ r, 1 ≤ r ∧ r ≤ 10 ^ E ∧ rOw ls E = nI r := by
  intro E
  induction E with
  | zero => exact ⟨1, by decide, by decide, rfl⟩
  | succ E ih =>
    obtain ⟨r, h1, hr, e⟩ := ih
    show ∃ r', 1 ≤ r' ∧ r' ≤ 10 ^ (E + 1) ∧ rOw ls E * (if hIn ls (nI E) then 10 else 1) = nI r'
    rw [e, show (10 : Int32) = nI 10 from rfl, Nat.pow_succ]
    split
    · exact ⟨r * 10, by omega, Nat.mul_le_mul hr (Nat.le_refl _), pk_mul _ _⟩
    · exact ⟨r, h1, Nat.le_trans hr (Nat.le_mul_of_pos_right _ (by decide)), Int32.mul_one _⟩
theorem os_nI {f : Nat → Int32} {E c : Nat} {ls u : Int32} (hc : c ≤ 10) (hE : E ≤ 6) : ∀ X, ∃ a, a ≤ X * 1000000 ∧ rOs f E ls u (nI c) X = nI a := by
  intro X
  induction X with
  | zero => exact ⟨0, by omega, rfl⟩
  | succ X ih =>
    obtain ⟨a, ha, e⟩ := ih
    obtain ⟨r, hr, e2⟩ := op_nI (ls := ls) (x := nI X) hc E
    have h6 : 10 ^ E ≤ 1000000 := Nat.pow_le_pow_right (n := 10) (by decide) hE
    show ∃ a', a' ≤ (X + 1) * 1000000 ∧ rOs f E ls u (nI c) X + (if rBy f E (nI X &&& ls) < u then 0 else rOp ls (nI X) (nI c) E) = nI a'
    rw [e, e2]
    split
    · exact ⟨a, Nat.le_trans ha (Nat.mul_le_mul_right _ (Nat.le_succ X)), Int32.add_zero _⟩
    · exact ⟨a + r, by rw [Nat.succ_mul]; exact Nat.add_le_add ha (Nat.le_trans hr h6), nI_add _ _⟩
theorem gcd_ok : ∀ (j a b t : Nat), j ≤ 20 → a < 2 ^ 30 → b < 2 ^ j → 2 * j + 1 ≤ t → (0 < a ∨ 0 < b) → rGe t (nI a) (nI b) ∧ ∃ g, 1 ≤ g ∧ g < 2 ^ 30 ∧ hGcd t (nI a) (nI b) = nI g := by
  intro j
  induction j with
  | zero =>
    intro a b t _ ha hb ht h0
    have : b = 0 := by omega
    subst this
    obtain ⟨s, rfl⟩ : ∃ s, t = s + 1 := ⟨t - 1, by omega⟩
    exact ⟨Or.inl rfl, a, by omega, ha, by show (if nI 0 = 0 then nI a else _) = nI a; rw [if_pos (show nI 0 = 0 from rfl)]⟩
  | succ j ih =>
    intro a b t hj ha hb ht h0
    have hp : 2 ^ (j + 1) ≤ 2 ^ 20 := Nat.pow_le_pow_right (by decide) hj
    have hps : 2 ^ (j + 1) = 2 * 2 ^ j := by rw [Nat.pow_succ]; omega
    obtain ⟨s, rfl⟩ : ∃ s, t = s + 1 + 1 := ⟨t - 2, by omega⟩
    rcases Nat.eq_zero_or_pos b with hb0 | hb0
    · subst hb0
      exact ⟨Or.inl rfl, a, by omega, ha, by show (if nI 0 = 0 then nI a else _) = nI a; rw [if_pos (show nI 0 = 0 from rfl)]⟩
    have hbn : ¬ nI b = 0 := nI_ne0 hb0 (by omega)
    have hr1 : nI a - nI a / nI b * nI b = nI (a % b) := pk_rem (by omega) hb0 (by omega)
    have hlt : a % b < b := Nat.mod_lt _ hb0
    have key : rGe (s + 1) (nI b) (nI (a % b)) ∧ ∃ g, 1 ≤ g ∧ g < 2 ^ 30 ∧ hGcd (s + 1) (nI b) (nI (a % b)) = nI g := by
      rcases Nat.eq_zero_or_pos (a % b) with hr0 | hr0
      · rw [hr0]
        exact ⟨Or.inl rfl, b, hb0, by omega, by show (if nI 0 = 0 then nI b else _) = nI b; rw [if_pos (show nI 0 = 0 from rfl)]⟩
      · have hrn : ¬ nI (a % b) = 0 := nI_ne0 hr0 (by omega)
        have hr2 : nI b - nI b / nI (a % b) * nI (a % b) = nI (b % (a % b)) := pk_rem (by omega) hr0 (by omega)
        have hlt2 : b % (a % b) < a % b := Nat.mod_lt _ hr0
        have hsm : b % (a % b) < 2 ^ j := by
          rcases Nat.lt_or_ge (a % b) (2 ^ j + 1) with q | q
          · omega
          · have e1 : b % (a % b) = (b - (a % b)) % (a % b) := Nat.mod_eq_sub_mod (by omega)
            have e2 : (b - (a % b)) % (a % b) = b - (a % b) := Nat.mod_eq_of_lt (by omega)
            omega
        obtain ⟨g1, g, g2, g3, g4⟩ := ih (a % b) (b % (a % b)) s (by omega) (by omega) hsm (by omega) (Or.inl hr0)
        refine ⟨Or.inr (by rw [hr2]; exact g1), g, g2, g3, ?_⟩
        show (if nI (a % b) = 0 then nI b else hGcd s (nI (a % b)) (nI b - nI b / nI (a % b) * nI (a % b))) = nI g
        rw [if_neg hrn, hr2]
        exact g4
    obtain ⟨k1, g, k2, k3, k4⟩ := key
    refine ⟨Or.inr (by rw [hr1]; exact k1), g, k2, k3, ?_⟩
    show (if nI b = 0 then nI a else hGcd (s + 1) (nI b) (nI a - nI a / nI b * nI b)) = nI g
    rw [if_neg hbn, hr1]
    exact k4
section
variable {l : Launch} {G : hc_Geo} {M : hc_Mem}
theorem st_odds_R (hG : hc_ok G) (hI : Inv M) (R : Int32 → Int32 → Prop) (hid : ∀ z, R z z)
    (hR : ∀ (E D q S c g : Nat) (v1 v3 : Int32), HR E D q M (M 54) → c ≤ 10 → rLisM (M 54) E = nI S → S < 64 → 1 ≤ g → g < 2 ^ 30 → hGcd 64 (rOs (M 54) E (rLisM (M 54) E) v1 (nI c) (S + 1)) (rOw (rLisM (M 54) E) E) = nI g →
      R (hOdd M E v1 (nI c) v3) ((if v3 = 0 then (rOs (M 54) E (rLisM (M 54) E) v1 (nI c) (S + 1)) else (rOw (rLisM (M 54) E) E)) / hGcd 64 (rOs (M 54) E (rLisM (M 54) E) v1 (nI c) (S + 1)) (rOw (rLisM (M 54) E) E))) (v1 v2 v3 : Int32) : hStp l G yX7_odds cX7_odds 7 yX8_odds cX8_odds 10 [.int v1, .int v2, .int v3] M R := by
  have hm : ∀ z z' : Int32, z = z' → R z z' := fun z z' e => e ▸ hid z
  rcases hI.hs with hn | ⟨E, D, q, hq, hr⟩
  · exact (hStp.id hI (c_X7_odds_n hG hn.n.1) (c_X8_odds_n hG hn.n.2) rfl (by decide) (by decide)).mono hm
  have hl := hr.lim
  by_cases h0 : (¬ v1 < 0 ∧ ¬ 99 < v1) ∧ (¬ v2 < 0 ∧ ¬ 10 < v2) ∧ (¬ v3 < 0 ∧ ¬ 1 < v3)
  · obtain ⟨c, hc, rfl⟩ : ∃ j : Nat, j ≤ 10 ∧ v2 = nI j := nI_of2 (M := 10) rfl h0.2.1.1 (Int32.not_lt.mp h0.2.1.2)
    obtain ⟨S, hS, eS⟩ := hMk_nI (P := fun e => rLis (M 54) e) hl.1
    rw [← rLis_mk] at eS
    have h64 : 2 ^ E ≤ 64 := Nat.pow_le_pow_right (by decide) hl.1
    obtain ⟨a, ha, ea⟩ := os_nI (f := M 54) (ls := rLisM (M 54) E) (u := v1) hc hl.1 (S + 1)
    obtain ⟨b, hb1, hb, eb⟩ := ow_nI (ls := rLisM (M 54) E) E
    have h6 : b ≤ 1000000 := Nat.le_trans hb (Nat.pow_le_pow_right (n := 10) (by decide) hl.1)
    clear hb
    obtain ⟨g1, g, g2, g3, g4⟩ := gcd_ok 20 a b 64 (by decide) (by omega) (by omega) (by decide) (Or.inr (by omega))
    rw [← ea, ← eb] at g1 g4
    refine hStp.of (c_X7_odds_o hG hr.s1 hr.ea.2 hl.1 h0) (c_X8_odds_o (S := S) hG hr.st.1 hr.ea.1 hl.1 h0 eS (by omega) g1 (by rw [g4]; exact nI_ne0 (by omega) (by omega))) ?_ (by decide) (by decide)
    rintro z' M2 ⟨rfl, rfl⟩
    exact ⟨hR E D q S c g v1 v3 hr hc eS (by omega) g2 g3 g4, hI⟩
  · exact (hStp.id hI (c_X7_odds_b hG hr.s1 h0) (c_X8_odds_b hG hr.st.1 h0) rfl (by decide) (by decide)).mono hm
theorem st_odds_w (hG : hc_ok G) (hI : Inv M) (v1 v2 v3 : Int32) : hStp l G yX7_odds cX7_odds 7 yX8_odds cX8_odds 10 [.int v1, .int v2, .int v3] M (fun _ _ => True) :=
  st_odds_R hG hI _ (fun _ => trivial) (fun _ _ _ _ _ _ _ _ _ _ _ _ _ _ _ => trivial) v1 v2 v3
end
