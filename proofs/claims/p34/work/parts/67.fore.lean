/-! FORETOLD: the course -/
def hSm (M : hc_Mem) (E : Nat) (s : Int32) : Nat → Int32
  | 0 => M 9 3
  | t + 1 => hSm M E s t + hPar M E s (M 9 2 + nI t)
theorem rSm_eq {M : hc_Mem} {f : Nat → Int32} {E : Nat} {s : Int32} (h : hMt M f E s) (hE : E ≤ 6) (h2 : f 2 = M 9 2) (h3 : f 3 = M 9 3) : ∀ t, rSm f E t = hSm M E s t := by
  intro t
  induction t with
  | zero => exact h3
  | succ t ih =>
    show rSm f E t + rGq f E (f 2 + nI t) = hSm M E s t + hPar M E s (M 9 2 + nI t)
    rw [ih, rGq_eq h hE, h2]
def hFl (M : hc_Mem) (E : Nat) : Prop := ∀ e, e < E → ∃ v, v ≤ 7 ∧ M 13 e = nI v
theorem rem8_nI {a v : Nat} (ha : a < 2 ^ 20) (hv : v ≤ 7) : hRem8 (nI a + 8 - nI v) = nI ((a + 8 - v) % 8) := by
  unfold hRem8
  rw [show (8 : Int32) = nI 8 from rfl, nI_add, pk_sub (by omega), pk_rem (by omega) (by decide) (by decide)]
theorem time_per {M : hc_Mem} {e a v : Nat} (ha : a < 2 ^ 19) (hv : v ≤ 7) (h : M 13 e = nI v) : hTime M e (nI (a + 8)) ↔ hTime M e (nI a) := by
  show ¬ M 14 e ≤ hRem8 (nI (a + 8) + 8 - M 13 e) ↔ ¬ M 14 e ≤ hRem8 (nI a + 8 - M 13 e)
  rw [h, rem8_nI (by omega) hv, rem8_nI (by omega) hv, show (a + 8 + 8 - v) % 8 = (a + 8 - v) % 8 by omega]
theorem par_c {M : hc_Mem} {E : Nat} {s q q' : Int32} (h : ∀ e, e < E → (hTime M e q ↔ hTime M e q')) : hPar M E s q = hPar M E s q' := by
  have k : ∀ j, j ≤ E → hPO M s q j = hPO M s q' j ∧ hPW M s q j = hPW M s q' j := by
    intro j
    induction j with
    | zero => intro _; exact ⟨rfl, rfl⟩
    | succ j ih =>
      intro hj
      obtain ⟨i1, i2⟩ := ih (by omega)
      have hi := h j (by omega)
      unfold hPO hPW
      rw [i1, i2]
      refine ⟨?_, ?_⟩
      · by_cases c : hIn s (nI j) ∧ hTime M j q ∧ ¬ M 10 j = 2
        · rw [if_pos c, if_pos ⟨c.1, hi.mp c.2.1, c.2.2⟩]
        · rw [if_neg c, if_neg (fun w => c ⟨w.1, hi.mpr w.2.1, w.2.2⟩)]
      · by_cases c : hIn s (nI j) ∧ hTime M j q ∧ M 10 j = 2
        · rw [if_pos c, if_pos ⟨c.1, hi.mp c.2.1, c.2.2⟩]
        · rw [if_neg c, if_neg (fun w => c ⟨w.1, hi.mpr w.2.1, w.2.2⟩)]
  obtain ⟨a, b⟩ := k E (Nat.le_refl _)
  unfold hPar
  rw [a, b]
theorem par_per {M : hc_Mem} {E a : Nat} {s : Int32} (h : hFl M E) (ha : a < 2 ^ 19) : hPar M E s (nI (a + 8)) = hPar M E s (nI a) :=
  par_c (fun e he => by obtain ⟨v, hv, ev⟩ := h e he; exact time_per ha hv ev)
/-- what comes again each 8 -/
theorem per_sum {P S : Nat → Int32} (hP : ∀ t, t < 200 → P (t + 8) = P t) (hS : ∀ t, S (t + 1) = S t + P t) : ∀ a, a ≤ 13 → ∀ b, b ≤ 8 → S (8 * a + b) = S b + nI a * (P 0 + P 1 + P 2 + P 3 + P 4 + P 5 + P 6 + P 7) := by
  have hPa : ∀ a, a ≤ 13 → ∀ b, b < 8 → P (8 * a + b) = P b := by
    intro a
    induction a with
    | zero => intro _ b _; rw [Nat.mul_zero, Nat.zero_add]
    | succ a ih =>
      intro ha b hb
      rw [show 8 * (a + 1) + b = 8 * a + b + 8 by omega, hP _ (by omega), ih (by omega) b hb]
  intro a
  induction a with
  | zero => intro _ b _; rw [Nat.mul_zero, Nat.zero_add, show nI 0 = 0 from rfl, Int32.zero_mul, Int32.add_zero]
  | succ a ih =>
    intro ha b
    induction b with
    | zero =>
      intro _
      have e8 := ih (by omega) 8 (by omega)
      rw [show 8 * (a + 1) + 0 = 8 * a + 8 by omega, e8, ← nI_1 a]
      have s8 : S 8 = S 0 + P 0 + P 1 + P 2 + P 3 + P 4 + P 5 + P 6 + P 7 := by
        rw [hS 7, hS 6, hS 5, hS 4, hS 3, hS 2, hS 1, hS 0]
      rw [s8]
      grind
    | succ b ihb =>
      intro hb
      rw [show 8 * (a + 1) + (b + 1) = 8 * (a + 1) + b + 1 by omega, hS, ihb (by omega), hPa (a + 1) ha b (by omega), hS b]
      grind
theorem coef {N i : Nat} (hN : N ≤ 99) (hi : i < N) : (nI N - 1 - nI i) / 8 + 1 = nI ((N - 1 - i) / 8 + 1) := by
  rw [show (1 : Int32) = nI 1 from rfl, pk_sub (by omega), pk_sub (by omega), show (8 : Int32) = nI 8 from rfl, pk_div (by omega) (by decide) (by decide), nI_add]
theorem after_eq {M : hc_Mem} {E q N : Nat} {s : Int32} (h : hFl M E) (hq : M 9 2 = nI q) (hq9 : q ≤ 999) (hN : N ≤ 99) : hAfter M E s N = hSm M E s N := by
  have hP : ∀ t, t < 200 → hPar M E s (M 9 2 + nI (t + 8)) = hPar M E s (M 9 2 + nI t) := by
    intro t ht
    rw [hq, nI_add, nI_add, ← Nat.add_assoc]
    exact par_per h (by omega)
  have hS : ∀ t, hSm M E s (t + 1) = hSm M E s t + hPar M E s (M 9 2 + nI t) := fun _ => rfl
  have k := per_sum (P := fun t => hPar M E s (M 9 2 + nI t)) (S := hSm M E s) hP hS
  have hA : ∀ i, hAft M E s N (i + 1) = hAft M E s N i + ((nI N - 1 - nI i) / 8 + 1) * hPar M E s (M 9 2 + nI i) := fun _ => rfl
  unfold hAfter
  by_cases h8 : N < 8
  · rw [if_pos h8]
    have : ∀ i, i ≤ N → hAft M E s N i = hSm M E s i := by
      intro i
      induction i with
      | zero => intro _; rfl
      | succ i ih =>
        intro hi
        rw [hA, ih (by omega), coef hN (by omega), show (N - 1 - i) / 8 + 1 = 1 by omega, hS]
        show _ + nI 1 * _ = _
        rw [show nI 1 = 1 from rfl, Int32.one_mul]
    exact this N (Nat.le_refl _)
  · rw [if_neg h8]
    obtain ⟨a, b, hab, hb⟩ : ∃ a b, N = 8 * a + b ∧ b < 8 := ⟨N / 8, N % 8, by omega, by omega⟩
    have ka := k a (by omega) b (by omega)
    rw [← hab] at ka
    rw [ka]
    have c : ∀ i, i < 8 → (nI N - 1 - nI i) / 8 + 1 = if i < b then nI a + 1 else nI a := by
      intro i hi
      rw [coef hN (by omega)]
      by_cases hib : i < b
      · rw [if_pos hib, nI_1]; congr 1; omega
      · rw [if_neg hib]; congr 1; omega
    rw [hA 7, hA 6, hA 5, hA 4, hA 3, hA 2, hA 1, hA 0, c 7 (by omega), c 6 (by omega), c 5 (by omega), c 4 (by omega), c 3 (by omega), c 2 (by omega), c 1 (by omega), c 0 (by omega)]
    have s0 : hAft M E s N 0 = hSm M E s 0 := rfl
    rw [s0]
    generalize nI a = A
    clear ka k hP c hA
    have hbc : b = 0 ∨ b = 1 ∨ b = 2 ∨ b = 3 ∨ b = 4 ∨ b = 5 ∨ b = 6 ∨ b = 7 := by omega
    rcases hbc with rfl | rfl | rfl | rfl | rfl | rfl | rfl | rfl
    all_goals (simp only [hS, show ¬ (0 : Nat) < 0 by decide, show ¬ (1 : Nat) < 0 by decide, show ¬ (2 : Nat) < 0 by decide, show ¬ (3 : Nat) < 0 by decide, show ¬ (4 : Nat) < 0 by decide, show ¬ (5 : Nat) < 0 by decide, show ¬ (6 : Nat) < 0 by decide, show ¬ (7 : Nat) < 0 by decide, if_pos, if_neg, Nat.lt_irrefl, if_false, if_true, show (0 : Nat) < 1 by decide, show (0 : Nat) < 2 by decide, show (0 : Nat) < 3 by decide, show (0 : Nat) < 4 by decide, show (0 : Nat) < 5 by decide, show (0 : Nat) < 6 by decide, show (0 : Nat) < 7 by decide, show (1 : Nat) < 2 by decide, show (1 : Nat) < 3 by decide, show (1 : Nat) < 4 by decide, show (1 : Nat) < 5 by decide, show (1 : Nat) < 6 by decide, show (1 : Nat) < 7 by decide, show (2 : Nat) < 3 by decide, show (2 : Nat) < 4 by decide, show (2 : Nat) < 5 by decide, show (2 : Nat) < 6 by decide, show (2 : Nat) < 7 by decide, show (3 : Nat) < 4 by decide, show (3 : Nat) < 5 by decide, show (3 : Nat) < 6 by decide, show (3 : Nat) < 7 by decide, show (4 : Nat) < 5 by decide, show (4 : Nat) < 6 by decide, show (4 : Nat) < 7 by decide, show (5 : Nat) < 6 by decide, show (5 : Nat) < 7 by decide, show (6 : Nat) < 7 by decide, show ¬ (2 : Nat) < 1 by decide, show ¬ (3 : Nat) < 1 by decide, show ¬ (4 : Nat) < 1 by decide, show ¬ (5 : Nat) < 1 by decide, show ¬ (6 : Nat) < 1 by decide, show ¬ (7 : Nat) < 1 by decide, show ¬ (3 : Nat) < 2 by decide, show ¬ (4 : Nat) < 2 by decide, show ¬ (5 : Nat) < 2 by decide, show ¬ (6 : Nat) < 2 by decide, show ¬ (7 : Nat) < 2 by decide, show ¬ (4 : Nat) < 3 by decide, show ¬ (5 : Nat) < 3 by decide, show ¬ (6 : Nat) < 3 by decide, show ¬ (7 : Nat) < 3 by decide, show ¬ (5 : Nat) < 4 by decide, show ¬ (6 : Nat) < 4 by decide, show ¬ (7 : Nat) < 4 by decide, show ¬ (6 : Nat) < 5 by decide, show ¬ (7 : Nat) < 5 by decide, show ¬ (7 : Nat) < 6 by decide])
    all_goals (generalize hPar M E s (M 9 2 + nI 0) = P0; generalize hPar M E s (M 9 2 + nI 1) = P1; generalize hPar M E s (M 9 2 + nI 2) = P2; generalize hPar M E s (M 9 2 + nI 3) = P3; generalize hPar M E s (M 9 2 + nI 4) = P4; generalize hPar M E s (M 9 2 + nI 5) = P5; generalize hPar M E s (M 9 2 + nI 6) = P6; generalize hPar M E s (M 9 2 + nI 7) = P7; generalize hSm M E s 0 = S0; grind)
theorem HR.fl {E D q : Nat} {M : hc_Mem} {f : Nat → Int32} (h : HR E D q M f) : hFl M E := fun e he => (h.es e he).2.2.2.2.2.2.2.2.2.2.1
theorem HR.sm {E D q : Nat} {M : hc_Mem} {f : Nat → Int32} (h : HR E D q M f) (t : Nat) : rIter E D t f 3 = hSm M E (hAtt M E) t := by
  rw [rIter_3 h.lim.1, rSm_eq h.mt h.lim.1 (by rw [h.qu.1, h.qu.2]) h.pa.1]
theorem sm_nI {M : hc_Mem} {E p0 : Nat} {s : Int32} (h : hRg M E) (hE : E ≤ 6) (h3 : M 9 3 = nI p0) : ∀ t, ∃ g, g ≤ p0 + 72 * t ∧ p0 ≤ g ∧ hSm M E s t = nI g := by
  intro t
  induction t with
  | zero => exact ⟨p0, by omega, by omega, h3⟩
  | succ t ih =>
    obtain ⟨g, g1, g2, eg⟩ := ih
    obtain ⟨a, ha, ea⟩ := par_nI h hE s (M 9 2 + nI t)
    refine ⟨g + a, by omega, by omega, ?_⟩
    show hSm M E s t + hPar M E s (M 9 2 + nI t) = _
    rw [eg, ea, nI_add]
theorem HR.p0 {E D q : Nat} {M : hc_Mem} {f : Nat → Int32} (h : HR E D q M f) : ∃ p0, p0 ≤ 72 * q ∧ M 9 3 = nI p0 := by
  obtain ⟨p, a, b, c⟩ := h.gp
  have hp : ∀ i, i ≤ q → p i ≤ 72 * i := by
    intro i
    induction i with
    | zero => intro _; omega
    | succ i ih => intro hi; have := ih (by omega); have := (c i (by omega)).2; omega
  exact ⟨p q, hp q (Nat.le_refl _), by rw [h.pa.2]; exact b q (Nat.le_refl _)⟩
theorem qts_eq {M : hc_Mem} {E : Nat} {s v : Int32} : ∀ t n, hQts M E s v t n (hSm M E s n) = rWh (hSm M E s) v t n := by
  intro t
  induction t with
  | zero => intro n; rfl
  | succ t ih =>
    intro n
    show (if hSm M E s n / 12 < v then hQts M E s v t (n + 1) (hSm M E s (n + 1)) else nI n) = (if hSm M E s n / 12 < v then rWh (hSm M E s) v t (n + 1) else nI n)
    rw [ih]
section
variable {l : Launch} {G : hc_Geo} {M : hc_Mem}
theorem st_ahead (hG : hc_ok G) (hI : Inv M) (v1 : Int32) : hStp l G yX7_ahead cX7_ahead 2 yX8_ahead cX8_ahead 2 [.int v1] M Eq := by
  rcases hI.hs with hn | ⟨E, D, q, hq, hr⟩
  · exact hStp.id hI (c_X7_ahead_n hG hn.n.1) (c_X8_ahead_n hG hn.n.2) rfl (by decide) (by decide)
  have hl := hr.lim
  by_cases h0 : ¬ v1 < 0 ∧ ¬ 99 < v1
  · obtain ⟨n, hn, rfl⟩ : ∃ j : Nat, j ≤ 99 ∧ v1 = nI j := nI_of2 (M := 99) rfl h0.1 (Int32.not_lt.mp h0.2)
    exact hStp.qu hI (c_X7_ahead_o hG hr.s1 hr.ea.2 hl.1 h0 hn) (c_X8_ahead_o hG hr.st.1 hn hr.ea.1 hl.1 hr.do.1 hl.2.1) (by rw [hr.sm, after_eq hr.fl hr.qu.2 hq hn]) (by decide) (by decide)
  · exact hStp.id hI (c_X7_ahead_b hG hr.s1 h0) (c_X8_ahead_b hG hr.st.1 h0) rfl (by decide) (by decide)
theorem st_whenShows (hG : hc_ok G) (hI : Inv M) (v1 : Int32) : hStp l G yX7_whenShows cX7_whenShows 2 yX8_whenShows cX8_whenShows 3 [.int v1] M Eq := by
  rcases hI.hs with hn | ⟨E, D, q, hq, hr⟩
  · exact hStp.id hI (c_X7_whenShows_n hG hn.n.1) (c_X8_whenShows_n hG hn.n.2) rfl (by decide) (by decide)
  have hl := hr.lim
  by_cases h0 : ¬ v1 < 0 ∧ ¬ 999 < v1
  · refine hStp.qu hI (c_X7_whenShows_o hG hr.s1 hr.ea.2 hl.1 h0) (c_X8_whenShows_o hG hr.st.1 hr.ea.1 hl.1 hr.do.1 hl.2.1 h0) ?_ (by decide) (by decide)
    rw [show (fun t => rIter E D t (M 54) 3) = hSm M E (hAtt M E) from funext (fun t => hr.sm t)]
    exact qts_eq 100 0
  · exact hStp.id hI (c_X7_whenShows_b hG hr.s1 h0) (c_X8_whenShows_b hG hr.st.1 h0) rfl (by decide) (by decide)
end
