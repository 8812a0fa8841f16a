/-! ODDS: both sums are the same -/
def cN (s : Int32) : Nat → Nat
  | 0 => 0
  | e + 1 => cN s e + (if hIn s (nI e) then 1 else 0)
theorem cN_le (s : Int32) : ∀ E, cN s E ≤ E := by
  intro E
  induction E with
  | zero => exact Nat.le_refl _
  | succ E ih => show cN s E + (if hIn s (nI E) then 1 else 0) ≤ E + 1; split <;> omega
theorem ones_cN (s : Int32) : ∀ E, rOnes s E = nI (cN s E) := by
  intro E
  induction E with
  | zero => rfl
  | succ E ih =>
    rw [rOnes_s, ih]
    show _ = nI (cN s E + (if hIn s (nI E) then 1 else 0))
    rw [← nI_add]
    congr 1
    by_cases c : hIn s (nI E)
    · rw [if_pos c, hb_t c]; rfl
    · rw [if_neg c, hb_f c]; rfl
theorem bn_cN {E k : Nat} (hE : E ≤ 6) (hk : k < 2 ^ E) : hBn (nI k) = cN (nI k) E := by
  unfold hBn
  rw [← rOnes_E E hE k hk, ones_cN, nI_clamp (by have := cN_le (nI k) E; omega)]
theorem ow_pow (ls : Int32) : ∀ E, rOw ls E = hPow 10 (cN ls E) := by
  intro E
  induction E with
  | zero => rfl
  | succ E ih =>
    show rOw ls E * (if hIn ls (nI E) then 10 else 1) = hPow 10 (cN ls E + (if hIn ls (nI E) then 1 else 0))
    rw [ih]
    split
    · rfl
    · exact Int32.mul_one _
theorem op_0 {ls x v : Int32} (h : ¬ x &&& (ls ^^^ -1) = 0) : ∀ E, rOp ls x v E = 0 := by
  intro E
  induction E with
  | zero => show (if x &&& (ls ^^^ -1) = 0 then (1 : Int32) else 0) = 0; rw [if_neg h]
  | succ E ih =>
    show rOp ls x v E * _ = 0
    rw [ih, Int32.zero_mul]
theorem op_pow {ls x v : Int32} (h : x &&& (ls ^^^ -1) = 0) (hs : ∀ e, e < 6 → hIn x (nI e) → hIn ls (nI e)) : ∀ E, E ≤ 6 → rOp ls x v E = hPow (10 - v) (cN x E) * hPow v (cN (ls &&& (x ^^^ -1)) E) := by
  intro E
  induction E with
  | zero => intro _; show (if x &&& (ls ^^^ -1) = 0 then (1 : Int32) else 0) = 1 * 1; rw [if_pos h]; rfl
  | succ E ih =>
    intro hE
    show rOp ls x v E * (if hIn ls (nI E) then (if hIn x (nI E) then 10 - v else v) else 1) = hPow (10 - v) (cN x E + (if hIn x (nI E) then 1 else 0)) * hPow v (cN (ls &&& (x ^^^ -1)) E + (if hIn (ls &&& (x ^^^ -1)) (nI E) then 1 else 0))
    rw [ih (by omega)]
    have hi : hIn (ls &&& (x ^^^ -1)) (nI E) ↔ hIn ls (nI E) ∧ ¬ hIn x (nI E) := by rw [hIn_and (by omega), hIn_not (by omega)]
    have ps : ∀ (b : Int32) (k : Nat), hPow b (k + 1) = hPow b k * b := fun b k => rfl
    by_cases c : hIn ls (nI E)
    · rw [if_pos c]
      by_cases d : hIn x (nI E)
      · rw [if_pos d, if_pos d, if_neg (fun w => (hi.mp w).2 d), ps]
        generalize hPow (10 - v) (cN x E) = a
        show a * hPow v (cN (ls &&& (x ^^^ -1)) E) * (10 - v) = a * (10 - v) * hPow v (cN (ls &&& (x ^^^ -1)) E)
        generalize hPow v (cN (ls &&& (x ^^^ -1)) E) = b
        grind
      · rw [if_neg d, if_neg d, if_pos (hi.mpr ⟨c, d⟩), ps]
        show hPow (10 - v) (cN x E) * hPow v (cN (ls &&& (x ^^^ -1)) E) * v = hPow (10 - v) (cN x E) * (hPow v (cN (ls &&& (x ^^^ -1)) E) * v)
        generalize hPow (10 - v) (cN x E) = a
        generalize hPow v (cN (ls &&& (x ^^^ -1)) E) = b
        grind
    · have d : ¬ hIn x (nI E) := fun w => c (hs E (by omega) w)
      rw [if_neg c, if_neg d, if_neg (fun w => c (hi.mp w).1)]
      exact Int32.mul_one _
theorem given_eq0 {M : hc_Mem} {f : Nat → Int32} {E : Nat} {s S q : Int32} (h1 : f 1 = M 9 1) (hk0 : ∀ e, e < E → f (6 + 7 * e) = M 10 e ∧ (∃ k, 1 ≤ k ∧ k ≤ 5 ∧ M 10 e = nI k) ∧ f (6 + 7 * e + 1) = M 11 e) (hS : ∀ e, e < E → (hIn S (nI e) ↔ hIn s (nI e) ∧ hTime M e q)) :
    ∀ k, k ≤ E → rGiv f S 0 k = hPO M s q k ∧ rGiv f S 1 k = hPW M s q k := by
  intro k
  induction k with
  | zero => intro _; exact ⟨rfl, rfl⟩
  | succ k ih =>
    intro hk
    obtain ⟨i0, i1⟩ := ih (by omega)
    obtain ⟨a1, a2, a3⟩ := hk0 k (by omega)
    unfold rGiv hPO hPW
    rw [i0, i1, gift_eq h1 a1 a2 a3, a1]
    have hs := hS k (by omega)
    by_cases h2 : M 10 k = 2
    · have e1 : hb (M 10 k = 2) = 1 := hb_t h2
      rw [e1]
      refine ⟨?_, ?_⟩
      · rw [if_neg (fun w => absurd w.2 (by decide)), if_neg (fun w => w.2.2 h2), Int32.add_zero]
      · by_cases h3 : hIn S (nI k)
        · rw [if_pos ⟨h3, rfl⟩, if_pos ⟨(hs.mp h3).1, (hs.mp h3).2, h2⟩]
        · rw [if_neg (fun w => h3 w.1), if_neg (fun w => h3 (hs.mpr ⟨w.1, w.2.1⟩)), Int32.add_zero]
    · have e1 : hb (M 10 k = 2) = 0 := hb_f h2
      rw [e1]
      refine ⟨?_, ?_⟩
      · by_cases h3 : hIn S (nI k)
        · rw [if_pos ⟨h3, rfl⟩, if_pos ⟨(hs.mp h3).1, (hs.mp h3).2, h2⟩]
        · rw [if_neg (fun w => h3 w.1), if_neg (fun w => h3 (hs.mpr ⟨w.1, w.2.1⟩)), Int32.add_zero]
      · rw [if_neg (fun w => absurd w.2 (by decide)), if_neg (fun w => h2 w.2.2), Int32.add_zero]
theorem odds_eq {E D q S c : Nat} {v1 : Int32} {M : hc_Mem} {f : Nat → Int32} (h : HR E D q M f) (hc : c ≤ 10) (hS : rLisM f E = nI S) (hS6 : S < 64) : hLisM M E E = nI S ∧ hPow 10 (hBn (nI S)) = rOw (nI S) E ∧ hChs M E v1 (nI c) (2 ^ E) = rOs f E (nI S) v1 (nI c) (S + 1) := by
  have hl := h.lim
  obtain ⟨S', hS', eS'⟩ := hMk_nI (P := fun e => rLis f e) hl.1
  have h64 : 2 ^ E ≤ 64 := Nat.pow_le_pow_right (by decide) hl.1
  have hLL : hLisM M E E = nI S := by
    rw [← hS, lis_mk, rLis_mk]
    exact hMk_c E (fun e he => lis_iff h he)
  rw [← rLis_mk, hS] at eS'
  have hSS : S = S' := (nI_eq (by omega) (by omega)).mp eS'
  subst hSS
  have key : ∀ T, T < 2 ^ E → hLisM M E E = nI T → (hPow 10 (hBn (nI T)) = rOw (nI T) E ∧ hChs M E v1 (nI c) (2 ^ E) = rOs f E (nI T) v1 (nI c) (T + 1)) := by
    intro T hT hLT
    refine ⟨by rw [ow_pow, bn_cN hl.1 hT], ?_⟩
    have sub_iff : ∀ k, k < 2 ^ E → (nI k &&& (nI T ^^^ -1) = 0 ↔ ∀ e, e < E → hIn (nI k) (nI e) → hIn (nI T) (nI e)) := by
      intro k hk
      rw [and0_iff ⟨k, hk, rfl⟩ hl.1]
      constructor
      · intro w e he a
        by_cases b : hIn (nI T) (nI e)
        · exact b
        · exact absurd ⟨a, (hIn_not (by omega)).mpr b⟩ (w e he)
      · intro w e he a
        exact (hIn_not (by omega)).mp a.2 (w e he a.1)
    have sub32 : ∀ k, k < 2 ^ E → (∀ e, e < E → hIn (nI k) (nI e) → hIn (nI T) (nI e)) → ∀ e, e < 32 → hIn (nI k) (nI e) → hIn (nI T) (nI e) := by
      intro k hk w e he a
      rcases Nat.lt_or_ge e E with x | x
      · exact w e x a
      · exact absurd a (hIn_nI_ge hk hl.1 x he)
    have term : ∀ k, k ≤ 2 ^ E → hChs M E v1 (nI c) k = rOs f E (nI T) v1 (nI c) k := by
      intro k
      induction k with
      | zero => intro _; rfl
      | succ k ih =>
        intro hk
        show (if (nI k &&& (hLisM M E E ^^^ -1)) = 0 ∧ ¬ hPar M E (nI k) (M 9 2) < v1 then hChs M E v1 (nI c) k + hPow (10 - nI c) (hBn (nI k)) * hPow (nI c) (hBn (hLisM M E E &&& (nI k ^^^ -1))) else hChs M E v1 (nI c) k) = rOs f E (nI T) v1 (nI c) k + (if rBy f E (nI k &&& nI T) < v1 then 0 else rOp (nI T) (nI k) (nI c) E)
        rw [ih (by omega), hLT]
        by_cases hsb : nI k &&& (nI T ^^^ -1) = 0
        · have hsub := sub32 k (by omega) ((sub_iff k (by omega)).mp hsb)
          have eand : nI k &&& nI T = nI k := set_ext (fun i hi => by rw [hIn_and hi]; exact ⟨fun w => w.1, fun w => ⟨w, hsub i hi w⟩⟩)
          have hpar : rBy f E (nI k) = hPar M E (nI k) (M 9 2) := by
            have g := given_eq0 (M := M) (f := f) (E := E) (s := nI k) (S := nI k) (q := M 9 2) h.wo.1 (fun e he => ⟨(h.es e he).1, (h.es e he).2.2.2.2.2.2.2.1, (h.es e he).2.1⟩) (fun e he => by
              refine ⟨fun w => ⟨w, ?_⟩, fun w => w.1⟩
              have h1 : hIn (nI T) (nI e) := hsub e (by omega) w
              rw [← hLT, lis_mk, hMk_in E (by omega) e (by omega)] at h1
              exact h1.2.2) E (Nat.le_refl _)
            unfold rBy hPar
            rw [g.1, g.2]
          rw [eand, hpar]
          have hcl : ∃ j, j < 2 ^ E ∧ nI T &&& (nI k ^^^ -1) = nI j := set_nI hl.1 (fun i hi h32 w => by
            rw [hIn_and h32] at w
            exact hIn_nI_ge hT hl.1 hi h32 w.1)
          by_cases hp : hPar M E (nI k) (M 9 2) < v1
          · rw [if_neg (fun w => w.2 hp), if_pos hp, Int32.add_zero]
          · rw [if_pos ⟨hsb, hp⟩, if_neg hp, op_pow hsb (fun e he => hsub e (by omega)) E hl.1, bn_cN hl.1 (show k < 2 ^ E by omega)]
            obtain ⟨j, hj, ej⟩ := hcl
            rw [ej, bn_cN hl.1 hj]
        · rw [if_neg (fun w => hsb w.1), op_0 hsb]
          split <;> exact (Int32.add_zero _).symm
    rw [term _ (Nat.le_refl _)]
    have rest : ∀ d, T + 1 + d ≤ 2 ^ E → rOs f E (nI T) v1 (nI c) (T + 1 + d) = rOs f E (nI T) v1 (nI c) (T + 1) := by
      intro d
      induction d with
      | zero => intro _; rfl
      | succ d ih =>
        intro hd
        show rOs f E (nI T) v1 (nI c) (T + 1 + d) + (if rBy f E (nI (T + 1 + d) &&& nI T) < v1 then 0 else rOp (nI T) (nI (T + 1 + d)) (nI c) E) = _
        have hns : ¬ nI (T + 1 + d) &&& (nI T ^^^ -1) = 0 := by
          intro w
          have hsub := sub32 (T + 1 + d) (by omega) ((sub_iff (T + 1 + d) (by omega)).mp w)
          have e1 : (T + 1 + d) &&& T = T + 1 + d := by
            refine Nat.eq_of_testBit_eq (fun i => ?_)
            rw [Nat.testBit_and]
            rcases Nat.lt_or_ge i 32 with hi | hi
            · have := hsub i hi
              rw [hIn_nI hi (by omega), hIn_nI hi (by omega)] at this
              by_cases b : (T + 1 + d).testBit i = true
              · rw [b, this b]; rfl
              · rw [Bool.not_eq_true] at b; rw [b]; rfl
            · rw [Nat.testBit_lt_two_pow (Nat.lt_of_lt_of_le (show T + 1 + d < 2 ^ 32 by omega) (Nat.pow_le_pow_right (by decide) hi))]
              rfl
          have e2 : (T + 1 + d) &&& T ≤ T := Nat.and_le_right
          omega
        rw [op_0 hns, ih (by omega)]
        split <;> exact Int32.add_zero _
    have := rest (2 ^ E - (T + 1)) (by omega)
    rw [show T + 1 + (2 ^ E - (T + 1)) = 2 ^ E by omega] at this
    exact this
  exact ⟨hLL, key S hS' hLL⟩
section
variable {l : Launch} {G : hc_Geo} {M : hc_Mem}
theorem st_odds (hG : hc_ok G) (hI : Inv M) (v1 v2 v3 : Int32) : hStp l G yX7_odds cX7_odds 7 yX8_odds cX8_odds 10 [.int v1, .int v2, .int v3] M Eq := by
  refine st_odds_R hG hI Eq (fun _ => rfl) (fun E D q S c g v1 v3 hr hc hS hS6 g1 g2 g3 => ?_) v1 v2 v3
  obtain ⟨e1, e2, e3⟩ := odds_eq (v1 := v1) hr hc hS hS6
  unfold hOdd
  rw [e1, e2, e3]
  rw [hS] at g3 ⊢
  unfold hGcd1
  rw [g3, if_neg (show ¬ nI g < 1 from nI_nlt (a := g) (b := 1) g1 (by omega))]
end
