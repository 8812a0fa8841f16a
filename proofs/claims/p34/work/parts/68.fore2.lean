/-! FORETOLD: doings -/
def hIt (M : hc_Mem) (E q : Nat) : Nat → hc_Mem
  | 0 => M
  | t + 1 => hPass (hIt M E q t) E (q + t)
theorem hIt_n {M : hc_Mem} {E q c : Nat} (h : c ≠ 9) (h2 : c ≠ 15) (h3 : c ≠ 19) : ∀ t, hIt M E q t c = M c := by
  intro t
  induction t with
  | zero => rfl
  | succ t ih => show hPass (hIt M E q t) E (q + t) c = M c; rw [hPass_n h h2 h3, ih]
theorem HR.it {E D q : Nat} {M : hc_Mem} {f : Nat → Int32} (h : HR E D q M f) : ∀ t, q + t < 1200 → HR E D (q + t) (hIt M E q t) (rIter E D t f) := by
  intro t
  induction t with
  | zero => intro _; exact h
  | succ t ih => intro ht; exact (ih (by omega)).pass (by omega)
theorem hIt_19 {M : hc_Mem} {E q i j : Nat} (hi : i ≤ q + j) : ∀ t, hIt M E q (j + t) 19 i = hIt M E q j 19 i := by
  intro t
  induction t with
  | zero => rfl
  | succ t ih =>
    show hPass (hIt M E q (j + t)) E (q + (j + t)) 19 i = _
    rw [hPass_19, if_neg (by omega), ih]
theorem HR.gq {E D q j T : Nat} {M : hc_Mem} {f : Nat → Int32} (h : HR E D q M f) (hj : j ≤ T) (hT : q + T < 1200) : hIt M E q T 19 (q + j) = hSm M E (hAtt M E) j := by
  have k := h.it j (by omega)
  obtain ⟨t, rfl⟩ : ∃ t, T = j + t := ⟨T - j, by omega⟩
  rw [hIt_19 (by omega), ← k.pa.2, ← k.pa.1, h.sm]
theorem HR.gl {q i T : Nat} {M : hc_Mem} {E : Nat} (hi : i ≤ q) : hIt M E q T 19 i = M 19 i := by
  have := hIt_19 (M := M) (E := E) (q := q) (i := i) (j := 0) (by omega) T
  rw [Nat.zero_add] at this
  exact this
theorem hDn_le {G : Nat → Int32} {b : Nat} {w : Int32} : ∀ k, k ≤ b → hDn G b w k = -1000000 := by
  intro k
  induction k with
  | zero => intro _; rfl
  | succ k ih => intro hk; unfold hDn; rw [if_neg (fun w => absurd w.2.1 (by omega)), ih (by omega)]
theorem nI_nn {n : Nat} (h : n < 2 ^ 31) : ¬ nI n = -1000000 := by
  intro w
  have h0 := nI_pos h
  rw [w] at h0
  exact h0 (by decide)
theorem hDn_stay {G : Nat → Int32} {b i : Nat} {w : Int32} (h : ¬ hDn G b w i = -1000000) : ∀ t, hDn G b w (i + t) = hDn G b w i := by
  intro t
  induction t with
  | zero => rfl
  | succ t ih =>
    have e : hDn G b w (i + t + 1) = if hDn G b w (i + t) = -1000000 ∧ b ≤ i + t ∧ ¬ G (i + t + 1) < G b + w then nI (i + t + 1) else hDn G b w (i + t) := rfl
    rw [show i + (t + 1) = i + t + 1 from rfl, e, if_neg (fun q => h (by rw [← ih]; exact q.1)), ih]
theorem sub_lt {a c w : Nat} (h : c ≤ a) (ha : a < 2 ^ 29) (hw : w < 2 ^ 29) : nI a - nI c < nI w ↔ nI a < nI c + nI w := by
  rw [pk_sub h, nI_add, nI_ltI (by omega) (by omega), nI_ltI (by omega) (by omega)]
  omega
theorem don_eq {M : hc_Mem} {E q b w : Nat} {s : Int32} {Gg : Nat → Int32} {p : Nat → Nat} (hq9 : q ≤ 999) (hw : 0 < w) (hw2 : w < 1000) (hG : ∀ k, k < q + 99 → Gg (k + 1) = Gg k + (if k < q then M 19 (k + 1) - M 19 k else hPar M E s (nI k)))
    (hp : ∀ i, i ≤ q + 99 → Gg i = nI (p i) ∧ p i < 2 ^ 20) (hm : ∀ i, i < q + 99 → p i ≤ p (i + 1)) : ∀ t k g, k + t = q + 100 → b ≤ k → (t ≠ 0 → g = Gg k - Gg b) → hDn Gg b (nI w) (k - 1) = -1000000 → hDon M E s (nI w) q t k g = hDn Gg b (nI w) (q + 99) := by
  have hmono : ∀ i j, i + j ≤ q + 99 → p i ≤ p (i + j) := by
    intro i j
    induction j with
    | zero => intro _; exact Nat.le_refl _
    | succ j ih => intro h; exact Nat.le_trans (ih (by omega)) (hm (i + j) (by omega))
  intro t
  induction t with
  | zero =>
    intro k g hk hb _ hn
    have e : k - 1 = q + 99 := by omega
    rw [e] at hn
    rw [hn]
    rfl
  | succ t ih =>
    intro k g hk hb hg hn
    rw [hg (by omega)]
    have e1 := (hp k (by omega))
    have e2 := (hp b (by omega))
    have hbk : p b ≤ p k := by
      have := hmono b (k - b) (by omega)
      rw [show b + (k - b) = k by omega] at this
      exact this
    have hc : (Gg k - Gg b < nI w ↔ Gg k < Gg b + nI w) := by
      rw [e1.1, e2.1]
      exact sub_lt hbk (by omega) (by omega)
    unfold hDon
    by_cases c : Gg k - Gg b < nI w
    · rw [if_pos c]
      refine ih (k + 1) _ (by omega) (by omega) (fun ht => ?_) ?_
      · rw [hG k (by omega)]
        generalize (if k < q then M 19 (k + 1) - M 19 k else hPar M E s (nI k)) = y
        generalize Gg k = u
        generalize Gg b = v
        grind
      · rw [show k + 1 - 1 = k by omega]
        rcases Nat.eq_zero_or_pos k with k0 | k0
        · subst k0; rfl
        · obtain ⟨j, rfl⟩ : ∃ j, k = j + 1 := ⟨k - 1, by omega⟩
          unfold hDn
          rw [if_neg (fun w2 => w2.2.2 (hc.mp c))]
          exact hn
    · rw [if_neg c]
      have hkb : b < k := by
        rcases Nat.lt_or_ge b k with h | h
        · exact h
        · exfalso
          have : b = k := by omega
          subst this
          refine c ?_
          rw [e1.1, pk_sub (Nat.le_refl _), Nat.sub_self]
          exact nI_lt hw (by omega)
      obtain ⟨j, rfl⟩ : ∃ j, k = j + 1 := ⟨k - 1, by omega⟩
      have hk1 : hDn Gg b (nI w) (j + 1) = nI (j + 1) := by
        have hn : hDn Gg b (nI w) j = -1000000 := hn
        unfold hDn
        rw [if_pos ⟨hn, by omega, fun w2 => c (hc.mpr w2)⟩]
      have := hDn_stay (G := Gg) (b := b) (w := nI w) (i := j + 1) (by rw [hk1]; exact nI_nn (by omega)) t
      rw [show j + 1 + t = q + 99 by omega, hk1] at this
      exact this.symm
theorem done_eq {E D q x b : Nat} {M : hc_Mem} {f : Nat → Int32} (h : HR E D q M f) (hq : q ≤ 999) (hx : x < D) (hb : M 16 x = nI b) (hb9 : b ≤ 99) : hDone M E q x b = rIter E D 99 f (48 + 5 * x + 4) := by
  have hl := h.lim
  have k := h.it 99 (by omega)
  obtain ⟨a1, a2, a3, b', n, u, c1, c2, c3, c4, c5, c6, c7, c8, c9⟩ := k.ds x hx
  rw [hIt_n (by decide) (by decide) (by decide)] at c5
  rw [hIt_n (by decide) (by decide) (by decide)] at c6
  rw [hIt_n (c := 17) (by decide) (by decide) (by decide)] at c9
  have hbb : b' = b := (nI_eq (by omega) (by omega)).mp (c5.symm.trans hb)
  subst hbb
  have hw : 12 * M 17 x = nI (12 * n) := by rw [c6, show (12 : Int32) = nI 12 from rfl, pk_mul]
  rw [c9, hw]
  unfold hDone
  rw [hw]
  obtain ⟨p, p0, p1, p2⟩ := k.gp
  have hp72 : ∀ i, i ≤ q + 99 → p i ≤ 72 * i := by
    intro i
    induction i with
    | zero => intro _; omega
    | succ i ih => intro hi; have := ih (by omega); have := (p2 i (by omega)).2; omega
  by_cases hbq : b' ≤ q + 99
  · refine don_eq (p := p) hq (by omega) (by omega) (fun j hj => ?_) (fun i hi => ⟨p1 i hi, by have := hp72 i hi; omega⟩) (fun i hi => (p2 i hi).1) (q + 100 - b') b' 0 (by omega) (Nat.le_refl _) (fun _ => ?_) (hDn_le _ (by omega))
    · by_cases hjq : j < q
      · rw [if_pos hjq, HR.gl (by omega), HR.gl (by omega)]
        generalize M 19 (j + 1) = y
        generalize M 19 j = z
        grind
      · rw [if_neg hjq]
        obtain ⟨t, rfl⟩ : ∃ t, j = q + t := ⟨j - q, by omega⟩
        rw [show q + t + 1 = q + (t + 1) by omega, h.gq (by omega) (by omega), h.gq (by omega) (by omega), ← nI_add, ← h.qu.2]
        rfl
    · generalize hIt M E q 99 19 b' = y
      grind
  · rw [show q + 100 - b' = 0 by omega, hDn_le _ (by omega)]
    rfl
theorem late_eq {E D q : Nat} {M : hc_Mem} {f : Nat → Int32} (h : HR E D q M f) (hq : q ≤ 999) {bg : Nat → Nat} (hbg : ∀ x, x < D → M 16 x = nI (bg x) ∧ bg x ≤ 99) : ∀ X, X ≤ D → hLateM M E q bg X = rLtM f (rIter E D 99 f) X := by
  intro X
  induction X with
  | zero => intro _; rfl
  | succ X ih =>
    intro hX
    have e1 := done_eq h hq (x := X) (by omega) (hbg X (by omega)).1 (hbg X (by omega)).2
    have e2 := (h.ds X (by omega)).2.2.1
    unfold hLateM rLtM
    rw [ih (by omega), e1, e2]
    by_cases c : rIter E D 99 f (48 + 5 * X + 4) = -1000000 ∨ ¬ rIter E D 99 f (48 + 5 * X + 4) ≤ M 18 X
    · rw [if_pos c, if_pos c]
    · rw [if_neg c, if_neg c, or0]
theorem lat_eq {M : hc_Mem} {E q w k : Nat} {s : Int32} {g : Nat → Nat} (hq9 : q ≤ 999) (hq : M 9 2 = nI q) (hw : w < 1000) (hg : ∀ t, t ≤ k → hSm M E s t = nI (g t) ∧ g t < 2 ^ 20) (hm : ∀ i, i ≤ k → g i ≤ g k) :
    ∀ i, i ≤ k → hLat M E s (12 * nI w) q (q + i) (hSm M E s k - hSm M E s i) = rLk (hSm M E s) k (nI w) i := by
  intro i
  induction i with
  | zero =>
    intro _
    rw [Nat.add_zero]
    cases q with
    | zero => rfl
    | succ q =>
      show (if q < q + 1 then _ else _) = _
      rw [if_pos (by omega)]
      rfl
  | succ i ih =>
    intro hi
    show (if q + i < q then -1000000 else if hSm M E s k - hSm M E s (i + 1) + hPar M E s (nI (q + i)) < 12 * nI w then hLat M E s (12 * nI w) q (q + i) (hSm M E s k - hSm M E s (i + 1) + hPar M E s (nI (q + i))) else nI (q + i) - M 9 2) = (if hSm M E s k < hSm M E s i + 12 * nI w then rLk (hSm M E s) k (nI w) i else nI i)
    rw [if_neg (by omega)]
    have e : hSm M E s k - hSm M E s (i + 1) + hPar M E s (nI (q + i)) = hSm M E s k - hSm M E s i := by
      have e2 : hSm M E s (i + 1) = hSm M E s i + hPar M E s (nI (q + i)) := by
        show hSm M E s i + hPar M E s (M 9 2 + nI i) = _
        rw [hq, nI_add]
      rw [e2]
      generalize hSm M E s k = x
      generalize hSm M E s i = y
      generalize hPar M E s (nI (q + i)) = z
      grind
    rw [e, ih (by omega)]
    have hc : hSm M E s k - hSm M E s i < 12 * nI w ↔ hSm M E s k < hSm M E s i + 12 * nI w := by
      rw [(hg k (Nat.le_refl _)).1, (hg i (by omega)).1, show (12 : Int32) = nI 12 from rfl, pk_mul]
      have := (hg k (Nat.le_refl _)).2
      exact sub_lt (hm i (by omega)) (by omega) (by omega)
    by_cases c : hSm M E s k - hSm M E s i < 12 * nI w
    · rw [if_pos c, if_pos (hc.mp c)]
    · rw [if_neg c, if_neg (fun w2 => c (hc.mpr w2)), hq, pk_sub (by omega)]
      congr 1
      omega
theorem sm_mono {M : hc_Mem} {E p0 : Nat} {s : Int32} (h : hRg M E) (hE : E ≤ 6) (h3 : M 9 3 = nI p0) : ∃ g : Nat → Nat, (∀ t, hSm M E s t = nI (g t) ∧ g t ≤ p0 + 72 * t) ∧ ∀ t, g t ≤ g (t + 1) := by
  have hp : ∀ t, ∃ a, a ≤ 72 ∧ hPar M E s (M 9 2 + nI t) = nI a := fun t => par_nI h hE s _
  let st : Nat → Nat := fun t => (hPar M E s (M 9 2 + nI t)).toNatClampNeg
  let g : Nat → Nat := fun t => Nat.rec p0 (fun i r => r + st i) t
  have hst : ∀ t, hPar M E s (M 9 2 + nI t) = nI (st t) ∧ st t ≤ 72 := by
    intro t
    obtain ⟨a, ha, ea⟩ := hp t
    have : st t = a := by show (hPar M E s (M 9 2 + nI t)).toNatClampNeg = a; rw [ea, nI_clamp (by omega)]
    rw [this]
    exact ⟨ea, ha⟩
  have gs : ∀ t, g (t + 1) = g t + st t := fun t => rfl
  refine ⟨g, fun t => ?_, fun t => by rw [gs]; omega⟩
  induction t with
  | zero => exact ⟨h3, Nat.le_refl _⟩
  | succ t ih =>
    refine ⟨?_, ?_⟩
    · show hSm M E s t + hPar M E s (M 9 2 + nI t) = _
      rw [ih.1, (hst t).1, nI_add, gs]
    · rw [gs]
      have := (hst t).2
      omega
section
variable {l : Launch} {G : hc_Geo} {M : hc_Mem}
theorem st_done (hG : hc_ok G) (hI : Inv M) (v1 : Int32) : hStp l G yX7_done cX7_done 2 yX8_done cX8_done 2 [.int v1] M Eq := by
  rcases hI.doi v1 with ⟨a, E, b, c, d⟩ | ⟨E, D, q, x, hq, hr, hx, rfl⟩
  · exact hStp.id hI (c_X7_done_b hG a) (c_X8_done_b hG c b d) rfl (by decide) (by decide)
  · obtain ⟨_, _, _, b, n, u, b1, b2, b3, b4, b5, b6, b7, _⟩ := hr.ds x hx
    exact hStp.qu hI (c_X7_done_o hG hr.do.2 hr.lim.2.1 hx b5 b1 hr.ea.2 hr.lim.1 hr.qu.2 hq) (c_X8_done_o hG hr.ea.1 hr.lim.1 hr.do.1 hr.lim.2.1 hx) (done_eq hr hq hx b5 b1) (by decide) (by decide)
theorem st_late (hG : hc_ok G) (hI : Inv M) : hStp l G yX7_late cX7_late 1 yX8_late cX8_late 4 [] M Eq := by
  rcases hI.hs with hn | ⟨E, D, q, hq, hr⟩
  · exact hStp.id hI (c_X7_late_n hG hn.n.1) (c_X8_late_n hG hn.n.2) rfl (by decide) (by decide)
  have hbg : ∀ x, x < D → M 16 x = nI ((fun y => (M 16 y).toNatClampNeg) x) ∧ (fun y => (M 16 y).toNatClampNeg) x ≤ 99 := by
    intro x hx
    obtain ⟨_, _, _, b, n, u, b1, b2, b3, b4, b5, _⟩ := hr.ds x hx
    show M 16 x = nI ((M 16 x).toNatClampNeg) ∧ (M 16 x).toNatClampNeg ≤ 99
    rw [b5, nI_clamp (by omega)]
    exact ⟨rfl, b1⟩
  exact hStp.qu hI (c_X7_late_o hG hr.s1 hr.ea.2 hr.lim.1 hr.qu.2 hq hr.do.2 hr.lim.2.1 hbg) (c_X8_late_o hG hr.st.1 hr.ea.1 hr.lim.1 hr.do.1 hr.lim.2.1) (late_eq hr hq hbg D (Nat.le_refl _)) (by decide) (by decide)
theorem st_latest (hG : hc_ok G) (hI : Inv M) (v1 : Int32) : hStp l G yX7_latest cX7_latest 2 yX8_latest cX8_latest 6 [.int v1] M Eq := by
  rcases hI.doi v1 with ⟨a, E, b, c, d⟩ | ⟨E, D, q, x, hq, hr, hx, rfl⟩
  · exact hStp.id hI (c_X7_latest_b hG a) (c_X8_latest_b hG c b d) rfl (by decide) (by decide)
  · have hl := hr.lim
    obtain ⟨a1, a2, a3, b, n, u, b1, b2, b3, b4, b5, b6, b7, _⟩ := hr.ds x hx
    have hdu : M 54 (48 + 5 * x + 2) - M 54 2 = nI u - nI q := by rw [a3, b7, hr.qu.1]
    have c1 := c_X7_latest_o (l := l) hG hr.do.2 hl.2.1 hx b7 b4 hr.ea.2 hl.1 hr.qu.2 hq
    rcases Nat.lt_or_ge q u with hqu | hqu
    · have hk : M 54 (48 + 5 * x + 2) - M 54 2 = nI (u - q) := by rw [hdu, pk_sub (by omega)]
      refine hStp.qu hI c1 (c_X8_latest_2 (k := u - q) hG hr.ea.1 hl.1 hr.do.1 hl.2.1 hx (by omega) hk) ?_ (by decide) (by decide)
      rw [show (fun t => rIter E D t (M 54) 3) = hSm M E (hAtt M E) from funext (fun t => hr.sm t), a2, b6]
      obtain ⟨p0, hp0, ep⟩ := hr.p0
      obtain ⟨g, g1, g2⟩ := sm_mono (s := hAtt M E) hr.rg hl.1 ep
      have hmono : ∀ i j, g i ≤ g (i + j) := by
        intro i j
        induction j with
        | zero => exact Nat.le_refl _
        | succ j ih => exact Nat.le_trans ih (g2 (i + j))
      have k := lat_eq (M := M) (E := E) (q := q) (w := n) (k := u - q) (s := hAtt M E) (g := g) hq hr.qu.2 (by omega) (fun t ht => ⟨(g1 t).1, by have := (g1 t).2; omega⟩) (fun i hi => by
        have := hmono i (u - q - i)
        rw [show i + (u - q - i) = u - q by omega] at this
        exact this) (u - q) (Nat.le_refl _)
      rw [show q + (u - q) = u by omega, show hSm M E (hAtt M E) (u - q) - hSm M E (hAtt M E) (u - q) = 0 by generalize hSm M E (hAtt M E) (u - q) = y; grind] at k
      exact k
    · refine hStp.qu hI c1 (c_X8_latest_0 hG hr.ea.1 hl.1 hr.do.1 hl.2.1 hx ?_) ?_ (by decide) (by decide)
      · rw [hdu, Int32.le_iff_toInt_le, pk_sub_toInt (by omega) (by omega)]
        show (u : Int) - q ≤ 0
        omega
      · cases u with
        | zero => rfl
        | succ u =>
          show (if u < q then _ else _) = _
          rw [if_pos (by omega)]
end
