/-! A HOUSE of the class (cells 9 .. 19 of M) and a house of the reference (68 ints f) -/
def hDn (G : Nat → Int32) (b : Nat) (w : Int32) : Nat → Int32
  | 0 => -1000000
  | i + 1 => if hDn G b w i = -1000000 ∧ b ≤ i ∧ ¬ G (i + 1) < G b + w then nI (i + 1) else hDn G b w i
theorem hDn_c {G G' : Nat → Int32} {b : Nat} {w : Int32} : ∀ q, (∀ i, i ≤ q → G' i = G i) → hDn G' b w q = hDn G b w q := by
  intro q
  induction q with
  | zero => intro _; rfl
  | succ q ih =>
    intro h
    unfold hDn
    rw [ih (fun i hi => h i (by omega)), h (q + 1) (by omega)]
    rcases Nat.lt_or_ge q b with k | k
    · rw [if_neg (fun w => absurd w.2.1 (by omega)), if_neg (fun w => absurd w.2.1 (by omega))]
    · rw [h b (by omega)]
def HRe (M : hc_Mem) (f : Nat → Int32) (e : Nat) : Prop := f (6 + 7 * e) = M 10 e ∧ f (6 + 7 * e + 1) = M 11 e ∧ f (6 + 7 * e + 2) = M 12 e ∧ f (6 + 7 * e + 3) = M 13 e ∧ f (6 + 7 * e + 4) = M 14 e ∧ f (6 + 7 * e + 5) = hb (hIn (M 9 4) (nI e)) ∧ f (6 + 7 * e + 6) = M 15 e ∧
  (∃ k, 1 ≤ k ∧ k ≤ 5 ∧ M 10 e = nI k) ∧ (∃ v, v ≤ 12 ∧ M 11 e = nI v) ∧ (∃ v, v ≤ 3 ∧ M 12 e = nI v) ∧ (∃ v, v ≤ 7 ∧ M 13 e = nI v) ∧ ∃ v, v ≤ 8 ∧ M 14 e = nI v
def HRd (M : hc_Mem) (f : Nat → Int32) (q x : Nat) : Prop := f (48 + 5 * x + 0) = M 16 x ∧ f (48 + 5 * x + 1) = M 17 x ∧ f (48 + 5 * x + 2) = M 18 x ∧ ∃ b n u, b ≤ 99 ∧ 1 ≤ n ∧ n ≤ 40 ∧ u ≤ 99 ∧ M 16 x = nI b ∧ M 17 x = nI n ∧ M 18 x = nI u ∧ f (48 + 5 * x + 3) = (if b ≤ q then M 19 b else -1000000) ∧ f (48 + 5 * x + 4) = hDn (M 19) b (12 * M 17 x) q
def HRp (M : hc_Mem) (q : Nat) : Prop := ∃ p : Nat → Nat, p 0 = 0 ∧ (∀ i, i ≤ q → M 19 i = nI (p i)) ∧ ∀ i, i < q → p i ≤ p (i + 1) ∧ p (i + 1) ≤ p i + 72
def HR (E D q : Nat) (M : hc_Mem) (f : Nat → Int32) : Prop := (E ≤ 6 ∧ D ≤ 4 ∧ q < 1200) ∧ (f 0 = 1 ∧ M 9 0 = 1) ∧ (f 1 = M 9 1 ∧ ∃ w, w ≤ 12 ∧ M 9 1 = nI w) ∧ (f 2 = nI q ∧ M 9 2 = nI q) ∧ (f 3 = M 9 3 ∧ M 9 3 = M 19 q) ∧ (f 4 = nI E ∧ M 9 5 = nI E) ∧ (f 5 = nI D ∧ M 9 6 = nI D) ∧ (∃ s, s < 2 ^ E ∧ M 9 4 = nI s) ∧ (∀ e, e < E → HRe M f e) ∧ (∀ x, x < D → HRd M f q x) ∧ HRp M q
theorem HR.lim {E D q : Nat} {M : hc_Mem} {f : Nat → Int32} (h : HR E D q M f) : E ≤ 6 ∧ D ≤ 4 ∧ q < 1200 := h.1
theorem HR.st {E D q : Nat} {M : hc_Mem} {f : Nat → Int32} (h : HR E D q M f) : f 0 = 1 ∧ M 9 0 = 1 := h.2.1
theorem HR.wo {E D q : Nat} {M : hc_Mem} {f : Nat → Int32} (h : HR E D q M f) : f 1 = M 9 1 ∧ ∃ w, w ≤ 12 ∧ M 9 1 = nI w := h.2.2.1
theorem HR.qu {E D q : Nat} {M : hc_Mem} {f : Nat → Int32} (h : HR E D q M f) : f 2 = nI q ∧ M 9 2 = nI q := h.2.2.2.1
theorem HR.pa {E D q : Nat} {M : hc_Mem} {f : Nat → Int32} (h : HR E D q M f) : f 3 = M 9 3 ∧ M 9 3 = M 19 q := h.2.2.2.2.1
theorem HR.ea {E D q : Nat} {M : hc_Mem} {f : Nat → Int32} (h : HR E D q M f) : f 4 = nI E ∧ M 9 5 = nI E := h.2.2.2.2.2.1
theorem HR.do {E D q : Nat} {M : hc_Mem} {f : Nat → Int32} (h : HR E D q M f) : f 5 = nI D ∧ M 9 6 = nI D := h.2.2.2.2.2.2.1
theorem HR.hu {E D q : Nat} {M : hc_Mem} {f : Nat → Int32} (h : HR E D q M f) : ∃ s, s < 2 ^ E ∧ M 9 4 = nI s := h.2.2.2.2.2.2.2.1
theorem HR.es {E D q : Nat} {M : hc_Mem} {f : Nat → Int32} (h : HR E D q M f) : ∀ e, e < E → HRe M f e := h.2.2.2.2.2.2.2.2.1
theorem HR.ds {E D q : Nat} {M : hc_Mem} {f : Nat → Int32} (h : HR E D q M f) : ∀ x, x < D → HRd M f q x := h.2.2.2.2.2.2.2.2.2.1
theorem HR.gp {E D q : Nat} {M : hc_Mem} {f : Nat → Int32} (h : HR E D q M f) : HRp M q := h.2.2.2.2.2.2.2.2.2.2
/-- alike, as far as a house at quarter q shows -/
def hEq (q : Nat) (M M' : hc_Mem) : Prop := (∀ j, j ≤ 6 → M' 9 j = M 9 j) ∧ (∀ c, 10 ≤ c → c ≤ 15 → ∀ j, j < 6 → M' c j = M c j) ∧ (∀ c, 16 ≤ c → c ≤ 18 → ∀ j, j < 4 → M' c j = M c j) ∧ ∀ i, i ≤ q → M' 19 i = M 19 i
theorem hEq.rf {q : Nat} {M : hc_Mem} : hEq q M M := ⟨fun _ _ => rfl, fun _ _ _ _ _ => rfl, fun _ _ _ _ _ => rfl, fun _ _ => rfl⟩
theorem hEq.of {q : Nat} {M M' : hc_Mem} (h : ∀ c, 9 ≤ c → c ≤ 19 → M' c = M c) : hEq q M M' := ⟨fun j _ => by rw [h 9 (by decide) (by decide)], fun c a b j _ => by rw [h c (by omega) (by omega)], fun c a b j _ => by rw [h c (by omega) (by omega)], fun i _ => by rw [h 19 (by decide) (by decide)]⟩
theorem hEq.tr {q : Nat} {M M' M2 : hc_Mem} (h : hEq q M M') (k : hEq q M' M2) : hEq q M M2 := ⟨fun j a => (k.1 j a).trans (h.1 j a), fun c a b j d => (k.2.1 c a b j d).trans (h.2.1 c a b j d), fun c a b j d => (k.2.2.1 c a b j d).trans (h.2.2.1 c a b j d), fun i a => (k.2.2.2 i a).trans (h.2.2.2 i a)⟩
theorem hEq.sy {q : Nat} {M M' : hc_Mem} (h : hEq q M M') : hEq q M' M := ⟨fun j a => (h.1 j a).symm, fun c a b j d => (h.2.1 c a b j d).symm, fun c a b j d => (h.2.2.1 c a b j d).symm, fun i a => (h.2.2.2 i a).symm⟩
theorem HRe.c {M M' : hc_Mem} {f : Nat → Int32} {e q : Nat} (h : HRe M f e) (k : hEq q M M') (he : e < 6) : HRe M' f e := by
  unfold HRe at h ⊢
  rw [k.1 4 (by decide), k.2.1 10 (by decide) (by decide) e he, k.2.1 11 (by decide) (by decide) e he, k.2.1 12 (by decide) (by decide) e he, k.2.1 13 (by decide) (by decide) e he, k.2.1 14 (by decide) (by decide) e he, k.2.1 15 (by decide) (by decide) e he]
  exact h
theorem HRd.c {M M' : hc_Mem} {f : Nat → Int32} {x q : Nat} (h : HRd M f q x) (k : hEq q M M') (hx : x < 4) : HRd M' f q x := by
  obtain ⟨a1, a2, a3, b, n, u, b1, b2, b3, b4, b5, b6, b7, b8, b9⟩ := h
  unfold HRd
  rw [k.2.2.1 16 (by decide) (by decide) x hx, k.2.2.1 17 (by decide) (by decide) x hx, k.2.2.1 18 (by decide) (by decide) x hx]
  refine ⟨a1, a2, a3, b, n, u, b1, b2, b3, b4, b5, b6, b7, ?_, ?_⟩
  · rw [b8]
    split
    · rename_i hb; rw [k.2.2.2 b hb]
    · rfl
  · rw [b9, hDn_c q k.2.2.2]
theorem HR.c {E D q : Nat} {M M' : hc_Mem} {f : Nat → Int32} (h : HR E D q M f) (k : hEq q M M') : HR E D q M' f := by
  have hl := h.lim
  refine ⟨h.lim, ?_, ?_, ?_, ?_, ?_, ?_, ?_, fun e he => (h.es e he).c k (by omega), fun x hx => (h.ds x hx).c k (by omega), ?_⟩
  · rw [k.1 0 (by decide)]; exact h.st
  · rw [k.1 1 (by decide)]; exact h.wo
  · rw [k.1 2 (by decide)]; exact h.qu
  · rw [k.1 3 (by decide), k.2.2.2 q (Nat.le_refl _)]; exact h.pa
  · rw [k.1 5 (by decide)]; exact h.ea
  · rw [k.1 6 (by decide)]; exact h.do
  · rw [k.1 4 (by decide)]; exact h.hu
  · obtain ⟨p, p0, p1, p2⟩ := h.gp
    exact ⟨p, p0, fun i hi => by rw [k.2.2.2 i hi]; exact p1 i hi, p2⟩
theorem HR.ag {E D q : Nat} {M : hc_Mem} {f g : Nat → Int32} (h : HR E D q M f) (k : ∀ j, j < 68 → g j = f j) : HR E D q M g := by
  have hl := h.lim
  refine ⟨h.lim, ?_, ?_, ?_, ?_, ?_, ?_, h.hu, fun e he => ?_, fun x hx => ?_, h.gp⟩
  · rw [k 0 (by decide)]; exact h.st
  · rw [k 1 (by decide)]; exact h.wo
  · rw [k 2 (by decide)]; exact h.qu
  · rw [k 3 (by decide)]; exact h.pa
  · rw [k 4 (by decide)]; exact h.ea
  · rw [k 5 (by decide)]; exact h.do
  · unfold HRe
    rw [k _ (by omega), k _ (by omega), k _ (by omega), k _ (by omega), k _ (by omega), k _ (by omega), k _ (by omega)]
    exact h.es e he
  · unfold HRd
    rw [k _ (by omega), k _ (by omega), k _ (by omega), k _ (by omega), k _ (by omega)]
    exact h.ds x hx
/-! who attends; what it goes -/
theorem att_in {M : hc_Mem} {E e : Nat} (hE : E ≤ 6) (he : e < E) : hIn (hAtt M E) (nI e) ↔ M 12 e = 0 ∧ ¬ hIn (M 9 4) (nI e) := by
  unfold hAtt
  rw [hIn_and (by omega), hIn_not (by omega), icr_mk, hMk_in E (by omega) e (by omega)]
  exact ⟨fun w => ⟨w.1.2, w.2⟩, fun w => ⟨⟨he, w.1⟩, w.2⟩⟩
theorem HR.mt {E D q : Nat} {M : hc_Mem} {f : Nat → Int32} (h : HR E D q M f) : hMt M f E (hAtt M E) := by
  have hl := h.lim
  refine ⟨h.wo.1, fun e he => ?_⟩
  obtain ⟨a1, a2, a3, a4, a5, a6, a7, a8, a9⟩ := h.es e he
  refine ⟨a1, a8, a2, a4, a5, ?_⟩
  rw [att_in hl.1 he, a3, a6, hb_z]
theorem HR.go {E D q : Nat} {M : hc_Mem} {f : Nat → Int32} (h : HR E D q M f) : rGo f E = hPar M E (hAtt M E) (M 9 2) := by
  rw [rGo_q, rGq_eq h.mt h.lim.1, h.qu.1, h.qu.2]
def hRg (M : hc_Mem) (E : Nat) : Prop := (∃ w, w ≤ 12 ∧ M 9 1 = nI w) ∧ ∀ e, e < E → ∃ v, v ≤ 12 ∧ M 11 e = nI v
theorem gift_nI {M : hc_Mem} {e v w : Nat} (hv : v ≤ 12) (h1 : M 11 e = nI v) (hw : w ≤ 12) (h2 : M 9 1 = nI w) : ∃ g, g ≤ 12 ∧ hGift M e = nI g := by
  have hl : ∃ g, g ≤ 12 ∧ hLeft M e = nI g := by
    unfold hLeft
    rw [h1, h2]
    split
    · exact ⟨0, by omega, rfl⟩
    · rename_i hn
      have : w ≤ v := by
        rcases Nat.lt_or_ge v w with k | k
        · exact absurd (nI_le (by omega) (by omega)) hn
        · exact k
      exact ⟨v - w, by omega, pk_sub this⟩
  obtain ⟨g, hg, eg⟩ := hl
  unfold hGift
  rw [eg, show (2 : Int32) = nI 2 from rfl, pk_div (by omega) (by decide) (by decide)]
  split
  · exact ⟨g, hg, rfl⟩
  split
  · exact ⟨g, hg, rfl⟩
  split
  · exact ⟨g / 2, by omega, rfl⟩
  split
  · split
    · exact ⟨g / 2, by omega, rfl⟩
    · exact ⟨3, by omega, rfl⟩
  · exact ⟨0, by omega, rfl⟩
theorem par2_nI {M : hc_Mem} {E : Nat} (h : hRg M E) (s q : Int32) : ∀ k, k ≤ E → ∃ a b, hPO M s q k = nI a ∧ hPW M s q k = nI b ∧ a + b ≤ 12 * k := by
  intro k
  induction k with
  | zero => intro _; exact ⟨0, 0, rfl, rfl, by omega⟩
  | succ k ih =>
    intro hk
    obtain ⟨a, b, ea, eb, hab⟩ := ih (by omega)
    obtain ⟨⟨w, hw, ew⟩, hv⟩ := h
    obtain ⟨v, hv, ev⟩ := hv k (by omega)
    obtain ⟨g, hg, eg⟩ := gift_nI hv ev hw ew
    unfold hPO hPW
    rw [ea, eb, eg, nI_add, nI_add]
    by_cases c1 : hIn s (nI k) ∧ hTime M k q ∧ ¬ M 10 k = 2
    · rw [if_pos c1, if_neg (fun w => c1.2.2 w.2.2)]
      exact ⟨a + g, b, rfl, rfl, by omega⟩
    · rw [if_neg c1]
      split
      · exact ⟨a, b + g, rfl, rfl, by omega⟩
      · exact ⟨a, b, rfl, rfl, by omega⟩
theorem par_nI {M : hc_Mem} {E : Nat} (h : hRg M E) (hE : E ≤ 6) (s q : Int32) : ∃ g, g ≤ 72 ∧ hPar M E s q = nI g := by
  obtain ⟨a, b, ea, eb, hab⟩ := par2_nI h s q E (Nat.le_refl _)
  unfold hPar
  rw [ea, eb, nI_add]
  split
  · exact ⟨a + b, by omega, rfl⟩
  · exact ⟨a, by omega, rfl⟩
theorem HR.rg {E D q : Nat} {M : hc_Mem} {f : Nat → Int32} (h : HR E D q M f) : hRg M E := ⟨h.wo.2, fun e he => (h.es e he).2.2.2.2.2.2.2.2.1⟩
/-! A QUARTER passes -/
theorem rP3_hi {f : Nat → Int32} {j : Nat} : ∀ X, 48 + 5 * X ≤ j → rP3 f X j = f j := by
  intro X
  induction X with
  | zero => intro _; rfl
  | succ X ih =>
    intro h
    show upd (upd (rP3 f X) (48 + 5 * X + 4) _) (48 + 5 * X + 3) _ j = f j
    rw [upd_ne (by omega), upd_ne (by omega)]
    exact ih (by omega)
theorem rP3_at {f : Nat → Int32} {x : Nat} : ∀ X, x < X → rP3 f X (48 + 5 * x + 4) = (if rIsD f x then f 2 else f (48 + 5 * x + 4)) ∧ rP3 f X (48 + 5 * x + 3) = (if f (48 + 5 * x + 0) = f 2 then f 3 else f (48 + 5 * x + 3)) := by
  intro X
  induction X with
  | zero => intro h; omega
  | succ X ih =>
    intro h
    rcases Nat.lt_or_ge x X with q | q
    · obtain ⟨i1, i2⟩ := ih q
      refine ⟨?_, ?_⟩
      · show upd (upd (rP3 f X) (48 + 5 * X + 4) _) (48 + 5 * X + 3) _ (48 + 5 * x + 4) = _
        rw [upd_ne (by omega), upd_ne (by omega)]
        exact i1
      · show upd (upd (rP3 f X) (48 + 5 * X + 4) _) (48 + 5 * X + 3) _ (48 + 5 * x + 3) = _
        rw [upd_ne (by omega), upd_ne (by omega)]
        exact i2
    · have : x = X := by omega
      subst this
      have h2 : rP3 f x 2 = f 2 := rP3_o (by decide) x
      have h3 : rP3 f x 3 = f 3 := rP3_o (by decide) x
      have hh : ∀ i, rP3 f x (48 + 5 * x + i) = f (48 + 5 * x + i) := fun i => rP3_hi x (by omega)
      refine ⟨?_, ?_⟩
      · show upd (rP4 (rP3 f x) x) (48 + 5 * x + 3) _ (48 + 5 * x + 4) = _
        rw [upd_ne (by omega)]
        unfold rP4
        rw [upd_eq]
        simp only [rIsD, hh, h2, h3]
      · show upd (rP4 (rP3 f x) x) (48 + 5 * x + 3) (if rP4 (rP3 f x) x (48 + 5 * x + 0) = rP4 (rP3 f x) x 2 then rP4 (rP3 f x) x 3 else rP4 (rP3 f x) x (48 + 5 * x + 3)) (48 + 5 * x + 3) = _
        rw [upd_eq]
        unfold rP4
        rw [upd_ne (by omega), upd_ne (by omega), upd_ne (by omega), upd_ne (by omega), hh, hh, h2, h3]
