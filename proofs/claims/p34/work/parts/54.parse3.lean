theorem upd_eq {f : Nat → Int32} {k : Nat} {x : Int32} : upd f k x k = x := if_pos rfl
theorem upd_ne {f : Nat → Int32} {j k : Nat} {x : Int32} (h : j ≠ k) : upd f k x j = f j := if_neg h
def gEar (ki nu g : Nat → Int32) (e : Nat) : Prop := g (6 + 7 * e) = ki e ∧ (∃ k, 1 ≤ k ∧ k ≤ 5 ∧ ki e = nI k) ∧ g (6 + 7 * e + 1) = nu (1 + 4 * e + 0) ∧ rg (nu (1 + 4 * e + 0)) 1 12 ∧ g (6 + 7 * e + 2) = nu (1 + 4 * e + 1) ∧ rg (nu (1 + 4 * e + 1)) 0 3 ∧ g (6 + 7 * e + 3) = nu (1 + 4 * e + 2) ∧ rg (nu (1 + 4 * e + 2)) 0 7 ∧ g (6 + 7 * e + 4) = nu (1 + 4 * e + 3) ∧ rg (nu (1 + 4 * e + 3)) 1 8 ∧ g (6 + 7 * e + 5) = 0 ∧ g (6 + 7 * e + 6) = 0
def gDoi (nu g : Nat → Int32) (E x : Nat) : Prop := g (48 + 5 * x + 0) = nu (1 + 4 * E + 3 * x + 0) ∧ rg (nu (1 + 4 * E + 3 * x + 0)) 0 99 ∧ g (48 + 5 * x + 1) = nu (1 + 4 * E + 3 * x + 1) ∧ rg (nu (1 + 4 * E + 3 * x + 1)) 1 40 ∧ g (48 + 5 * x + 2) = nu (1 + 4 * E + 3 * x + 2) ∧ rg (nu (1 + 4 * E + 3 * x + 2)) 0 99 ∧ g (48 + 5 * x + 3) = (if nu (1 + 4 * E + 3 * x + 0) = 0 then 0 else -1000000) ∧ g (48 + 5 * x + 4) = -1000000
def gTop (nu g : Nat → Int32) (c : Nat) : Prop := g 0 = 0 ∧ g 1 = nu 0 ∧ rg (nu 0) 0 12 ∧ g 2 = 0 ∧ g 3 = 0 ∧ g 4 = nI c
def LRe (T : Nat → Int32) (n : Nat) (k0 : Int32) (st : cSt) (c : Nat) (g : Nat → Int32) (r : rPs) : Prop := PR T n k0 st r ∧ (st.1 = 0 → ∃ a ki nu, st = (0, a, c, 0, 1 + 4 * c, ki, nu) ∧ c ≤ 6 ∧ gTop nu g c ∧ g 5 = 0 ∧ (∀ e, e < c → gEar ki nu g e) ∧ ∀ j, 6 + 7 * c ≤ j → j < 68 → g j = 0)
def LRd (T : Nat → Int32) (n : Nat) (k0 : Int32) (st : cSt) (E d : Nat) (g : Nat → Int32) (r : rPs) : Prop := PR T n k0 st r ∧ (st.1 = 0 → ∃ a ki nu, st = (0, a, E, d, 1 + 4 * E + 3 * d, ki, nu) ∧ E ≤ 6 ∧ d ≤ 4 ∧ gTop nu g E ∧ g 5 = nI d ∧ (∀ e, e < E → gEar ki nu g e) ∧ ∀ x, x < d → gDoi nu g E x)
theorem gEar_c {ki nu g ki' nu' g' : Nat → Int32} {e : Nat} (h : gEar ki nu g e) (h1 : ki' e = ki e) (h2 : ∀ i, i < 4 → nu' (1 + 4 * e + i) = nu (1 + 4 * e + i)) (h3 : ∀ i, i < 7 → g' (6 + 7 * e + i) = g (6 + 7 * e + i)) : gEar ki' nu' g' e := by
  unfold gEar at h ⊢
  rw [h1, h2 0 (by decide), h2 1 (by decide), h2 2 (by decide), h2 3 (by decide), show g' (6 + 7 * e) = g (6 + 7 * e) from h3 0 (by decide), h3 1 (by decide), h3 2 (by decide), h3 3 (by decide), h3 4 (by decide), h3 5 (by decide), h3 6 (by decide)]
  exact h
theorem gDoi_c {nu g nu' g' : Nat → Int32} {E x : Nat} (h : gDoi nu g E x) (h2 : ∀ i, i < 3 → nu' (1 + 4 * E + 3 * x + i) = nu (1 + 4 * E + 3 * x + i)) (h3 : ∀ i, i < 5 → g' (48 + 5 * x + i) = g (48 + 5 * x + i)) : gDoi nu' g' E x := by
  unfold gDoi at h ⊢
  rw [h2 0 (by decide), h2 1 (by decide), h2 2 (by decide), h3 0 (by decide), h3 1 (by decide), h3 2 (by decide), h3 3 (by decide), h3 4 (by decide)]
  exact h
theorem rE7_at {T : Nat → Int32} {n c : Nat} {r : rPs} {g : Nat → Int32} (hc : c < 6) : rE7 T n c r g (6 + 7 * c) = rKo r.2.2.2.2.2 ∧ rE7 T n c r g (6 + 7 * c + 1) = (rE2 T n c r).1 ∧ rE7 T n c r g (6 + 7 * c + 2) = (rE3 T n c r).1 ∧ rE7 T n c r g (6 + 7 * c + 3) = (rE4 T n c r).1 ∧ rE7 T n c r g (6 + 7 * c + 4) = (rE5 T n c r).1 := by
  unfold rE7
  have e : rB7 c = 6 + 7 * c := by unfold rB7; rw [if_pos hc]
  rw [e]
  generalize (rE2 T n c r).1 = v1
  generalize (rE3 T n c r).1 = v2
  generalize (rE4 T n c r).1 = v3
  generalize (rE5 T n c r).1 = v4
  refine ⟨?_, ?_, ?_, ?_, ?_⟩
  · rw [upd_ne (by omega), upd_ne (by omega), upd_ne (by omega), upd_ne (by omega), upd_eq]
  · rw [upd_ne (by omega), upd_ne (by omega), upd_ne (by omega), upd_eq]
  · rw [upd_ne (by omega), upd_ne (by omega), upd_eq]
  · rw [upd_ne (by omega), upd_eq]
  · rw [upd_eq]
theorem rD7_at {T : Nat → Int32} {n c : Nat} {r : rPs} {g : Nat → Int32} (hc : c < 4) : rD7 T n c r g (48 + 5 * c + 0) = (rD2 T n c r).1 ∧ rD7 T n c r g (48 + 5 * c + 1) = (rD3 T n c r).1 ∧ rD7 T n c r g (48 + 5 * c + 2) = (rD4 T n c r).1 ∧ rD7 T n c r g (48 + 5 * c + 3) = (if (rD2 T n c r).1 = 0 then 0 else -1000000) ∧ rD7 T n c r g (48 + 5 * c + 4) = -1000000 := by
  unfold rD7
  have e : rB5 c = 48 + 5 * c := by unfold rB5; rw [if_pos hc]
  rw [e]
  generalize (rD2 T n c r).1 = v1
  generalize (rD3 T n c r).1 = v2
  generalize (rD4 T n c r).1 = v3
  refine ⟨?_, ?_, ?_, ?_, ?_⟩
  · rw [upd_ne (by omega), upd_ne (by omega), upd_ne (by omega), upd_ne (by omega), upd_eq]
  · rw [upd_ne (by omega), upd_ne (by omega), upd_ne (by omega), upd_eq]
  · rw [upd_ne (by omega), upd_ne (by omega), upd_eq]
  · rw [upd_ne (by omega), upd_eq]
  · rw [upd_eq]
theorem lre_step {B T : Nat → Int32} {n c : Nat} {k0 : Int32} {st : cSt} {g : Nat → Int32} {r : rPs} (h : tOk B T n) (hR : LRe T n k0 st c g r) (hs : st.1 = 0) (hL : ¬ cLet (cByte B n st) = 0) :
    LRe T n k0 (cEar B n (cLet (cByte B n st)) st) (if ¬ 0 ≤ (rE6 T n c r).2.1 then c + 1 else c) (rE8 T n c r g) (rE6 T n c r) := by
  obtain ⟨hP, hD⟩ := hR
  obtain ⟨a, ki, nu, e, hc6, ht, h5, hE, hz⟩ := hD hs
  subst e
  obtain ⟨p1, p2⟩ := pr_ear h hP hc6 hL
  refine ⟨p1, fun w => ?_⟩
  have hw : ¬ 0 ≤ (rE6 T n c r).2.1 := by
    rw [p1.wl w]
    exact well_fp
  obtain ⟨x1, x2, x3, x4, x5, x6, x7⟩ := p2 w
  unfold rE8
  rw [if_pos hw, if_pos hw]
  have hb7 : rB7 c = 6 + 7 * c := by unfold rB7; rw [if_pos x1]
  have a7 := rE7_at (T := T) (n := n) (r := r) (g := g) x1
  have o7 : ∀ j, j < 6 + 7 * c ∨ 6 + 7 * c + 5 ≤ j → rE7 T n c r g j = g j := fun j hj => rE7_o (by rw [hb7]; exact hj)
  generalize rE7 T n c r g = g7 at a7 o7 ⊢
  generalize cEar B n (cLet (cByte B n (0, a, c, 0, 1 + 4 * c, ki, nu))) (0, a, c, 0, 1 + 4 * c, ki, nu) = st' at p1 w x2 ⊢
  generalize (rE2 T n c r).1 = v1 at x2 x3 a7
  generalize (rE3 T n c r).1 = v2 at x2 x4 a7
  generalize (rE4 T n c r).1 = v3 at x2 x5 a7
  generalize (rE5 T n c r).1 = v4 at x2 x6 a7
  obtain ⟨fa, a', rs⟩ := st'
  have w : fa = 0 := w
  have x2 : rs = _ := x2
  subst w
  subst x2
  refine ⟨a', _, _, rfl, by omega, ?_, ?_, ?_, ?_⟩
  · unfold gTop at ht ⊢
    rw [upd_ne (by omega), upd_ne (by omega), upd_ne (by omega), upd_ne (by omega), upd_eq, upd_ne (by omega), upd_ne (by omega), upd_ne (by omega), upd_ne (by omega), o7 0 (by omega), o7 1 (by omega), o7 2 (by omega), o7 3 (by omega), o7 4 (by omega)]
    refine ⟨ht.1, ht.2.1, ht.2.2.1, ht.2.2.2.1, ht.2.2.2.2.1, ?_⟩
    rw [ht.2.2.2.2.2]
    exact nI_1 c
  · rw [upd_ne (by omega), o7 5 (by omega)]
    exact h5
  · intro e he
    rcases Nat.lt_or_ge e c with q | q
    · refine gEar_c (hE e q) (upd_ne (by omega)) (fun i hi => ?_) (fun i hi => ?_)
      · rw [upd_ne (by omega), upd_ne (by omega), upd_ne (by omega), upd_ne (by omega)]
      · rw [upd_ne (by omega), o7 _ (by omega)]
    · have : e = c := by omega
      subst this
      unfold gEar
      obtain ⟨b1, b2, b3, b4, b5⟩ := a7
      rw [upd_ne (j := 6 + 7 * e) (by omega), upd_ne (j := 6 + 7 * e + 1) (by omega), upd_ne (j := 6 + 7 * e + 2) (by omega), upd_ne (j := 6 + 7 * e + 3) (by omega), upd_ne (j := 6 + 7 * e + 4) (by omega), upd_ne (j := 6 + 7 * e + 5) (by omega), upd_ne (j := 6 + 7 * e + 6) (by omega), b1, b2, b3, b4, b5, o7 _ (by omega), o7 _ (by omega), hz _ (by omega) (by omega), hz _ (by omega) (by omega), upd_eq]
      have n0 : upd (upd (upd (upd nu (1 + 4 * e + 0) v1) (1 + 4 * e + 1) v2) (1 + 4 * e + 2) v3) (1 + 4 * e + 3) v4 (1 + 4 * e + 0) = v1 := by
        rw [upd_ne (by omega), upd_ne (by omega), upd_ne (by omega), upd_eq]
      have n1 : upd (upd (upd (upd nu (1 + 4 * e + 0) v1) (1 + 4 * e + 1) v2) (1 + 4 * e + 2) v3) (1 + 4 * e + 3) v4 (1 + 4 * e + 1) = v2 := by
        rw [upd_ne (by omega), upd_ne (by omega), upd_eq]
      have n2 : upd (upd (upd (upd nu (1 + 4 * e + 0) v1) (1 + 4 * e + 1) v2) (1 + 4 * e + 2) v3) (1 + 4 * e + 3) v4 (1 + 4 * e + 2) = v3 := by
        rw [upd_ne (by omega), upd_eq]
      have n3 : upd (upd (upd (upd nu (1 + 4 * e + 0) v1) (1 + 4 * e + 1) v2) (1 + 4 * e + 2) v3) (1 + 4 * e + 3) v4 (1 + 4 * e + 3) = v4 := upd_eq
      rw [n0, n1, n2, n3]
      exact ⟨rfl, x7, rfl, x3, rfl, x4, rfl, x5, rfl, x6, rfl, rfl⟩
  · intro j hj hj2
    rw [upd_ne (by omega), o7 _ (by omega)]
    exact hz j (by omega) hj2
theorem lrd_step {B T : Nat → Int32} {n E d : Nat} {k0 : Int32} {st : cSt} {g : Nat → Int32} {r : rPs} (h : tOk B T n) (hR : LRd T n k0 st E d g r) (hs : st.1 = 0) (hL : cByte B n st = 120) :
    LRd T n k0 (cDoi B n st) E (if ¬ 0 ≤ (rD5 T n d r).2.1 then d + 1 else d) (rD8 T n d r g) (rD5 T n d r) := by
  obtain ⟨hP, hD⟩ := hR
  obtain ⟨a, ki, nu, e, hE6, hd4, ht, h5, hE, hX⟩ := hD hs
  subst e
  obtain ⟨p1, p2⟩ := pr_doi h hP hE6 hd4 hL
  refine ⟨p1, fun w => ?_⟩
  have hw : ¬ 0 ≤ (rD5 T n d r).2.1 := by
    rw [p1.wl w]
    exact well_fp
  obtain ⟨x1, x2, x3, x4, x5⟩ := p2 w
  unfold rD8
  rw [if_pos hw, if_pos hw]
  have hb7 : rB5 d = 48 + 5 * d := by unfold rB5; rw [if_pos x1]
  have a7 := rD7_at (T := T) (n := n) (r := r) (g := g) x1
  have o7 : ∀ j, j < 48 + 5 * d ∨ 48 + 5 * d + 5 ≤ j → rD7 T n d r g j = g j := fun j hj => rD7_o (by rw [hb7]; exact hj)
  generalize rD7 T n d r g = g7 at a7 o7 ⊢
  generalize cDoi B n (0, a, E, d, 1 + 4 * E + 3 * d, ki, nu) = st' at p1 w x2 ⊢
  generalize (rD2 T n d r).1 = v1 at x2 x3 a7
  generalize (rD3 T n d r).1 = v2 at x2 x4 a7
  generalize (rD4 T n d r).1 = v3 at x2 x5 a7
  obtain ⟨fa, a', rs⟩ := st'
  have w : fa = 0 := w
  have x2 : rs = _ := x2
  subst w
  subst x2
  refine ⟨a', _, _, rfl, hE6, by omega, ?_, ?_, ?_, ?_⟩
  · unfold gTop at ht ⊢
    rw [upd_ne (j := 0) (by omega), upd_ne (j := 1) (by omega), upd_ne (j := 2) (by omega), upd_ne (j := 3) (by omega), upd_ne (j := 4) (by omega), o7 0 (by omega), o7 1 (by omega), o7 2 (by omega), o7 3 (by omega), o7 4 (by omega), upd_ne (by omega), upd_ne (by omega), upd_ne (by omega)]
    exact ht
  · rw [upd_eq, o7 5 (by omega), h5]
    exact nI_1 d
  · intro e he
    refine gEar_c (hE e he) rfl (fun i hi => ?_) (fun i hi => ?_)
    · rw [upd_ne (by omega), upd_ne (by omega), upd_ne (by omega)]
    · rw [upd_ne (by omega), o7 _ (by omega)]
  · intro x hx
    rcases Nat.lt_or_ge x d with q | q
    · refine gDoi_c (hX x q) (fun i hi => ?_) (fun i hi => ?_)
      · rw [upd_ne (by omega), upd_ne (by omega), upd_ne (by omega)]
      · rw [upd_ne (by omega), o7 _ (by omega)]
    · have : x = d := by omega
      subst this
      unfold gDoi
      obtain ⟨b1, b2, b3, b4, b5⟩ := a7
      rw [upd_ne (j := 48 + 5 * x + 0) (by omega), upd_ne (j := 48 + 5 * x + 1) (by omega), upd_ne (j := 48 + 5 * x + 2) (by omega), upd_ne (j := 48 + 5 * x + 3) (by omega), upd_ne (j := 48 + 5 * x + 4) (by omega), b1, b2, b3, b4, b5]
      have n0 : upd (upd (upd nu (1 + 4 * E + 3 * x + 0) v1) (1 + 4 * E + 3 * x + 1) v2) (1 + 4 * E + 3 * x + 2) v3 (1 + 4 * E + 3 * x + 0) = v1 := by
        rw [upd_ne (by omega), upd_ne (by omega), upd_eq]
      have n1 : upd (upd (upd nu (1 + 4 * E + 3 * x + 0) v1) (1 + 4 * E + 3 * x + 1) v2) (1 + 4 * E + 3 * x + 2) v3 (1 + 4 * E + 3 * x + 1) = v2 := by
        rw [upd_ne (by omega), upd_eq]
      have n2 : upd (upd (upd nu (1 + 4 * E + 3 * x + 0) v1) (1 + 4 * E + 3 * x + 1) v2) (1 + 4 * E + 3 * x + 2) v3 (1 + 4 * E + 3 * x + 2) = v3 := upd_eq
      rw [n0, n1, n2]
      exact ⟨rfl, x3, rfl, x4, rfl, x5, rfl, rfl⟩
theorem lre_loop {B T : Nat → Int32} {n : Nat} {k0 : Int32} (h : tOk B T n) : ∀ (t : Nat) (st : cSt) (c : Nat) (g : Nat → Int32) (r : rPs), LRe T n k0 st c g r → (¬ st.1 = 0 ∨ 7 ≤ c + t) →
    LRe T n k0 (cEars B n t st) (rEs T n (t + 1) c g r).1 (rEs T n (t + 1) c g r).2.1 (rEs T n (t + 1) c g r).2.2 := by
  have hend : ∀ (t : Nat) (c : Nat) (g : Nat → Int32) (r : rPs), ¬ rCe r → rEs T n (t + 1) c g r = (c, g, r) := by
    intro t c g r hc
    unfold rEs
    rw [if_neg hc]
  intro t
  induction t with
  | zero =>
    intro st c g r hR ht
    have hs : ¬ st.1 = 0 := by
      rcases ht with q | q
      · exact q
      · intro w
        obtain ⟨a, ki, nu, e, hc6, _⟩ := hR.2 w
        omega
    rw [hend 0 c g r (fun w => w.1 (hR.1.fp h.1 hs))]
    exact hR
  | succ t ih =>
    intro st c g r hR ht
    by_cases hs : st.1 = 0
    · have hiff : ¬ cLet (cByte B n st) = 0 ↔ rCe r := by
        rw [hR.1.wl hs]
        obtain ⟨fa, a, rs⟩ := st
        have hs : fa = 0 := hs
        subst hs
        exact ce_iff h
      unfold cEars
      by_cases hL : cLet (cByte B n st) = 0
      · rw [if_pos hL, hend (t + 1) c g r (fun w => hiff.mpr w hL)]
        exact hR
      · rw [if_neg hL]
        have e : rEs T n (t + 1 + 1) c g r = rEs T n (t + 1) (if ¬ 0 ≤ (rE6 T n c r).2.1 then c + 1 else c) (rE8 T n c r g) (rE6 T n c r) := by
          rw [rEs, if_pos (hiff.mp hL)]
        rw [e]
        have hst := lre_step h hR hs hL
        refine ih _ _ _ _ hst ?_
        by_cases hw : (cEar B n (cLet (cByte B n st)) st).1 = 0
        · right
          have hfp : ¬ 0 ≤ (rE6 T n c r).2.1 := by
            rw [hst.1.wl hw]
            exact well_fp
          rw [if_pos hfp]
          rcases ht with q | q
          · exact absurd hs q
          · omega
        · exact Or.inl hw
    · unfold cEars
      rw [cByte_f hs, if_pos (by decide), hend (t + 1) c g r (fun w => w.1 (hR.1.fp h.1 hs))]
      exact hR
theorem lrd_loop {B T : Nat → Int32} {n E : Nat} {k0 : Int32} (h : tOk B T n) : ∀ (t : Nat) (st : cSt) (d : Nat) (g : Nat → Int32) (r : rPs), LRd T n k0 st E d g r → (¬ st.1 = 0 ∨ 5 ≤ d + t) →
    LRd T n k0 (cDois B n t st) E (rDs T n (t + 1) d g r).1 (rDs T n (t + 1) d g r).2.1 (rDs T n (t + 1) d g r).2.2 := by
  have hend : ∀ (t : Nat) (c : Nat) (g : Nat → Int32) (r : rPs), ¬ rCd r → rDs T n (t + 1) c g r = (c, g, r) := by
    intro t c g r hc
    unfold rDs
    rw [if_neg hc]
  intro t
  induction t with
  | zero =>
    intro st c g r hR ht
    have hs : ¬ st.1 = 0 := by
      rcases ht with q | q
      · exact q
      · intro w
        obtain ⟨a, ki, nu, e, hc6, hd4, _⟩ := hR.2 w
        omega
    rw [hend 0 c g r (fun w => w.1 (hR.1.fp h.1 hs))]
    exact hR
  | succ t ih =>
    intro st c g r hR ht
    by_cases hs : st.1 = 0
    · have hiff : cByte B n st = 120 ↔ rCd r := by
        rw [hR.1.wl hs]
        obtain ⟨fa, a, rs⟩ := st
        have hs : fa = 0 := hs
        subst hs
        rw [let_iff h (show isLt 120 from Or.inr (Or.inl rfl))]
        exact ⟨fun w => ⟨well_fp, w⟩, fun w => w.2⟩
      unfold cDois
      by_cases hL : cByte B n st = 120
      · rw [if_pos hL]
        have e : rDs T n (t + 1 + 1) c g r = rDs T n (t + 1) (if ¬ 0 ≤ (rD5 T n c r).2.1 then c + 1 else c) (rD8 T n c r g) (rD5 T n c r) := by
          rw [rDs, if_pos (hiff.mp hL)]
        rw [e]
        have hst := lrd_step h hR hs hL
        refine ih _ _ _ _ hst ?_
        by_cases hw : (cDoi B n st).1 = 0
        · right
          have hfp : ¬ 0 ≤ (rD5 T n c r).2.1 := by
            rw [hst.1.wl hw]
            exact well_fp
          rw [if_pos hfp]
          rcases ht with q | q
          · exact absurd hs q
          · omega
        · exact Or.inl hw
      · rw [if_neg hL, hend (t + 1) c g r (fun w => hL (hiff.mpr w))]
        exact hR
    · unfold cDois
      rw [cByte_f hs, if_neg (by decide), hend (t + 1) c g r (fun w => w.1 (hR.1.fp h.1 hs))]
      exact hR
theorem tok_0 {T B : Nat → Int32} {n a : Nat} (h : tOk B T n) : (rTk0 T n a).2.1 = 0 ↔ n ≤ a := by
  rcases Nat.lt_or_ge a n with q | q
  · refine ⟨fun w => ?_, fun w => by omega⟩
    exfalso
    revert w
    unfold rTk0
    by_cases hF : rIsF (rBt T n a)
    · rw [if_pos hF]
      show (if 3 ≤ nI (rDg T n a (n - a) a 0).1 - nI a then (5 : Int32) else 2) = 0 → False
      split <;> decide
    · rw [if_neg hF]
      show rKd (rBt T n a) = 0 → False
      rw [rBt_in q]
      obtain ⟨b, hb, e⟩ := (h.2 a q).2
      rw [e]
      unfold rKd
      rw [if_pos (nI_pos' (by omega))]
      repeat' split
      all_goals decide
  · refine ⟨fun _ => q, fun _ => ?_⟩
    unfold rTk0
    rw [rBt_out q, if_neg isF_m1]
    show rKd (-1) = 0
    decide
theorem pr_end {B T : Nat → Int32} {n : Nat} {k0 : Int32} {st : cSt} {r : rPs} (h : tOk B T n) (hP : PR T n k0 st r) : PR T n k0 (cEnd n st) (rFin T n r) ∧ ((cEnd n st).1 = 0 → cEnd n st = st ∧ st.1 = 0) := by
  by_cases hs : st.1 = 0
  · have hr := hP.wl hs
    obtain ⟨fa, a, rs⟩ := st
    have hs : fa = 0 := hs
    have ha : a ≤ n := hP.1
    subst hs
    have hr : r = rWell T n k0 a := hr
    subst hr
    have k := tok_0 (a := a) h
    unfold rFin
    rcases Nat.lt_or_ge a n with q | q
    · have ec : cEnd n (0, a, rs) = (1, a, rs) := by
        unfold cEnd
        rw [if_pos (show (0 : Nat) = 0 ∧ a < n from ⟨rfl, q⟩)]
      rw [ec, if_pos (show ¬ 0 ≤ (rWell T n k0 a).2.1 ∧ ¬ (rWell T n k0 a).2.2.2.2.1 = 0 from ⟨well_fp, fun w => absurd (k.mp w) (by omega)⟩), take_no]
      exact ⟨⟨ha, Or.inr ⟨show 1 ≤ 1 by decide, show 1 ≤ 3 by decide, rfl, rfl⟩⟩, fun w => absurd (show 1 = 0 from w) (by decide)⟩
    · have ec : cEnd n (0, a, rs) = (0, a, rs) := by
        unfold cEnd
        rw [if_neg (show ¬ ((0 : Nat) = 0 ∧ a < n) from fun w => by omega)]
      rw [ec, if_neg (show ¬ (¬ 0 ≤ (rWell T n k0 a).2.1 ∧ ¬ (rWell T n k0 a).2.2.2.2.1 = 0) from fun w => w.2 (k.mpr q))]
      exact ⟨hP, fun _ => ⟨rfl, rfl⟩⟩
  · have ec : cEnd n st = st := by
      unfold cEnd
      rw [if_neg (fun w => hs w.1)]
    unfold rFin
    rw [ec, if_neg (fun w => w.1 (hP.fp h.1 hs))]
    exact ⟨hP, fun w => absurd w hs⟩
/-- both readers, over a whole tape -/
theorem read_eq {B T : Nat → Int32} {n s0 : Nat} {k0 x y : Int32} {ki0 nu0 g0 : Nat → Int32} (h : tOk B T n) (hg : ∀ j, j < 68 → g0 j = 0) :
    PR T n k0 (cHouse B n (0, 0, 0, 0, 0, ki0, nu0)) (rHr T n g0 (k0, -1, 0, s0, x, y)) ∧
    ((cHouse B n (0, 0, 0, 0, 0, ki0, nu0)).1 = 0 → ∃ a E D ki nu, cHouse B n (0, 0, 0, 0, 0, ki0, nu0) = (0, a, E, D, 1 + 4 * E + 3 * D, ki, nu) ∧ E ≤ 6 ∧ D ≤ 4 ∧ gTop nu (rHg T n g0 (k0, -1, 0, s0, x, y)) E ∧ rHg T n g0 (k0, -1, 0, s0, x, y) 5 = nI D ∧ (∀ e, e < E → gEar ki nu (rHg T n g0 (k0, -1, 0, s0, x, y)) e) ∧ ∀ x', x' < D → gDoi nu (rHg T n g0 (k0, -1, 0, s0, x, y)) E x') := by
  have hn := h.1
  unfold rHr rHg rHd2 rHe
  have eA : rAdv T n (k0, -1, 0, s0, x, y) = rWell T n k0 0 := rAdv_well
  obtain ⟨q1, hq1⟩ : ∃ q, q = rLaw T n (k0, -1, 0, s0, x, y) := ⟨_, rfl⟩
  obtain ⟨q2, hq2⟩ : ∃ q, q = rWo T n (k0, -1, 0, s0, x, y) := ⟨_, rfl⟩
  obtain ⟨q3, hq3⟩ : ∃ q, q = rWs T n (k0, -1, 0, s0, x, y) := ⟨_, rfl⟩
  have e1 : (rTk T n (hb ((rTk0 T n 0).2.1 = 1 ∧ (rTk0 T n 0).2.2 = 99)) 1 (rWell T n k0 0)).2 = q1 := by rw [hq1]; unfold rLaw; rw [eA]; rfl
  have e2 : rFg T n 0 12 q1 = q2 := by rw [hq2]; unfold rWo; rw [← hq1]
  have e3 : (rTk T n (hb (q2.2.2.2.2.2.1 = 4)) 1 q2.2).2 = q3 := by rw [hq3]; unfold rWs; rw [← hq2]
  rw [← hq2, ← hq3]
  have k := let_iff (B := B) (T := T) (n := n) (a := 0) (k := 99) (rs := (0, 0, 0, ki0, nu0)) h (Or.inl rfl)
  have S0 : ∃ st : cSt, cHouse B n (0, 0, 0, 0, 0, ki0, nu0) = cEnd n (cDois B n 5 (cEars B n 7 st)) ∧ LRe T n k0 st 0 (upd g0 1 q2.1) q3 := by
    unfold cHouse
    by_cases hc : cByte B n (0, 0, 0, 0, 0, ki0, nu0) = 99
    · have hw := k.mp hc
      have h0n : 0 < n := by
        rcases Nat.lt_or_ge 0 n with q | q
        · exact q
        · rw [cByte_out q] at hc; exact absurd hc (by decide)
      have htk : (rTk0 T n 0).1 = 0 + 1 := by
        rw [tok_letter h0n (Or.inl (by rw [cByte_in h h0n] at hc; exact hc))]
      rw [if_pos hc]
      rw [hb_t hw, take_yes (by decide), htk] at e1
      refine ⟨_, rfl, ?_⟩
      rw [cNums_s]
      have P1 : PR T n k0 (0, 0 + 1, 0, 0, 0, ki0, nu0) q1 := ⟨h0n, Or.inl ⟨rfl, e1.symm⟩⟩
      have p1 := pr_step (lo := 0) (hi := 12) h P1 (Or.inr ⟨rfl, rfl⟩) (fun _ => show 0 < 37 by decide)
      rw [e2, e3] at p1
      have hcs : cNums B n [0] [12] 0 (0 + 1) (cStep B n (([0] : List Int32).getD 0 0) (([12] : List Int32).getD 0 0) (if 0 = 0 then 59 else 44) (0, 0 + 1, 0, 0, 0, ki0, nu0)) = cStep B n 0 12 59 (0, 0 + 1, 0, 0, 0, ki0, nu0) := rfl
      show LRe T n k0 (cNums B n [0] [12] 0 (0 + 1) (cStep B n (([0] : List Int32).getD 0 0) (([12] : List Int32).getD 0 0) (if 0 = 0 then 59 else 44) (0, 0 + 1, 0, 0, 0, ki0, nu0))) 0 (upd g0 1 q2.1) q3
      rw [hcs]
      refine ⟨p1.1, fun w => ?_⟩
      obtain ⟨_, x2, x3⟩ := p1.2 w
      generalize cStep B n 0 12 59 (0, 0 + 1, 0, 0, 0, ki0, nu0) = st' at w x2 ⊢
      obtain ⟨fa, a', rs⟩ := st'
      have w : fa = 0 := w
      have x2 : rs = (0, 0, 0 + 1, ki0, upd nu0 0 q2.1) := x2
      subst w
      subst x2
      refine ⟨a', ki0, upd nu0 0 q2.1, rfl, by omega, ?_, ?_, fun e he => absurd he (by omega), fun j hj hj2 => ?_⟩
      · unfold gTop
        rw [upd_eq, upd_eq, upd_ne (by omega), upd_ne (by omega), upd_ne (by omega), upd_ne (by omega), hg 0 (by omega), hg 2 (by omega), hg 3 (by omega), hg 4 (by omega)]
        exact ⟨rfl, rfl, x3, rfl, rfl, rfl⟩
      · rw [upd_ne (by omega)]; exact hg 5 (by omega)
      · rw [upd_ne (by omega)]; exact hg j hj2
    · rw [if_neg hc]
      refine ⟨(1, 0, 0, 0, 0, ki0, nu0), ?_, ?_⟩
      · have ea : cEars B n 7 (1, 0, 0, 0, 0, ki0, nu0) = (1, 0, 0, 0, 0, ki0, nu0) := by
          unfold cEars
          rw [cByte_f (show ¬ (1 : Nat) = 0 by decide), if_pos (by decide)]
        have ed : cDois B n 5 (1, 0, 0, 0, 0, ki0, nu0) = (1, 0, 0, 0, 0, ki0, nu0) := by
          unfold cDois
          rw [cByte_f (show ¬ (1 : Nat) = 0 by decide), if_neg (by decide)]
        have ee : cEnd n (1, 0, 0, 0, 0, ki0, nu0) = (1, 0, 0, 0, 0, ki0, nu0) := by
          unfold cEnd
          rw [if_neg (show ¬ ((1 : Nat) = 0 ∧ _) from fun w => absurd w.1 (by decide))]
        rw [ea, ed, ee]
      · rw [hb_f (fun w => hc (k.mpr w)), take_no] at e1
        have f1 : 0 ≤ q1.2.1 := by rw [← e1]; exact nI_pos' (by decide)
        rw [rFg_fault f1] at e2
        subst e2
        rw [rTk_fault f1] at e3
        subst e3
        refine ⟨⟨Nat.zero_le _, Or.inr ⟨show 1 ≤ 1 by decide, show 1 ≤ 3 by decide, ?_, ?_⟩⟩, fun w => absurd (show 1 = 0 from w) (by decide)⟩
        · rw [← e1]; rfl
        · rw [← e1]
  obtain ⟨st, eS, hR⟩ := S0
  rw [eS]
  have L1 := lre_loop h 7 st 0 _ _ hR (Or.inr (by decide))
  generalize rEs T n (7 + 1) 0 (upd g0 1 q2.1) q3 = x4 at L1 ⊢
  generalize cEars B n 7 st = s4 at L1 ⊢
  have L2 : LRd T n k0 s4 x4.1 0 x4.2.1 x4.2.2 := ⟨L1.1, fun w => by
    obtain ⟨a, ki, nu, e, hc6, ht, h5, hE, _⟩ := L1.2 w
    exact ⟨a, ki, nu, e, hc6, by omega, ht, h5, hE, fun x hx => absurd hx (by omega)⟩⟩
  have L3 := lrd_loop h 5 s4 0 _ _ L2 (Or.inr (by decide))
  generalize rDs T n (5 + 1) 0 x4.2.1 x4.2.2 = x5 at L3 ⊢
  generalize cDois B n 5 s4 = s5 at L3 ⊢
  obtain ⟨p1, p2⟩ := pr_end h L3.1
  refine ⟨p1, fun w => ?_⟩
  obtain ⟨w1, w2⟩ := p2 w
  rw [w1]
  obtain ⟨a, ki, nu, e, r1, r2, r3, r4, r5, r6⟩ := L3.2 w2
  exact ⟨a, x4.1, x5.1, ki, nu, e, r1, r2, r3, r4, r5, r6⟩
