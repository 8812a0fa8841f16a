/-! CALLS OF BOTH: a house is read -/
set_option maxRecDepth 100000 in
theorem settle_HR {Y : hc_Mem} {gg : Nat → Int32} {E D : Nat} (hE : E ≤ 6) (hD : D ≤ 4) (ht : gTop (Y 8) gg E) (h5 : gg 5 = nI D) (he : ∀ e, e < E → gEar (Y 7) (Y 8) gg e) (hd : ∀ x, x < D → gDoi (Y 8) gg E x) : HR E D 0 (hSettle Y E D) (upd gg 0 1) := by
  obtain ⟨t0, t1, t2, t3, t4, t5⟩ := ht
  have s10 : ∀ j, j < E → hSettle Y E D 10 j = Y 7 j := fun j hj => by
    show (if j < E then Y 7 j else Y 10 j) = Y 7 j
    rw [if_pos hj]
  have s11 : ∀ j, j < E → hSettle Y E D 11 j = Y 8 (1 + 4 * j + 0) := fun j hj => by
    show (if j < E then Y 8 (1 + 4 * j + 0) else Y 11 j) = _
    rw [if_pos hj]
  have s12 : ∀ j, j < E → hSettle Y E D 12 j = Y 8 (1 + 4 * j + 1) := fun j hj => by
    show (if j < E then Y 8 (1 + 4 * j + 1) else Y 12 j) = _
    rw [if_pos hj]
  have s13 : ∀ j, j < E → hSettle Y E D 13 j = Y 8 (1 + 4 * j + 2) := fun j hj => by
    show (if j < E then Y 8 (1 + 4 * j + 2) else Y 13 j) = _
    rw [if_pos hj]
  have s14 : ∀ j, j < E → hSettle Y E D 14 j = Y 8 (1 + 4 * j + 3) := fun j hj => by
    show (if j < E then Y 8 (1 + 4 * j + 3) else Y 14 j) = _
    rw [if_pos hj]
  have s15 : ∀ j, j < E → hSettle Y E D 15 j = 0 := fun j hj => by
    show (if j < E then (0 : Int32) else Y 15 j) = _
    rw [if_pos hj]
  have s16 : ∀ x, x < D → hSettle Y E D 16 x = Y 8 (1 + 4 * E + 3 * x + 0) := fun j hj => by
    show (if j < D then Y 8 (1 + 4 * E + 3 * j + 0) else Y 16 j) = _
    rw [if_pos hj]
  have s17 : ∀ x, x < D → hSettle Y E D 17 x = Y 8 (1 + 4 * E + 3 * x + 1) := fun j hj => by
    show (if j < D then Y 8 (1 + 4 * E + 3 * j + 1) else Y 17 j) = _
    rw [if_pos hj]
  have s18 : ∀ x, x < D → hSettle Y E D 18 x = Y 8 (1 + 4 * E + 3 * x + 2) := fun j hj => by
    show (if j < D then Y 8 (1 + 4 * E + 3 * j + 2) else Y 18 j) = _
    rw [if_pos hj]
  have z0 : hSettle Y E D 9 0 = 1 := rfl
  have z1 : hSettle Y E D 9 1 = Y 8 0 := rfl
  have z2 : hSettle Y E D 9 2 = 0 := rfl
  have z3 : hSettle Y E D 9 3 = 0 := rfl
  have z4 : hSettle Y E D 9 4 = 0 := rfl
  have z5 : hSettle Y E D 9 5 = nI E := rfl
  have z6 : hSettle Y E D 9 6 = nI D := rfl
  have z19 : hSettle Y E D 19 0 = 0 := rfl
  generalize hSettle Y E D = N at *
  refine ⟨⟨hE, hD, by omega⟩, ?_, ?_, ?_, ?_, ?_, ?_, ?_, fun e hee => ?_, fun x hx => ?_, ?_⟩
  · rw [upd_eq, z0]; exact ⟨rfl, rfl⟩
  · rw [upd_ne (by decide), z1]
    obtain ⟨k, hk, ek, _⟩ := rg_nI (n := 12) t2 (Or.inl rfl) rfl
    exact ⟨t1, k, hk, ek⟩
  · rw [upd_ne (by decide), z2, t3]; exact ⟨rfl, rfl⟩
  · rw [upd_ne (by decide), z3, z19, t4]; exact ⟨rfl, rfl⟩
  · rw [upd_ne (by decide), z5, t5]; exact ⟨rfl, rfl⟩
  · rw [upd_ne (by decide), z6, h5]; exact ⟨rfl, rfl⟩
  · exact ⟨0, Nat.pow_pos (by decide), z4⟩
  · obtain ⟨a1, a2, a3, a4, a5, a6, a7, a8, a9, a10, a11, a12⟩ := he e hee
    unfold HRe
    rw [upd_ne (j := 6 + 7 * e) (by omega), upd_ne (j := 6 + 7 * e + 1) (by omega), upd_ne (j := 6 + 7 * e + 2) (by omega), upd_ne (j := 6 + 7 * e + 3) (by omega), upd_ne (j := 6 + 7 * e + 4) (by omega), upd_ne (j := 6 + 7 * e + 5) (by omega), upd_ne (j := 6 + 7 * e + 6) (by omega), s10 e hee, s11 e hee, s12 e hee, s13 e hee, s14 e hee, s15 e hee, z4, hb_f (hIn_0 (by omega))]
    obtain ⟨k1, q1, r1, _⟩ := rg_nI (n := 12) a4 (Or.inr rfl) rfl
    obtain ⟨k2, q2, r2, _⟩ := rg_nI (n := 3) a6 (Or.inl rfl) rfl
    obtain ⟨k3, q3, r3, _⟩ := rg_nI (n := 7) a8 (Or.inl rfl) rfl
    obtain ⟨k4, q4, r4, _⟩ := rg_nI (n := 8) a10 (Or.inr rfl) rfl
    exact ⟨a1, a3, a5, a7, a9, a11, a12, a2, ⟨k1, q1, r1⟩, ⟨k2, q2, r2⟩, ⟨k3, q3, r3⟩, k4, q4, r4⟩
  · obtain ⟨a1, a2, a3, a4, a5, a6, a7, a8⟩ := hd x hx
    unfold HRd
    rw [upd_ne (by omega), upd_ne (by omega), upd_ne (by omega), upd_ne (by omega), upd_ne (by omega), s16 x hx, s17 x hx, s18 x hx]
    obtain ⟨k1, q1, r1, _⟩ := rg_nI (n := 99) a2 (Or.inl rfl) rfl
    obtain ⟨k2, q2, r2, p2⟩ := rg_nI (n := 40) a4 (Or.inr rfl) rfl
    obtain ⟨k3, q3, r3, _⟩ := rg_nI (n := 99) a6 (Or.inl rfl) rfl
    refine ⟨a1, a3, a5, k1, k2, k3, q1, p2 rfl, q2, q3, r1, r2, r3, ?_, a8⟩
    rw [a7, r1]
    by_cases k0 : k1 = 0
    · subst k0; rw [if_pos (show nI 0 = 0 from rfl), if_pos (by omega), z19]
    · rw [if_neg (show ¬ nI k1 = 0 from fun w => k0 ((nI_eq (b := 0) (by omega) (by decide)).mp w)), if_neg (by omega)]
  · exact ⟨fun _ => 0, rfl, fun i hi => by rw [show i = 0 by omega, z19]; rfl, fun i hi => absurd hi (by omega)⟩
theorem mG_n {M : hc_Mem} {g : Nat → Int32} {r : rPs} {c : Nat} (h : c ≠ 48) (h2 : c ≠ 55) : mG M g r c = M c := by
  unfold mG
  rw [mR_n h, hc_mf_n h2]
theorem mG_48 {M : hc_Mem} {g : Nat → Int32} {r : rPs} {j : Nat} (h : j < 7 ∨ 12 < j) : mG M g r 48 j = M 48 j := by
  unfold mG mR
  rw [hc_mf_s, if_neg (by omega), if_neg (by omega), if_neg (by omega), if_neg (by omega), if_neg (by omega), if_neg (by omega), hc_mf_n (by decide)]
theorem mG_487 {M : hc_Mem} {g : Nat → Int32} {r : rPs} : mG M g r 48 7 = r.1 := rfl
theorem mG_g {M : hc_Mem} {g : Nat → Int32} {r : rPs} : mG M g r 55 = g := rfl
theorem mP_oth {M : hc_Mem} {st : cSt} {c : Nat} (h : c ≠ 5) (h2 : c ≠ 7) (h3 : c ≠ 8) : mP M st c = M c := by
  unfold mP
  rw [if_neg h, if_neg h2, if_neg h3]
theorem settle_n {Y : hc_Mem} {E D c : Nat} (h : c < 9 ∨ 19 < c) : hSettle Y E D c = Y c := by
  unfold hSettle hSet1
  unfold sD
  rw [if_neg (by omega), if_neg (by omega), if_neg (by omega), hc_ms_n (by omega)]
  unfold sE
  rw [if_neg (by omega), if_neg (by omega), if_neg (by omega), if_neg (by omega), if_neg (by omega), if_neg (by omega)]
  repeat rw [hc_ms_n (by omega)]
theorem tOk_0 {B T : Nat → Int32} : tOk B T 0 := ⟨by omega, fun i hi => absurd hi (by omega)⟩
section
variable {l : Launch} {G : hc_Geo} {M : hc_Mem}
set_option maxRecDepth 100000 in
theorem st_house (hG : hc_ok G) (hI : Inv M) : hStp l G yX7_house cX7_house 2 yX8_house cX8_house 2 [] M Eq := by
  obtain ⟨n, n5, n48, ht⟩ := hI.2.2.1
  obtain ⟨s0, hs0⟩ := nI_surj (M 48 10)
  have hrd : cRead M n = cHouse (M 6) n (0, 0, 0, 0, 0, M 7, M 8) := rfl
  obtain ⟨p1, p2⟩ := read_eq (B := M 6) (T := M 53) (n := n) (s0 := s0) (k0 := M 48 7) (x := M 48 11) (y := M 48 12) (ki0 := M 7) (nu0 := M 8) (g0 := fun x => if x < 68 then 0 else M 55 x) ht (fun j hj => if_pos hj)
  rw [← hrd] at p1 p2
  generalize hgg : rHg (M 53) n (fun x => if x < 68 then 0 else M 55 x) (M 48 7, -1, 0, s0, M 48 11, M 48 12) = gg at p1 p2
  generalize hrr : rHr (M 53) n (fun x => if x < 68 then 0 else M 55 x) (M 48 7, -1, 0, s0, M 48 11, M 48 12) = rr at p1 p2
  by_cases h0 : (cRead M n).1 = 0
  · have c1 := c_X7_house_o (l := l) hG n5 ht.1 h0
    obtain ⟨a, E, D, ki, nu, ec, hE, hD, q1, q2, q3, q4⟩ := p2 h0
    have hw := p1.wl h0
    rw [ec] at c1
    obtain ⟨Y, hY⟩ : ∃ Y, Y = hc_ms (mP M (0, a, E, D, 1 + 4 * E + 3 * D, ki, nu)) 5 1 0 := ⟨_, rfl⟩
    have y7 : Y 7 = ki := by rw [hY]; rfl
    have y8 : Y 8 = nu := by rw [hY]; rfl
    have yn : ∀ c, c ≠ 5 → c ≠ 7 → c ≠ 8 → Y c = M c := fun c a b d => by rw [hY, hc_ms_n a, mP_oth a b d]
    obtain ⟨M1, hM1⟩ : ∃ M1, M1 = hc_ms (hSettle Y E D) 42 3 0 := ⟨_, rfl⟩
    have c1 : hc_M l G yX7_house cX7_house 2 (some .int) 7 [.ref (hc_ad G 0)] M (hc_pi (fun z M' => nI E = z ∧ M1 = M')) := by rw [hM1, hY]; exact c1
    have m1 : ∀ c, c < 9 ∨ 19 < c → c ≠ 5 → c ≠ 7 → c ≠ 8 → c ≠ 42 → M1 c = M c := fun c h a b d f => by rw [hM1, hc_ms_n f, settle_n h, yn c a b d]
    have m48 : M1 48 = M 48 := m1 48 (by omega) (by decide) (by decide) (by decide) (by decide)
    have m53 : M1 53 = M 53 := m1 53 (by omega) (by decide) (by decide) (by decide) (by decide)
    have m55 : M1 55 = M 55 := m1 55 (by omega) (by decide) (by decide) (by decide) (by decide)
    have er : rR0 M1 s0 = (M 48 7, -1, 0, s0, M 48 11, M 48 12) := by unfold rR0; rw [m48]
    refine hStp.of c1 (c_X8_house (M := M1) (n := n) (s0 := s0) hG (by rw [m48]; exact n48) ht.1 (by rw [m48]; exact hs0)) ?_ (by decide) (by decide)
    intro z' M2 hp
    rw [er, m53, m55, hgg, hrr] at hp
    have hfp : ¬ 0 ≤ rr.2.1 := by rw [hw]; exact well_fp
    obtain ⟨hz, hM2⟩ := hp.2 hfp
    obtain ⟨X, hX⟩ : ∃ X, X = hc_ms (hc_ms (mG M1 gg rr) 48 6 0) 55 0 1 := ⟨_, rfl⟩
    rw [← hX] at hz hM2
    have x55 : X 55 = upd gg 0 1 := by rw [hX, hc_ms_s, hc_ms_n (by decide), mG_g]
    have xn : ∀ c, c ≠ 48 → c ≠ 55 → X c = M1 c := fun c a b => by rw [hX, hc_ms_n b, hc_ms_n a, mG_n a b]
    have x48 : ∀ j, j ≠ 6 → (j < 7 ∨ 12 < j) → X 48 j = M 48 j := fun j a b => by rw [hX, hc_ms_n (by decide), hc_ms_j a, mG_48 b, m48]
    have n0 : ∀ c, c ≠ 48 → c ≠ 54 → c ≠ 55 → M2 c = M1 c := fun c a b d => by rw [← hM2, hc_ms_n a, hc_mf_n b, xn c a d]
    have n54 : ∀ j, j < 68 → M2 54 j = upd gg 0 1 j := by
      intro j hj
      rw [← hM2, hc_ms_n (by decide), hc_mf_s, cpy_in hj, x55]
    have hcell : ∀ c, 9 ≤ c → c ≤ 19 → M2 c = hSettle Y E D c := fun c a b => by rw [n0 c (by omega) (by omega) (by omega), hM1, hc_ms_n (by omega)]
    have hr2 : HR E D 0 M2 (M2 54) := by
      refine ((settle_HR (Y := Y) (gg := gg) hE hD ?_ q2 ?_ ?_).c (hEq.of hcell)).ag n54
      · rw [y8]; exact q1
      · rw [y7, y8]; exact q3
      · rw [y8]; exact q4
    have k48 : ∀ j, j ≠ 6 → j ≠ 16 → (j < 7 ∨ 12 < j) → M2 48 j = M 48 j := fun j a b d => by rw [← hM2, hc_ms_j b, hc_mf_n (by decide), x48 j a d]
    have n6 : M2 48 6 = 0 := by rw [← hM2, hc_ms_j (by decide), hc_mf_n (by decide), hX, hc_ms_n (by decide), hc_ms_v]
    have n7 : M2 48 7 = M 48 7 := by
      rw [← hM2, hc_ms_j (by decide), hc_mf_n (by decide), hX, hc_ms_n (by decide), hc_ms_j (by decide), mG_487, hw]
      rfl
    have nn : ∀ c, c < 9 ∨ 19 < c → c ≠ 5 → c ≠ 7 → c ≠ 8 → c ≠ 42 → c ≠ 48 → c ≠ 54 → c ≠ 55 → M2 c = M c := fun c h a b d e f g i => by rw [n0 c f g i, m1 c h a b d e]
    obtain ⟨i1, i2, i3, i4, i5, i6, i7⟩ := hI
    refine ⟨?_, i1.c ?_ ?_ ?_ ?_ ?_ ?_, ?_, ⟨0, ?_, n6, tOk_0⟩, ?_, ⟨0, by decide, ?_, ?_, Or.inr ⟨⟨E, D, 0, by decide, hr2⟩, CH_0⟩⟩, i6.c ?_ ?_ ?_, i7.c ?_ ?_ ?_ ?_⟩
    · rw [← hz, hc_mf_s, cpy_in (by decide), x55, upd_ne (by decide), q1.2.2.2.2.2]
    · exact nn 2 (by omega) (by decide) (by decide) (by decide) (by decide) (by decide) (by decide) (by decide)
    · exact nn 3 (by omega) (by decide) (by decide) (by decide) (by decide) (by decide) (by decide) (by decide)
    · exact nn 4 (by omega) (by decide) (by decide) (by decide) (by decide) (by decide) (by decide) (by decide)
    · exact nn 49 (by omega) (by decide) (by decide) (by decide) (by decide) (by decide) (by decide) (by decide)
    · exact nn 50 (by omega) (by decide) (by decide) (by decide) (by decide) (by decide) (by decide) (by decide)
    · exact nn 51 (by omega) (by decide) (by decide) (by decide) (by decide) (by decide) (by decide) (by decide)
    · rw [nn 0 (by omega) (by decide) (by decide) (by decide) (by decide) (by decide) (by decide) (by decide), k48 4 (by decide) (by decide) (by omega)]; exact i2
    · rw [n0 5 (by decide) (by decide) (by decide), hM1, hc_ms_n (by decide), settle_n (by omega), hY, hc_ms_v]; rfl
    · rw [nn 0 (by omega) (by decide) (by decide) (by decide) (by decide) (by decide) (by decide) (by decide), n7]; exact i4
    · rw [n0 42 (by decide) (by decide) (by decide), hM1, hc_ms_v]; rfl
    · rw [← hM2, hc_ms_v]; rfl
    · intro c a b
      exact nn c (by omega) (by omega) (by omega) (by omega) (by omega) (by omega) (by omega) (by omega)
    · exact nn 57 (by omega) (by decide) (by decide) (by decide) (by decide) (by decide) (by decide) (by decide)
    · exact nn 58 (by omega) (by decide) (by decide) (by decide) (by decide) (by decide) (by decide) (by decide)
    · rw [nn 46 (by omega) (by decide) (by decide) (by decide) (by decide) (by decide) (by decide) (by decide)]
    · exact nn 47 (by omega) (by decide) (by decide) (by decide) (by decide) (by decide) (by decide) (by decide)
    · exact k48 22 (by decide) (by decide) (by omega)
    · exact nn 61 (by omega) (by decide) (by decide) (by decide) (by decide) (by decide) (by decide) (by decide)
  · have c1 := c_X7_house_f (l := l) hG n5 ht.1 h0
    have hP := p1.2.resolve_left (fun w => h0 w.1)
    generalize cRead M n = st at c1 hP p1
    obtain ⟨M1, hM1⟩ : ∃ M1, M1 = hc_ms (hc_ms (mP M st) 5 1 0) 0 7 (nI st.1) := ⟨_, rfl⟩
    rw [← hM1] at c1
    have m1 : ∀ c, c ≠ 0 → c ≠ 5 → c ≠ 7 → c ≠ 8 → M1 c = M c := fun c a b d e => by rw [hM1, hc_ms_n a, hc_ms_n b, mP_oth b d e]
    have m48 : M1 48 = M 48 := m1 48 (by decide) (by decide) (by decide) (by decide)
    have m53 : M1 53 = M 53 := m1 53 (by decide) (by decide) (by decide) (by decide)
    have m55 : M1 55 = M 55 := m1 55 (by decide) (by decide) (by decide) (by decide)
    have m0 : ∀ j, j ≠ 7 → M1 0 j = M 0 j := fun j hj => by rw [hM1, hc_ms_j hj, hc_ms_n (by decide), mP_oth (by decide) (by decide) (by decide)]
    have er : rR0 M1 s0 = (M 48 7, -1, 0, s0, M 48 11, M 48 12) := by unfold rR0; rw [m48]
    refine hStp.of c1 (c_X8_house (M := M1) (n := n) (s0 := s0) hG (by rw [m48]; exact n48) ht.1 (by rw [m48]; exact hs0)) ?_ (by decide) (by decide)
    intro z' M2 hp
    rw [er, m53, m55, hgg, hrr] at hp
    have hst : st.2.1 ≤ 120 := Nat.le_trans p1.1 ht.1
    have hfp : 0 ≤ rr.2.1 := by rw [hP.2.2.2]; exact nI_pos' (by omega)
    obtain ⟨hz, hM2⟩ := hp.1 hfp
    have n0 : ∀ c, c ≠ 48 → c ≠ 55 → M2 c = M1 c := fun c a b => by rw [← hM2, hc_ms_n a, mG_n a b]
    have k48 : ∀ j, j ≠ 6 → (j < 7 ∨ 12 < j) → M2 48 j = M 48 j := fun j a b => by rw [← hM2, hc_ms_j a, mG_48 b, m48]
    have nn : ∀ c, c ≠ 0 → c ≠ 5 → c ≠ 7 → c ≠ 8 → c ≠ 48 → c ≠ 55 → M2 c = M c := fun c a b d e f g => by rw [n0 c f g, m1 c a b d e]
    obtain ⟨i1, i2, i3, i4, i5, i6, i7⟩ := hI
    refine ⟨?_, i1.c ?_ ?_ ?_ ?_ ?_ ?_, ?_, ⟨0, ?_, ?_, tOk_0⟩, ?_, i5.c ?_ ?_ ?_ ?_ ?_, i6.c ?_ ?_ ?_, i7.c ?_ ?_ ?_ ?_⟩
    · rw [← hz, hP.2.2.2]
    · exact nn 2 (by decide) (by decide) (by decide) (by decide) (by decide) (by decide)
    · exact nn 3 (by decide) (by decide) (by decide) (by decide) (by decide) (by decide)
    · exact nn 4 (by decide) (by decide) (by decide) (by decide) (by decide) (by decide)
    · exact nn 49 (by decide) (by decide) (by decide) (by decide) (by decide) (by decide)
    · exact nn 50 (by decide) (by decide) (by decide) (by decide) (by decide) (by decide)
    · exact nn 51 (by decide) (by decide) (by decide) (by decide) (by decide) (by decide)
    · rw [n0 0 (by decide) (by decide), m0 8 (by decide), k48 4 (by decide) (by omega)]; exact i2
    · rw [n0 5 (by decide) (by decide), hM1, hc_ms_n (by decide), hc_ms_v]; rfl
    · rw [← hM2, hc_ms_v]; rfl
    · rw [n0 0 (by decide) (by decide), hM1, hc_ms_v, ← hM2, hc_ms_j (by decide), mG_487, hP.2.2.1]
    · intro c a b
      exact nn c (by omega) (by omega) (by omega) (by omega) (by omega) (by omega)
    · intro c a b
      exact nn c (by omega) (by omega) (by omega) (by omega) (by omega) (by omega)
    · exact k48 16 (by decide) (by omega)
    · exact nn 54 (by decide) (by decide) (by decide) (by decide) (by decide) (by decide)
    · exact nn 56 (by decide) (by decide) (by decide) (by decide) (by decide) (by decide)
    · intro c a b
      exact nn c (by omega) (by omega) (by omega) (by omega) (by omega) (by omega)
    · exact nn 57 (by decide) (by decide) (by decide) (by decide) (by decide) (by decide)
    · exact nn 58 (by decide) (by decide) (by decide) (by decide) (by decide) (by decide)
    · rw [nn 46 (by decide) (by decide) (by decide) (by decide) (by decide) (by decide)]
    · exact nn 47 (by decide) (by decide) (by decide) (by decide) (by decide) (by decide)
    · exact k48 22 (by decide) (by omega)
    · exact nn 61 (by decide) (by decide) (by decide) (by decide) (by decide) (by decide)
end
