/-! CALLS OF BOTH: acts, undoing -/
theorem IX.c {A B A' B' : hc_Mem} {E D q k : Nat} (h : IX A B E D q k) (e : ∀ c, 9 ≤ c → c ≤ 19 → A' c = A c) (e4 : ∀ c, 42 ≤ c → c ≤ 45 → A' c = A c) (e16 : B' 48 16 = B 48 16) (e54 : B' 54 = B 54) (e56 : B' 56 = B 56) : IX A' B' E D q k := by
  obtain ⟨h1, h2, h3, h4, h5, h6⟩ := h
  refine ⟨h1, h2, by rw [e4 42 (by decide) (by decide)]; exact h3, by rw [e16]; exact h4, by rw [e54]; exact h5.c (hEq.of e), ?_⟩
  refine h6.c h5 (hEq.of e) (fun i _ => ?_) (fun i j _ _ => by rw [e56])
  rw [e4 43 (by decide) (by decide), e4 44 (by decide) (by decide), e4 45 (by decide) (by decide)]
  exact ⟨rfl, rfl, rfl⟩
theorem rNo_c {X Y : hc_Mem} {a : Nat} (ha : a ≤ 24) (h : ∀ c, 48 ≤ c → X c = Y c) : ∀ c, 48 ≤ c → rNo X a c = rNo Y a c := by
  intro c hc
  by_cases c56 : c = 56
  · subst c56; rw [rNo_56, rNo_56, h 54 (by decide), h 56 (by decide)]
  by_cases c48 : c = 48
  · subst c48
    funext j
    by_cases j16 : j = 16
    · subst j16; rw [rNo_16 ha, rNo_16 ha]
    · rw [rNo_48 j16, rNo_48 j16, h 48 (by decide)]
  · rw [rNo_n c56 c48, rNo_n c56 c48, h c hc]
theorem rQs_c {X Y : hc_Mem} {E D a : Nat} (h : ∀ c, 48 ≤ c → X c = Y c) : ∀ i c, 48 ≤ c → rQs X E D a i c = rQs Y E D a i c := by
  intro i
  induction i with
  | zero => intro c hc; exact h c hc
  | succ i ih =>
    intro c hc
    show hc_mf (rNo (rQs X E D a i) (min 24 (a + i))) 54 (rPass (rQs X E D a i 54) E D) c = hc_mf (rNo (rQs Y E D a i) (min 24 (a + i))) 54 (rPass (rQs Y E D a i 54) E D) c
    by_cases c54 : c = 54
    · subst c54; rw [hc_mf_s, hc_mf_s, ih 54 (by decide)]
    · rw [hc_mf_n c54, hc_mf_n c54]; exact rNo_c (by omega) ih c hc
theorem rQs_n {X : hc_Mem} {E D a c : Nat} (h : c ≠ 48) (h2 : c ≠ 54) (h3 : c ≠ 56) : ∀ i, rQs X E D a i c = X c := by
  intro i
  induction i with
  | zero => rfl
  | succ i ih =>
    show hc_mf (rNo (rQs X E D a i) (min 24 (a + i))) 54 (rPass (rQs X E D a i 54) E D) c = X c
    rw [hc_mf_n h2, rNo_n h3 h, ih]
theorem rQs_48 {X : hc_Mem} {E D a j : Nat} (h : j ≠ 16) : ∀ i, rQs X E D a i 48 j = X 48 j := by
  intro i
  induction i with
  | zero => rfl
  | succ i ih =>
    show hc_mf (rNo (rQs X E D a i) (min 24 (a + i))) 54 (rPass (rQs X E D a i 54) E D) 48 j = X 48 j
    rw [hc_mf_n (by decide), rNo_48 h, ih]
theorem hQs_n {X : hc_Mem} {E q k c : Nat} (h : c ≠ 9) (h2 : c ≠ 15) (h3 : c ≠ 19) (h4 : c < 42 ∨ 45 < c) : ∀ i, hQs X E q k i c = X c := by
  intro i
  induction i with
  | zero => rfl
  | succ i ih =>
    show hKp (hPass (hQs X E q k i) E (q + i)) (min 24 (k + i)) 0 0 0 c = X c
    rw [hKp_n h4, hPass_n h h2 h3, ih]
theorem IX.act {M M2 : hc_Mem} {E D q k : Nat} {d w b : Int32} (h : IX M M E D q k) (hr : HR E D q M2 (M2 54)) (e42 : M2 42 3 = nI (min 24 (k + 1))) (e16 : M2 48 16 = nI (min 24 (k + 1)))
    (e43 : M2 43 = hKp M k d w b 43) (e44 : M2 44 = hKp M k d w b 44) (e45 : M2 45 = hKp M k d w b 45) (e56 : M2 56 = rNo M k 56) (ha : aOk M2 d w) (hu : hEq q M (hUn M2 d w b)) : IX M2 M2 E D q (min 24 (k + 1)) := by
  obtain ⟨h1, h2, h3, h4, h5, h6⟩ := h
  exact ⟨h1, by omega, e42, e16, hr, CH_new (d := d) (w := w) (b := b) h2 h5 h1 h6 (by rw [e43, hKp_43]) (by rw [e44, hKp_44]) (by rw [e45, hKp_45]) (by rw [e56, rNo_56]) ha hu⟩
section
variable {l : Launch} {G : hc_Geo} {M : hc_Mem}
set_option maxRecDepth 100000 in
theorem st_quarters (hG : hc_ok G) (hI : Inv M) (v1 : Int32) : hStp l G yX7_quarters cX7_quarters 3 yX8_quarters cX8_quarters 3 [.int v1] M Eq := by
  rcases hI.hs with hn | ⟨E, D, q, hq, hr⟩
  · exact hStp.id hI (c_X7_quarters_n hG hn.n.1) (c_X8_quarters_n hG hn.n.2) rfl (by decide) (by decide)
  have hl := hr.lim
  by_cases h0 : ¬ v1 < 1 ∧ ¬ 20 < v1
  · have h00 : ¬ v1 < 0 := fun w => h0.1 (by
      rw [Int32.lt_iff_toInt_lt] at w ⊢
      have e0 : (0 : Int32).toInt = 0 := rfl
      have e1 : (1 : Int32).toInt = 1 := rfl
      omega)
    obtain ⟨n, hn, rfl⟩ : ∃ j : Nat, j ≤ 20 ∧ v1 = nI j := nI_of2 (M := 20) rfl h00 (Int32.not_lt.mp h0.2)
    have hn1 : 1 ≤ n := by
      rcases Nat.lt_or_ge n 1 with k | k
      · have : n = 0 := by omega
        subst this
        exact absurd (show nI 0 < 1 by decide) h0.1
      · exact k
    have e999 : M 54 2 + nI n ≤ 999 ↔ q + n ≤ 999 := by
      rw [hr.qu.1, nI_add, show (999 : Int32) = nI 999 from rfl, nI_leI (by omega) (by decide)]
    by_cases hF : 999 < q + n
    · exact hStp.id hI (c_X7_quarters_f hG hr.s1 h0 hn hr.qu.2 hq hF) (c_X8_quarters_f hG hr.st.1 h0 (fun w => by have := e999.mp w; omega)) rfl (by decide) (by decide)
    · obtain ⟨k, hx⟩ := hI.ix hq hr
      have h54 : hQs M E q k n 54 = M 54 := hQs_n (by decide) (by decide) (by decide) (by decide) n
      have h48 : ∀ c, 48 ≤ c → hQs M E q k n c = M c := fun c hc => hQs_n (by omega) (by omega) (by omega) (by omega) n
      refine hStp.of (c_X7_quarters_o hG hr.s1 h0 hn (by omega) hr.ea.2 hl.1 hr.qu.2 hx.2.2.1 hx.2.1)
        (c_X8_quarters_o (M := hQs M E q k n) (E := E) (D := D) (a := k) hG (by rw [h54]; exact hr.st.1) hn1 hn (by rw [h54]; exact e999.mpr (by omega)) (by rw [h54]; exact hr.ea.1) hl.1 (by rw [h54]; exact hr.do.1) hl.2.1 (by rw [h48 48 (by decide)]; exact hx.2.2.2.1) hx.2.1) ?_ (by decide) (by decide)
      rintro z' M2 ⟨rfl, rfl⟩
      have hX := hx.quarters n (by omega)
      have hlo : ∀ c, c < 48 → rQs (hQs M E q k n) E D k n c = hQs M E q k n c := fun c hc => rQs_n (by omega) (by omega) (by omega) n
      have hhi : ∀ c, 48 ≤ c → rQs (hQs M E q k n) E D k n c = rQs M E D k n c := fun c hc => rQs_c h48 n c hc
      have hX2 : IX (rQs (hQs M E q k n) E D k n) (rQs (hQs M E q k n) E D k n) E D (q + n) (min 24 (k + n)) := hX.c (fun c a b => hlo c (by omega)) (fun c a b => hlo c (by omega)) (by rw [hhi 48 (by decide)]) (hhi 54 (by decide)) (hhi 56 (by decide))
      refine ⟨?_, hI.ac hX2 ?_ ?_⟩
      · rw [← hX2.2.2.2.2.1.pa.1.symm, hlo 9 (by decide)]
      · intro c hc a1 a2 a3
        rw [rQs_n a1 a2 a3, hQs_n (by omega) (by omega) (by omega) (by omega)]
      · intro j hj
        rw [rQs_48 hj, h48 48 (by decide)]
  · exact hStp.id hI (c_X7_quarters_b hG hr.s1 h0) (c_X8_quarters_b hG hr.st.1 h0) rfl (by decide) (by decide)
set_option maxRecDepth 100000 in
theorem st_wool (hG : hc_ok G) (hI : Inv M) (v1 : Int32) : hStp l G yX7_wool cX7_wool 3 yX8_wool cX8_wool 3 [.int v1] M Eq := by
  rcases hI.hs with hn | ⟨E, D, q, hq, hr⟩
  · exact hStp.id hI (c_X7_wool_n hG hn.n.1) (c_X8_wool_n hG hn.n.2) rfl (by decide) (by decide)
  have hl := hr.lim
  by_cases h0 : ¬ v1 < 0 ∧ ¬ 12 < v1
  · obtain ⟨w, hw, rfl⟩ : ∃ j : Nat, j ≤ 12 ∧ v1 = nI j := nI_of2 (M := 12) rfl h0.1 (Int32.not_lt.mp h0.2)
    obtain ⟨k, hx⟩ := hI.ix hq hr
    obtain ⟨K, hK⟩ : ∃ K, K = hKp M k 3 0 (M 9 1) := ⟨_, rfl⟩
    have kn : ∀ c, c < 42 ∨ 45 < c → K c = M c := fun c hc => by rw [hK]; exact hKp_n hc
    have c1 := c_X7_wool_o (l := l) hG hr.s1 hx.2.2.1 hx.2.1 h0
    rw [← hK] at c1
    obtain ⟨M1, hM1⟩ : ∃ M1, M1 = hc_ms K 9 1 (nI w) := ⟨_, rfl⟩
    rw [← hM1] at c1
    have m1 : ∀ c, c ≠ 9 → M1 c = K c := fun c hc => by rw [hM1]; exact hc_ms_n hc
    have m54 : M1 54 = M 54 := by rw [m1 54 (by decide), kn 54 (by decide)]
    have m56 : M1 56 = M 56 := by rw [m1 56 (by decide), kn 56 (by decide)]
    have m48 : M1 48 = M 48 := by rw [m1 48 (by decide), kn 48 (by decide)]
    refine hStp.of c1 (c_X8_wool_o (M := M1) (a := k) hG (by rw [m54]; exact hr.st.1) h0 (by rw [m48]; exact hx.2.2.2.1) hx.2.1) ?_ (by decide) (by decide)
    rintro z' M2 ⟨rfl, hM2⟩
    have n0 : ∀ c, c ≠ 48 → c ≠ 54 → c ≠ 56 → M2 c = M1 c := fun c a b d => by rw [← hM2, hc_ms_n b, rNo_n d a]
    have n54 : M2 54 = upd (M 54) 1 (nI w) := by rw [← hM2, hc_ms_s, rNo_n (by decide) (by decide), m54]
    have n56 : M2 56 = rNo M k 56 := by rw [← hM2, hc_ms_n (by decide), rNo_56, rNo_56, m54, m56]
    have hcell : ∀ c, 9 ≤ c → c ≤ 19 → M2 c = hc_ms M 9 1 (nI w) c := by
      intro c a b
      rw [n0 c (by omega) (by omega) (by omega), hM1]
      by_cases c9 : c = 9
      · subst c9; rw [hc_ms_s, hc_ms_s, kn 9 (by decide)]
      · rw [hc_ms_n c9, hc_ms_n c9, kn c (by omega)]
    have hX2 : IX M2 M2 E D q (min 24 (k + 1)) := by
      refine hx.act (d := 3) (w := 0) (b := M 9 1) ?_ ?_ ?_ ?_ ?_ ?_ n56 (Or.inr (Or.inr (Or.inr rfl))) ?_
      · rw [n54]; exact (hr.wool hw).c (hEq.of hcell)
      · rw [n0 42 (by decide) (by decide) (by decide), m1 42 (by decide), hK]; exact hKp_42 hx.2.1
      · rw [← hM2, hc_ms_n (by decide)]; exact rNo_16 hx.2.1
      · rw [n0 43 (by decide) (by decide) (by decide), m1 43 (by decide), hK]
      · rw [n0 44 (by decide) (by decide) (by decide), m1 44 (by decide), hK]
      · rw [n0 45 (by decide) (by decide) (by decide), m1 45 (by decide), hK]
      · unfold hUn
        rw [if_neg (show ¬ (3 : Int32) = 1 by decide), if_neg (show ¬ (3 : Int32) = 2 by decide), if_pos rfl]
        refine hEq.of (fun c a b => ?_)
        by_cases c9 : c = 9
        · subst c9
          rw [hc_ms_s, hcell 9 (by decide) (by decide), hc_ms_s]
          funext j
          unfold upd
          by_cases j1 : j = 1
          · rw [if_pos j1, j1]
          · rw [if_neg j1, if_neg j1]
        · rw [hc_ms_n c9, hcell c a b, hc_ms_n c9]
    refine ⟨?_, hI.ac hX2 ?_ ?_⟩
    · show M 9 1 = M1 54 1
      rw [m54, hr.wo.1]
    · intro c hc a1 a2 a3
      rw [n0 c a1 a2 a3, m1 c (by omega), kn c (by omega)]
    · intro j hj
      rw [← hM2, hc_ms_n (by decide), rNo_48 hj, m48]
  · exact hStp.id hI (c_X7_wool_b hG hr.s1 h0) (c_X8_wool_b hG hr.st.1 h0) rfl (by decide) (by decide)
set_option maxRecDepth 100000 in
theorem st_go (hG : hc_ok G) (hI : Inv M) (v1 v2 : Int32) : hStp l G yX7_go cX7_go 4 yX8_go cX8_go 4 [.int v1, .int v2] M Eq := by
  rcases hI.ear v1 with ⟨a, E, b, c, d⟩ | ⟨E, D, q, e0, hq, hr, he, rfl⟩
  · exact hStp.id hI (c_X7_go_b hG a) (c_X8_go_b hG c b d) rfl (by decide) (by decide)
  have hl := hr.lim
  by_cases h0 : ¬ v2 < 0 ∧ ¬ 3 < v2
  · obtain ⟨w, hw, rfl⟩ : ∃ j : Nat, j ≤ 3 ∧ v2 = nI j := nI_of2 (M := 3) rfl h0.1 (Int32.not_lt.mp h0.2)
    have hro := (hr.es e0 he).2.2.1
    by_cases h2 : M 12 e0 = nI w
    · exact hStp.id hI (c_X7_go_s hG hr.ea.2 hl.1 he h0 h2) (c_X8_go_s hG hr.ea.1 hl.1 he h0 (by rw [hro]; exact h2)) rfl (by decide) (by decide)
    obtain ⟨k, hx⟩ := hI.ix hq hr
    obtain ⟨K, hK⟩ : ∃ K, K = hKp M k 1 (nI e0) (M 12 e0) := ⟨_, rfl⟩
    have kn : ∀ c, c < 42 ∨ 45 < c → K c = M c := fun c hc => by rw [hK]; exact hKp_n hc
    have c1 := c_X7_go_o (l := l) hG hr.ea.2 hl.1 he hx.2.2.1 hx.2.1 h0 h2
    rw [← hK] at c1
    obtain ⟨M1, hM1⟩ : ∃ M1, M1 = hc_ms K 12 e0 (nI w) := ⟨_, rfl⟩
    rw [← hM1] at c1
    have m1 : ∀ c, c ≠ 12 → M1 c = K c := fun c hc => by rw [hM1]; exact hc_ms_n hc
    have m54 : M1 54 = M 54 := by rw [m1 54 (by decide), kn 54 (by decide)]
    have m56 : M1 56 = M 56 := by rw [m1 56 (by decide), kn 56 (by decide)]
    have m48 : M1 48 = M 48 := by rw [m1 48 (by decide), kn 48 (by decide)]
    refine hStp.of c1 (c_X8_go_o (M := M1) (a := k) hG (by rw [m54]; exact hr.ea.1) hl.1 he (by rw [m48]; exact hx.2.2.2.1) hx.2.1 h0 (by rw [m54, hro]; exact h2)) ?_ (by decide) (by decide)
    rintro z' M2 ⟨rfl, hM2⟩
    have n0 : ∀ c, c ≠ 48 → c ≠ 54 → c ≠ 56 → M2 c = M1 c := fun c a b d => by rw [← hM2, hc_ms_n b, rNo_n d a]
    have n54 : M2 54 = upd (M 54) (6 + 7 * e0 + 2) (nI w) := by rw [← hM2, hc_ms_s, rNo_n (by decide) (by decide), m54]
    have n56 : M2 56 = rNo M k 56 := by rw [← hM2, hc_ms_n (by decide), rNo_56, rNo_56, m54, m56]
    have hcell : ∀ c, 9 ≤ c → c ≤ 19 → M2 c = hc_ms M 12 e0 (nI w) c := by
      intro c a b
      rw [n0 c (by omega) (by omega) (by omega), hM1]
      by_cases c9 : c = 12
      · subst c9; rw [hc_ms_s, hc_ms_s, kn 12 (by decide)]
      · rw [hc_ms_n c9, hc_ms_n c9, kn c (by omega)]
    have hX2 : IX M2 M2 E D q (min 24 (k + 1)) := by
      refine hx.act (d := 1) (w := nI e0) (b := M 12 e0) ?_ ?_ ?_ ?_ ?_ ?_ n56 (Or.inr (Or.inl ⟨rfl, e0, by omega, rfl⟩)) ?_
      · rw [n54]; exact (hr.room he hw).c (hEq.of hcell)
      · rw [n0 42 (by decide) (by decide) (by decide), m1 42 (by decide), hK]; exact hKp_42 hx.2.1
      · rw [← hM2, hc_ms_n (by decide)]; exact rNo_16 hx.2.1
      · rw [n0 43 (by decide) (by decide) (by decide), m1 43 (by decide), hK]
      · rw [n0 44 (by decide) (by decide) (by decide), m1 44 (by decide), hK]
      · rw [n0 45 (by decide) (by decide) (by decide), m1 45 (by decide), hK]
      · unfold hUn
        rw [if_pos rfl, nI_clamp (by omega)]
        refine hEq.of (fun c a b => ?_)
        by_cases c9 : c = 12
        · subst c9
          rw [hc_ms_s, hcell 12 (by decide) (by decide), hc_ms_s]
          funext j
          unfold upd
          by_cases j1 : j = e0
          · rw [if_pos j1, j1]
          · rw [if_neg j1, if_neg j1]
        · rw [hc_ms_n c9, hcell c a b, hc_ms_n c9]
    refine ⟨?_, hI.ac hX2 ?_ ?_⟩
    · show M 12 e0 = M1 54 (6 + 7 * e0 + 2)
      rw [m54, hro]
    · intro c hc a1 a2 a3
      rw [n0 c a1 a2 a3, m1 c (by omega), kn c (by omega)]
    · intro j hj
      rw [← hM2, hc_ms_n (by decide), rNo_48 hj, m48]
  · exact hStp.id hI (c_X7_go_b2 hG hr.ea.2 hl.1 he h0) (c_X8_go_b2 hG hr.ea.1 hl.1 he h0) rfl (by decide) (by decide)
end
/-- one more, or one fewer, HUSHED -/
theorem hush_set {E e s : Nat} (hE : E ≤ 6) (he : e < E) (hs : s < 2 ^ E) : (∃ k, k < 2 ^ E ∧ nI s ||| ((1 : Int32) <<< (nI e &&& 31)) = nI k) ∧ (∃ k, k < 2 ^ E ∧ nI s &&& (((1 : Int32) <<< (nI e &&& 31)) ^^^ -1) = nI k) := by
  refine ⟨set_nI hE (fun i hi h32 w => ?_), set_nI hE (fun i hi h32 w => ?_)⟩
  · rw [hIn_or h32, hIn_one e (by omega) i h32] at w
    rcases w with w | w
    · exact hIn_nI_ge hs hE hi h32 w
    · omega
  · rw [hIn_and h32] at w
    exact hIn_nI_ge hs hE hi h32 w.1
theorem back_or {x : Int32} {e : Nat} (he : e < 6) (h : hIn x (nI e)) : (x &&& (((1 : Int32) <<< (nI e &&& 31)) ^^^ -1)) ||| ((1 : Int32) <<< (nI e &&& 31)) = x := by
  refine set_ext (fun i hi => ?_)
  rw [hIn_or hi, hIn_and hi, hIn_not hi, hIn_one e (by omega) i hi]
  constructor
  · rintro (w | w)
    · exact w.1
    · rw [w]; exact h
  · intro w
    by_cases c : i = e
    · exact Or.inr c
    · exact Or.inl ⟨w, c⟩
theorem back_and {x : Int32} {e : Nat} (he : e < 6) (h : ¬ hIn x (nI e)) : (x ||| ((1 : Int32) <<< (nI e &&& 31))) &&& (((1 : Int32) <<< (nI e &&& 31)) ^^^ -1) = x := by
  refine set_ext (fun i hi => ?_)
  rw [hIn_and hi, hIn_or hi, hIn_not hi, hIn_one e (by omega) i hi]
  constructor
  · rintro ⟨w | w, w2⟩
    · exact w
    · exact absurd w w2
  · intro w
    exact ⟨Or.inl w, fun c => h (by rw [← c]; exact w)⟩
section
variable {l : Launch} {G : hc_Geo} {M : hc_Mem}
/-- the common end of hush -/
theorem hush_end (hI : Inv M) {E D q k e0 : Nat} {is bf s' : Int32} (hq : q ≤ 999) (hr : HR E D q M (M 54)) (hx : IX M M E D q k) (he : e0 < E) (hs : ∃ j, j < 2 ^ E ∧ s' = nI j) (hv : is = hb (hIn s' (nI e0))) (ho : ∀ i, i < E → i ≠ e0 → (hIn s' (nI i) ↔ hIn (M 9 4) (nI i)))
    (hbk : (if bf = 1 then s' ||| ((1 : Int32) <<< (nI e0 &&& 31)) else s' &&& (((1 : Int32) <<< (nI e0 &&& 31)) ^^^ -1)) = M 9 4) {M1 : hc_Mem} (hM1 : M1 = hc_ms (hKp M k 2 (nI e0) bf) 9 4 s') :
    hc_bc s' = hc_hs (hc_ms (rNo M1 k) 54 (6 + 7 * e0 + 5) is) E ∧ Inv (hc_ms (rNo M1 k) 54 (6 + 7 * e0 + 5) is) := by
  have hl := hr.lim
  obtain ⟨K, hK⟩ : ∃ K, K = hKp M k 2 (nI e0) bf := ⟨_, rfl⟩
  rw [← hK] at hM1
  have kn : ∀ c, c < 42 ∨ 45 < c → K c = M c := fun c hc => by rw [hK]; exact hKp_n hc
  have m1 : ∀ c, c ≠ 9 → M1 c = K c := fun c hc => by rw [hM1]; exact hc_ms_n hc
  have m54 : M1 54 = M 54 := by rw [m1 54 (by decide), kn 54 (by decide)]
  have m56 : M1 56 = M 56 := by rw [m1 56 (by decide), kn 56 (by decide)]
  have m48 : M1 48 = M 48 := by rw [m1 48 (by decide), kn 48 (by decide)]
  obtain ⟨M2, hM2⟩ : ∃ M2, hc_ms (rNo M1 k) 54 (6 + 7 * e0 + 5) is = M2 := ⟨_, rfl⟩
  rw [hM2]
  have n0 : ∀ c, c ≠ 48 → c ≠ 54 → c ≠ 56 → M2 c = M1 c := fun c a b d => by rw [← hM2, hc_ms_n b, rNo_n d a]
  have n54 : M2 54 = upd (M 54) (6 + 7 * e0 + 5) is := by rw [← hM2, hc_ms_s, rNo_n (by decide) (by decide), m54]
  have n56 : M2 56 = rNo M k 56 := by rw [← hM2, hc_ms_n (by decide), rNo_56, rNo_56, m54, m56]
  have hcell : ∀ c, 9 ≤ c → c ≤ 19 → M2 c = hc_ms M 9 4 s' c := by
    intro c a b
    rw [n0 c (by omega) (by omega) (by omega), hM1]
    by_cases c9 : c = 9
    · subst c9; rw [hc_ms_s, hc_ms_s, kn 9 (by decide)]
    · rw [hc_ms_n c9, hc_ms_n c9, kn c (by omega)]
  have hr2 : HR E D q M2 (M2 54) := by rw [n54]; exact (hr.hush he hs hv ho).c (hEq.of hcell)
  have hX2 : IX M2 M2 E D q (min 24 (k + 1)) := by
    refine hx.act (d := 2) (w := nI e0) (b := bf) hr2 ?_ ?_ ?_ ?_ ?_ n56 (Or.inr (Or.inr (Or.inl rfl))) ?_
    · rw [n0 42 (by decide) (by decide) (by decide), m1 42 (by decide), hK]; exact hKp_42 hx.2.1
    · rw [← hM2, hc_ms_n (by decide)]; exact rNo_16 hx.2.1
    · rw [n0 43 (by decide) (by decide) (by decide), m1 43 (by decide), hK]
    · rw [n0 44 (by decide) (by decide) (by decide), m1 44 (by decide), hK]
    · rw [n0 45 (by decide) (by decide) (by decide), m1 45 (by decide), hK]
    · unfold hUn
      rw [if_neg (show ¬ (2 : Int32) = 1 by decide), if_pos rfl, hcell 9 (by decide) (by decide), hc_ms_v, hbk]
      refine hEq.of (fun c a b => ?_)
      by_cases c9 : c = 9
      · subst c9
        rw [hc_ms_s, hcell 9 (by decide) (by decide), hc_ms_s]
        funext j
        unfold upd
        by_cases j1 : j = 4
        · rw [if_pos j1, j1]
        · rw [if_neg j1, if_neg j1]
      · rw [hc_ms_n c9, hcell c a b, hc_ms_n c9]
  refine ⟨?_, hI.ac hX2 ?_ ?_⟩
  · rw [hs_ones hr2 E (Nat.le_refl _), hcell 9 (by decide) (by decide), hc_ms_v]
    obtain ⟨j, hj, ej⟩ := hs
    rw [ej, rOnes_E E hl.1 j hj]
  · intro c hc a1 a2 a3
    rw [n0 c a1 a2 a3, m1 c (by omega), kn c (by omega)]
  · intro j hj
    rw [← hM2, hc_ms_n (by decide), rNo_48 hj, m48]
set_option maxRecDepth 100000 in
theorem st_hush (hG : hc_ok G) (hI : Inv M) (v1 v2 : Int32) : hStp l G yX7_hush cX7_hush 3 yX8_hush cX8_hush 3 [.int v1, .int v2] M Eq := by
  rcases hI.ear v1 with ⟨a, E, b, c, d⟩ | ⟨E, D, q, e0, hq, hr, he, rfl⟩
  · exact hStp.id hI (c_X7_hush_b hG a) (c_X8_hush_b hG c b d) rfl (by decide) (by decide)
  have hl := hr.lim
  by_cases h0 : ¬ v2 < 0 ∧ ¬ 1 < v2
  · obtain ⟨w, hw, rfl⟩ : ∃ j : Nat, j ≤ 1 ∧ v2 = nI j := nI_of2 (M := 1) rfl h0.1 (Int32.not_lt.mp h0.2)
    have hhu := (hr.es e0 he).2.2.2.2.2.1
    obtain ⟨s, hs, es⟩ := hr.hu
    obtain ⟨k, hx⟩ := hI.ix hq hr
    obtain ⟨so, sa⟩ := hush_set hl.1 he hs
    have kn : ∀ (d w b : Int32) c, c < 42 ∨ 45 < c → hKp M k d w b c = M c := fun d w b c hc => hKp_n hc
    have hww : w = 0 ∨ w = 1 := by omega
    rcases hww with rfl | rfl
    · by_cases h2 : hIn (M 9 4) (nI e0)
      · have c1 := c_X7_hush_o0 (l := l) hG hr.ea.2 hl.1 he hx.2.2.1 hx.2.1 h2
        obtain ⟨M1, hM1⟩ : ∃ M1, M1 = hc_ms (hKp M k 2 (nI e0) 1) 9 4 (M 9 4 &&& (((1 : Int32) <<< (nI e0 &&& 31)) ^^^ -1)) := ⟨_, rfl⟩
        rw [← hM1] at c1
        have m54 : M1 54 = M 54 := by rw [hM1, hc_ms_n (by decide), kn _ _ _ 54 (by decide)]
        have m48 : M1 48 = M 48 := by rw [hM1, hc_ms_n (by decide), kn _ _ _ 48 (by decide)]
        refine hStp.of c1 (c_X8_hush_o (M := M1) (a := k) hG (by rw [m54]; exact hr.ea.1) hl.1 he (by rw [m48]; exact hx.2.2.2.1) hx.2.1 h0 (by rw [m54, hhu, hb_t h2]; decide)) ?_ (by decide) (by decide)
        rintro z' M2 ⟨rfl, rfl⟩
        refine hush_end hI hq hr hx he (by rw [es]; exact sa) ?_ ?_ ?_ hM1
        · rw [hb_f]; · rfl
          · rw [hIn_and (by omega), hIn_not (by omega), hIn_one e0 (by omega) e0 (by omega)]; exact fun w => w.2 rfl
        · intro i hi hne
          rw [hIn_and (by omega), hIn_not (by omega), hIn_one e0 (by omega) i (by omega)]
          exact ⟨fun w => w.1, fun w => ⟨w, hne⟩⟩
        · rw [if_pos rfl]; exact back_or (by omega) h2
      · exact hStp.id hI (c_X7_hush_s0 hG hr.ea.2 hl.1 he h2) (c_X8_hush_s hG hr.ea.1 hl.1 he h0 (by rw [hhu, hb_f h2]; rfl)) rfl (by decide) (by decide)
    · by_cases h2 : hIn (M 9 4) (nI e0)
      · exact hStp.id hI (c_X7_hush_s1 hG hr.ea.2 hl.1 he h2) (c_X8_hush_s hG hr.ea.1 hl.1 he h0 (by rw [hhu, hb_t h2]; rfl)) rfl (by decide) (by decide)
      · have c1 := c_X7_hush_o1 (l := l) hG hr.ea.2 hl.1 he hx.2.2.1 hx.2.1 h2
        obtain ⟨M1, hM1⟩ : ∃ M1, M1 = hc_ms (hKp M k 2 (nI e0) 0) 9 4 (M 9 4 ||| ((1 : Int32) <<< (nI e0 &&& 31))) := ⟨_, rfl⟩
        rw [← hM1] at c1
        have m54 : M1 54 = M 54 := by rw [hM1, hc_ms_n (by decide), kn _ _ _ 54 (by decide)]
        have m48 : M1 48 = M 48 := by rw [hM1, hc_ms_n (by decide), kn _ _ _ 48 (by decide)]
        refine hStp.of c1 (c_X8_hush_o (M := M1) (a := k) hG (by rw [m54]; exact hr.ea.1) hl.1 he (by rw [m48]; exact hx.2.2.2.1) hx.2.1 h0 (by rw [m54, hhu, hb_f h2]; decide)) ?_ (by decide) (by decide)
        rintro z' M2 ⟨rfl, rfl⟩
        refine hush_end hI hq hr hx he (by rw [es]; exact so) ?_ ?_ ?_ hM1
        · rw [hb_t]; · rfl
          · rw [hIn_or (by omega), hIn_one e0 (by omega) e0 (by omega)]; exact Or.inr rfl
        · intro i hi hne
          rw [hIn_or (by omega), hIn_one e0 (by omega) i (by omega)]
          exact ⟨fun w => w.elim id (fun c => absurd c hne), fun w => Or.inl w⟩
        · rw [if_neg (by decide)]; exact back_and (by omega) h2
  · exact hStp.id hI (c_X7_hush_b2 hG hr.ea.2 hl.1 he h0) (c_X8_hush_b2 hG hr.ea.1 hl.1 he h0) rfl (by decide) (by decide)
/-- the common end of undo -/
theorem undo_end (hI : Inv M) {a : Nat} (h42 : M 42 3 = nI (a + 1)) (h16 : M 48 16 = nI (a + 1)) (ha : a < 24) (hc : CH M (M 56) (a + 1)) {M1 : hc_Mem} (e42 : M1 42 3 = nI a) (hE : ∀ q, q ≤ 999 → hUn M (M 43 a) (M 44 a) (M 45 a) 9 2 = nI q → hEq q (hUn M (M 43 a) (M 44 a) (M 45 a)) M1)
    (hn : ∀ c, c < 9 ∨ (20 ≤ c ∧ c ≠ 42) → M1 c = M c) : Inv (hc_mf (hc_ms M1 48 16 (nI a)) 54 (va_cpy ((hc_ms M1 48 16 (nI a)) 56) ((hc_ms M1 48 16 (nI a)) 54) (68 * a) 0 68)) := by
  obtain ⟨M2, hM2⟩ : ∃ M2, hc_mf (hc_ms M1 48 16 (nI a)) 54 (va_cpy ((hc_ms M1 48 16 (nI a)) 56) ((hc_ms M1 48 16 (nI a)) 54) (68 * a) 0 68) = M2 := ⟨_, rfl⟩
  rw [hM2]
  have n0 : ∀ c, c ≠ 48 → c ≠ 54 → M2 c = M1 c := fun c p q => by rw [← hM2, hc_mf_n q, hc_ms_n p]
  have n54 : ∀ j, j < 68 → M2 54 j = M 56 (68 * a + j) := by
    intro j hj
    rw [← hM2, hc_mf_s]
    unfold va_cpy
    rw [if_pos (by omega), hc_ms_n (by decide), hn 56 (by omega), Nat.sub_zero]
  obtain ⟨ao, E, D, q, hq, hr⟩ := hc 0 (by omega)
  have e1 : a + 1 - 1 - 0 = a := by omega
  rw [e1] at ao hr
  have hr : HR E D q (hUn M (M 43 a) (M 44 a) (M 45 a)) (fun j => M 56 (68 * a + j)) := by
    have e2 : hUs M (a + 1) (0 + 1) = hUn M (M 43 (a + 1 - 1 - 0)) (M 44 (a + 1 - 1 - 0)) (M 45 (a + 1 - 1 - 0)) := rfl
    rw [e2, e1] at hr
    exact hr
  have hEq1 : hEq q (hUn M (M 43 a) (M 44 a) (M 45 a)) M2 := (hE q hq hr.qu.2).tr (hEq.of (fun c p r => n0 c (by omega) (by omega)))
  have hX : IX M2 M2 E D q a := by
    refine ⟨hq, by omega, by rw [n0 42 (by decide) (by decide)]; exact e42, by rw [← hM2, hc_mf_n (by decide), hc_ms_v], (hr.c hEq1).ag n54, ?_⟩
    refine CH_undo hc ⟨q, by omega, ?_, ?_⟩ (fun i hi => ?_) (fun i j hi hj => ?_)
    · show hUn M (M 43 (a + 1 - 1 - 0)) (M 44 (a + 1 - 1 - 0)) (M 45 (a + 1 - 1 - 0)) 9 2 = nI q
      rw [e1]; exact hr.qu.2
    · show hEq q (hUn M (M 43 (a + 1 - 1 - 0)) (M 44 (a + 1 - 1 - 0)) (M 45 (a + 1 - 1 - 0))) M2
      rw [e1]; exact hEq1
    · rw [n0 43 (by decide) (by decide), n0 44 (by decide) (by decide), n0 45 (by decide) (by decide), hn 43 (by omega), hn 44 (by omega), hn 45 (by omega)]
      exact ⟨rfl, rfl, rfl⟩
    · rw [n0 56 (by decide) (by decide), hn 56 (by omega)]
  refine hI.ac hX (fun c hc2 p q r => ?_) (fun j hj => ?_)
  · rw [n0 c p q, hn c (by omega)]
  · rw [← hM2, hc_mf_n (by decide), hc_ms_j hj, hn 48 (by omega)]
set_option maxRecDepth 100000 in
theorem st_undo (hG : hc_ok G) (hI : Inv M) : hStp l G yX7_undo cX7_undo 1 yX8_undo cX8_undo 1 [] M Eq := by
  obtain ⟨k, hk, h1, h2, h3⟩ := hI.2.2.2.2.1
  rcases Nat.eq_zero_or_pos k with hk0 | hk0
  · subst hk0
    exact hStp.id hI (c_X7_undo_0 hG h1) (c_X8_undo_0 hG h2) rfl (by decide) (by decide)
  obtain ⟨a, ha⟩ : ∃ a, k = a + 1 := ⟨k - 1, by omega⟩
  subst ha
  rcases h3 with ⟨w, _⟩ | ⟨⟨E, D, q, hq, hr⟩, hc⟩
  · omega
  have hl := hr.lim
  obtain ⟨ao, _⟩ := hc 0 (by omega)
  have e1 : a + 1 - 1 - 0 = a := by omega
  rw [e1] at ao
  have ao : aOk M (M 43 a) (M 44 a) := ao
  have key : ∀ {M1 : hc_Mem} {d1 : Nat}, hc_M l G yX7_undo cX7_undo 1 (some .int) d1 [.ref (hc_ad G 0)] M (hc_pi (fun z M' => nI a = z ∧ M1 = M')) → d1 ≤ 20 → M1 42 3 = nI a → (∀ q, q ≤ 999 → hUn M (M 43 a) (M 44 a) (M 45 a) 9 2 = nI q → hEq q (hUn M (M 43 a) (M 44 a) (M 45 a)) M1) → (∀ c, c < 9 ∨ (20 ≤ c ∧ c ≠ 42) → M1 c = M c) → hStp l G yX7_undo cX7_undo 1 yX8_undo cX8_undo 1 [] M Eq := by
    intro M1 d1 c1 hd1 e42 hE hn
    refine hStp.of c1 (c_X8_undo_o (M := M1) (a := a) hG (by rw [hn 48 (by omega)]; exact h2) (by omega)) ?_ hd1 (by decide)
    rintro z' M2 ⟨rfl, rfl⟩
    exact ⟨rfl, undo_end hI h1 h2 (by omega) hc e42 hE hn⟩
  rcases ao with ⟨hd, q0, hq0, eq0⟩ | ⟨hd, w0, hw0, ew⟩ | hd | hd
  · refine key (c_X7_undo_0o hG h1 (by omega) hd hr.ea.2 hl.1 eq0 hq0) (by decide) ?_ ?_ ?_
    · rw [hBack_n (by decide) (by decide), hc_ms_v]
    · intro q' hq9 hq'
      unfold hUn at hq' ⊢
      rw [hd, if_neg (by decide), if_neg (by decide), if_neg (by decide), hr.ea.2, eq0, nI_clamp (by omega), nI_clamp (by omega)] at hq' ⊢
      have e2 : q0 + 1 - 1 = q0 := by omega
      rw [e2] at hq' ⊢
      rw [hBack_92] at hq'
      have hqq : q0 = q' := (nI_eq (by omega) (by omega)).mp hq'
      rw [← hqq]
      exact hEq_back (hEq.of (fun c p r => hc_ms_n (by omega)))
    · intro c hc2
      rw [hBack_n (by omega) (by omega), hc_ms_n (by omega)]
  · refine key (c_X7_undo_1o hG h1 (by omega) hd ew hw0) (by decide) ?_ ?_ ?_
    · rw [hc_ms_n (by decide), hc_ms_v]
    · intro q' _ _
      unfold hUn
      rw [hd, if_pos rfl, ew, nI_clamp (by omega)]
      refine hEq.of (fun c p r => ?_)
      by_cases c12 : c = 12
      · subst c12; rw [hc_ms_s, hc_ms_s, hc_ms_n (by decide)]
      · rw [hc_ms_n c12, hc_ms_n c12, hc_ms_n (by omega)]
    · intro c hc2
      rw [hc_ms_n (by omega), hc_ms_n (by omega)]
  · by_cases hb1 : M 45 a = 1
    · refine key (c_X7_undo_21o hG h1 (by omega) hd hb1) (by decide) ?_ ?_ ?_
      · rw [hc_ms_n (by decide), hc_ms_v]
      · intro q' _ _
        unfold hUn
        rw [hd, if_neg (show ¬ (2 : Int32) = 1 by decide), if_pos rfl, if_pos hb1]
        refine hEq.of (fun c p r => ?_)
        by_cases c12 : c = 9
        · subst c12; rw [hc_ms_s, hc_ms_s, hc_ms_n (by decide)]
        · rw [hc_ms_n c12, hc_ms_n c12, hc_ms_n (by omega)]
      · intro c hc2
        rw [hc_ms_n (by omega), hc_ms_n (by omega)]
    · refine key (c_X7_undo_20o hG h1 (by omega) hd hb1) (by decide) ?_ ?_ ?_
      · rw [hc_ms_n (by decide), hc_ms_v]
      · intro q' _ _
        unfold hUn
        rw [hd, if_neg (show ¬ (2 : Int32) = 1 by decide), if_pos rfl, if_neg hb1]
        refine hEq.of (fun c p r => ?_)
        by_cases c12 : c = 9
        · subst c12; rw [hc_ms_s, hc_ms_s, hc_ms_n (by decide)]
        · rw [hc_ms_n c12, hc_ms_n c12, hc_ms_n (by omega)]
      · intro c hc2
        rw [hc_ms_n (by omega), hc_ms_n (by omega)]
  · refine key (c_X7_undo_3o hG h1 (by omega) hd) (by decide) ?_ ?_ ?_
    · rw [hc_ms_n (by decide), hc_ms_v]
    · intro q' _ _
      unfold hUn
      rw [hd, if_neg (show ¬ (3 : Int32) = 1 by decide), if_neg (show ¬ (3 : Int32) = 2 by decide), if_pos rfl]
      refine hEq.of (fun c p r => ?_)
      by_cases c12 : c = 9
      · subst c12; rw [hc_ms_s, hc_ms_s, hc_ms_n (by decide)]
      · rw [hc_ms_n c12, hc_ms_n c12, hc_ms_n (by omega)]
    · intro c hc2
      rw [hc_ms_n (by omega), hc_ms_n (by omega)]
end
