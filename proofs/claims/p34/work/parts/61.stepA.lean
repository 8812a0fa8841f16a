/-! CALLS OF BOTH: asked of ears, of the clock, counts -/
theorem Inv.hs {M : hc_Mem} (h : Inv M) : NH M ∨ ∃ E D q, q ≤ 999 ∧ HR E D q M (M 54) := by
  obtain ⟨k, _, _, _, h3⟩ := h.2.2.2.2.1
  rcases h3 with h3 | h3
  · exact Or.inl h3.2
  · exact Or.inr h3.1
theorem Inv.ear {M : hc_Mem} (h : Inv M) (v : Int32) : (¬ (¬ v < 0 ∧ ¬ M 9 5 ≤ v) ∧ ∃ E, E < 2 ^ 30 ∧ M 54 4 = nI E ∧ ¬ (¬ v < 0 ∧ ¬ M 54 4 ≤ v)) ∨ ∃ E D q e0, q ≤ 999 ∧ HR E D q M (M 54) ∧ e0 < E ∧ v = nI e0 := by
  rcases h.hs with hn | ⟨E, D, q, hq, hr⟩
  · refine Or.inl ?_
    rw [hn.2.2.1, hn.2.2.2.1]
    have k : ¬ (¬ v < 0 ∧ ¬ (0 : Int32) ≤ v) := fun w => w.2 (Int32.not_lt.mp w.1)
    exact ⟨k, 0, by decide, rfl, k⟩
  · have hl := hr.lim
    by_cases k : ¬ v < 0 ∧ ¬ nI E ≤ v
    · obtain ⟨e0, he, rfl⟩ : ∃ i : Nat, i < E ∧ v = nI i := hx_ix E rfl k.1 k.2 (by omega)
      exact Or.inr ⟨E, D, q, e0, hq, hr, he, rfl⟩
    · refine Or.inl ?_
      rw [hr.ea.1, hr.ea.2]
      exact ⟨k, E, by omega, rfl, k⟩
theorem Inv.doi {M : hc_Mem} (h : Inv M) (v : Int32) : (¬ (¬ v < 0 ∧ ¬ M 9 6 ≤ v) ∧ ∃ E, E < 2 ^ 30 ∧ M 54 5 = nI E ∧ ¬ (¬ v < 0 ∧ ¬ M 54 5 ≤ v)) ∨ ∃ E D q x, q ≤ 999 ∧ HR E D q M (M 54) ∧ x < D ∧ v = nI x := by
  rcases h.hs with hn | ⟨E, D, q, hq, hr⟩
  · refine Or.inl ?_
    rw [hn.2.2.2.2.1, hn.2.2.2.2.2.1]
    have k : ¬ (¬ v < 0 ∧ ¬ (0 : Int32) ≤ v) := fun w => w.2 (Int32.not_lt.mp w.1)
    exact ⟨k, 0, by decide, rfl, k⟩
  · have hl := hr.lim
    by_cases k : ¬ v < 0 ∧ ¬ nI D ≤ v
    · obtain ⟨e0, he, rfl⟩ : ∃ i : Nat, i < D ∧ v = nI i := hx_ix D rfl k.1 k.2 (by omega)
      exact Or.inr ⟨E, D, q, e0, hq, hr, he, rfl⟩
    · refine Or.inl ?_
      rw [hr.do.1, hr.do.2]
      exact ⟨k, D, by omega, rfl, k⟩
theorem NH.n {M : hc_Mem} (h : NH M) : M 9 0 = 0 ∧ ¬ M 54 0 = 1 := ⟨h.1, by rw [h.2.1]; decide⟩
theorem HR.s1 {E D q : Nat} {M : hc_Mem} {f : Nat → Int32} (h : HR E D q M f) : ¬ M 9 0 = 0 := by rw [h.st.2]; decide
theorem as_eq0 : ∀ k, k < 5 → ∀ w, w < 6 → (decide (hOne (nI w) 3 (nI (k + 1)) = nI w) = decide (nI w = 0 ∨ nI w = nI (k + 1) ∨ (nI w = 1 ∧ nI (k + 1) < 4) ∨ (nI w = 4 ∧ nI (k + 1) = 5))) := by decide +kernel
theorem as_eq {k w : Nat} (hk : k < 6) (k1 : 1 ≤ k) (hw : w < 6) : hOne (nI w) 3 (nI k) = nI w ↔ rAs (nI k) (nI w) := by
  have h := as_eq0 (k - 1) (by omega) w hw
  rw [show k - 1 + 1 = k by omega] at h
  exact decide_eq_decide.mp h
section
variable {l : Launch} {G : hc_Geo} {M : hc_Mem}
theorem st_kind (hG : hc_ok G) (hI : Inv M) (v1 : Int32) : hStp l G yX7_kind cX7_kind 2 yX8_kind cX8_kind 2 [.int v1] M Eq := by
  rcases hI.ear v1 with ⟨a, E, b, c, d⟩ | ⟨E, D, q, e0, hq, hr, he, rfl⟩
  · exact hStp.id hI (c_X7_kind_b hG a) (c_X8_kind_b hG c b d) rfl (by decide) (by decide)
  · exact hStp.id hI (c_X7_kind_o hG hr.ea.2 hr.lim.1 he) (c_X8_kind_o hG hr.ea.1 hr.lim.1 he) (hr.es e0 he).1.symm (by decide) (by decide)
theorem st_as (hG : hc_ok G) (hI : Inv M) (v1 v2 : Int32) : hStp l G yX7_as cX7_as 3 yX8_as cX8_as 5 [.int v1, .int v2] M Eq := by
  rcases hI.ear v1 with ⟨a, E, b, c, d⟩ | ⟨E, D, q, e0, hq, hr, he, rfl⟩
  · exact hStp.id hI (c_X7_as_b hG a) (c_X8_as_b hG c b d) rfl (by decide) (by decide)
  · by_cases h0 : ¬ v2 < 0 ∧ ¬ 5 < v2
    · obtain ⟨w, hw, rfl⟩ : ∃ j : Nat, j ≤ 5 ∧ v2 = nI j := nI_of2 (M := 5) rfl h0.1 (Int32.not_lt.mp h0.2)
      obtain ⟨k, k1, k5, ek⟩ := (hr.es e0 he).2.2.2.2.2.2.2.1
      have hf : M 54 (6 + 7 * e0) = nI k := (hr.es e0 he).1.trans ek
      have hiff := as_eq (k := k) (w := w) (by omega) k1 (by omega)
      by_cases h2 : hOne (nI w) 3 (M 10 e0) = nI w
      · have hra : rAs (M 54 (6 + 7 * e0)) (nI w) := by rw [hf]; rw [ek] at h2; exact hiff.mp h2
        refine hStp.of (c_X7_as_o hG hr.ea.2 hr.lim.1 he h0 h2) (c_X8_as_o (M := hc_ms M 0 8 0) hG hr.ea.1 hr.lim.1 he h0) ?_ (by decide) (by decide)
        rintro z' M2 ⟨rfl, rfl⟩
        show nI e0 = (if rAs (M 54 (6 + 7 * e0)) (nI w) then nI e0 else -1000013) ∧ Inv (hc_ms (hc_ms M 0 8 0) 48 4 (if rAs (M 54 (6 + 7 * e0)) (nI w) then 0 else 3))
        rw [if_pos hra, if_pos hra]
        exact ⟨rfl, hI.stat0⟩
      · have hra : ¬ rAs (M 54 (6 + 7 * e0)) (nI w) := by rw [hf]; rw [ek] at h2; exact fun w => h2 (hiff.mpr w)
        refine hStp.of (c_X7_as_f hG hr.ea.2 hr.lim.1 he h0 h2) (c_X8_as_o (M := hc_ms M 0 8 3) hG hr.ea.1 hr.lim.1 he h0) ?_ (by decide) (by decide)
        rintro z' M2 ⟨rfl, rfl⟩
        show (-1000013 : Int32) = (if rAs (M 54 (6 + 7 * e0)) (nI w) then nI e0 else -1000013) ∧ Inv (hc_ms (hc_ms M 0 8 3) 48 4 (if rAs (M 54 (6 + 7 * e0)) (nI w) then 0 else 3))
        rw [if_neg hra, if_neg hra]
        exact ⟨rfl, hI.stat0⟩
    · exact hStp.id hI (c_X7_as_b2 hG hr.ea.2 hr.lim.1 he h0) (c_X8_as_b2 hG hr.ea.1 hr.lim.1 he h0) rfl (by decide) (by decide)
end
/-! asks -/
theorem rTr_61 : ∀ (l : List Int32) (M : hc_Mem) (n j : Nat), rTr M n l 61 j = if n ≤ j ∧ j < n + l.length then l.getD (j - n) 0 else M 61 j := by
  intro l
  induction l with
  | nil =>
    intro M n j
    rw [if_neg (show ¬ (n ≤ j ∧ j < n + ([] : List Int32).length) from fun w => by have := w.2; simp at this; omega)]
    rfl
  | cons x l ih =>
    intro M n j
    show rTr (hc_ms (hc_ms M 61 n x) 48 22 (nI (n + 1))) (n + 1) l 61 j = _
    rw [ih, hc_ms_n (by decide), hc_ms_s]
    simp only [List.length_cons]
    by_cases hj : j = n
    · subst hj
      rw [if_neg (by omega), if_pos (by omega), upd_eq]
      simp
    · by_cases h1 : n + 1 ≤ j ∧ j < n + 1 + l.length
      · rw [if_pos h1, if_pos (by omega)]
        obtain ⟨t, ht⟩ : ∃ t, j - n = t + 1 := ⟨j - n - 1, by omega⟩
        rw [ht, show j - (n + 1) = t by omega]
        rfl
      · rw [if_neg h1, if_neg (by omega), upd_ne hj]
theorem rTr_48 {j : Nat} (h : j ≠ 22) : ∀ (l : List Int32) (M : hc_Mem) (n : Nat), rTr M n l 48 j = M 48 j := by
  intro l
  induction l with
  | nil => intro M n; rfl
  | cons x l ih =>
    intro M n
    show rTr (hc_ms (hc_ms M 61 n x) 48 22 (nI (n + 1))) (n + 1) l 48 j = _
    rw [ih, hc_ms_j h, hc_ms_n (by decide)]
theorem hTr_n {M : hc_Mem} {l : List Int32} {e c : Nat} (h : c ≠ 46) (h2 : c ≠ 47) : hTr (hAsk M e) l c = M c := by
  unfold hTr hAsk
  rw [hc_ms_n h, hc_mf_n h2, hc_ms_n h, hc_ms_n h, hc_ms_n h, hc_ms_n h, hc_ms_n h]
theorem Inv.tr {M : hc_Mem} (h : Inv M) {l : List Int32} {e : Nat} (hl : l.length ≤ 16) : Inv (rTr (hc_ms (hTr (hAsk M e) l) 48 22 0) 0 l) := by
  obtain ⟨h1, h2, h3, h4, h5, h6, h7⟩ := h
  have e0 : ∀ c, c ≠ 46 → c ≠ 47 → c ≠ 48 → c ≠ 61 → rTr (hc_ms (hTr (hAsk M e) l) 48 22 0) 0 l c = M c := by
    intro c a b d f
    rw [rTr_n f d, hc_ms_n d, hTr_n a b]
  have e48 : ∀ j, j ≠ 22 → rTr (hc_ms (hTr (hAsk M e) l) 48 22 0) 0 l 48 j = M 48 j := by
    intro j hj
    rw [rTr_48 hj, hc_ms_j hj, hTr_n (by decide) (by decide)]
  refine ⟨h1.c (e0 2 (by decide) (by decide) (by decide) (by decide)) (e0 3 (by decide) (by decide) (by decide) (by decide)) (e0 4 (by decide) (by decide) (by decide) (by decide)) (e0 49 (by decide) (by decide) (by decide) (by decide)) (e0 50 (by decide) (by decide) (by decide) (by decide)) (e0 51 (by decide) (by decide) (by decide) (by decide)), ?_, ?_, ?_, ?_, ?_, ?_⟩
  · rw [e0 0 (by decide) (by decide) (by decide) (by decide), e48 4 (by decide)]; exact h2
  · exact h3.c (by rw [e0 5 (by decide) (by decide) (by decide) (by decide)]) (e0 6 (by decide) (by decide) (by decide) (by decide)) (e48 6 (by decide)) (e0 53 (by decide) (by decide) (by decide) (by decide))
  · rw [e0 0 (by decide) (by decide) (by decide) (by decide), e48 7 (by decide)]; exact h4
  · exact h5.c (fun c a b => e0 c (by omega) (by omega) (by omega) (by omega)) (fun c a b => e0 c (by omega) (by omega) (by omega) (by omega)) (e48 16 (by decide)) (e0 54 (by decide) (by decide) (by decide) (by decide)) (e0 56 (by decide) (by decide) (by decide) (by decide))
  · exact h6.c (fun c a b => e0 c (by omega) (by omega) (by omega) (by omega)) (e0 57 (by decide) (by decide) (by decide) (by decide)) (e0 58 (by decide) (by decide) (by decide) (by decide))
  · refine ⟨l.length, hl, ?_, ?_, fun i hi => ?_⟩
    · rw [rTr_n (by decide) (by decide), hc_ms_n (by decide)]
      unfold hTr
      rw [hc_ms_v]
    · have := rTr_22 l (hc_ms (hTr (hAsk M e) l) 48 22 0) 0 (by rw [hc_ms_v]; rfl)
      rw [this, Nat.zero_add]
    · rw [rTr_61, if_pos (by omega), rTr_n (by decide) (by decide), hc_ms_n (by decide)]
      unfold hTr
      rw [hc_ms_n (by decide), hc_mf_s, if_pos hi]
      rfl
section
variable {l : Launch} {G : hc_Geo} {M : hc_Mem}
theorem st_ask_k (hG : hc_ok G) (hI : Inv M) {v : Int32} {E D q e0 d1 d2 : Nat} {r1 r2 : Int32} {ls : List Int32} (hls : ls.length ≤ 16)
    (h1 : hc_M l G yX7_ask cX7_ask 3 (some .int) d1 [.ref (hc_ad G 0), .int (nI e0), .int v] M (hc_pi (fun z M' => r1 = z ∧ hTr (hAsk M e0) ls = M')))
    (h2 : hc_M l G yX8_ask cX8_ask 4 (some .int) d2 [.ref (hc_ad G 48), .int (nI e0), .int v] (hTr (hAsk M e0) ls) (hc_pi (fun z M' => r2 = z ∧ rTr (hc_ms (hTr (hAsk M e0) ls) 48 22 0) 0 ls = M')))
    (e : r1 = r2) (hd1 : d1 ≤ 20) (hd2 : d2 ≤ 20) : hStp l G yX7_ask cX7_ask 3 yX8_ask cX8_ask 4 [.int (nI e0), .int v] M Eq := by
  refine hStp.of h1 h2 ?_ hd1 hd2
  rintro z' M2 ⟨rfl, rfl⟩
  exact ⟨e, hI.tr hls⟩
set_option maxRecDepth 100000 in
theorem st_ask (hG : hc_ok G) (hI : Inv M) (v1 v2 : Int32) : hStp l G yX7_ask cX7_ask 3 yX8_ask cX8_ask 4 [.int v1, .int v2] M Eq := by
  rcases hI.ear v1 with ⟨a, E, b, c, d⟩ | ⟨E, D, q, e0, hq, hr, he, rfl⟩
  · exact hStp.id hI (c_X7_ask_b hG a) (c_X8_ask_b hG c b d) rfl (by decide) (by decide)
  · have hl := hr.lim
    by_cases h0 : ¬ v2 < 0 ∧ ¬ 1 < v2
    · obtain ⟨w, hw, rfl⟩ : ∃ j : Nat, j ≤ 1 ∧ v2 = nI j := nI_of2 (M := 1) rfl h0.1 (Int32.not_lt.mp h0.2)
      obtain ⟨a1, a2, _, _, _, _, a7, ⟨k, k1, k5, ek⟩, _⟩ := hr.es e0 he
      have hf : M 54 (6 + 7 * e0) = nI k := a1.trans ek
      have t54 : ∀ ls, hTr (hAsk M e0) ls 54 = M 54 := fun ls => hTr_n (by decide) (by decide)
      have tE : ∀ ls, hTr (hAsk M e0) ls 54 4 = nI E := fun ls => by rw [t54]; exact hr.ea.1
      have hw2 : w = 0 ∨ w = 1 := by omega
      have hk : k = 1 ∨ k = 2 ∨ k = 3 ∨ k = 4 ∨ k = 5 := by omega
      rcases hk with rfl | rfl | rfl | rfl | rfl
      · rcases hw2 with rfl | rfl
        · have c2 := c_X8_ask_00 (l := l) (M := hTr (hAsk M e0) [11, 10, 21, 20]) hG (tE _) hl.1 he (by rw [t54, hf]; decide)
          rw [t54, hf] at c2
          refine st_ask_k (E := E) (D := D) (q := q) hG hI (by decide) (c_X7_ask_1_0 hG hr.ea.2 hl.1 he ek) c2 ?_ (by decide) (by decide)
          unfold rPS rPM
          rw [hf, a2, a7]
          rfl
        · have c2 := c_X8_ask_10 (l := l) (M := hTr (hAsk M e0) [21, 20]) hG (tE _) hl.1 he (by rw [t54, hf]; decide)
          rw [t54, hf] at c2
          refine st_ask_k (E := E) (D := D) (q := q) hG hI (by decide) (c_X7_ask_1_1 hG hr.ea.2 hl.1 he ek) c2 ?_ (by decide) (by decide)
          unfold rPM
          rw [hf, a7]
          rfl
      · rcases hw2 with rfl | rfl
        · have c2 := c_X8_ask_00 (l := l) (M := hTr (hAsk M e0) [12, 11, 10, 24, 21, 20]) hG (tE _) hl.1 he (by rw [t54, hf]; decide)
          rw [t54, hf] at c2
          refine st_ask_k (E := E) (D := D) (q := q) hG hI (by decide) (c_X7_ask_2_0 hG hr.ea.2 hl.1 he ek) c2 ?_ (by decide) (by decide)
          unfold rPS rPM
          rw [hf, a2, a7]
          rfl
        · have c2 := c_X8_ask_10 (l := l) (M := hTr (hAsk M e0) [24, 21, 20]) hG (tE _) hl.1 he (by rw [t54, hf]; decide)
          rw [t54, hf] at c2
          refine st_ask_k (E := E) (D := D) (q := q) hG hI (by decide) (c_X7_ask_2_1 hG hr.ea.2 hl.1 he ek) c2 ?_ (by decide) (by decide)
          unfold rPM
          rw [hf, a7]
          rfl
      · rcases hw2 with rfl | rfl
        · have c2 := c_X8_ask_00 (l := l) (M := hTr (hAsk M e0) [11, 10, 22, 21, 20]) hG (tE _) hl.1 he (by rw [t54, hf]; decide)
          rw [t54, hf] at c2
          refine st_ask_k (E := E) (D := D) (q := q) hG hI (by decide) (c_X7_ask_3_0 hG hr.ea.2 hl.1 he ek) c2 ?_ (by decide) (by decide)
          unfold rPS rPM
          rw [hf, a2, a7]
          rfl
        · have c2 := c_X8_ask_10 (l := l) (M := hTr (hAsk M e0) [22, 21, 20]) hG (tE _) hl.1 he (by rw [t54, hf]; decide)
          rw [t54, hf] at c2
          refine st_ask_k (E := E) (D := D) (q := q) hG hI (by decide) (c_X7_ask_3_1 hG hr.ea.2 hl.1 he ek) c2 ?_ (by decide) (by decide)
          unfold rPM
          rw [hf, a7]
          rfl
      · rcases hw2 with rfl | rfl
        · have c2 := c_X8_ask_01 (l := l) (M := hTr (hAsk M e0) [13, 10]) hG (tE _) hl.1 he (by rw [t54, hf]; decide)
          rw [t54, hf] at c2
          refine st_ask_k (E := E) (D := D) (q := q) hG hI (by decide) (c_X7_ask_4_0 hG hr.ea.2 hl.1 he ek) c2 ?_ (by decide) (by decide)
          unfold rCS
          rw [hf, a2]
          rfl
        · have c2 := c_X8_ask_11 (l := l) (M := hTr (hAsk M e0) [23, 20, 13, 10]) hG (tE _) hl.1 he (by rw [t54, hf]; decide)
          rw [t54, hf] at c2
          refine st_ask_k (E := E) (D := D) (q := q) hG hI (by decide) (c_X7_ask_4_1 hG hr.ea.2 hl.1 he ek) c2 ?_ (by decide) (by decide)
          unfold rCS
          rw [hf, a2]
          rfl
      · rcases hw2 with rfl | rfl
        · have c2 := c_X8_ask_01 (l := l) (M := hTr (hAsk M e0) [14, 13, 10]) hG (tE _) hl.1 he (by rw [t54, hf]; decide)
          rw [t54, hf] at c2
          refine st_ask_k (E := E) (D := D) (q := q) hG hI (by decide) (c_X7_ask_5_0 hG hr.ea.2 hl.1 he ek) c2 ?_ (by decide) (by decide)
          unfold rCS
          rw [hf, a2]
          rfl
        · have c2 := c_X8_ask_11 (l := l) (M := hTr (hAsk M e0) [23, 20, 14, 13, 10]) hG (tE _) hl.1 he (by rw [t54, hf]; decide)
          rw [t54, hf] at c2
          refine st_ask_k (E := E) (D := D) (q := q) hG hI (by decide) (c_X7_ask_5_1 hG hr.ea.2 hl.1 he ek) c2 ?_ (by decide) (by decide)
          unfold rCS
          rw [hf, a2]
          rfl
    · exact hStp.id hI (c_X7_ask_b2 hG hr.ea.2 hl.1 he h0) (c_X8_ask_b2 hG hr.ea.1 hl.1 he h0) rfl (by decide) (by decide)
end
