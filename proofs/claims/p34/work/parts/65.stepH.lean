/-! CALLS OF BOTH: images; a house is read -/
theorem like_eq {X Y : hc_Mem} {q : Nat} (h9 : ∀ j, j ≤ 6 → X 9 j = Y 9 j) (h10 : ∀ c, 10 ≤ c → c ≤ 15 → ∀ j, j < 6 → X c j = Y c j) (h16 : ∀ c, 16 ≤ c → c ≤ 18 → ∀ j, j < 4 → X c j = Y c j) (h19 : ∀ i, i ≤ q → X 19 i = Y 19 i) : hEq q Y X := ⟨h9, h10, h16, h19⟩
theorem cpy_in {f g : Nat → Int32} {n j : Nat} (h : j < n) : va_cpy f g 0 0 n j = f j := by
  unfold va_cpy
  rw [if_pos (by omega)]
  congr 1
  omega
theorem j6 {P : Nat → Prop} (h0 : P 0) (h1 : P 1) (h2 : P 2) (h3 : P 3) (h4 : P 4) (h5 : P 5) (h6 : P 6) : ∀ j, j ≤ 6 → P j := by
  intro j hj
  have : j = 0 ∨ j = 1 ∨ j = 2 ∨ j = 3 ∨ j = 4 ∨ j = 5 ∨ j = 6 := by omega
  rcases this with rfl | rfl | rfl | rfl | rfl | rfl | rfl <;> assumption
theorem c10 {P : Nat → Prop} (h0 : P 10) (h1 : P 11) (h2 : P 12) (h3 : P 13) (h4 : P 14) (h5 : P 15) : ∀ c, 10 ≤ c → c ≤ 15 → P c := by
  intro j hj hj2
  have : j = 10 ∨ j = 11 ∨ j = 12 ∨ j = 13 ∨ j = 14 ∨ j = 15 := by omega
  rcases this with rfl | rfl | rfl | rfl | rfl | rfl <;> assumption
theorem c16 {P : Nat → Prop} (h0 : P 16) (h1 : P 17) (h2 : P 18) : ∀ c, 16 ≤ c → c ≤ 18 → P c := by
  intro j hj hj2
  have : j = 16 ∨ j = 17 ∨ j = 18 := by omega
  rcases this with rfl | rfl | rfl <;> assumption
set_option maxRecDepth 100000 in
theorem like_20_9 {M : hc_Mem} {q : Nat} : hEq q M (fun c => hLike_20_9 M q (c + 11)) := by
  refine like_eq (j6 rfl rfl rfl rfl rfl rfl rfl) (c10 (fun j hj => cpy_in hj) (fun j hj => cpy_in hj) (fun j hj => cpy_in hj) (fun j hj => cpy_in hj) (fun j hj => cpy_in hj) (fun j hj => cpy_in hj)) (c16 (fun j hj => cpy_in hj) (fun j hj => cpy_in hj) (fun j hj => cpy_in hj)) (fun i hi => cpy_in (by omega))
set_option maxRecDepth 100000 in
theorem like_31_9 {M : hc_Mem} {q : Nat} : hEq q M (fun c => hLike_31_9 M q (c + 22)) := by
  refine like_eq (j6 rfl rfl rfl rfl rfl rfl rfl) (c10 (fun j hj => cpy_in hj) (fun j hj => cpy_in hj) (fun j hj => cpy_in hj) (fun j hj => cpy_in hj) (fun j hj => cpy_in hj) (fun j hj => cpy_in hj)) (c16 (fun j hj => cpy_in hj) (fun j hj => cpy_in hj) (fun j hj => cpy_in hj)) (fun i hi => cpy_in (by omega))
set_option maxRecDepth 100000 in
theorem like_9_20 {M : hc_Mem} {q : Nat} : hEq q (fun c => M (c + 11)) (hLike_9_20 M q) := by
  refine like_eq (j6 rfl rfl rfl rfl rfl rfl rfl) (c10 (fun j hj => cpy_in hj) (fun j hj => cpy_in hj) (fun j hj => cpy_in hj) (fun j hj => cpy_in hj) (fun j hj => cpy_in hj) (fun j hj => cpy_in hj)) (c16 (fun j hj => cpy_in hj) (fun j hj => cpy_in hj) (fun j hj => cpy_in hj)) (fun i hi => cpy_in (by omega))
set_option maxRecDepth 100000 in
theorem like_9_31 {M : hc_Mem} {q : Nat} : hEq q (fun c => M (c + 22)) (hLike_9_31 M q) := by
  refine like_eq (j6 rfl rfl rfl rfl rfl rfl rfl) (c10 (fun j hj => cpy_in hj) (fun j hj => cpy_in hj) (fun j hj => cpy_in hj) (fun j hj => cpy_in hj) (fun j hj => cpy_in hj) (fun j hj => cpy_in hj)) (c16 (fun j hj => cpy_in hj) (fun j hj => cpy_in hj) (fun j hj => cpy_in hj)) (fun i hi => cpy_in (by omega))
theorem like20_n {M : hc_Mem} {q c : Nat} (h : c < 20 ∨ 30 < c) : hLike_20_9 M q c = M c := by
  unfold hLike_20_9
  repeat (first | rw [hc_mf_n (by omega)] | rw [hc_ms_n (by omega)])
theorem like31_n {M : hc_Mem} {q c : Nat} (h : c < 31 ∨ 41 < c) : hLike_31_9 M q c = M c := by
  unfold hLike_31_9
  repeat (first | rw [hc_mf_n (by omega)] | rw [hc_ms_n (by omega)])
theorem like9_20_n {M : hc_Mem} {q c : Nat} (h : c < 9 ∨ 19 < c) : hLike_9_20 M q c = M c := by
  unfold hLike_9_20
  repeat (first | rw [hc_mf_n (by omega)] | rw [hc_ms_n (by omega)])
theorem like9_31_n {M : hc_Mem} {q c : Nat} (h : c < 9 ∨ 19 < c) : hLike_9_31 M q c = M c := by
  unfold hLike_9_31
  repeat (first | rw [hc_mf_n (by omega)] | rw [hc_ms_n (by omega)])
/-- images alone change -/
theorem Inv.im {M M' : hc_Mem} (h : Inv M) (hi : II M') (e : ∀ c, c < 20 ∨ 41 < c → c ≠ 57 → c ≠ 58 → M' c = M c) : Inv M' := by
  obtain ⟨h1, h2, h3, h4, h5, h6, h7⟩ := h
  have e48 := e 48 (by omega) (by decide) (by decide)
  have e00 := e 0 (by omega) (by decide) (by decide)
  refine ⟨h1.c (e 2 (by omega) (by decide) (by decide)) (e 3 (by omega) (by decide) (by decide)) (e 4 (by omega) (by decide) (by decide)) (e 49 (by omega) (by decide) (by decide)) (e 50 (by omega) (by decide) (by decide)) (e 51 (by omega) (by decide) (by decide)), by rw [e00, e48]; exact h2, ?_, by rw [e00, e48]; exact h4, ?_, hi, ?_⟩
  · exact h3.c (by rw [e 5 (by omega) (by decide) (by decide)]) (e 6 (by omega) (by decide) (by decide)) (by rw [e48]) (e 53 (by omega) (by decide) (by decide))
  · exact h5.c (fun c a b => e c (by omega) (by omega) (by omega)) (fun c a b => e c (by omega) (by omega) (by omega)) (by rw [e48]) (e 54 (by omega) (by decide) (by decide)) (e 56 (by omega) (by decide) (by decide))
  · exact h7.c (by rw [e 46 (by omega) (by decide) (by decide)]) (e 47 (by omega) (by decide) (by decide)) (by rw [e48]) (e 61 (by omega) (by decide) (by decide))
section
variable {l : Launch} {G : hc_Geo} {M : hc_Mem}
set_option maxRecDepth 100000 in
theorem st_image (hG : hc_ok G) (hI : Inv M) (v1 : Int32) : hStp l G yX7_image cX7_image 2 yX8_image cX8_image 2 [.int v1] M Eq := by
  by_cases h0 : ¬ v1 < 0 ∧ ¬ 1 < v1
  · rcases hI.hs with hn | ⟨E, D, q, hq, hr⟩
    · exact hStp.id hI (c_X7_image_n hG h0 hn.n.1) (c_X8_image_n hG h0 hn.n.2) rfl (by decide) (by decide)
    obtain ⟨w, hw, rfl⟩ : ∃ j : Nat, j ≤ 1 ∧ v1 = nI j := nI_of2 (M := 1) rfl h0.1 (Int32.not_lt.mp h0.2)
    have hww : w = 0 ∨ w = 1 := by omega
    rcases hww with rfl | rfl
    · obtain ⟨M1, hM1⟩ : ∃ M1, M1 = hLike_20_9 M q := ⟨_, rfl⟩
      have c1 := c_X7_image_o0 (l := l) hG hr.s1 hr.qu.2 hq (Or.inr hr.st.2)
      rw [← hM1] at c1
      have m1 : ∀ c, c < 20 ∨ 30 < c → M1 c = M c := fun c hc => by rw [hM1]; exact like20_n hc
      refine hStp.of c1 (c_X8_image_o (M := M1) (k := 0) hG (by rw [m1 54 (by omega)]; exact hr.st.1) (by decide)) ?_ (by decide) (by decide)
      rintro z' M2 ⟨rfl, hM2⟩
      have n0 : ∀ c, c ≠ 57 → c ≠ 58 → M2 c = M1 c := fun c a b => by rw [← hM2, hc_ms_n b, hc_mf_n a]
      have n57 : M2 57 = va_cpy (M 54) (M 57) 0 (68 * 0) 68 := by rw [← hM2, hc_ms_n (by decide), hc_mf_s, m1 54 (by omega), m1 57 (by omega)]
      have n58 : M2 58 = upd (M 58) 0 1 := by rw [← hM2, hc_ms_s, hc_mf_n (by decide), m1 58 (by omega)]
      refine ⟨rfl, hI.im ⟨Or.inr ⟨by rw [n58, upd_eq], E, D, q, hq, ?_⟩, hI.2.2.2.2.2.1.2.c ?_ ?_ ?_⟩ ?_⟩
      · have hq2 : hEq q M (fun c => M2 (c + 11)) := by
          refine (like_20_9 (M := M) (q := q)).tr (hEq.of (fun c a b => ?_))
          show M2 (c + 11) = hLike_20_9 M q (c + 11)
          rw [n0 _ (by omega) (by omega), hM1]
        refine (hr.c hq2).ag (fun j hj => ?_)
        rw [n57]
        unfold va_cpy
        rw [if_pos (by omega)]
        congr 1
        omega
      · intro c a b
        rw [n0 c (by omega) (by omega), m1 c (by omega)]
      · intro j hj
        rw [n57]
        unfold va_cpy
        rw [if_neg (by omega)]
      · rw [n58, upd_ne (by decide)]
      · intro c hc a b
        rw [n0 c a b, m1 c (by omega)]
    · obtain ⟨M1, hM1⟩ : ∃ M1, M1 = hLike_31_9 M q := ⟨_, rfl⟩
      have c1 := c_X7_image_o1 (l := l) hG hr.s1 hr.qu.2 hq (Or.inr hr.st.2)
      rw [← hM1] at c1
      have m1 : ∀ c, c < 31 ∨ 41 < c → M1 c = M c := fun c hc => by rw [hM1]; exact like31_n hc
      refine hStp.of c1 (c_X8_image_o (M := M1) (k := 1) hG (by rw [m1 54 (by omega)]; exact hr.st.1) (by decide)) ?_ (by decide) (by decide)
      rintro z' M2 ⟨rfl, hM2⟩
      have n0 : ∀ c, c ≠ 57 → c ≠ 58 → M2 c = M1 c := fun c a b => by rw [← hM2, hc_ms_n b, hc_mf_n a]
      have n57 : M2 57 = va_cpy (M 54) (M 57) 0 (68 * 1) 68 := by rw [← hM2, hc_ms_n (by decide), hc_mf_s, m1 54 (by omega), m1 57 (by omega)]
      have n58 : M2 58 = upd (M 58) 1 1 := by rw [← hM2, hc_ms_s, hc_mf_n (by decide), m1 58 (by omega)]
      refine ⟨rfl, hI.im ⟨hI.2.2.2.2.2.1.1.c ?_ ?_ ?_, Or.inr ⟨by rw [n58, upd_eq], E, D, q, hq, ?_⟩⟩ ?_⟩
      · intro c a b
        rw [n0 c (by omega) (by omega), m1 c (by omega)]
      · intro j hj
        rw [n57]
        unfold va_cpy
        rw [if_neg (by omega)]
      · rw [n58, upd_ne (by decide)]
      · have hq2 : hEq q M (fun c => M2 (c + 22)) := by
          refine (like_31_9 (M := M) (q := q)).tr (hEq.of (fun c a b => ?_))
          show M2 (c + 22) = hLike_31_9 M q (c + 22)
          rw [n0 _ (by omega) (by omega), hM1]
        refine (hr.c hq2).ag (fun j hj => ?_)
        rw [n57]
        unfold va_cpy
        rw [if_pos (by omega)]
        congr 1
        omega
      · intro c hc a b
        rw [n0 c a b, m1 c (by omega)]
  · exact hStp.id hI (c_X7_image_b hG h0) (c_X8_image_b hG h0) rfl (by decide) (by decide)
theorem CH_0 {A : hc_Mem} {P : Nat → Int32} : CH A P 0 := fun t ht => absurd ht (by omega)
/-- the common end of restore -/
theorem restore_end (hI : Inv M) {E D q k o : Nat} {L : hc_Mem} (hk : k < 2) (hq : q ≤ 999) (hr : HR E D q (fun c => M (c + o)) (fun j => M 57 (68 * k + j))) (hL : hEq q (fun c => M (c + o)) L) (hn : ∀ c, c < 9 ∨ 19 < c → L c = M c) :
    Inv (hc_ms (hc_mf (hc_ms L 42 3 0) 54 (va_cpy ((hc_ms L 42 3 0) 57) ((hc_ms L 42 3 0) 54) (68 * k) 0 68)) 48 16 0) := by
  obtain ⟨M2, hM2⟩ : ∃ M2, hc_ms (hc_mf (hc_ms L 42 3 0) 54 (va_cpy ((hc_ms L 42 3 0) 57) ((hc_ms L 42 3 0) 54) (68 * k) 0 68)) 48 16 0 = M2 := ⟨_, rfl⟩
  rw [hM2]
  have n0 : ∀ c, c ≠ 42 → c ≠ 48 → c ≠ 54 → M2 c = L c := fun c a b d => by rw [← hM2, hc_ms_n b, hc_mf_n d, hc_ms_n a]
  have n54 : ∀ j, j < 68 → M2 54 j = M 57 (68 * k + j) := by
    intro j hj
    rw [← hM2, hc_ms_n (by decide), hc_mf_s]
    unfold va_cpy
    rw [if_pos (by omega), hc_ms_n (by decide), hn 57 (by omega), Nat.sub_zero]
  have hX : IX M2 M2 E D q 0 := by
    refine ⟨hq, by decide, ?_, ?_, ?_, CH_0⟩
    · rw [← hM2, hc_ms_n (by decide), hc_mf_n (by decide), hc_ms_v]; rfl
    · rw [← hM2, hc_ms_v]; rfl
    · exact (hr.c (hL.tr (hEq.of (fun c a b => n0 c (by omega) (by omega) (by omega))))).ag n54
  refine hI.ac hX (fun c hc a b d => ?_) (fun j hj => ?_)
  · rw [n0 c (by omega) a b, hn c (by omega)]
  · rw [← hM2, hc_ms_j hj, hc_mf_n (by decide), hc_ms_n (by decide), hn 48 (by omega)]
set_option maxRecDepth 100000 in
theorem st_restore (hG : hc_ok G) (hI : Inv M) (v1 : Int32) : hStp l G yX7_restore cX7_restore 3 yX8_restore cX8_restore 2 [.int v1] M Eq := by
  by_cases h0 : ¬ v1 < 0 ∧ ¬ 1 < v1
  · obtain ⟨w, hw, rfl⟩ : ∃ j : Nat, j ≤ 1 ∧ v1 = nI j := nI_of2 (M := 1) rfl h0.1 (Int32.not_lt.mp h0.2)
    have hww : w = 0 ∨ w = 1 := by omega
    rcases hww with rfl | rfl
    · rcases hI.2.2.2.2.2.1.1 with ⟨a, b⟩ | ⟨b, E, D, q, hq, hr⟩
      · exact hStp.id hI (c_X7_restore_n0 hG a) (c_X8_restore_n hG (by decide) b) rfl (by decide) (by decide)
      · have hs := hr.st.2
        have hqu := hr.qu.2
        have c1 := c_X7_restore_o0 (l := l) (M := M) (q0 := q) hG (by show ¬ M 20 0 = 0; rw [show M 20 0 = 1 from hs]; decide) hqu hq (Or.inr hs)
        obtain ⟨L, hL⟩ : ∃ L, L = hLike_9_20 M q := ⟨_, rfl⟩
        rw [← hL] at c1
        have ln : ∀ c, c < 9 ∨ 19 < c → L c = M c := fun c hc => by rw [hL]; exact like9_20_n hc
        refine hStp.of c1 (c_X8_restore_o (M := hc_ms L 42 3 0) (k := 0) hG (by decide) (by rw [hc_ms_n (by decide), ln 58 (by omega), b]; decide)) ?_ (by decide) (by decide)
        rintro z' M2 ⟨rfl, rfl⟩
        exact ⟨rfl, restore_end hI (by decide) hq hr (by rw [hL]; exact like_9_20) ln⟩
    · rcases hI.2.2.2.2.2.1.2 with ⟨a, b⟩ | ⟨b, E, D, q, hq, hr⟩
      · exact hStp.id hI (c_X7_restore_n1 hG a) (c_X8_restore_n hG (by decide) b) rfl (by decide) (by decide)
      · have hs := hr.st.2
        have hqu := hr.qu.2
        have c1 := c_X7_restore_o1 (l := l) (M := M) (q0 := q) hG (by show ¬ M 31 0 = 0; rw [show M 31 0 = 1 from hs]; decide) hqu hq (Or.inr hs)
        obtain ⟨L, hL⟩ : ∃ L, L = hLike_9_31 M q := ⟨_, rfl⟩
        rw [← hL] at c1
        have ln : ∀ c, c < 9 ∨ 19 < c → L c = M c := fun c hc => by rw [hL]; exact like9_31_n hc
        refine hStp.of c1 (c_X8_restore_o (M := hc_ms L 42 3 0) (k := 1) hG (by decide) (by rw [hc_ms_n (by decide), ln 58 (by omega), b]; decide)) ?_ (by decide) (by decide)
        rintro z' M2 ⟨rfl, rfl⟩
        exact ⟨rfl, restore_end hI (by decide) hq hr (by rw [hL]; exact like_9_31) ln⟩
  · exact hStp.id hI (c_X7_restore_b hG h0) (c_X8_restore_b hG h0) rfl (by decide) (by decide)
end
