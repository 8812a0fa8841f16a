/-! CALLS OF BOTH: rows, the tape's byte, what is asked plainly -/
theorem Inv.rw {M M' : hc_Mem} (h : Inv M) (hr : IR M') (e : ∀ c, 5 ≤ c → c ≠ 48 → c ≠ 49 → c ≠ 50 → c ≠ 51 → c ≠ 52 → M' c = M c) (e7 : M' 0 7 = M 0 7) (e8 : M' 0 8 = M' 48 4) (f6 : M' 48 6 = M 48 6) (f7 : M' 48 7 = M 48 7) (f16 : M' 48 16 = M 48 16) (f22 : M' 48 22 = M 48 22) : Inv M' := by
  obtain ⟨h1, h2, h3, h4, h5, h6, h7⟩ := h
  refine ⟨hr, e8, ?_, by rw [e7, f7]; exact h4, ?_, ?_, ?_⟩
  · exact h3.c (by rw [e 5 (by decide) (by decide) (by decide) (by decide) (by decide) (by decide)]) (e 6 (by decide) (by decide) (by decide) (by decide) (by decide) (by decide)) f6 (e 53 (by decide) (by decide) (by decide) (by decide) (by decide) (by decide))
  · exact h5.c (fun c a b => e c (by omega) (by omega) (by omega) (by omega) (by omega) (by omega)) (fun c a b => e c (by omega) (by omega) (by omega) (by omega) (by omega) (by omega)) f16 (e 54 (by decide) (by decide) (by decide) (by decide) (by decide) (by decide)) (e 56 (by decide) (by decide) (by decide) (by decide) (by decide) (by decide))
  · exact h6.c (fun c a b => e c (by omega) (by omega) (by omega) (by omega) (by omega) (by omega)) (e 57 (by decide) (by decide) (by decide) (by decide) (by decide) (by decide)) (e 58 (by decide) (by decide) (by decide) (by decide) (by decide) (by decide))
  · exact h7.c (by rw [e 46 (by decide) (by decide) (by decide) (by decide) (by decide) (by decide)]) (e 47 (by decide) (by decide) (by decide) (by decide) (by decide) (by decide)) f22 (e 61 (by decide) (by decide) (by decide) (by decide) (by decide) (by decide))
theorem IR.mi {M : hc_Mem} (h : IR M) {j : Nat} (hj : j < 8) : M 2 j = -1 ↔ M 49 j = -1000000 := by
  rcases h.1 j hj with ⟨a, b⟩ | ⟨⟨la, h1, h2, h3⟩, _⟩
  · exact ⟨fun _ => b, fun _ => a⟩
  · rw [h2, h3]
    have : la = 0 ∨ la = 1 ∨ la = 2 := by omega
    rcases this with rfl | rfl | rfl <;> exact ⟨fun w => absurd w (by decide), fun w => absurd w (by decide)⟩
theorem IR.pr {M : hc_Mem} (h : IR M) {j : Nat} (hj : j < 8) (hm : ¬ M 2 j = -1) : M 2 j = M 49 j ∧ ∃ m, m ≤ 40 ∧ M 3 j = nI m ∧ M 50 j = nI m := by
  rcases h.1 j hj with ⟨a, b⟩ | ⟨⟨la, h1, h2, h3⟩, h4⟩
  · exact absurd a hm
  · exact ⟨h2.trans h3.symm, h4⟩
theorem rPt_nat {m : Nat} {i n : Int32} (hm : m ≤ 40) (h : rPt (nI m) i n) : ∃ i' n', i = nI i' ∧ n = nI n' ∧ i' + n' ≤ m := by
  obtain ⟨h1, h2, h3, h4⟩ := h
  obtain ⟨i', hi', rfl⟩ := nI_of h1
  obtain ⟨n', hn', rfl⟩ := nI_of h2
  have e1 : i' ≤ m := by
    rcases Nat.lt_or_ge m i' with q | q
    · exact absurd (nI_lt q hi') h3
    · exact q
  rw [pk_sub e1] at h4
  have e2 : n' ≤ m - i' := by
    rcases Nat.lt_or_ge (m - i') n' with q | q
    · exact absurd (nI_lt q hn') h4
    · exact q
  exact ⟨i', n', rfl, rfl, by omega⟩
theorem rPt_of {m i n : Nat} (hm : m ≤ 40) (h : i + n ≤ m) : rPt (nI m) (nI i) (nI n) := by
  refine ⟨nI_pos (by omega), nI_pos (by omega), nI_nlt (by omega) (by omega), ?_⟩
  rw [pk_sub (by omega)]
  exact nI_nlt (by omega) (by omega)
section
variable {l : Launch} {G : hc_Geo} {M : hc_Mem}
set_option maxRecDepth 100000 in
theorem st_row (hG : hc_ok G) (hI : Inv M) (v1 v2 v3 : Int32) : hStp l G yX7_row cX7_row 4 yX8_row cX8_row 5 [.int v1, .int v2, .int v3] M Eq := by
  by_cases h0 : (¬ v1 < 0 ∧ ¬ 8 ≤ v1) ∧ (¬ v2 < 0 ∧ ¬ 2 < v2) ∧ v3 ≤ 40
  · by_cases h1 : 0 ≤ v3
    · obtain ⟨j, hj, rfl⟩ : ∃ j : Nat, j < 8 ∧ v1 = nI j := hx_ix 8 rfl h0.1.1 h0.1.2 (by decide)
      obtain ⟨n, hn, rfl⟩ : ∃ j : Nat, j ≤ 40 ∧ v3 = nI j := nI_of2 (M := 40) rfl (Int32.not_lt.mpr h1) h0.2.2
      obtain ⟨la, hla, rfl⟩ : ∃ j : Nat, j ≤ 2 ∧ v2 = nI j := nI_of2 (M := 2) rfl h0.2.1.1 (Int32.not_lt.mp h0.2.1.2)
      refine hStp.of (c_X7_row_o hG hj h0.2.1 hn) (c_X8_row_o hG hj h0.2.1 hn) ?_ (by decide) (by decide)
      rintro z' M2 ⟨rfl, rfl⟩
      refine ⟨rfl, hI.rw ?_ ?_ rfl rfl rfl rfl rfl rfl⟩
      · refine ⟨fun r hr => ?_, fun x hx => ?_⟩
        · show (upd (M 2) j (nI la) r = -1 ∧ upd (M 49) j (nI la) r = -1000000) ∨ ((∃ a, a ≤ 2 ∧ upd (M 2) j (nI la) r = nI a ∧ upd (M 49) j (nI la) r = nI a) ∧ ∃ m, m ≤ 40 ∧ upd (M 3) j (nI n) r = nI m ∧ upd (M 50) j (nI n) r = nI m)
          by_cases hrj : r = j
          · subst hrj
            rw [upd_eq, upd_eq, upd_eq, upd_eq]
            exact Or.inr ⟨⟨la, hla, rfl, rfl⟩, n, hn, rfl, rfl⟩
          · rw [upd_ne hrj, upd_ne hrj, upd_ne hrj, upd_ne hrj]
            exact hI.1.1 r hr
        · show (if 40 * j ≤ x ∧ x < 40 * j + 40 then (0 : Int32) else M 4 x) = (if 40 * j ≤ x ∧ x < 40 * j + 40 then 0 else M 51 x)
          rw [hI.1.2 x hx]
      · intro c a b d e f g
        rw [hc_ms_n b, hc_mf_n f, hc_ms_n e, hc_ms_n d, hc_ms_n (by omega), hc_mf_n (by omega), hc_ms_n (by omega), hc_ms_n (by omega)]
    · exact hStp.fd hI (c_X7_row_s hG h0.1 h0.2.1 h0.2.2 h1) (c_X8_row_s hG h0.1 h0.2.1 h0.2.2 h1) rfl (by decide) (by decide)
  · exact hStp.id hI (c_X7_row_b hG h0) (c_X8_row_b hG h0) rfl (by decide) (by decide)
set_option maxRecDepth 100000 in
theorem st_set (hG : hc_ok G) (hI : Inv M) (v1 v2 v3 : Int32) : hStp l G yX7_set cX7_set 5 yX8_set cX8_set 4 [.int v1, .int v2, .int v3] M Eq := by
  by_cases h0 : ¬ v1 < 0 ∧ ¬ 8 ≤ v1
  · obtain ⟨j, hj, rfl⟩ : ∃ j : Nat, j < 8 ∧ v1 = nI j := hx_ix 8 rfl h0.1 h0.2 (by decide)
    by_cases h1 : M 2 j = -1
    · exact hStp.fd hI (c_X7_set_n hG hj h1) (c_X8_set_n (M := hc_ms M 0 8 1) hG hj ((hI.1.mi hj).mp h1)) rfl (by decide) (by decide)
    · obtain ⟨el, m, hm, e3, e50⟩ := hI.1.pr hj h1
      have h49 : ¬ M 49 j = -1000000 := fun w => h1 ((hI.1.mi hj).mpr w)
      by_cases h2 : ¬ v2 < 0 ∧ ¬ nI m ≤ v2
      · obtain ⟨i, hi, rfl⟩ : ∃ i : Nat, i < m ∧ v2 = nI i := hx_ix m rfl h2.1 h2.2 (by omega)
        have hp : ¬ nI i < 0 ∧ ¬ (1 : Int32) < 0 ∧ ¬ M 3 j < nI i ∧ ¬ M 3 j - nI i < 1 := by
          rw [e3]
          exact rPt_of (m := m) (i := i) (n := 1) hm (by omega)
        refine hStp.of (c_X7_set_o hG hj (by omega) h1 hp) (c_X8_set_o (M := hc_ms (hc_ms M 4 (40 * j + i) (hc_cut v3 (M 2 j))) 0 8 0) (m := m) hG hj h49 e50 hm hi) ?_ (by decide) (by decide)
        rintro z' M2 ⟨rfl, rfl⟩
        refine ⟨by show _ = hc_cut v3 (M 49 j); rw [el], hI.rw ?_ ?_ rfl rfl rfl rfl rfl rfl⟩
        · refine ⟨hI.1.1, fun x hx => ?_⟩
          show upd (M 4) (40 * j + i) (hc_cut v3 (M 2 j)) x = upd (M 51) (40 * j + i) (hc_cut v3 (M 49 j)) x
          unfold upd
          rw [el, hI.1.2 x hx]
        · intro c a b d e f g
          rw [hc_ms_n b, hc_ms_n f, hc_ms_n (by omega), hc_ms_n (by omega)]
      · refine hStp.fd hI (c_X7_set_p hG hj h1 ?_) (c_X8_set_p (M := hc_ms M 0 8 2) (m := m) hG hj h49 e50 hm (by show ¬ (¬ v2 < 0 ∧ ¬ M 50 j ≤ v2); rw [e50]; exact h2)) rfl (by decide) (by decide)
        rw [e3]
        intro w
        obtain ⟨i', n', a1, a2, a3⟩ := rPt_nat hm (show rPt (nI m) v2 (nI 1) from w)
        have : n' = 1 := by
          obtain ⟨q1, q2, q3, q4⟩ := w
          rcases Nat.lt_or_ge n' (2 ^ 31) with k | k
          · exact ((nI_eq (by decide) k).mp a2).symm
          · omega
        subst this
        exact h2 ⟨w.1, by rw [a1]; exact nI_ge (by omega) (by omega)⟩
  · exact hStp.id hI (c_X7_set_b hG h0) (c_X8_set_b hG h0) rfl (by decide) (by decide)
set_option maxRecDepth 100000 in
theorem st_copy (hG : hc_ok G) (hI : Inv M) (v1 v2 v3 v4 v5 : Int32) : hStp l G yX7_copy cX7_copy 7 yX8_copy cX8_copy 7 [.int v1, .int v2, .int v3, .int v4, .int v5] M Eq := by
  by_cases h0 : (¬ v1 < 0 ∧ ¬ 8 ≤ v1) ∧ (¬ v3 < 0 ∧ ¬ 8 ≤ v3)
  · obtain ⟨a, ha, rfl⟩ : ∃ j : Nat, j < 8 ∧ v1 = nI j := hx_ix 8 rfl h0.1.1 h0.1.2 (by decide)
    obtain ⟨b, hb, rfl⟩ : ∃ j : Nat, j < 8 ∧ v3 = nI j := hx_ix 8 rfl h0.2.1 h0.2.2 (by decide)
    by_cases h1 : M 2 a = -1 ∨ M 2 b = -1
    · exact hStp.fd hI (c_X7_copy_n hG ha hb h1) (c_X8_copy_n (M := hc_ms M 0 8 1) hG ha hb (by rcases h1 with w | w; exact Or.inl ((hI.1.mi ha).mp w); exact Or.inr ((hI.1.mi hb).mp w))) rfl (by decide) (by decide)
    · have h1a : ¬ M 2 a = -1 := fun w => h1 (Or.inl w)
      have h1b : ¬ M 2 b = -1 := fun w => h1 (Or.inr w)
      obtain ⟨ela, ma, hma, a3, a50⟩ := hI.1.pr ha h1a
      obtain ⟨elb, mb, hmb, b3, b50⟩ := hI.1.pr hb h1b
      have n1 : ¬ M 49 a = -1000000 := fun w => h1a ((hI.1.mi ha).mpr w)
      have n2 : ¬ M 49 b = -1000000 := fun w => h1b ((hI.1.mi hb).mpr w)
      by_cases h2 : M 2 a = M 2 b
      · have h49 : M 49 a = M 49 b := by rw [← ela, ← elb]; exact h2
        by_cases h3 : rPt (nI ma) v2 v5 ∧ rPt (nI mb) v4 v5
        · obtain ⟨i, n, rfl, rfl, hin⟩ := rPt_nat hma h3.1
          obtain ⟨j, n', rfl, en, hjn⟩ := rPt_nat hmb h3.2
          have hn31 : ∀ x : Nat, x ≤ 40 → x < 2 ^ 31 := fun x hx => by omega
          have : n = n' := (nI_eq (by omega) (by omega)).mp en
          subst this
          have c3 : (¬ nI i < 0 ∧ ¬ nI n < 0 ∧ ¬ M 3 a < nI i ∧ ¬ M 3 a - nI i < nI n) ∧ (¬ nI j < 0 ∧ ¬ nI n < 0 ∧ ¬ M 3 b < nI j ∧ ¬ M 3 b - nI j < nI n) := by rw [a3, b3]; exact h3
          refine hStp.of (c_X7_copy_o hG ha hb (by omega) (by omega) h1 (fun w => w h2) c3) (c_X8_copy_o hG ha hb n1 n2 h49 (by show rPt (M 50 a) (nI i) (nI n); rw [a50]; exact h3.1) (by show rPt (M 50 b) (nI j) (nI n); rw [b50]; exact h3.2) (by omega) (by omega)) ?_ (by decide) (by decide)
          rintro z' M2 ⟨rfl, rfl⟩
          refine ⟨rfl, hI.rw ?_ ?_ rfl rfl rfl rfl rfl rfl⟩
          · refine ⟨hI.1.1, fun x hx => ?_⟩
            show va_cpy (M 4) (M 4) (40 * a + i) (40 * b + j) n x = va_cpy (M 51) (M 51) (40 * a + i) (40 * b + j) n x
            unfold va_cpy
            split
            · exact hI.1.2 _ (by omega)
            · exact hI.1.2 x hx
          · intro c a b d e f g
            rw [hc_ms_n b, hc_mf_n f, hc_mf_n g, hc_ms_n (by omega), hc_mf_n (by omega)]
        · refine hStp.fd hI (c_X7_copy_p hG ha hb h1 (fun w => w h2) (by rw [a3, b3]; exact h3)) (c_X8_copy_p (M := hc_ms M 0 8 2) hG ha hb n1 n2 h49 (by show ¬ (rPt (M 50 a) v2 v5 ∧ rPt (M 50 b) v4 v5); rw [a50, b50]; exact h3)) rfl (by decide) (by decide)
      · exact hStp.fd hI (c_X7_copy_s hG ha hb h1 h2) (c_X8_copy_s (M := hc_ms M 0 8 5) hG ha hb n1 n2 (fun w => h2 (by rw [ela, elb]; exact w))) rfl (by decide) (by decide)
  · exact hStp.id hI (c_X7_copy_b hG h0) (c_X8_copy_b hG h0) rfl (by decide) (by decide)
set_option maxRecDepth 100000 in
theorem st_drop (hG : hc_ok G) (hI : Inv M) (v1 : Int32) : hStp l G yX7_drop cX7_drop 2 yX8_drop cX8_drop 2 [.int v1] M Eq := by
  by_cases h0 : ¬ v1 < 0 ∧ ¬ 8 ≤ v1
  · obtain ⟨j, hj, rfl⟩ : ∃ j : Nat, j < 8 ∧ v1 = nI j := hx_ix 8 rfl h0.1 h0.2 (by decide)
    by_cases h1 : M 2 j = -1
    · exact hStp.fd hI (c_X7_drop_n hG hj h1) (c_X8_drop_n (M := hc_ms M 0 8 1) hG hj ((hI.1.mi hj).mp h1)) rfl (by decide) (by decide)
    · obtain ⟨el, m, hm, e3, e50⟩ := hI.1.pr hj h1
      refine hStp.of (c_X7_drop_o hG hj h1) (c_X8_drop_o (M := hc_ms (hc_ms (hc_ms M 2 j (-1)) 3 j 0) 0 8 0) hG hj (fun w => h1 ((hI.1.mi hj).mpr w))) ?_ (by decide) (by decide)
      rintro z' M2 ⟨rfl, rfl⟩
      refine ⟨by show M 3 j = M 50 j; rw [e3, e50], hI.rw ?_ ?_ rfl rfl rfl rfl rfl rfl⟩
      · refine ⟨fun r hr => ?_, hI.1.2⟩
        show (upd (M 2) j (-1) r = -1 ∧ upd (M 49) j (-1000000) r = -1000000) ∨ ((∃ a, a ≤ 2 ∧ upd (M 2) j (-1) r = nI a ∧ upd (M 49) j (-1000000) r = nI a) ∧ ∃ m, m ≤ 40 ∧ upd (M 3) j 0 r = nI m ∧ M 50 r = nI m)
        by_cases hrj : r = j
        · subst hrj
          rw [upd_eq, upd_eq]
          exact Or.inl ⟨rfl, rfl⟩
        · rw [upd_ne hrj, upd_ne hrj, upd_ne hrj]
          exact hI.1.1 r hr
      · intro c a b d e f g
        rw [hc_ms_n b, hc_ms_n d, hc_ms_n (by omega), hc_ms_n (by omega), hc_ms_n (by omega)]
  · exact hStp.id hI (c_X7_drop_b hG h0) (c_X8_drop_b hG h0) rfl (by decide) (by decide)
theorem Inv.tp {M M' : hc_Mem} (h : Inv M) (ht : IT M') (e : ∀ c, c ≠ 5 → c ≠ 6 → c ≠ 48 → c ≠ 53 → M' c = M c) (f4 : M' 48 4 = M 48 4) (f7 : M' 48 7 = M 48 7) (f16 : M' 48 16 = M 48 16) (f22 : M' 48 22 = M 48 22) : Inv M' := by
  obtain ⟨h1, h2, h3, h4, h5, h6, h7⟩ := h
  have e' : ∀ c, c ≠ 5 → c ≠ 6 → c ≠ 48 → c ≠ 53 → M' c = M c := e
  refine ⟨h1.c (e 2 (by decide) (by decide) (by decide) (by decide)) (e 3 (by decide) (by decide) (by decide) (by decide)) (e 4 (by decide) (by decide) (by decide) (by decide)) (e 49 (by decide) (by decide) (by decide) (by decide)) (e 50 (by decide) (by decide) (by decide) (by decide)) (e 51 (by decide) (by decide) (by decide) (by decide)), by rw [e 0 (by decide) (by decide) (by decide) (by decide), f4]; exact h2, ht, by rw [e 0 (by decide) (by decide) (by decide) (by decide), f7]; exact h4, ?_, ?_, ?_⟩
  · exact h5.c (fun c a b => e c (by omega) (by omega) (by omega) (by omega)) (fun c a b => e c (by omega) (by omega) (by omega) (by omega)) f16 (e 54 (by decide) (by decide) (by decide) (by decide)) (e 56 (by decide) (by decide) (by decide) (by decide))
  · exact h6.c (fun c a b => e c (by omega) (by omega) (by omega) (by omega)) (e 57 (by decide) (by decide) (by decide) (by decide)) (e 58 (by decide) (by decide) (by decide) (by decide))
  · exact h7.c (by rw [e 46 (by decide) (by decide) (by decide) (by decide)]) (e 47 (by decide) (by decide) (by decide) (by decide)) f22 (e 61 (by decide) (by decide) (by decide) (by decide))
set_option maxRecDepth 100000 in
theorem st_feed (hG : hc_ok G) (hI : Inv M) (v1 : Int32) : hStp l G yX7_feed cX7_feed 2 yX8_feed cX8_feed 2 [.int v1] M Eq := by
  by_cases h0 : ¬ v1 < 0 ∧ ¬ 255 < v1
  · obtain ⟨n, e5, e48, ht⟩ := hI.2.2.1
    by_cases h1 : n = 120
    · subst h1
      exact hStp.id hI (c_X7_feed_f hG h0 e5) (c_X8_feed_f hG h0 e48) rfl (by decide) (by decide)
    · have hn := ht.1
      obtain ⟨b, hb, rfl⟩ : ∃ j : Nat, j ≤ 255 ∧ v1 = nI j := nI_of2 (M := 255) rfl h0.1 (Int32.not_lt.mp h0.2)
      refine hStp.of (c_X7_feed_o hG h0 e5 (by omega)) (c_X8_feed_o (M := hc_ms (hc_ms M 6 n (nI b)) 5 1 (nI (n + 1))) (n := n) hG h0 e48 (by omega)) ?_ (by decide) (by decide)
      rintro z' M2 ⟨rfl, rfl⟩
      refine ⟨rfl, hI.tp ?_ ?_ rfl rfl rfl rfl⟩
      · refine ⟨n + 1, rfl, rfl, by omega, fun i hi => ?_⟩
        show upd (M 6) n (nI b) i = upd (M 53) n (nI b) i ∧ ∃ x, x ≤ 255 ∧ upd (M 53) n (nI b) i = nI x
        by_cases hin : i = n
        · subst hin; rw [upd_eq, upd_eq]; exact ⟨rfl, b, hb, rfl⟩
        · rw [upd_ne hin, upd_ne hin]; exact ht.2 i (by omega)
      · intro c a b d e
        rw [hc_ms_n d, hc_ms_n e, hc_ms_n a, hc_ms_n b]
  · exact hStp.id hI (c_X7_feed_b hG h0) (c_X8_feed_b hG h0) rfl (by decide) (by decide)
theorem st_fault (hG : hc_ok G) (hI : Inv M) : hStp l G yX7_fault cX7_fault 1 yX8_fault cX8_fault 1 [] M Eq :=
  hStp.id hI (c_X7_fault hG) (c_X8_fault hG) hI.2.2.2.1 (by decide) (by decide)
theorem st_status (hG : hc_ok G) (hI : Inv M) : hStp l G yX7_status cX7_status 1 yX8_status cX8_status 1 [] M Eq :=
  hStp.id hI (c_X7_status hG) (c_X8_status hG) hI.2.1 (by decide) (by decide)
theorem st_trace (hG : hc_ok G) (hI : Inv M) (v1 : Int32) : hStp l G yX7_trace cX7_trace 2 yX8_trace cX8_trace 2 [.int v1] M Eq := by
  obtain ⟨t, ht, e1, e2, ei⟩ := hI.2.2.2.2.2.2
  by_cases h0 : ¬ v1 < 0 ∧ ¬ nI t ≤ v1
  · obtain ⟨i, hi, rfl⟩ : ∃ i : Nat, i < t ∧ v1 = nI i := hx_ix t rfl h0.1 h0.2 (by omega)
    exact hStp.id hI (c_X7_trace_o hG (by omega) (by rw [e1]; exact h0.2)) (c_X8_trace_o hG e2 ht hi) (ei i hi) (by decide) (by decide)
  · exact hStp.id hI (c_X7_trace_n hG (by rw [e1]; exact h0)) (c_X8_trace_n hG e2 ht (by rw [e2]; exact h0)) rfl (by decide) (by decide)
end
