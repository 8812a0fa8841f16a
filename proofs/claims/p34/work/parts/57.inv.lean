/-! THE RELATION of the two objects -/
def IR (M : hc_Mem) : Prop := (∀ r, r < 8 → (M 2 r = -1 ∧ M 49 r = -1000000) ∨ ((∃ la, la ≤ 2 ∧ M 2 r = nI la ∧ M 49 r = nI la) ∧ ∃ m, m ≤ 40 ∧ M 3 r = nI m ∧ M 50 r = nI m)) ∧ ∀ j, j < 320 → M 4 j = M 51 j
def IT (M : hc_Mem) : Prop := ∃ n, M 5 1 = nI n ∧ M 48 6 = nI n ∧ tOk (M 6) (M 53) n
def IC (M : hc_Mem) : Prop := ∃ t, t ≤ 16 ∧ M 46 1 = nI t ∧ M 48 22 = nI t ∧ ∀ i, i < t → M 47 i = M 61 i
def II1 (M : hc_Mem) (o k : Nat) : Prop := (M (9 + o) 0 = 0 ∧ M 58 k = 0) ∨ (M 58 k = 1 ∧ ∃ E D q, q ≤ 999 ∧ HR E D q (fun c => M (c + o)) (fun j => M 57 (68 * k + j)))
def II (M : hc_Mem) : Prop := II1 M 11 0 ∧ II1 M 22 1
def NH (M : hc_Mem) : Prop := M 9 0 = 0 ∧ M 54 0 = 0 ∧ M 9 5 = 0 ∧ M 54 4 = 0 ∧ M 9 6 = 0 ∧ M 54 5 = 0 ∧ M 9 2 = 0 ∧ M 54 2 = 0 ∧ M 9 4 = 0
def IA (M : hc_Mem) : Prop := ∃ k, k ≤ 24 ∧ M 42 3 = nI k ∧ M 48 16 = nI k ∧ ((k = 0 ∧ NH M) ∨ ((∃ E D q, q ≤ 999 ∧ HR E D q M (M 54)) ∧ CH M (M 56) k))
def Inv (M : hc_Mem) : Prop := IR M ∧ M 0 8 = M 48 4 ∧ IT M ∧ M 0 7 = M 48 7 ∧ IA M ∧ II M ∧ IC M
theorem IR.c {M M' : hc_Mem} (h : IR M) (e2 : M' 2 = M 2) (e3 : M' 3 = M 3) (e4 : M' 4 = M 4) (e49 : M' 49 = M 49) (e50 : M' 50 = M 50) (e51 : M' 51 = M 51) : IR M' := by
  unfold IR at h ⊢
  rw [e2, e3, e4, e49, e50, e51]
  exact h
theorem IT.c {M M' : hc_Mem} (h : IT M) (e5 : M' 5 1 = M 5 1) (e6 : M' 6 = M 6) (e48 : M' 48 6 = M 48 6) (e53 : M' 53 = M 53) : IT M' := by
  unfold IT at h ⊢
  rw [e5, e6, e48, e53]
  exact h
theorem IC.c {M M' : hc_Mem} (h : IC M) (e1 : M' 46 1 = M 46 1) (e2 : M' 47 = M 47) (e48 : M' 48 22 = M 48 22) (e61 : M' 61 = M 61) : IC M' := by
  unfold IC at h ⊢
  rw [e1, e2, e48, e61]
  exact h
theorem II1.c {M M' : hc_Mem} {o k : Nat} (h : II1 M o k) (e : ∀ c, 9 + o ≤ c → c ≤ 19 + o → M' c = M c) (e57 : ∀ j, j < 68 → M' 57 (68 * k + j) = M 57 (68 * k + j)) (e58 : M' 58 k = M 58 k) : II1 M' o k := by
  unfold II1 at h ⊢
  rw [e58, e (9 + o) (by omega) (by omega)]
  rcases h with h | ⟨h, E, D, q, hq, hr⟩
  · exact Or.inl h
  · exact Or.inr ⟨h, E, D, q, hq, (hr.c (hEq.of (fun c a b => e (c + o) (by omega) (by omega)))).ag e57⟩
theorem II.c {M M' : hc_Mem} (h : II M) (e : ∀ c, 20 ≤ c → c ≤ 41 → M' c = M c) (e57 : M' 57 = M 57) (e58 : M' 58 = M 58) : II M' :=
  ⟨h.1.c (fun c a b => e c (by omega) (by omega)) (fun j _ => by rw [e57]) (by rw [e58]), h.2.c (fun c a b => e c (by omega) (by omega)) (fun j _ => by rw [e57]) (by rw [e58])⟩
theorem CH.c {A A' : hc_Mem} {P P' f : Nat → Int32} {k E D q : Nat} (h : CH A P k) (hr : HR E D q A f) (hc : hEq q A A') (hx : ∀ i, i < k → A' 43 i = A 43 i ∧ A' 44 i = A 44 i ∧ A' 45 i = A 45 i) (hp : ∀ i j, i < k → j < 68 → P' (68 * i + j) = P (68 * i + j)) : CH A' P' k :=
  fun t ht => CH_tail (k := k) (k' := k) (m := 0) (n := k) (o := 0) rfl (by omega) h ⟨q, by have := hr.lim; omega, hr.qu.2, hc⟩ hx hp t (Nat.zero_le _) ht
theorem IA.c {M M' : hc_Mem} (h : IA M) (e : ∀ c, 9 ≤ c → c ≤ 19 → M' c = M c) (e4 : ∀ c, 42 ≤ c → c ≤ 45 → M' c = M c) (e16 : M' 48 16 = M 48 16) (e54 : M' 54 = M 54) (e56 : M' 56 = M 56) : IA M' := by
  obtain ⟨k, hk, h1, h2, h3⟩ := h
  refine ⟨k, hk, by rw [e4 42 (by decide) (by decide)]; exact h1, by rw [e16]; exact h2, ?_⟩
  rcases h3 with ⟨a, b⟩ | ⟨⟨E, D, q, hq, hr⟩, hc⟩
  · refine Or.inl ⟨a, ?_⟩
    unfold NH at b ⊢
    rw [e 9 (by decide) (by decide), e54]
    exact b
  · refine Or.inr ⟨⟨E, D, q, hq, ?_⟩, ?_⟩
    · rw [e54]; exact hr.c (hEq.of e)
    · refine hc.c hr (hEq.of e) (fun i _ => ?_) (fun i j _ _ => by rw [e56])
      rw [e4 43 (by decide) (by decide), e4 44 (by decide) (by decide), e4 45 (by decide) (by decide)]
      exact ⟨rfl, rfl, rfl⟩
theorem Inv.fr {M M' : hc_Mem} (h : Inv M) (e : ∀ c, c ≠ 0 → c ≠ 48 → c ≠ 59 → c ≠ 60 → M' c = M c) (e7 : M' 0 7 = M 0 7) (e8 : M' 0 8 = M' 48 4) (f6 : M' 48 6 = M 48 6) (f7 : M' 48 7 = M 48 7) (f16 : M' 48 16 = M 48 16) (f22 : M' 48 22 = M 48 22) : Inv M' := by
  obtain ⟨h1, h2, h3, h4, h5, h6, h7⟩ := h
  have e' : ∀ c, 1 ≤ c → c ≠ 48 → c ≠ 59 → c ≠ 60 → M' c = M c := fun c a b d f => e c (by omega) b d f
  refine ⟨h1.c (e' 2 (by decide) (by decide) (by decide) (by decide)) (e' 3 (by decide) (by decide) (by decide) (by decide)) (e' 4 (by decide) (by decide) (by decide) (by decide)) (e' 49 (by decide) (by decide) (by decide) (by decide)) (e' 50 (by decide) (by decide) (by decide) (by decide)) (e' 51 (by decide) (by decide) (by decide) (by decide)), e8, ?_, by rw [e7, f7]; exact h4, ?_, ?_, ?_⟩
  · exact h3.c (by rw [e' 5 (by decide) (by decide) (by decide) (by decide)]) (e' 6 (by decide) (by decide) (by decide) (by decide)) f6 (e' 53 (by decide) (by decide) (by decide) (by decide))
  · exact h5.c (fun c a b => e' c (by omega) (by omega) (by omega) (by omega)) (fun c a b => e' c (by omega) (by omega) (by omega) (by omega)) f16 (e' 54 (by decide) (by decide) (by decide) (by decide)) (e' 56 (by decide) (by decide) (by decide) (by decide))
  · exact h6.c (fun c a b => e' c (by omega) (by omega) (by omega) (by omega)) (e' 57 (by decide) (by decide) (by decide) (by decide)) (e' 58 (by decide) (by decide) (by decide) (by decide))
  · exact h7.c (by rw [e' 46 (by decide) (by decide) (by decide) (by decide)]) (e' 47 (by decide) (by decide) (by decide) (by decide)) f22 (e' 61 (by decide) (by decide) (by decide) (by decide))
/-- nothing changed but the reference's own work cells -/
theorem Inv.q {M M' : hc_Mem} (h : Inv M) (e : ∀ c, c ≠ 59 → c ≠ 60 → M' c = M c) : Inv M' := by
  have e0 := e 0 (by decide) (by decide)
  have e48 := e 48 (by decide) (by decide)
  exact h.fr (fun c _ _ a b => e c a b) (by rw [e0]) (by rw [e0, e48]; exact h.2.1) (by rw [e48]) (by rw [e48]) (by rw [e48]) (by rw [e48])
/-- both have the same finding -/
theorem Inv.stat {M Y : hc_Mem} {v : Int32} (h : Inv M) (e : ∀ c, c ≠ 59 → c ≠ 60 → Y c = hc_ms M 0 8 v c) : Inv (hc_ms Y 48 4 v) := by
  have e0 := e 0 (by decide) (by decide)
  have e48 := e 48 (by decide) (by decide)
  refine h.fr (fun c a b d f => ?_) ?_ ?_ ?_ ?_ ?_ ?_
  · rw [hc_ms_n b, e c d f, hc_ms_n a]
  · rw [hc_ms_n (by decide), e0, hc_ms_j (by decide)]
  · rw [hc_ms_n (by decide), e0, hc_ms_v, hc_ms_v]
  · rw [hc_ms_j (by decide), e48, hc_ms_n (by decide)]
  · rw [hc_ms_j (by decide), e48, hc_ms_n (by decide)]
  · rw [hc_ms_j (by decide), e48, hc_ms_n (by decide)]
  · rw [hc_ms_j (by decide), e48, hc_ms_n (by decide)]
theorem Inv.stat0 {M : hc_Mem} {v : Int32} (h : Inv M) : Inv (hc_ms (hc_ms M 0 8 v) 48 4 v) := h.stat (fun _ _ _ => rfl)
/-! a call of both -/
def hStp (l : Launch) (G : hc_Geo) (y1 : MethodName) (c1 : ByteArray) (n1 : Nat) (y2 : MethodName) (c2 : ByteArray) (n2 : Nat) (av : List Value) (M : hc_Mem) (R : Int32 → Int32 → Prop) : Prop :=
  ∃ (d1 : Nat) (P1 : Int32 → hc_Mem → Prop), d1 ≤ 20 ∧ hc_M l G y1 c1 n1 (some .int) d1 (.ref (hc_ad G 0) :: av) M (hc_pi P1) ∧ ∀ z M1, P1 z M1 → ∃ (d2 : Nat) (P2 : Int32 → hc_Mem → Prop), d2 ≤ 20 ∧ hc_M l G y2 c2 n2 (some .int) d2 (.ref (hc_ad G 48) :: av) M1 (hc_pi P2) ∧ ∀ z' M2, P2 z' M2 → R z z' ∧ Inv M2
theorem hStp.of {l : Launch} {G : hc_Geo} {y1 : MethodName} {c1 : ByteArray} {n1 : Nat} {y2 : MethodName} {c2 : ByteArray} {n2 : Nat} {av : List Value} {M m1 : hc_Mem} {R : Int32 → Int32 → Prop} {d1 d2 : Nat} {r1 : Int32} {P2 : Int32 → hc_Mem → Prop} (h1 : hc_M l G y1 c1 n1 (some .int) d1 (.ref (hc_ad G 0) :: av) M (hc_pi (fun z M' => r1 = z ∧ m1 = M'))) (h2 : hc_M l G y2 c2 n2 (some .int) d2 (.ref (hc_ad G 48) :: av) m1 (hc_pi P2)) (k : ∀ z' M2, P2 z' M2 → R r1 z' ∧ Inv M2) (hd1 : d1 ≤ 20) (hd2 : d2 ≤ 20) : hStp l G y1 c1 n1 y2 c2 n2 av M R := by
  refine ⟨d1, _, hd1, h1, ?_⟩
  rintro z M1 ⟨rfl, rfl⟩
  exact ⟨d2, P2, hd2, h2, k⟩
/-- both answer alike, nothing changes -/
theorem hStp.id {l : Launch} {G : hc_Geo} {y1 : MethodName} {c1 : ByteArray} {n1 : Nat} {y2 : MethodName} {c2 : ByteArray} {n2 : Nat} {av : List Value} {M : hc_Mem} {d1 d2 : Nat} {r1 r2 : Int32} (hI : Inv M) (h1 : hc_M l G y1 c1 n1 (some .int) d1 (.ref (hc_ad G 0) :: av) M (hc_pi (fun z M' => r1 = z ∧ M = M'))) (h2 : hc_M l G y2 c2 n2 (some .int) d2 (.ref (hc_ad G 48) :: av) M (hc_pi (fun z M' => r2 = z ∧ M = M'))) (e : r1 = r2) (hd1 : d1 ≤ 20) (hd2 : d2 ≤ 20) : hStp l G y1 c1 n1 y2 c2 n2 av M Eq :=
  hStp.of h1 h2 (fun z M2 w => ⟨by rw [e]; exact w.1, by rw [← w.2]; exact hI⟩) hd1 hd2
/-- the same, but the reference's work cells -/
theorem hStp.qu {l : Launch} {G : hc_Geo} {y1 : MethodName} {c1 : ByteArray} {n1 : Nat} {y2 : MethodName} {c2 : ByteArray} {n2 : Nat} {av : List Value} {M : hc_Mem} {d1 d2 : Nat} {r1 r2 : Int32} (hI : Inv M) (h1 : hc_M l G y1 c1 n1 (some .int) d1 (.ref (hc_ad G 0) :: av) M (hc_pi (fun z M' => r1 = z ∧ M = M'))) (h2 : hc_M l G y2 c2 n2 (some .int) d2 (.ref (hc_ad G 48) :: av) M (hc_pi (fun z M' => r2 = z ∧ ∀ q, q ≠ 59 → q ≠ 60 → M' q = M q))) (e : r1 = r2) (hd1 : d1 ≤ 20) (hd2 : d2 ≤ 20) : hStp l G y1 c1 n1 y2 c2 n2 av M Eq :=
  hStp.of h1 h2 (fun z M2 w => ⟨by rw [e]; exact w.1, hI.q w.2⟩) hd1 hd2
/-- both find the same -/
theorem hStp.fd {l : Launch} {G : hc_Geo} {y1 : MethodName} {c1 : ByteArray} {n1 : Nat} {y2 : MethodName} {c2 : ByteArray} {n2 : Nat} {av : List Value} {M : hc_Mem} {d1 d2 : Nat} {r1 r2 v : Int32} (hI : Inv M) (h1 : hc_M l G y1 c1 n1 (some .int) d1 (.ref (hc_ad G 0) :: av) M (hc_pi (fun z M' => r1 = z ∧ hc_ms M 0 8 v = M'))) (h2 : hc_M l G y2 c2 n2 (some .int) d2 (.ref (hc_ad G 48) :: av) (hc_ms M 0 8 v) (hc_pi (fun z M' => r2 = z ∧ hc_ms (hc_ms M 0 8 v) 48 4 v = M'))) (e : r1 = r2) (hd1 : d1 ≤ 20) (hd2 : d2 ≤ 20) : hStp l G y1 c1 n1 y2 c2 n2 av M Eq :=
  hStp.of h1 h2 (fun z M2 w => ⟨by rw [e]; exact w.1, by rw [← w.2]; exact hI.stat0⟩) hd1 hd2
