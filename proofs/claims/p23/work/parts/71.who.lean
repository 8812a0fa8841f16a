/-! WHO: the sets as a long; its ones, its lowest one -/
theorem who_o {f : Nat → Int32} {s : Int32} {j : Nat} : ∀ E, (∀ e, e < E → j ≠ 6 + 7 * e + 5 ∧ j ≠ 6 + 7 * e + 2) → rWf f s E j = f j := by
  intro E
  induction E with
  | zero => intro _; rfl
  | succ E ih =>
    intro h
    show upd (upd (rWf f s E) (6 + 7 * E + 5) 0) (6 + 7 * E + 2) _ j = f j
    rw [upd_ne (h E (by omega)).2, upd_ne (h E (by omega)).1, ih (fun e he => h e (by omega))]
theorem who_at {f : Nat → Int32} {s : Int32} {e : Nat} : ∀ E, e < E → rWf f s E (6 + 7 * e + 5) = 0 ∧ rWf f s E (6 + 7 * e + 2) = if hIn s (nI e) then 0 else 1 := by
  intro E
  induction E with
  | zero => intro h; omega
  | succ E ih =>
    intro h
    have e1 : ∀ j, rWf f s (E + 1) j = upd (upd (rWf f s E) (6 + 7 * E + 5) 0) (6 + 7 * E + 2) (if hIn s (nI E) then 0 else 1) j := fun j => rfl
    rw [e1, e1]
    by_cases c : e = E
    · subst c
      rw [upd_ne (by omega), upd_eq, upd_eq]
      exact ⟨rfl, rfl⟩
    · rw [upd_ne (by omega), upd_ne (by omega), upd_ne (by omega), upd_ne (by omega)]
      exact ih (by omega)
theorem who_mt {E D q : Nat} {M : hc_Mem} {f : Nat → Int32} (h : HR E D q M f) (s : Int32) : hMt M (rWf f s E) E s := by
  have hl := h.lim
  have m := h.mt
  refine ⟨by rw [who_o E (fun e _ => ⟨by omega, by omega⟩)]; exact m.1, fun e he => ?_⟩
  obtain ⟨a1, a2, a3, a4, a5, a6⟩ := m.2 e he
  obtain ⟨w1, w2⟩ := who_at (f := f) (s := s) E he
  rw [who_o (j := 6 + 7 * e) E (fun i _ => ⟨by omega, by omega⟩), who_o (j := 6 + 7 * e + 1) E (fun i _ => ⟨by omega, by omega⟩), who_o (j := 6 + 7 * e + 3) E (fun i _ => ⟨by omega, by omega⟩), who_o (j := 6 + 7 * e + 4) E (fun i _ => ⟨by omega, by omega⟩), w1, w2]
  refine ⟨a1, a2, a3, a4, a5, ?_⟩
  by_cases c : hIn s (nI e)
  · rw [if_pos c]; exact ⟨fun _ => c, fun _ => ⟨rfl, rfl⟩⟩
  · rw [if_neg c]; exact ⟨fun w => absurd w.1 (by decide), fun w => absurd w c⟩
/-! ones of a long, by bytes -/
theorem and_split {a b c d : Nat} (hb : b < 256) (hd : d < 256) : (256 * a + b) &&& (256 * c + d) = 256 * (a &&& c) + (b &&& d) := by
  have hbd : b &&& d < 256 := Nat.lt_of_le_of_lt Nat.and_le_left hb
  refine Nat.eq_of_testBit_eq (fun i => ?_)
  rw [Nat.testBit_and, show (256 : Nat) = 2 ^ 8 from rfl, Nat.testBit_two_pow_mul_add a hb, Nat.testBit_two_pow_mul_add c hd, Nat.testBit_two_pow_mul_add (a &&& c) hbd]
  split
  · rw [Nat.testBit_and]
  · rw [Nat.testBit_and]
def mk1 : Nat → Nat
  | 0 => 0
  | k + 1 => 256 * mk1 k + 85
def mk2 : Nat → Nat
  | 0 => 0
  | k + 1 => 256 * mk2 k + 51
def mk4 : Nat → Nat
  | 0 => 0
  | k + 1 => 256 * mk4 k + 15
def bf1 (k x : Nat) : Nat := x - (x / 2 &&& mk1 k)
def bf2 (k x : Nat) : Nat := (x &&& mk2 k) + (x / 4 &&& mk2 k)
def bf3 (k x : Nat) : Nat := (x + x / 16) &&& mk4 k
def pb1 (b : Nat) : Nat := b - (b / 2 &&& 85)
def pb2 (b : Nat) : Nat := (b &&& 51) + (b / 4 &&& 51)
def pb3 (b : Nat) : Nat := (b + b / 16) % 16
def pcb (b : Nat) : Nat := pb3 (pb2 (pb1 b))
theorem bit_a : ∀ y, y < 2 → ∀ c, c < 128 → (128 * y + c) &&& 85 = c &&& 85 := by decide +kernel
theorem bit_b : ∀ y, y < 4 → ∀ c, c < 64 → (64 * y + c) &&& 51 = c &&& 51 := by decide +kernel
theorem pb1_lt : ∀ b, b < 256 → pb1 b < 256 := by decide +kernel
theorem pb2_lt : ∀ b, b < 256 → pb2 (pb1 b) < 69 ∧ pb2 (pb1 b) % 16 < 5 := by decide +kernel
theorem pcb_le : ∀ b, b < 256 → pcb b < 9 := by decide +kernel
theorem bf1_s {k y b : Nat} (hb : b < 256) : bf1 (k + 1) (256 * y + b) = 256 * bf1 k y + pb1 b := by
  unfold bf1 pb1
  have e : (256 * y + b) / 2 = 256 * (y / 2) + (128 * (y % 2) + b / 2) := by omega
  rw [e]
  show 256 * y + b - ((256 * (y / 2) + (128 * (y % 2) + b / 2)) &&& (256 * mk1 k + 85)) = _
  rw [and_split (by omega) (by decide), bit_a (y % 2) (by omega) (b / 2) (by omega)]
  have h1 : y / 2 &&& mk1 k ≤ y / 2 := Nat.and_le_left
  have h2 : b / 2 &&& 85 ≤ b / 2 := Nat.and_le_left
  omega
theorem bf2_s {k y b : Nat} (hb : b < 256) : bf2 (k + 1) (256 * y + b) = 256 * bf2 k y + pb2 b := by
  unfold bf2 pb2
  have e : (256 * y + b) / 4 = 256 * (y / 4) + (64 * (y % 4) + b / 4) := by omega
  rw [e]
  show ((256 * y + b) &&& (256 * mk2 k + 51)) + ((256 * (y / 4) + (64 * (y % 4) + b / 4)) &&& (256 * mk2 k + 51)) = _
  rw [and_split (by omega) (by decide), and_split (by omega) (by decide), bit_b (y % 4) (by omega) (b / 4) (by omega)]
  omega
theorem bf3_s {k y b : Nat} (hb : b < 69) (hy : y % 16 < 5) : bf3 (k + 1) (256 * y + b) = 256 * bf3 k y + pb3 b := by
  unfold bf3 pb3
  have e : 256 * y + b + (256 * y + b) / 16 = 256 * (y + y / 16) + (16 * (y % 16) + b + b / 16) := by omega
  rw [e]
  show (256 * (y + y / 16) + (16 * (y % 16) + b + b / 16)) &&& (256 * mk4 k + 15) = _
  rw [and_split (by omega) (by decide)]
  have e2 : (16 * (y % 16) + b + b / 16) &&& 15 = (b + b / 16) % 16 := by
    rw [show (15 : Nat) = 2 ^ 4 - 1 from rfl, Nat.and_two_pow_sub_one_eq_mod]
    omega
  rw [e2]
def pcS : Nat → Nat → Nat
  | 0, _ => 0
  | k + 1, x => 256 * pcS k (x / 256) + pcb (x % 256)
theorem lowN {k x : Nat} : (bf2 k (bf1 k x)) % 16 < 5 ∨ ¬ x < 256 ^ k := by
  cases k with
  | zero =>
    by_cases h : x < 256 ^ 0
    · left
      have : x = 0 := by simpa using h
      subst this
      decide
    · exact Or.inr h
  | succ k =>
    left
    have e : x = 256 * (x / 256) + x % 256 := by omega
    rw [e, bf1_s (by omega), bf2_s (pb1_lt _ (by omega))]
    have := (pb2_lt (x % 256) (by omega)).2
    omega
theorem bf_all : ∀ k x, x < 256 ^ k → bf3 k (bf2 k (bf1 k x)) = pcS k x := by
  intro k
  induction k with
  | zero =>
    intro x hx
    have : x = 0 := by simpa using hx
    subst this
    decide
  | succ k ih =>
    intro x hx
    have hx2 : x / 256 < 256 ^ k := by
      rw [Nat.pow_succ] at hx
      omega
    have e : x = 256 * (x / 256) + x % 256 := by omega
    have hl := (lowN (k := k) (x := x / 256)).resolve_right (fun w => w hx2)
    have hb := pb2_lt (x % 256) (by omega)
    have k1 : bf3 (k + 1) (bf2 (k + 1) (bf1 (k + 1) (256 * (x / 256) + x % 256))) = 256 * pcS k (x / 256) + pcb (x % 256) := by
      rw [bf1_s (by omega), bf2_s (pb1_lt _ (by omega)), bf3_s hb.1 hl, ih (x / 256) hx2]
      rfl
    rw [← e] at k1
    exact k1
def pcR : Nat → Nat → Nat
  | 0, _ => 0
  | k + 1, x => pcR k (x / 256) + pcb (x % 256)
theorem pc_lin {p0 p1 p2 p3 p4 p5 p6 p7 X : Nat} (hX : X = p0 + 256 * p1 + 65536 * p2 + 16777216 * p3 + 4294967296 * p4 + 1099511627776 * p5 + 281474976710656 * p6 + 72057594037927936 * p7) (h0 : p0 < 9) (h1 : p1 < 9) (h2 : p2 < 9) (h3 : p3 < 9) (h4 : p4 < 9) (h5 : p5 < 9) (h6 : p6 < 9) (h7 : p7 < 9) :
    (X + X / 256 + (X + X / 256) / 65536 + (X + X / 256 + (X + X / 256) / 65536) / 4294967296) % 128 = p0 + p1 + p2 + p3 + p4 + p5 + p6 + p7 := by
  have a1 : X / 256 = p1 + 256 * p2 + 65536 * p3 + 16777216 * p4 + 4294967296 * p5 + 1099511627776 * p6 + 281474976710656 * p7 := by omega
  obtain ⟨Y, hY⟩ : ∃ Y, Y = X + X / 256 := ⟨_, rfl⟩
  rw [← hY]
  have b0 : Y = (p0 + p1) + 256 * (p1 + p2) + 65536 * (p2 + p3) + 16777216 * (p3 + p4) + 4294967296 * (p4 + p5) + 1099511627776 * (p5 + p6) + 281474976710656 * (p6 + p7) + 72057594037927936 * p7 := by omega
  clear a1 hY hX
  have a2 : Y / 65536 = (p2 + p3) + 256 * (p3 + p4) + 65536 * (p4 + p5) + 16777216 * (p5 + p6) + 4294967296 * (p6 + p7) + 1099511627776 * p7 := by omega
  obtain ⟨Z, hZ⟩ : ∃ Z, Z = Y + Y / 65536 := ⟨_, rfl⟩
  rw [← hZ]
  have c0 : Z = (p0 + p1 + p2 + p3) + 256 * (p1 + p2 + p3 + p4) + 65536 * (p2 + p3 + p4 + p5) + 16777216 * (p3 + p4 + p5 + p6) + 4294967296 * (p4 + p5 + p6 + p7) + 1099511627776 * (p5 + p6 + p7) + 281474976710656 * (p6 + p7) + 72057594037927936 * p7 := by omega
  clear a2 hZ b0
  have a3 : Z / 4294967296 = (p4 + p5 + p6 + p7) + 256 * (p5 + p6 + p7) + 65536 * (p6 + p7) + 16777216 * p7 := by omega
  omega
theorem pc_sum {x : Nat} : (pcS 8 x + pcS 8 x / 256 + (pcS 8 x + pcS 8 x / 256) / 65536 + (pcS 8 x + pcS 8 x / 256 + (pcS 8 x + pcS 8 x / 256) / 65536) / 4294967296) % 128 = pcR 8 x ∧ pcR 8 x ≤ 64 := by
  have hp : ∀ y, pcb (y % 256) < 9 := fun y => pcb_le _ (Nat.mod_lt _ (by decide))
  have e1 : pcS 8 x = 256 * (256 * (256 * (256 * (256 * (256 * (256 * (256 * 0 + pcb (x / 256 / 256 / 256 / 256 / 256 / 256 / 256 % 256)) + pcb (x / 256 / 256 / 256 / 256 / 256 / 256 % 256)) + pcb (x / 256 / 256 / 256 / 256 / 256 % 256)) + pcb (x / 256 / 256 / 256 / 256 % 256)) + pcb (x / 256 / 256 / 256 % 256)) + pcb (x / 256 / 256 % 256)) + pcb (x / 256 % 256)) + pcb (x % 256) := rfl
  have e2 : pcR 8 x = 0 + pcb (x / 256 / 256 / 256 / 256 / 256 / 256 / 256 % 256) + pcb (x / 256 / 256 / 256 / 256 / 256 / 256 % 256) + pcb (x / 256 / 256 / 256 / 256 / 256 % 256) + pcb (x / 256 / 256 / 256 / 256 % 256) + pcb (x / 256 / 256 / 256 % 256) + pcb (x / 256 / 256 % 256) + pcb (x / 256 % 256) + pcb (x % 256) := rfl
  rw [e1, e2]
  have h7 := hp (x / 256 / 256 / 256 / 256 / 256 / 256 / 256)
  have h6 := hp (x / 256 / 256 / 256 / 256 / 256 / 256)
  have h5 := hp (x / 256 / 256 / 256 / 256 / 256)
  have h4 := hp (x / 256 / 256 / 256 / 256)
  have h3 := hp (x / 256 / 256 / 256)
  have h2 := hp (x / 256 / 256)
  have h1 := hp (x / 256)
  have h0 := hp x
  generalize pcb (x / 256 / 256 / 256 / 256 / 256 / 256 / 256 % 256) = p7 at *
  generalize pcb (x / 256 / 256 / 256 / 256 / 256 / 256 % 256) = p6 at *
  generalize pcb (x / 256 / 256 / 256 / 256 / 256 % 256) = p5 at *
  generalize pcb (x / 256 / 256 / 256 / 256 % 256) = p4 at *
  generalize pcb (x / 256 / 256 / 256 % 256) = p3 at *
  generalize pcb (x / 256 / 256 % 256) = p2 at *
  generalize pcb (x / 256 % 256) = p1 at *
  generalize pcb (x % 256) = p0 at *
  clear e1 e2 hp
  refine ⟨?_, by omega⟩
  rw [pc_lin (p0 := p0) (p1 := p1) (p2 := p2) (p3 := p3) (p4 := p4) (p5 := p5) (p6 := p6) (p7 := p7) (by omega) h0 h1 h2 h3 h4 h5 h6 h7]
  omega
theorem pcb_add : ∀ k, k < 8 → ∀ x, x < 2 ^ k → pcb (x + 2 ^ k) = pcb x + 1 := by decide +kernel
theorem pcR_add : ∀ n k x, k < 8 * n → x < 2 ^ k → pcR n (x + 2 ^ k) = pcR n x + 1 := by
  intro n
  induction n with
  | zero => intro k x h; omega
  | succ n ih =>
    intro k x hk hx
    show pcR n ((x + 2 ^ k) / 256) + pcb ((x + 2 ^ k) % 256) = pcR n (x / 256) + pcb (x % 256) + 1
    rcases Nat.lt_or_ge k 8 with h8 | h8
    · have hp : 2 ^ k ≤ 2 ^ 7 := Nat.pow_le_pow_right (by decide) (by omega)
      rw [show (x + 2 ^ k) / 256 = x / 256 by omega, show (x + 2 ^ k) % 256 = x + 2 ^ k by omega, show x % 256 = x by omega, pcb_add k h8 x hx]
      omega
    · obtain ⟨d, rfl⟩ : ∃ d, k = d + 8 := ⟨k - 8, by omega⟩
      have hp : 2 ^ (d + 8) = 256 * 2 ^ d := by rw [Nat.pow_add, Nat.mul_comm]
      rw [hp] at hx ⊢
      rw [show (x + 256 * 2 ^ d) / 256 = x / 256 + 2 ^ d by omega, show (x + 256 * 2 ^ d) % 256 = x % 256 by omega, ih d (x / 256) (by omega) (by omega)]
      omega
theorem pcR_0 : ∀ n, pcR n 0 = 0 := by
  intro n
  induction n with
  | zero => rfl
  | succ n ih => show pcR n (0 / 256) + pcb (0 % 256) = 0; rw [show 0 / 256 = 0 from rfl, ih]; decide
theorem lsh_N {n k : Nat} (hn : n < 2 ^ 64) (hk : k < 64) : hc_lsh (lN n) (nI k) = lN (n / 2 ^ k) := wb_shr hn hk
theorem bL_N {n : Nat} (hn : n < 2 ^ 64) : hc_bL (lN n) = nI (pcR 8 n) := by
  have m1 : mk1 8 = 6148914691236517205 := by decide
  have m2 : mk2 8 = 3689348814741910323 := by decide
  have m4 : mk4 8 = 1085102592571150095 := by decide
  have h256 : (256 : Nat) ^ 8 = 2 ^ 64 := by decide
  have e1 : hc_bL1 (lN n) = lN (bf1 8 n) := by
    unfold hc_bL1 bf1
    rw [show (1 : Int32) = nI 1 from rfl, lsh_N hn (by decide), show (6148914691236517205 : Int64) = lN 6148914691236517205 from rfl, wb_and (by omega) (by decide), m1]
    exact lN_sub (Nat.le_trans Nat.and_le_left (by omega))
  have b1 : bf1 8 n < 2 ^ 64 := Nat.lt_of_le_of_lt (Nat.sub_le _ _) hn
  have e2 : hc_bL2 (lN (bf1 8 n)) = lN (bf2 8 (bf1 8 n)) := by
    unfold hc_bL2 bf2
    rw [show (2 : Int32) = nI 2 from rfl, lsh_N b1 (by decide), show (3689348814741910323 : Int64) = lN 3689348814741910323 from rfl, wb_and b1 (by decide), wb_and (by omega) (by decide), m2]
    exact lN_add _ _
  have b2 : bf2 8 (bf1 8 n) < 2 ^ 63 := by
    unfold bf2
    rw [m2]
    have a1 : bf1 8 n &&& 3689348814741910323 ≤ 3689348814741910323 := Nat.and_le_right
    have a2 : bf1 8 n / 4 &&& 3689348814741910323 ≤ 3689348814741910323 := Nat.and_le_right
    omega
  have e3 : hc_bL3 (lN (bf2 8 (bf1 8 n))) = lN (bf3 8 (bf2 8 (bf1 8 n))) := by
    unfold hc_bL3 bf3
    rw [show (4 : Int32) = nI 4 from rfl, lsh_N (by omega) (by decide), lN_add, show (1085102592571150095 : Int64) = lN 1085102592571150095 from rfl, wb_and (by omega) (by decide), m4]
    try rfl
  have e123 := bf_all 8 n (by rw [h256]; exact hn)
  have b3 : pcS 8 n < 2 ^ 62 := by
    rw [← e123]
    unfold bf3
    rw [m4]
    have a1 : (bf2 8 (bf1 8 n) + bf2 8 (bf1 8 n) / 16) &&& 1085102592571150095 ≤ 1085102592571150095 := Nat.and_le_right
    omega
  unfold hc_bL
  rw [e1, e2, e3, e123]
  unfold hc_bL4
  rw [show (8 : Int32) = nI 8 from rfl, lsh_N (by omega) (by decide), lN_add]
  unfold hc_bL5
  rw [show (16 : Int32) = nI 16 from rfl, lsh_N (by omega) (by decide), lN_add]
  unfold hc_bL6
  rw [show (32 : Int32) = nI 32 from rfl, lsh_N (by omega) (by decide), lN_add, lN_i]
  have hs := pc_sum (x := n)
  rw [pk_and _ (m := 127) 7 (by decide)]
  congr 1
  rw [← hs.1]
  show (nI _).toBitVec.toNat % 128 = _
  have e0 : ∀ m : Nat, (nI m).toBitVec.toNat = m % 2 ^ 32 := fun m => BitVec.toNat_ofNat _ _
  rw [e0]
  simp only [show (2 : Nat) ^ 8 = 256 from rfl, show (2 : Nat) ^ 16 = 65536 from rfl, show (2 : Nat) ^ 32 = 4294967296 from rfl]
  omega
/-! the lowest one -/
theorem nz0_N {t m : Nat} (ht : t < 32) (hn : 2 ^ (t + 1) * m + 2 ^ t < 2 ^ 32) : hc_nz0 (nI (2 ^ (t + 1) * m + 2 ^ t)) = nI (2 ^ t - 1) := by
  have hp : 0 < 2 ^ t := Nat.pow_pos (by decide)
  have hpp : 2 ^ (t + 1) = 2 * 2 ^ t := by rw [Nat.pow_succ]; omega
  unfold hc_nz0
  rw [show nI (2 ^ (t + 1) * m + 2 ^ t) - 1 = nI (2 ^ (t + 1) * m + (2 ^ t - 1)) by
    rw [show (1 : Int32) = nI 1 from rfl, pk_sub (by omega)]
    congr 1
    omega]
  refine set_ext (fun i hi => ?_)
  rw [hIn_and hi, hIn_not hi, hIn_nI hi hn, hIn_nI hi (by omega), hIn_nI hi (by omega), Nat.testBit_two_pow_mul_add m (by omega), Nat.testBit_two_pow_mul_add m (by omega), Nat.testBit_two_pow_sub_one, Nat.testBit_two_pow]
  rcases Nat.lt_or_ge i (t + 1) with q | q
  · rw [if_pos q, if_pos q]
    by_cases c : t = i
    · subst c; simp
    · have : i < t := by omega
      simp [this]
      omega
  · rw [if_neg (by omega), if_neg (by omega)]
    have : ¬ i < t := by omega
    simp [this]
theorem nz_all : ∀ t, t < 32 → (if 0 < nI (2 ^ t - 1) then (hc_nz1 (nI (2 ^ t - 1))).2 + hc_ush (hc_nz1 (nI (2 ^ t - 1))).1 1 else nI (2 ^ t - 1) &&& 32) = nI t := by decide +kernel
theorem nz_N {t m : Nat} (ht : t < 32) (hn : 2 ^ (t + 1) * m + 2 ^ t < 2 ^ 32) : hc_nz (nI (2 ^ (t + 1) * m + 2 ^ t)) = nI t := by
  unfold hc_nz
  rw [nz0_N ht hn]
  exact nz_all t ht
theorem nI_mod (n : Nat) : nI n = nI (n % 2 ^ 32) := by
  apply Int32.toBitVec_inj.mp
  show BitVec.ofNat 32 n = BitVec.ofNat 32 (n % 2 ^ 32)
  apply BitVec.eq_of_toNat_eq
  rw [BitVec.toNat_ofNat, BitVec.toNat_ofNat, Nat.mod_mod]
theorem nzL_N {t m : Nat} (ht : t < 64) (hn : 2 ^ (t + 1) * m + 2 ^ t < 2 ^ 64) : hc_nzL (lN (2 ^ (t + 1) * m + 2 ^ t)) = nI t := by
  have hp : 0 < 2 ^ t := Nat.pow_pos (by decide)
  unfold hc_nzL
  rw [lN_i]
  rcases Nat.lt_or_ge t 32 with q | q
  · have e32 : 2 ^ 32 = 2 ^ (t + 1) * 2 ^ (31 - t) := by rw [← Nat.pow_add]; congr 1; omega
    have hpp : 2 ^ (t + 1) = 2 * 2 ^ t := by rw [Nat.pow_succ]; omega
    have em : (2 ^ (t + 1) * m + 2 ^ t) % 2 ^ 32 = 2 ^ (t + 1) * (m % 2 ^ (31 - t)) + 2 ^ t := by
      rw [e32, Nat.mod_mul, Nat.mul_add_mod, Nat.mod_eq_of_lt (show 2 ^ t < 2 ^ (t + 1) by omega), Nat.mul_add_div (by omega), Nat.div_eq_of_lt (show 2 ^ t < 2 ^ (t + 1) by omega)]
      simp only [Nat.add_zero]
      omega
    have hlt : 2 ^ (t + 1) * (m % 2 ^ (31 - t)) + 2 ^ t < 2 ^ 32 := by rw [← em]; exact Nat.mod_lt _ (by decide)
    rw [nI_mod, em, if_neg, nz_N q hlt]
    intro w
    have e9 : (nI (2 ^ (t + 1) * (m % 2 ^ (31 - t)) + 2 ^ t)).toBitVec.toNat = (0 : Int32).toBitVec.toNat := by rw [w]
    have e0 : (nI (2 ^ (t + 1) * (m % 2 ^ (31 - t)) + 2 ^ t)).toBitVec.toNat = 2 ^ (t + 1) * (m % 2 ^ (31 - t)) + 2 ^ t := pk_tn hlt
    have e1 : (0 : Int32).toBitVec.toNat = 0 := rfl
    rw [e0, e1] at e9
    omega
  · obtain ⟨d, rfl⟩ : ∃ d, t = d + 32 := ⟨t - 32, by omega⟩
    have e1 : 2 ^ (d + 32 + 1) * m + 2 ^ (d + 32) = 2 ^ 32 * (2 ^ (d + 1) * m + 2 ^ d) := by
      rw [show d + 32 + 1 = 32 + (d + 1) by omega, show d + 32 = 32 + d by omega, Nat.pow_add, Nat.pow_add 2 32 d, Nat.mul_add, Nat.mul_assoc]
    rw [e1] at hn ⊢
    have hlt : 2 ^ (d + 1) * m + 2 ^ d < 2 ^ 32 := by omega
    rw [nI_mod, Nat.mul_mod_right, if_pos (show nI 0 = 0 from rfl), show (32 : Int32) = nI 32 from rfl, lsh_N hn (by decide), Nat.mul_div_cancel_left _ (by decide), lN_i, nz_N (by omega) hlt, nI_add, Nat.add_comm]
/-- the sets, their number, the least -/
theorem sets_N {E base n : Nat} {M : hc_Mem} {f it : Nat → Int32} {D : Nat} (hiff : ∀ s, s < 64 → (hSo M E (nI s) base n ↔ rSo (rWf f (nI s) E) E D it n)) : ∀ k, k ≤ 64 → ∃ x, x < 2 ^ k ∧ hSets M E base n k = lN x ∧ rWc f E D it n k = nI (pcR 8 x) ∧ pcR 8 x ≤ k ∧ ((x = 0 ∧ pcR 8 x = 0 ∧ rWl f E D it n k = -1000000) ∨ (1 ≤ pcR 8 x ∧ ∃ t m, t < k ∧ x = 2 ^ (t + 1) * m + 2 ^ t ∧ rWl f E D it n k = nI t)) := by
  intro k
  induction k with
  | zero => intro _; exact ⟨0, by decide, rfl, by rw [pcR_0]; rfl, by rw [pcR_0]; exact Nat.le_refl _, Or.inl ⟨rfl, pcR_0 8, rfl⟩⟩
  | succ k ih =>
    intro hk
    obtain ⟨x, hx, e1, e2, e3, e4⟩ := ih (by omega)
    have hp : 2 ^ (k + 1) = 2 * 2 ^ k := by rw [Nat.pow_succ]; omega
    have hp64 : 2 ^ k ≤ 2 ^ 63 := Nat.pow_le_pow_right (by decide) (by omega)
    have hi := hiff k (by omega)
    have u1 : hSets M E base n (k + 1) = if hSo M E (nI k) base n then hSets M E base n k ||| ((1 : Int64) <<< ((nI k).toInt64 &&& 63)) else hSets M E base n k := rfl
    have u2 : rWc f E D it n (k + 1) = rWc f E D it n k + (if rSo (rWf f (nI k) E) E D it n then 1 else 0) := rfl
    have u3 : rWl f E D it n (k + 1) = if rSo (rWf f (nI k) E) E D it n ∧ rWc f E D it n k = 0 then nI k else rWl f E D it n k := rfl
    rw [u1, u2, u3, e1, e2]
    by_cases c : hSo M E (nI k) base n
    · have c2 := hi.mp c
      have epc := pcR_add 8 k x (by omega) hx
      refine ⟨x + 2 ^ k, by omega, ?_, ?_, by omega, ?_⟩
      · rw [if_pos c, show (1 : Int64) = lN 1 from rfl, wb_shl 1 (by omega), Nat.one_mul, wb_or (by omega) (by omega)]
        congr 1
        rw [Nat.or_comm]
        have := Nat.two_pow_add_eq_or_of_lt hx 1
        rw [Nat.mul_one] at this
        rw [← this]
        omega
      · rw [if_pos c2, epc]; exact nI_1 _
      · right
        refine ⟨by omega, ?_⟩
        rcases e4 with ⟨a1, a2, a3⟩ | ⟨a1, t, m, a2, a3, a4⟩
        · refine ⟨k, 0, by omega, by rw [a1]; omega, ?_⟩
          rw [if_pos ⟨c2, by rw [a2]; rfl⟩]
        · refine ⟨t, m + 2 ^ (k - (t + 1)), by omega, ?_, ?_⟩
          · have e5 : 2 ^ k = 2 ^ (t + 1) * 2 ^ (k - (t + 1)) := by rw [← Nat.pow_add]; congr 1; omega
            rw [a3, Nat.mul_add, ← e5]
            omega
          · rw [if_neg (fun w => absurd w.2 (nI_ne0 a1 (by omega)))]
            exact a4
    · have c2 : ¬ rSo (rWf f (nI k) E) E D it n := fun w => c (hi.mpr w)
      refine ⟨x, by omega, by rw [if_neg c], by rw [if_neg c2, Int32.add_zero], by omega, ?_⟩
      rw [if_neg (fun w => c2 w.1)]
      rcases e4 with a | ⟨a1, t, m, a2, a3, a4⟩
      · exact Or.inl a
      · exact Or.inr ⟨a1, t, m, by omega, a3, a4⟩
section
variable {l : Launch} {G : hc_Geo} {M : hc_Mem}
theorem st_who (hG : hc_ok G) (hI : Inv M) (v1 v2 v3 v4 : Int32) : hStp l G yX7_who cX7_who 8 yX8_who cX8_who 9 [.int v1, .int v2, .int v3, .int v4] M Eq := by
  have key : ∀ E D q j i n : Nat, q ≤ 999 → HR E D q M (M 54) → j < 8 → i + n ≤ 40 → n ≤ 16 → ∀ s, s < 64 → (hSo M E (nI s) (40 * j + i) n ↔ rSo (rWf (M 54) (nI s) E) E D (fun t => M 51 (40 * j + i + t)) n) := by
    intro E D q j i n hq hr hj hin hn s hs
    exact so_iff (M := M) (M' := M) (who_mt hr (nI s)) hr.lim.1 (by rw [who_o E (fun e _ => ⟨by omega, by omega⟩), hr.qu.1, hr.qu.2]) rfl (40 * j + i) (fun t ht => hI.1.2 _ (by omega))
  refine st_who_R hG hI Eq (fun _ => rfl) (fun E D q j i n hq hr hj hin hn => ?_) (fun E D q j i n hq hr hj hin hn => ?_) v1 v2 v3 v4
  · have h64 : 2 ^ E ≤ 64 := Nat.pow_le_pow_right (by decide) hr.lim.1
    obtain ⟨x, hx, e1, e2, _⟩ := sets_N (key E D q j i n hq hr hj hin hn) (2 ^ E) h64
    have hx2 : x < 2 ^ 64 := Nat.lt_of_lt_of_le hx (Nat.pow_le_pow_right (by decide) h64)
    rw [e1, e2, bL_N hx2]
  · have h64 : 2 ^ E ≤ 64 := Nat.pow_le_pow_right (by decide) hr.lim.1
    obtain ⟨x, hx, e1, e2, e3, e4⟩ := sets_N (key E D q j i n hq hr hj hin hn) (2 ^ E) h64
    have hx2 : x < 2 ^ 64 := Nat.lt_of_lt_of_le hx (Nat.pow_le_pow_right (by decide) h64)
    rw [e1]
    rcases e4 with ⟨a1, a2, a3⟩ | ⟨a1, t, m, a2, a3, a4⟩
    · rw [a1, a3, if_pos (by decide)]
    · have hp : 0 < 2 ^ t := Nat.pow_pos (by decide)
      have hne : ¬ lN x = 0 := by
        intro w
        have q9 : (lN x).toBitVec.toNat = (0 : Int64).toBitVec.toNat := by rw [w]
        have q0 : (lN x).toBitVec.toNat = x := wb_tn hx2
        have q1 : (0 : Int64).toBitVec.toNat = 0 := rfl
        rw [q0, q1] at q9
        omega
      rw [if_neg, a4, a3]
      · exact nzL_N (by omega) (by rw [← a3]; exact hx2)
      · unfold lg_cmp
        by_cases g : lN x > 0
        · rw [if_pos g]; decide
        · rw [if_neg g, if_neg hne]; decide
end
