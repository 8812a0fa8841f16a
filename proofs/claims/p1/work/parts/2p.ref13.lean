/-! THE REFERENCE'S READER -/
abbrev rPs := Int32 × Int32 × Nat × Nat × Int32 × Int32
def mR (M : hc_Mem) (r : rPs) : hc_Mem := hc_mf M 48 (fun j => if j = 7 then r.1 else if j = 8 then r.2.1 else if j = 9 then nI r.2.2.1 else if j = 10 then nI r.2.2.2.1 else if j = 11 then r.2.2.2.2.1 else if j = 12 then r.2.2.2.2.2 else M 48 j)
theorem mR_id (M : hc_Mem) {a b : Nat} (h9 : M 48 9 = nI a) (h10 : M 48 10 = nI b) : M = mR M (M 48 7, M 48 8, a, b, M 48 11, M 48 12) := by
  funext q
  by_cases hq : q = 48
  · subst hq
    unfold mR
    rw [hc_mf_s]
    funext j
    split
    · rename_i h; rw [h]
    split
    · rename_i h; rw [h]
    split
    · rename_i h; rw [h]; exact h9
    split
    · rename_i h; rw [h]; exact h10
    split
    · rename_i h; rw [h]
    split
    · rename_i h; rw [h]
    rfl
  · unfold mR; rw [hc_mf_n hq]
theorem mR_7 {M : hc_Mem} {r : rPs} (x : Int32) : hc_ms (mR M r) 48 7 (x) = mR M (x, r.2.1, r.2.2.1, r.2.2.2.1, r.2.2.2.2.1, r.2.2.2.2.2) := by
  unfold mR
  rw [hc_ms_mf]
  congr 1
  funext j
  show (if j = 7 then _ else _) = _
  by_cases hj : j = 7
  · subst hj; rfl
  · rw [if_neg hj]
    simp only [hj, if_false]
theorem mR_8 {M : hc_Mem} {r : rPs} (x : Int32) : hc_ms (mR M r) 48 8 (x) = mR M (r.1, x, r.2.2.1, r.2.2.2.1, r.2.2.2.2.1, r.2.2.2.2.2) := by
  unfold mR
  rw [hc_ms_mf]
  congr 1
  funext j
  show (if j = 8 then _ else _) = _
  by_cases hj : j = 8
  · subst hj; rfl
  · rw [if_neg hj]
    simp only [hj, if_false]
theorem mR_11 {M : hc_Mem} {r : rPs} (x : Int32) : hc_ms (mR M r) 48 11 (x) = mR M (r.1, r.2.1, r.2.2.1, r.2.2.2.1, x, r.2.2.2.2.2) := by
  unfold mR
  rw [hc_ms_mf]
  congr 1
  funext j
  show (if j = 11 then _ else _) = _
  by_cases hj : j = 11
  · subst hj; rfl
  · rw [if_neg hj]
    simp only [hj, if_false]
theorem mR_12 {M : hc_Mem} {r : rPs} (x : Int32) : hc_ms (mR M r) 48 12 (x) = mR M (r.1, r.2.1, r.2.2.1, r.2.2.2.1, r.2.2.2.2.1, x) := by
  unfold mR
  rw [hc_ms_mf]
  congr 1
  funext j
  show (if j = 12 then _ else _) = _
  by_cases hj : j = 12
  · subst hj; rfl
  · rw [if_neg hj]
    simp only [hj, if_false]
theorem mR_9 {M : hc_Mem} {r : rPs} (a : Nat) : hc_ms (mR M r) 48 9 (nI a) = mR M (r.1, r.2.1, a, r.2.2.2.1, r.2.2.2.2.1, r.2.2.2.2.2) := by
  unfold mR
  rw [hc_ms_mf]
  congr 1
  funext j
  show (if j = 9 then _ else _) = _
  by_cases hj : j = 9
  · subst hj; rfl
  · rw [if_neg hj]
    simp only [hj, if_false]
theorem mR_10 {M : hc_Mem} {r : rPs} (a : Nat) : hc_ms (mR M r) 48 10 (nI a) = mR M (r.1, r.2.1, r.2.2.1, a, r.2.2.2.2.1, r.2.2.2.2.2) := by
  unfold mR
  rw [hc_ms_mf]
  congr 1
  funext j
  show (if j = 10 then _ else _) = _
  by_cases hj : j = 10
  · subst hj; rfl
  · rw [if_neg hj]
    simp only [hj, if_false]
theorem mR_n {M : hc_Mem} {r : rPs} {q : Nat} (h : q ≠ 48) : mR M r q = M q := hc_mf_n h
def rBt (T : Nat → Int32) (n i : Nat) : Int32 := if i < n then T i else -1
abbrev rIsF (b : Int32) : Prop := ¬ b < 48 ∧ ¬ 57 < b
def rDg (T : Nat → Int32) (n s0 : Nat) : Nat → Nat → Int32 → Nat × Int32
  | 0, a, v => (a, v)
  | t + 1, a, v => if rIsF (rBt T n a) then rDg T n s0 t (a + 1) (if 2 ≤ nI a - nI s0 then v else 10 * v + rBt T n a - 48) else (a, v)
def rKd (b : Int32) : Int32 := if 0 ≤ b then (if ¬ b < 97 ∧ ¬ 122 < b then 1 else if b = 44 then 3 else if b = 59 then 4 else 5) else 0
def rAdv (T : Nat → Int32) (n : Nat) (r : rPs) : rPs :=
  if rIsF (rBt T n r.2.2.1) then (r.1, r.2.1, (rDg T n r.2.2.1 (n - r.2.2.1) r.2.2.1 0).1, r.2.2.1, (if 3 ≤ nI (rDg T n r.2.2.1 (n - r.2.2.1) r.2.2.1 0).1 - nI r.2.2.1 then 5 else 2), (rDg T n r.2.2.1 (n - r.2.2.1) r.2.2.1 0).2)
  else (r.1, r.2.1, (if rKd (rBt T n r.2.2.1) = 0 then r.2.2.1 else r.2.2.1 + 1), r.2.2.1, rKd (rBt T n r.2.2.1), rBt T n r.2.2.1)

set_option maxRecDepth 100000 in
set_option maxHeartbeats 4000000 in
theorem c_X8_byteAt {l : Launch} {G : hc_Geo} (hG : hc_ok G) {M : hc_Mem} {n i : Nat}  (hn : M 48 6 = nI n) (hn1 : n ≤ 120) (hi : i < 2 ^ 20) : hc_M l G yX8_byteAt cX8_byteAt 2 (some .int) 1 [.ref (hc_ad G 48), .int (nI i)] M (hc_pi (fun z M' => rBt (M 53) n i = z ∧ M = M')) := by
  refine hc_M.of hG (by decide) [some (.ref (hc_ad G 48)), some (.int (nI i))] rfl (Nat.le_of_ble_eq_true rfl) ?_
  intro p e s m args below meth c C
  refine hc_iload_n C dX8_byteAt_0 rfl rfl ?_
  refine hc_aload_n C dX8_byteAt_1 rfl rfl ?_
  refine hc_getI C fl_X8_82 rfl rfl dX8_byteAt_2 ?_
  refine hc_icmp_ge C (tgt := 17) dX8_byteAt_5 (by decide) (fun c_5 => ?_) (fun c_5 => ?_)
  · refine hc_iconst C dX8_byteAt_17 (v := (-1)) rfl ?_
    refine hc_iret C rfl dX8_byteAt_18 ?_
    refine ⟨?_, rfl⟩
    unfold rBt
    rcases Nat.lt_or_ge i n with h | h
    · first
        | exact if_pos h
        | exact absurd (show nI n ≤ nI i from hn ▸ c_5) (nI_ge h (by omega))
    · first
        | exact if_neg (by omega)
        | exact absurd (show M 48 6 ≤ nI i by rw [hn]; exact nI_le h (by omega)) c_5
  · refine hc_aload_n C dX8_byteAt_8 rfl rfl ?_
    refine hc_getR C fl_X8_22 rfl rfl dX8_byteAt_9 ?_
    refine hc_iload_n C dX8_byteAt_12 rfl rfl ?_
    refine hc_ialdN C (j := i) rfl rfl (show i < 120 by rcases Nat.lt_or_ge i n with h | h; omega; exact absurd (show M 48 6 ≤ nI i by rw [hn]; exact nI_le h (by omega)) c_5) dX8_byteAt_13 ?_
    refine hc_goto C (tgt := 18) dX8_byteAt_14 (by decide) ?_
    refine hc_iret C rfl dX8_byteAt_18 ?_
    refine ⟨?_, rfl⟩
    unfold rBt
    rcases Nat.lt_or_ge i n with h | h
    · first
        | exact if_pos h
        | exact absurd (show nI n ≤ nI i from hn ▸ c_5) (nI_ge h (by omega))
    · first
        | exact if_neg (by omega)
        | exact absurd (show M 48 6 ≤ nI i by rw [hn]; exact nI_le h (by omega)) c_5
