/-! FORESIGHT, as the class computes -/
theorem hx_sets : ∀ E, E ≤ 6 → (1 : Int32) <<< (nI E &&& 31) = nI (2 ^ E) := by decide +kernel
theorem hc_bc_n (x : Int32) : ∃ j : Nat, j < 64 ∧ hc_bc x = nI j := pk_andE _ 6 (by decide)
/-- bits, as a natural number -/
def hBn (x : Int32) : Nat := (hc_bc x).toNatClampNeg
theorem hBn_e (x : Int32) : hc_bc x = nI (hBn x) := by
  obtain ⟨j, hj, e⟩ := hc_bc_n x
  unfold hBn
  rw [e, nI_clamp (by omega)]
theorem hBn_lt (x : Int32) : hBn x < 64 := by
  obtain ⟨j, hj, e⟩ := hc_bc_n x
  unfold hBn
  rw [e, nI_clamp (by omega)]
  exact hj
theorem hc_ms_ms {M : hc_Mem} {k j : Nat} {x y : Int32} : hc_ms (hc_ms M k j x) k j y = hc_ms M k j y := by
  funext a
  by_cases ha : a = k
  · subst ha
    simp only [hc_ms_s]
    funext b
    simp only [upd]
    split <;> rfl
  · simp only [hc_ms_n ha]
def hAft (M : hc_Mem) (E : Nat) (s : Int32) (N : Nat) : Nat → Int32
  | 0 => M 9 3
  | i + 1 => hAft M E s N i + ((nI N - 1 - nI i) / 8 + 1) * hPar M E s (M 9 2 + nI i)
def hAfter (M : hc_Mem) (E : Nat) (s : Int32) (N : Nat) : Int32 := hAft M E s N (if N < 8 then N else 8)
def hQts (M : hc_Mem) (E : Nat) (s v : Int32) : Nat → Nat → Int32 → Int32
  | 0, _, _ => -1000000
  | t + 1, n, p => if p / 12 < v then hQts M E s v t (n + 1) (p + hPar M E s (M 9 2 + nI n)) else nI n
def hDon (M : hc_Mem) (E : Nat) (s need : Int32) (q : Nat) : Nat → Nat → Int32 → Int32
  | 0, _, _ => -1000000
  | t + 1, k, g => if g < need then hDon M E s need q t (k + 1) (g + (if k < q then M 19 (k + 1) - M 19 k else hPar M E s (nI k))) else nI k
/-- on which quarter doing x, begun in quarter b, is done -/
def hDone (M : hc_Mem) (E q x b : Nat) : Int32 := hDon M E (hAtt M E) (12 * M 17 x) q (q + 100 - b) b 0
def hLateM (M : hc_Mem) (E q : Nat) (bg : Nat → Nat) : Nat → Int32
  | 0 => 0
  | x + 1 => if hDone M E q x (bg x) = -1000000 ∨ ¬ hDone M E q x (bg x) ≤ M 18 x then hLateM M E q bg x ||| ((1 : Int32) <<< (nI x &&& 31)) else hLateM M E q bg x
def hLat (M : hc_Mem) (E : Nat) (s need : Int32) (q : Nat) : Nat → Int32 → Int32
  | 0, _ => -1000000
  | k + 1, g => if k < q then -1000000 else if g + hPar M E s (nI k) < need then hLat M E s need q k (g + hPar M E s (nI k)) else nI k - M 9 2
abbrev hFew (s best : Int32) : Prop := best = -1000000 ∨ ¬ hc_bc best ≤ hc_bc s
def hFwH (M : hc_Mem) (E N : Nat) (v : Int32) : Nat → Int32
  | 0 => -1000000
  | k + 1 => if (nI k &&& M 9 4) = 0 ∧ hFew (nI k) (hFwH M E N v k) ∧ ¬ v < hAfter M E (hAtt M E &&& (nI k ^^^ -1)) N / 12 then nI k else hFwH M E N v k
def hFwC (M : hc_Mem) (E N : Nat) (v : Int32) : Nat → Int32
  | 0 => -1000000
  | k + 1 => if (nI k &&& hc_icr M E) = 0 ∧ hFew (nI k) (hFwC M E N v k) ∧ ¬ hAfter M E (hAtt M E ||| nI k) N / 12 < v then nI k else hFwC M E N v k
abbrev hSo (M : hc_Mem) (E : Nat) (s : Int32) (base n : Nat) : Prop := ∀ k, k < n → hPar M E s (M 9 2 + nI k) = M 4 (base + k)
def hSets (M : hc_Mem) (E base n : Nat) : Nat → Int64
  | 0 => 0
  | k + 1 => if hSo M E (nI k) base n then hSets M E base n k ||| ((1 : Int64) <<< ((nI k).toInt64 &&& 63)) else hSets M E base n k
def hHds (M : hc_Mem) (E e base n : Nat) : Nat → Int32
  | 0 => 0
  | h + 1 => if hSo (hc_ms M 11 e (nI (h + 1))) E (hAtt M E) base n then hHds M E e base n h ||| ((1 : Int32) <<< (nI h &&& 31)) else hHds M E e base n h
def hLvA (M : hc_Mem) (E e N : Nat) : Int32 := M 15 e + (if M 12 e = 0 then hAfter M E (hAtt M E) N - M 9 3 else 12 * nI N)
def hPow (b : Int32) : Nat → Int32
  | 0 => 1
  | k + 1 => hPow b k * b
def hChs (M : hc_Mem) (E : Nat) (p c : Int32) : Nat → Int32
  | 0 => 0
  | k + 1 => if (nI k &&& (hLisM M E E ^^^ -1)) = 0 ∧ ¬ hPar M E (nI k) (M 9 2) < p then hChs M E p c k + hPow (10 - c) (hBn (nI k)) * hPow c (hBn (hLisM M E E &&& (nI k ^^^ -1))) else hChs M E p c k
def hGcd : Nat → Int32 → Int32 → Int32
  | 0, x, _ => x
  | t + 1, x, y => if y = 0 then x else hGcd t y (x - x / y * y)
def hGcd1 (x y : Int32) : Int32 := if hGcd 64 x y < 1 then 1 else hGcd 64 x y
theorem hGcd1_ne (x y : Int32) : ¬ hGcd1 x y = 0 := by
  unfold hGcd1
  split
  · decide
  · intro h; rename_i h2; rw [h] at h2; exact h2 (by decide)

set_option maxRecDepth 100000 in
set_option maxHeartbeats 4000000 in
theorem lp_partsAfter {G : hc_Geo} {p : Program} {l : Launch} {e : Env} {d : Nat} {s : State} {m : MethodId} {args : Array Value} {below : List Frame} {meth : Method} {c : Code} {Q : State → Prop} (C : hc_Cx G hc_lay cX2_partsAfter 6 (some .int) yX2_partsAfter.cls p s m args meth c) {M : hc_Mem} {E N : Nat} {s0 : Int32} (hd : 2 < d) (hN : N ≤ 99) (hE : M 9 5 = nI E) (hE6 : E ≤ 6) (kk : ∀ v5 : Option Value, hc_W G hc_lay p l e (hc_rm d) s m args below meth c 6 0 0 Q 58 [some (.ref (hc_ad G 9)), some (.int s0), some (.int (nI N)), some (.int (hAft M E s0 N (if N < 8 then N else 8))), some (.int (nI (if N < 8 then N else 8))), v5] [] M)  :
    ∀ (t : Nat) (i : Nat), i + t = (if N < 8 then N else 8) → ∀ v5 : Option Value, hc_W G hc_lay p l e (hc_rm d) s m args below meth c 6 0 0 Q 8 [some (.ref (hc_ad G 9)), some (.int s0), some (.int (nI N)), some (.int (hAft M E s0 N i)), some (.int (nI i)), v5] [] M := by
  intro t
  induction t with
  | zero =>
    intro i hi v5
    refine hc_iload C dX2_partsAfter_8 rfl ?_
    refine hc_bipush C dX2_partsAfter_10 (v := 8) rfl ?_
    refine hc_icmp_ge C (tgt := 58) dX2_partsAfter_12 (by decide) (fun c_12 => ?_) (fun c_12 => ?_)
    · rw [show i = (if N < 8 then N else 8) by omega]
      exact kk v5
    · refine hc_iload C dX2_partsAfter_15 rfl ?_
      refine hc_iload_n C dX2_partsAfter_17 rfl rfl ?_
      have hi8 : i < 8 := by
        rcases Nat.lt_or_ge i 8 with h | h
        · exact h
        · exact absurd (show nI 8 ≤ nI i from nI_le h (by split at hi <;> omega)) c_12
      refine hc_icmp_ge C (tgt := 58) dX2_partsAfter_18 (by decide) (fun c_18 => ?_) (fun c_18 => ?_)
      rotate_left
      · exact absurd (nI_le (show N ≤ i by split at hi <;> omega) (by omega)) c_18
      rw [show i = (if N < 8 then N else 8) by omega]
      exact kk v5
  | succ t ih =>
    intro i hi v5
    refine hc_iload C dX2_partsAfter_8 rfl ?_
    refine hc_bipush C dX2_partsAfter_10 (v := 8) rfl ?_
    refine hc_icmp_ge C (tgt := 58) dX2_partsAfter_12 (by decide) (fun c_12 => ?_) (fun c_12 => ?_)
    · exact absurd (show nI 8 ≤ nI i from c_12) (nI_ge (show i < 8 by split at hi <;> omega) (by omega))
    refine hc_iload C dX2_partsAfter_15 rfl ?_
    refine hc_iload_n C dX2_partsAfter_17 rfl rfl ?_
    refine hc_icmp_ge C (tgt := 58) dX2_partsAfter_18 (by decide) (fun c_18 => ?_) (fun c_18 => ?_)
    · exact absurd c_18 (nI_ge (show i < N by split at hi <;> omega) (by omega))
    refine hc_iload_n C dX2_partsAfter_21 rfl rfl ?_
    refine hc_iconst C dX2_partsAfter_22 (v := 1) rfl ?_
    refine hc_isub C dX2_partsAfter_23 ?_
    refine hc_iload C dX2_partsAfter_24 rfl ?_
    refine hc_isub C dX2_partsAfter_26 ?_
    refine hc_bipush C dX2_partsAfter_27 (v := 8) rfl ?_
    refine hc_idiv C dX2_partsAfter_29 (by decide) ?_
    refine hc_iconst C dX2_partsAfter_30 (v := 1) rfl ?_
    refine hc_iadd C dX2_partsAfter_31 ?_
    refine hc_istore5 C dX2_partsAfter_32 (by decide) rfl ?_
    refine hc_iload_n C dX2_partsAfter_34 rfl rfl ?_
    refine hc_iload C dX2_partsAfter_35 rfl ?_
    refine hc_aload_n C dX2_partsAfter_37 rfl rfl ?_
    refine hc_iload_n C dX2_partsAfter_38 rfl rfl ?_
    refine hc_aload_n C dX2_partsAfter_39 rfl rfl ?_
    refine hc_getI C fl_X2_15 rfl rfl dX2_partsAfter_40 ?_
    refine hc_iload C dX2_partsAfter_43 rfl ?_
    refine hc_iadd C dX2_partsAfter_45 ?_
    refine hc_cV2i C mv_X2_18 (c_X3_partsOf C.ok hE hE6) rfl rfl rfl (Nat.le_of_ble_eq_true rfl) (hc_rr_rm hd) ⟨Nat.zero_le _, Nat.zero_le _⟩ dX2_partsAfter_46 (fun r_46 M_46 h_46 => ?_)
    obtain ⟨rfl, rfl⟩ := h_46
    refine hc_imul C dX2_partsAfter_49 ?_
    refine hc_iadd C dX2_partsAfter_50 ?_
    refine hc_istore_n3 C dX2_partsAfter_51 rfl (by decide) rfl ?_
    refine hc_iinc4 C (v := nI (i + 1)) dX2_partsAfter_52 (by decide) rfl rfl (nI_1 i) ?_
    refine hc_goto C (tgt := 8) dX2_partsAfter_55 (by decide) ?_
    exact ih (i + 1) (by omega) _

set_option maxRecDepth 100000 in
set_option maxHeartbeats 4000000 in
theorem c_X2_partsAfter {l : Launch} {G : hc_Geo} (hG : hc_ok G) {M : hc_Mem} {E N : Nat} {s0 : Int32}  (hN : N ≤ 99) (hE : M 9 5 = nI E) (hE6 : E ≤ 6) : hc_M l G yX2_partsAfter cX2_partsAfter 6 (some .int) 3 [.ref (hc_ad G 9), .int s0, .int (nI N)] M (hc_pi (fun z M' => hAfter M E s0 N = z ∧ M = M')) := by
  refine hc_M.of hG (by decide) [some (.ref (hc_ad G 9)), some (.int s0), some (.int (nI N)), none, none, none] rfl (Nat.le_of_ble_eq_true rfl) ?_
  intro p e s m args below meth c C
  refine hc_aload_n C dX2_partsAfter_0 rfl rfl ?_
  refine hc_getI C fl_X2_9 rfl rfl dX2_partsAfter_1 ?_
  refine hc_istore_n3 C dX2_partsAfter_4 rfl (by decide) rfl ?_
  refine hc_iconst C dX2_partsAfter_5 (v := 0) rfl ?_
  refine hc_istore4 C dX2_partsAfter_6 (by decide) rfl ?_
  refine lp_partsAfter C (by decide) hN hE hE6 (fun v5 => ?_) (if N < 8 then N else 8) 0 (by omega) none
  refine hc_iload_n C dX2_partsAfter_58 rfl rfl ?_
  refine hc_iret C rfl dX2_partsAfter_59 ?_
  exact ⟨rfl, rfl⟩

set_option maxRecDepth 100000 in
set_option maxHeartbeats 4000000 in
theorem c_X2_shownAfter {l : Launch} {G : hc_Geo} (hG : hc_ok G) {M : hc_Mem} {E N : Nat} {s0 : Int32}  (hN : N ≤ 99) (hE : M 9 5 = nI E) (hE6 : E ≤ 6) : hc_M l G yX2_shownAfter cX2_shownAfter 3 (some .int) 4 [.ref (hc_ad G 9), .int s0, .int (nI N)] M (hc_pi (fun z M' => hAfter M E s0 N / 12 = z ∧ M = M')) := by
  refine hc_M.of hG (by decide) [some (.ref (hc_ad G 9)), some (.int s0), some (.int (nI N))] rfl (Nat.le_of_ble_eq_true rfl) ?_
  intro p e s m args below meth c C
  refine hc_aload_n C dX2_shownAfter_0 rfl rfl ?_
  refine hc_iload_n C dX2_shownAfter_1 rfl rfl ?_
  refine hc_iload_n C dX2_shownAfter_2 rfl rfl ?_
  refine hc_cS3i C ms_X2_22 (c_X2_partsAfter C.ok hN hE hE6) (Nat.le_of_ble_eq_true rfl) (hc_rr_rm (by decide)) ⟨Nat.zero_le _, Nat.zero_le _⟩ dX2_shownAfter_3 (fun r_3 M_3 h_3 => ?_)
  obtain ⟨rfl, rfl⟩ := h_3
  refine hc_bipush C dX2_shownAfter_6 (v := 12) rfl ?_
  refine hc_idiv C dX2_shownAfter_8 (by decide) ?_
  refine hc_iret C rfl dX2_shownAfter_9 ?_
  exact ⟨rfl, rfl⟩

set_option maxRecDepth 100000 in
set_option maxHeartbeats 4000000 in
theorem lp_quartersTillShown {G : hc_Geo} {p : Program} {l : Launch} {e : Env} {s : State} {m : MethodId} {args : Array Value} {below : List Frame} {meth : Method} {c : Code} (C : hc_Cx G hc_lay cX2_quartersTillShown 5 (some .int) yX2_quartersTillShown.cls p s m args meth c) {M : hc_Mem} {E : Nat} {v : Int32} (hE : M 9 5 = nI E) (hE6 : E ≤ 6)  :
    ∀ (t : Nat) (n : Nat) (p0 : Int32), n + t = 100 → hc_W G hc_lay p l e (hc_rm 4) s m args below meth c 5 0 0 (MQ below (hc_Q G hc_lay (hc_pi (fun z M' => hQts M E (hAtt M E) v t n p0 = z ∧ M = M'))) args s 0 0 (hc_A G)) 13 [some (.ref (hc_ad G 9)), some (.int v), some (.int (hAtt M E)), some (.int p0), some (.int (nI n))] [] M := by
  intro t
  induction t with
  | zero =>
    intro n p0 hn
    refine hc_iload C dX2_quartersTillShown_13 rfl ?_
    refine hc_bipush C dX2_quartersTillShown_15 (v := 99) rfl ?_
    refine hc_icmp_gt C (tgt := 52) dX2_quartersTillShown_17 (by decide) (fun c_17 => ?_) (fun c_17 => ?_)
    rotate_left
    · exact absurd (show nI 99 < nI n from nI_lt (show 99 < n by omega) (by omega)) c_17
    refine hc_ldc C kc_X2_32 dX2_quartersTillShown_52 ?_
    refine hc_iret C rfl dX2_quartersTillShown_54 ?_
    exact ⟨rfl, rfl⟩
  | succ t ih =>
    intro n p0 hn
    refine hc_iload C dX2_quartersTillShown_13 rfl ?_
    refine hc_bipush C dX2_quartersTillShown_15 (v := 99) rfl ?_
    refine hc_icmp_gt C (tgt := 52) dX2_quartersTillShown_17 (by decide) (fun c_17 => ?_) (fun c_17 => ?_)
    · exact absurd (show nI 99 < nI n from c_17) (nI_nlt (show n ≤ 99 by omega) (by omega))
    refine hc_iload_n C dX2_quartersTillShown_20 rfl rfl ?_
    refine hc_bipush C dX2_quartersTillShown_21 (v := 12) rfl ?_
    refine hc_idiv C dX2_quartersTillShown_23 (by decide) ?_
    refine hc_iload_n C dX2_quartersTillShown_24 rfl rfl ?_
    refine hc_icmp_lt C (tgt := 31) dX2_quartersTillShown_25 (by decide) (fun c_25 => ?_) (fun c_25 => ?_)
    · refine hc_iload_n C dX2_quartersTillShown_31 rfl rfl ?_
      refine hc_aload_n C dX2_quartersTillShown_32 rfl rfl ?_
      refine hc_iload_n C dX2_quartersTillShown_33 rfl rfl ?_
      refine hc_aload_n C dX2_quartersTillShown_34 rfl rfl ?_
      refine hc_getI C fl_X2_15 rfl rfl dX2_quartersTillShown_35 ?_
      refine hc_iload C dX2_quartersTillShown_38 rfl ?_
      refine hc_iadd C dX2_quartersTillShown_40 ?_
      refine hc_cV2i C mv_X2_18 (c_X3_partsOf C.ok hE hE6) rfl rfl rfl (Nat.le_of_ble_eq_true rfl) (hc_rr_rm (by decide)) ⟨Nat.zero_le _, Nat.zero_le _⟩ dX2_quartersTillShown_41 (fun r_41 M_41 h_41 => ?_)
      obtain ⟨rfl, rfl⟩ := h_41
      refine hc_iadd C dX2_quartersTillShown_44 ?_
      refine hc_istore_n3 C dX2_quartersTillShown_45 rfl (by decide) rfl ?_
      refine hc_iinc4 C (v := nI (n + 1)) dX2_quartersTillShown_46 (by decide) rfl rfl (nI_1 n) ?_
      refine hc_goto C (tgt := 13) dX2_quartersTillShown_49 (by decide) ?_
      rw [hQts, if_pos c_25]
      exact ih (n + 1) _ (by omega)
    · refine hc_iload C dX2_quartersTillShown_28 rfl ?_
      refine hc_iret C rfl dX2_quartersTillShown_30 ?_
      exact ⟨if_neg c_25, rfl⟩

set_option maxRecDepth 100000 in
set_option maxHeartbeats 4000000 in
theorem c_X2_quartersTillShown {l : Launch} {G : hc_Geo} (hG : hc_ok G) {M : hc_Mem} {E : Nat} {v : Int32}  (hE : M 9 5 = nI E) (hE6 : E ≤ 6) : hc_M l G yX2_quartersTillShown cX2_quartersTillShown 5 (some .int) 4 [.ref (hc_ad G 9), .int v] M (hc_pi (fun z M' => hQts M E (hAtt M E) v 100 0 (M 9 3) = z ∧ M = M')) := by
  refine hc_M.of hG (by decide) [some (.ref (hc_ad G 9)), some (.int v), none, none, none] rfl (Nat.le_of_ble_eq_true rfl) ?_
  intro p e s m args below meth c C
  refine hc_aload_n C dX2_quartersTillShown_0 rfl rfl ?_
  refine hc_cV0i C mv_X2_28 (c_X3_attending C.ok hE hE6) rfl rfl rfl (Nat.le_of_ble_eq_true rfl) (hc_rr_rm (by decide)) ⟨Nat.zero_le _, Nat.zero_le _⟩ dX2_quartersTillShown_1 (fun r_1 M_1 h_1 => ?_)
  obtain ⟨rfl, rfl⟩ := h_1
  refine hc_istore_n2 C dX2_quartersTillShown_4 rfl (by decide) rfl ?_
  refine hc_aload_n C dX2_quartersTillShown_5 rfl rfl ?_
  refine hc_getI C fl_X2_9 rfl rfl dX2_quartersTillShown_6 ?_
  refine hc_istore_n3 C dX2_quartersTillShown_9 rfl (by decide) rfl ?_
  refine hc_iconst C dX2_quartersTillShown_10 (v := 0) rfl ?_
  refine hc_istore4 C dX2_quartersTillShown_11 (by decide) rfl ?_
  exact lp_quartersTillShown C hE hE6 100 0 (M 9 3) rfl

set_option maxRecDepth 100000 in
set_option maxHeartbeats 4000000 in
theorem c_X2_partsNeeded {l : Launch} {G : hc_Geo} (hG : hc_ok G) {M : hc_Mem} {x : Nat}  (hx : x < 4) : hc_M l G yX2_partsNeeded cX2_partsNeeded 2 (some .int) 1 [.ref (hc_ad G 9), .int (nI x)] M (hc_pi (fun z M' => 12 * M 17 x = z ∧ M = M')) := by
  refine hc_M.of hG (by decide) [some (.ref (hc_ad G 9)), some (.int (nI x))] rfl (Nat.le_of_ble_eq_true rfl) ?_
  intro p e s m args below meth c C
  refine hc_bipush C dX2_partsNeeded_0 (v := 12) rfl ?_
  refine hc_aload_n C dX2_partsNeeded_2 rfl rfl ?_
  refine hc_getR C fl_X2_33 rfl rfl dX2_partsNeeded_3 ?_
  refine hc_iload_n C dX2_partsNeeded_6 rfl rfl ?_
  refine hc_ialdN C (j := x) rfl rfl (by omega) dX2_partsNeeded_7 ?_
  refine hc_imul C dX2_partsNeeded_8 ?_
  refine hc_iret C rfl dX2_partsNeeded_9 ?_
  exact ⟨rfl, rfl⟩

set_option maxRecDepth 100000 in
set_option maxHeartbeats 4000000 in
theorem lp_doneOn {G : hc_Geo} {p : Program} {l : Launch} {e : Env} {s : State} {m : MethodId} {args : Array Value} {below : List Frame} {meth : Method} {c : Code} (C : hc_Cx G hc_lay cX2_doneOn 6 (some .int) yX2_doneOn.cls p s m args meth c) {M : hc_Mem} {E q x : Nat} {need : Int32} (hE : M 9 5 = nI E) (hE6 : E ≤ 6) (hq : M 9 2 = nI q) (hq9 : q ≤ 999)  :
    ∀ (t : Nat) (k : Nat) (g : Int32), k + t = q + 100 → hc_W G hc_lay p l e (hc_rm 4) s m args below meth c 6 0 0 (MQ below (hc_Q G hc_lay (hc_pi (fun z M' => hDon M E (hAtt M E) need q t k g = z ∧ M = M'))) args s 0 0 (hc_A G)) 22 [some (.ref (hc_ad G 9)), some (.int (nI x)), some (.int (hAtt M E)), some (.int need), some (.int g), some (.int (nI k))] [] M := by
  intro t
  induction t with
  | zero =>
    intro k g hk
    refine hc_iload C dX2_doneOn_22 rfl ?_
    refine hc_aload_n C dX2_doneOn_24 rfl rfl ?_
    refine hc_getI C fl_X2_15 rfl rfl dX2_doneOn_25 ?_
    refine hc_bipush C dX2_doneOn_28 (v := 99) rfl ?_
    refine hc_iadd C dX2_doneOn_30 ?_
    refine hc_icmp_gt C (tgt := 79) dX2_doneOn_31 (by decide) (fun c_31 => ?_) (fun c_31 => ?_)
    rotate_left
    · exact absurd (by rw [hq, show nI q + 99 = nI (q + 99) by rw [show (99 : Int32) = nI 99 from rfl, nI_add]]; exact nI_lt (show q + 99 < k by omega) (by omega)) c_31
    refine hc_ldc C kc_X2_32 dX2_doneOn_79 ?_
    refine hc_iret C rfl dX2_doneOn_81 ?_
    exact ⟨rfl, rfl⟩
  | succ t ih =>
    intro k g hk
    refine hc_iload C dX2_doneOn_22 rfl ?_
    refine hc_aload_n C dX2_doneOn_24 rfl rfl ?_
    refine hc_getI C fl_X2_15 rfl rfl dX2_doneOn_25 ?_
    refine hc_bipush C dX2_doneOn_28 (v := 99) rfl ?_
    refine hc_iadd C dX2_doneOn_30 ?_
    refine hc_icmp_gt C (tgt := 79) dX2_doneOn_31 (by decide) (fun c_31 => ?_) (fun c_31 => ?_)
    · rw [hq, show nI q + 99 = nI (q + 99) by rw [show (99 : Int32) = nI 99 from rfl, nI_add]] at c_31
      exact absurd c_31 (nI_nlt (show k ≤ q + 99 by omega) (by omega))
    refine hc_iload C dX2_doneOn_34 rfl ?_
    refine hc_iload_n C dX2_doneOn_36 rfl rfl ?_
    refine hc_icmp_lt C (tgt := 43) dX2_doneOn_37 (by decide) (fun c_37 => ?_) (fun c_37 => ?_)
    · refine hc_iload C dX2_doneOn_43 rfl ?_
      refine hc_aload_n C dX2_doneOn_45 rfl rfl ?_
      refine hc_iload C dX2_doneOn_46 rfl ?_
      refine hc_cV1i C mv_X2_44 (c_X3_isOver C.ok) rfl rfl rfl (Nat.le_of_ble_eq_true rfl) (hc_rr_rm (by decide)) ⟨Nat.zero_le _, Nat.zero_le _⟩ dX2_doneOn_48 (fun r_48 M_48 h_48 => ?_)
      obtain ⟨rfl, rfl⟩ := h_48
      refine hc_if_eq C (tgt := 63) dX2_doneOn_51 (by decide) (fun c_51 => ?_) (fun c_51 => ?_)
      · have hkq : ¬ k < q := fun h => hb_z.mp c_51 ⟨nI_pos (by omega), by rw [hq]; exact nI_ge h (by omega)⟩
        refine hc_aload_n C dX2_doneOn_63 rfl rfl ?_
        refine hc_iload_n C dX2_doneOn_64 rfl rfl ?_
        refine hc_iload C dX2_doneOn_65 rfl ?_
        refine hc_cV2i C mv_X2_18 (c_X3_partsOf C.ok hE hE6) rfl rfl rfl (Nat.le_of_ble_eq_true rfl) (hc_rr_rm (by decide)) ⟨Nat.zero_le _, Nat.zero_le _⟩ dX2_doneOn_67 (fun r_67 M_67 h_67 => ?_)
        obtain ⟨rfl, rfl⟩ := h_67
        refine hc_iadd C dX2_doneOn_70 ?_
        refine hc_istore4 C dX2_doneOn_71 (by decide) rfl ?_
        refine hc_iinc5 C (v := nI (k + 1)) dX2_doneOn_73 (by decide) rfl rfl (nI_1 k) ?_
        refine hc_goto C (tgt := 22) dX2_doneOn_76 (by decide) ?_
        rw [hDon, if_pos c_37]
        first | (rw [if_pos hkq]; exact ih (k + 1) _ (by omega)) | (rw [if_neg hkq]; exact ih (k + 1) _ (by omega))
      · have hkq : k < q := by
          have h1 := (hb_nz.mp c_51).2
          rw [hq] at h1
          rcases Nat.lt_or_ge k q with h | h
          · exact h
          · exact absurd (nI_le h (by omega)) h1
        refine hc_aload_n C dX2_doneOn_54 rfl rfl ?_
        refine hc_iload C dX2_doneOn_55 rfl ?_
        refine hc_cV1i C mv_X2_48 (c_X3_partsGoneIn C.ok hq hkq hq9) rfl rfl rfl (Nat.le_of_ble_eq_true rfl) (hc_rr_rm (by decide)) ⟨Nat.zero_le _, Nat.zero_le _⟩ dX2_doneOn_57 (fun r_57 M_57 h_57 => ?_)
        obtain ⟨rfl, rfl⟩ := h_57
        refine hc_goto C (tgt := 70) dX2_doneOn_60 (by decide) ?_
        refine hc_iadd C dX2_doneOn_70 ?_
        refine hc_istore4 C dX2_doneOn_71 (by decide) rfl ?_
        refine hc_iinc5 C (v := nI (k + 1)) dX2_doneOn_73 (by decide) rfl rfl (nI_1 k) ?_
        refine hc_goto C (tgt := 22) dX2_doneOn_76 (by decide) ?_
        rw [hDon, if_pos c_37]
        first | (rw [if_pos hkq]; exact ih (k + 1) _ (by omega)) | (rw [if_neg hkq]; exact ih (k + 1) _ (by omega))
    · refine hc_iload C dX2_doneOn_40 rfl ?_
      refine hc_iret C rfl dX2_doneOn_42 ?_
      exact ⟨if_neg c_37, rfl⟩

set_option maxRecDepth 100000 in
set_option maxHeartbeats 4000000 in
theorem c_X2_doneOn {l : Launch} {G : hc_Geo} (hG : hc_ok G) {M : hc_Mem} {E q x b0 : Nat}  (hx : x < 4) (hb0 : M 16 x = nI b0) (hb9 : b0 ≤ 99) (hE : M 9 5 = nI E) (hE6 : E ≤ 6) (hq : M 9 2 = nI q) (hq9 : q ≤ 999) : hc_M l G yX2_doneOn cX2_doneOn 6 (some .int) 4 [.ref (hc_ad G 9), .int (nI x)] M (hc_pi (fun z M' => hDone M E q x b0 = z ∧ M = M')) := by
  refine hc_M.of hG (by decide) [some (.ref (hc_ad G 9)), some (.int (nI x)), none, none, none, none] rfl (Nat.le_of_ble_eq_true rfl) ?_
  intro p e s m args below meth c C
  refine hc_aload_n C dX2_doneOn_0 rfl rfl ?_
  refine hc_cV0i C mv_X2_28 (c_X3_attending C.ok hE hE6) rfl rfl rfl (Nat.le_of_ble_eq_true rfl) (hc_rr_rm (by decide)) ⟨Nat.zero_le _, Nat.zero_le _⟩ dX2_doneOn_1 (fun r_1 M_1 h_1 => ?_)
  obtain ⟨rfl, rfl⟩ := h_1
  refine hc_istore_n2 C dX2_doneOn_4 rfl (by decide) rfl ?_
  refine hc_aload_n C dX2_doneOn_5 rfl rfl ?_
  refine hc_iload_n C dX2_doneOn_6 rfl rfl ?_
  refine hc_cS2i C ms_X2_37 (c_X2_partsNeeded C.ok hx) (Nat.le_of_ble_eq_true rfl) (hc_rr_rm (by decide)) ⟨Nat.zero_le _, Nat.zero_le _⟩ dX2_doneOn_7 (fun r_7 M_7 h_7 => ?_)
  obtain ⟨rfl, rfl⟩ := h_7
  refine hc_istore_n3 C dX2_doneOn_10 rfl (by decide) rfl ?_
  refine hc_iconst C dX2_doneOn_11 (v := 0) rfl ?_
  refine hc_istore4 C dX2_doneOn_12 (by decide) rfl ?_
  refine hc_aload_n C dX2_doneOn_14 rfl rfl ?_
  refine hc_getR C fl_X2_41 rfl rfl dX2_doneOn_15 ?_
  refine hc_iload_n C dX2_doneOn_18 rfl rfl ?_
  refine hc_ialdN C (j := x) rfl rfl (by omega) dX2_doneOn_19 ?_
  refine hc_top hb0 ?_
  refine hc_istore5 C dX2_doneOn_20 (by decide) rfl ?_
  exact lp_doneOn C hE hE6 hq hq9 (q + 100 - b0) b0 0 (by omega)

set_option maxRecDepth 100000 in
set_option maxHeartbeats 4000000 in
theorem lp_lateDoings {G : hc_Geo} {p : Program} {l : Launch} {e : Env} {d : Nat} {s : State} {m : MethodId} {args : Array Value} {below : List Frame} {meth : Method} {c : Code} {Q : State → Prop} (C : hc_Cx G hc_lay cX2_lateDoings 4 (some .int) yX2_lateDoings.cls p s m args meth c) {M : hc_Mem} {E q D : Nat} {bg : Nat → Nat} (hd : 4 < d) (hE : M 9 5 = nI E) (hE6 : E ≤ 6) (hq : M 9 2 = nI q) (hq9 : q ≤ 999) (hD : M 9 6 = nI D) (hD4 : D ≤ 4) (hbg : ∀ x, x < D → M 16 x = nI (bg x) ∧ bg x ≤ 99) (kk : ∀ v3 : Option Value, hc_W G hc_lay p l e (hc_rm d) s m args below meth c 4 0 0 Q 46 [some (.ref (hc_ad G 9)), some (.int (hLateM M E q bg D)), some (.int (nI D)), v3] [] M)  :
    ∀ (t : Nat) (i : Nat), i + t = D → ∀ v3 : Option Value, hc_W G hc_lay p l e (hc_rm d) s m args below meth c 4 0 0 Q 4 [some (.ref (hc_ad G 9)), some (.int (hLateM M E q bg i)), some (.int (nI i)), v3] [] M := by
  intro t
  induction t with
  | zero =>
    intro i hi v3
    refine hc_iload_n C dX2_lateDoings_4 rfl rfl ?_
    refine hc_aload_n C dX2_lateDoings_5 rfl rfl ?_
    refine hc_getI C fl_X2_52 rfl rfl dX2_lateDoings_6 ?_
    refine hc_icmp_ge C (tgt := 46) dX2_lateDoings_9 (by decide) (fun c_9 => ?_) (fun c_9 => ?_)
    rotate_left
    · exact absurd (by rw [hD]; exact nI_le (show D ≤ i by omega) (by omega)) c_9
    rw [show i = D by omega]
    exact kk v3
  | succ t ih =>
    intro i hi v3
    refine hc_iload_n C dX2_lateDoings_4 rfl rfl ?_
    refine hc_aload_n C dX2_lateDoings_5 rfl rfl ?_
    refine hc_getI C fl_X2_52 rfl rfl dX2_lateDoings_6 ?_
    refine hc_icmp_ge C (tgt := 46) dX2_lateDoings_9 (by decide) (fun c_9 => ?_) (fun c_9 => ?_)
    · exact absurd (hD ▸ c_9) (nI_ge (show i < D by omega) (by omega))
    refine hc_aload_n C dX2_lateDoings_12 rfl rfl ?_
    refine hc_iload_n C dX2_lateDoings_13 rfl rfl ?_
    refine hc_cS2i C ms_X2_55 (c_X2_doneOn C.ok (show i < 4 by omega) (hbg i (by omega)).1 (hbg i (by omega)).2 hE hE6 hq hq9) (Nat.le_of_ble_eq_true rfl) (hc_rr_rm hd) ⟨Nat.zero_le _, Nat.zero_le _⟩ dX2_lateDoings_14 (fun r_14 M_14 h_14 => ?_)
    obtain ⟨rfl, rfl⟩ := h_14
    refine hc_istore_n3 C dX2_lateDoings_17 rfl (by decide) rfl ?_
    refine hc_iload_n C dX2_lateDoings_18 rfl rfl ?_
    refine hc_ldc C kc_X2_32 dX2_lateDoings_19 ?_
    refine hc_icmp_eq C (tgt := 34) dX2_lateDoings_21 (by decide) (fun c_21 => ?_) (fun c_21 => ?_)
    · refine hc_iload_n C dX2_lateDoings_34 rfl rfl ?_
      refine hc_iconst C dX2_lateDoings_35 (v := 1) rfl ?_
      refine hc_iload_n C dX2_lateDoings_36 rfl rfl ?_
      refine hc_ishl C dX2_lateDoings_37 ?_
      refine hc_ior C dX2_lateDoings_38 ?_
      refine hc_istore_n1 C dX2_lateDoings_39 rfl (by decide) rfl ?_
      refine hc_iinc2 C (v := nI (i + 1)) dX2_lateDoings_40 (by decide) rfl rfl (nI_1 i) ?_
      refine hc_goto C (tgt := 4) dX2_lateDoings_43 (by decide) ?_
      have e1 := ih (i + 1) (by omega) (some (.int (hDone M E q i (bg i))))
      first
        | (rw [hLateM, if_pos (Or.inl c_21)] at e1; exact e1)
        | (rw [hLateM, if_neg (fun z => z.elim c_21 (fun w => w c_31))] at e1; exact e1)
        | (rw [hLateM, if_pos (Or.inr c_31)] at e1; exact e1)
    · refine hc_iload_n C dX2_lateDoings_24 rfl rfl ?_
      refine hc_aload_n C dX2_lateDoings_25 rfl rfl ?_
      refine hc_getR C fl_X2_58 rfl rfl dX2_lateDoings_26 ?_
      refine hc_iload_n C dX2_lateDoings_29 rfl rfl ?_
      refine hc_ialdN C (j := i) rfl rfl (by omega) dX2_lateDoings_30 ?_
      refine hc_icmp_le C (tgt := 40) dX2_lateDoings_31 (by decide) (fun c_31 => ?_) (fun c_31 => ?_)
      · refine hc_iinc2 C (v := nI (i + 1)) dX2_lateDoings_40 (by decide) rfl rfl (nI_1 i) ?_
        refine hc_goto C (tgt := 4) dX2_lateDoings_43 (by decide) ?_
        have e1 := ih (i + 1) (by omega) (some (.int (hDone M E q i (bg i))))
        first
          | (rw [hLateM, if_pos (Or.inl c_21)] at e1; exact e1)
          | (rw [hLateM, if_neg (fun z => z.elim c_21 (fun w => w c_31))] at e1; exact e1)
          | (rw [hLateM, if_pos (Or.inr c_31)] at e1; exact e1)
      · refine hc_iload_n C dX2_lateDoings_34 rfl rfl ?_
        refine hc_iconst C dX2_lateDoings_35 (v := 1) rfl ?_
        refine hc_iload_n C dX2_lateDoings_36 rfl rfl ?_
        refine hc_ishl C dX2_lateDoings_37 ?_
        refine hc_ior C dX2_lateDoings_38 ?_
        refine hc_istore_n1 C dX2_lateDoings_39 rfl (by decide) rfl ?_
        refine hc_iinc2 C (v := nI (i + 1)) dX2_lateDoings_40 (by decide) rfl rfl (nI_1 i) ?_
        refine hc_goto C (tgt := 4) dX2_lateDoings_43 (by decide) ?_
        have e1 := ih (i + 1) (by omega) (some (.int (hDone M E q i (bg i))))
        first
          | (rw [hLateM, if_pos (Or.inl c_21)] at e1; exact e1)
          | (rw [hLateM, if_neg (fun z => z.elim c_21 (fun w => w c_31))] at e1; exact e1)
          | (rw [hLateM, if_pos (Or.inr c_31)] at e1; exact e1)

set_option maxRecDepth 100000 in
set_option maxHeartbeats 4000000 in
theorem c_X2_lateDoings {l : Launch} {G : hc_Geo} (hG : hc_ok G) {M : hc_Mem} {E q D : Nat} {bg : Nat → Nat}  (hE : M 9 5 = nI E) (hE6 : E ≤ 6) (hq : M 9 2 = nI q) (hq9 : q ≤ 999) (hD : M 9 6 = nI D) (hD4 : D ≤ 4) (hbg : ∀ x, x < D → M 16 x = nI (bg x) ∧ bg x ≤ 99) : hc_M l G yX2_lateDoings cX2_lateDoings 4 (some .int) 5 [.ref (hc_ad G 9)] M (hc_pi (fun z M' => hLateM M E q bg D = z ∧ M = M')) := by
  refine hc_M.of hG (by decide) [some (.ref (hc_ad G 9)), none, none, none] rfl (Nat.le_of_ble_eq_true rfl) ?_
  intro p e s m args below meth c C
  refine hc_iconst C dX2_lateDoings_0 (v := 0) rfl ?_
  refine hc_istore_n1 C dX2_lateDoings_1 rfl (by decide) rfl ?_
  refine hc_iconst C dX2_lateDoings_2 (v := 0) rfl ?_
  refine hc_istore_n2 C dX2_lateDoings_3 rfl (by decide) rfl ?_
  refine lp_lateDoings C (by decide) hE hE6 hq hq9 hD hD4 hbg (fun v3 => ?_) D 0 (by omega) none
  refine hc_iload_n C dX2_lateDoings_46 rfl rfl ?_
  refine hc_iret C rfl dX2_lateDoings_47 ?_
  exact ⟨rfl, rfl⟩

set_option maxRecDepth 100000 in
set_option maxHeartbeats 4000000 in
theorem lp_latestBegin {G : hc_Geo} {p : Program} {l : Launch} {e : Env} {s : State} {m : MethodId} {args : Array Value} {below : List Frame} {meth : Method} {c : Code} (C : hc_Cx G hc_lay cX2_latestBegin 6 (some .int) yX2_latestBegin.cls p s m args meth c) {M : hc_Mem} {E q x : Nat} {need : Int32} (hE : M 9 5 = nI E) (hE6 : E ≤ 6) (hq : M 9 2 = nI q) (hq9 : q ≤ 999)  :
    ∀ (t : Nat) (g : Int32), t ≤ 99 → hc_W G hc_lay p l e (hc_rm 4) s m args below meth c 6 0 0 (MQ below (hc_Q G hc_lay (hc_pi (fun z M' => hLat M E (hAtt M E) need q t g = z ∧ M = M'))) args s 0 0 (hc_A G)) 24 [some (.ref (hc_ad G 9)), some (.int (nI x)), some (.int (hAtt M E)), some (.int need), some (.int g), some (.int (nI t - 1))] [] M := by
  intro t
  induction t with
  | zero =>
    intro g ht
    refine hc_iload C dX2_latestBegin_24 rfl ?_
    refine hc_aload_n C dX2_latestBegin_26 rfl rfl ?_
    refine hc_getI C fl_X2_15 rfl rfl dX2_latestBegin_27 ?_
    refine hc_icmp_lt C (tgt := 65) dX2_latestBegin_30 (by decide) (fun c_30 => ?_) (fun c_30 => ?_)
    rotate_left
    · exact absurd (by rw [hq]; exact Int32.lt_iff_toInt_lt.mpr (by rw [nI_toInt (by omega)]; show (-1 : Int) < _; omega)) c_30
    refine hc_ldc C kc_X2_32 dX2_latestBegin_65 ?_
    refine hc_iret C rfl dX2_latestBegin_67 ?_
    exact ⟨rfl, rfl⟩
  | succ t ih =>
    intro g ht
    refine hc_iload C dX2_latestBegin_24 rfl ?_
    refine hc_top (nI_pred t) ?_
    refine hc_aload_n C dX2_latestBegin_26 rfl rfl ?_
    refine hc_getI C fl_X2_15 rfl rfl dX2_latestBegin_27 ?_
    refine hc_icmp_lt C (tgt := 65) dX2_latestBegin_30 (by decide) (fun c_30 => ?_) (fun c_30 => ?_)
    · have htq : t < q := by
        rw [hq] at c_30
        rcases Nat.lt_or_ge t q with h | h
        · exact h
        · exact absurd c_30 (nI_nlt h (by omega))
      refine hc_ldc C kc_X2_32 dX2_latestBegin_65 ?_
      refine hc_iret C rfl dX2_latestBegin_67 ?_
      exact ⟨if_pos htq, rfl⟩
    · refine hc_iload C dX2_latestBegin_33 rfl ?_
      refine hc_aload_n C dX2_latestBegin_35 rfl rfl ?_
      refine hc_iload_n C dX2_latestBegin_36 rfl rfl ?_
      refine hc_iload C dX2_latestBegin_37 rfl ?_
      refine hc_top (nI_pred t) ?_
      refine hc_cV2i C mv_X2_18 (c_X3_partsOf C.ok hE hE6) rfl rfl rfl (Nat.le_of_ble_eq_true rfl) (hc_rr_rm (by decide)) ⟨Nat.zero_le _, Nat.zero_le _⟩ dX2_latestBegin_39 (fun r_39 M_39 h_39 => ?_)
      obtain ⟨rfl, rfl⟩ := h_39
      refine hc_iadd C dX2_latestBegin_42 ?_
      refine hc_istore4 C dX2_latestBegin_43 (by decide) rfl ?_
      refine hc_iload C dX2_latestBegin_45 rfl ?_
      refine hc_iload_n C dX2_latestBegin_47 rfl rfl ?_
      refine hc_icmp_lt C (tgt := 59) dX2_latestBegin_48 (by decide) (fun c_48 => ?_) (fun c_48 => ?_)
      · have htq : ¬ t < q := fun h => c_30 (by rw [hq]; exact nI_lt h (by omega))
        refine hc_iinc5 C (v := nI t - 1) dX2_latestBegin_59 (by decide) rfl rfl (show nI (t + 1) - 1 + (-1) = nI t - 1 by rw [nI_pred, Int32.sub_eq_add_neg]) ?_
        refine hc_goto C (tgt := 24) dX2_latestBegin_62 (by decide) ?_
        rw [hLat, if_neg htq, if_pos c_48]
        exact ih _ (by omega)
      · have htq : ¬ t < q := fun h => c_30 (by rw [hq]; exact nI_lt h (by omega))
        refine hc_iload C dX2_latestBegin_51 rfl ?_
        refine hc_top (nI_pred t) ?_
        refine hc_aload_n C dX2_latestBegin_53 rfl rfl ?_
        refine hc_getI C fl_X2_15 rfl rfl dX2_latestBegin_54 ?_
        refine hc_isub C dX2_latestBegin_57 ?_
        refine hc_iret C rfl dX2_latestBegin_58 ?_
        exact ⟨(if_neg htq).trans (if_neg c_48), rfl⟩

set_option maxRecDepth 100000 in
set_option maxHeartbeats 4000000 in
theorem c_X2_latestBegin {l : Launch} {G : hc_Geo} (hG : hc_ok G) {M : hc_Mem} {E q x u : Nat}  (hx : x < 4) (hu : M 18 x = nI u) (hu9 : u ≤ 99) (hE : M 9 5 = nI E) (hE6 : E ≤ 6) (hq : M 9 2 = nI q) (hq9 : q ≤ 999) : hc_M l G yX2_latestBegin cX2_latestBegin 6 (some .int) 4 [.ref (hc_ad G 9), .int (nI x)] M (hc_pi (fun z M' => hLat M E (hAtt M E) (12 * M 17 x) q u 0 = z ∧ M = M')) := by
  refine hc_M.of hG (by decide) [some (.ref (hc_ad G 9)), some (.int (nI x)), none, none, none, none] rfl (Nat.le_of_ble_eq_true rfl) ?_
  intro p e s m args below meth c C
  refine hc_aload_n C dX2_latestBegin_0 rfl rfl ?_
  refine hc_cV0i C mv_X2_28 (c_X3_attending C.ok hE hE6) rfl rfl rfl (Nat.le_of_ble_eq_true rfl) (hc_rr_rm (by decide)) ⟨Nat.zero_le _, Nat.zero_le _⟩ dX2_latestBegin_1 (fun r_1 M_1 h_1 => ?_)
  obtain ⟨rfl, rfl⟩ := h_1
  refine hc_istore_n2 C dX2_latestBegin_4 rfl (by decide) rfl ?_
  refine hc_aload_n C dX2_latestBegin_5 rfl rfl ?_
  refine hc_iload_n C dX2_latestBegin_6 rfl rfl ?_
  refine hc_cS2i C ms_X2_37 (c_X2_partsNeeded C.ok hx) (Nat.le_of_ble_eq_true rfl) (hc_rr_rm (by decide)) ⟨Nat.zero_le _, Nat.zero_le _⟩ dX2_latestBegin_7 (fun r_7 M_7 h_7 => ?_)
  obtain ⟨rfl, rfl⟩ := h_7
  refine hc_istore_n3 C dX2_latestBegin_10 rfl (by decide) rfl ?_
  refine hc_iconst C dX2_latestBegin_11 (v := 0) rfl ?_
  refine hc_istore4 C dX2_latestBegin_12 (by decide) rfl ?_
  refine hc_aload_n C dX2_latestBegin_14 rfl rfl ?_
  refine hc_getR C fl_X2_58 rfl rfl dX2_latestBegin_15 ?_
  refine hc_iload_n C dX2_latestBegin_18 rfl rfl ?_
  refine hc_ialdN C (j := x) rfl rfl (by omega) dX2_latestBegin_19 ?_
  refine hc_top hu ?_
  refine hc_iconst C dX2_latestBegin_20 (v := 1) rfl ?_
  refine hc_isub C dX2_latestBegin_21 ?_
  refine hc_istore5 C dX2_latestBegin_22 (by decide) rfl ?_
  exact lp_latestBegin C hE hE6 hq hq9 u 0 hu9

set_option maxRecDepth 100000 in
set_option maxHeartbeats 4000000 in
theorem c_X2_isFewer {l : Launch} {G : hc_Geo} (hG : hc_ok G) {M : hc_Mem} {s0 b0 : Int32}  : hc_M l G yX2_isFewer cX2_isFewer 2 (some .boolean) 2 [.int s0, .int b0] M (hc_pi (fun z M' => hb (hFew s0 b0) = z ∧ M = M')) := by
  refine hc_M.of hG (by decide) [some (.int s0), some (.int b0)] rfl (Nat.le_of_ble_eq_true rfl) ?_
  intro p e s m args below meth c C
  refine hc_iload_n C dX2_isFewer_0 rfl rfl ?_
  refine hc_ldc C kc_X2_32 dX2_isFewer_1 ?_
  refine hc_icmp_eq C (tgt := 17) dX2_isFewer_3 (by decide) (fun c_3 => ?_) (fun c_3 => ?_)
  · refine hc_iconst C dX2_isFewer_17 (v := 1) rfl ?_
    refine hc_goto C (tgt := 22) dX2_isFewer_18 (by decide) ?_
    refine hc_zret C rfl rfl dX2_isFewer_22 ?_
    refine ⟨?_, rfl⟩
    first | exact hb_t (Or.inl c_3) | exact hb_t (Or.inr c_14) | exact hb_f (fun z => z.elim c_3 (fun w => w c_14))
  · refine hc_iload_n C dX2_isFewer_6 rfl rfl ?_
    refine hc_cS1i C ms_X2_77 (c_J6_bitCount_0f7a4 C.ok) (Nat.le_of_ble_eq_true rfl) (hc_rr_rm (by decide)) ⟨Nat.zero_le _, Nat.zero_le _⟩ dX2_isFewer_7 (fun r_7 M_7 h_7 => ?_)
    obtain ⟨rfl, rfl⟩ := h_7
    refine hc_iload_n C dX2_isFewer_10 rfl rfl ?_
    refine hc_cS1i C ms_X2_77 (c_J6_bitCount_0f7a4 C.ok) (Nat.le_of_ble_eq_true rfl) (hc_rr_rm (by decide)) ⟨Nat.zero_le _, Nat.zero_le _⟩ dX2_isFewer_11 (fun r_11 M_11 h_11 => ?_)
    obtain ⟨rfl, rfl⟩ := h_11
    refine hc_icmp_ge C (tgt := 21) dX2_isFewer_14 (by decide) (fun c_14 => ?_) (fun c_14 => ?_)
    · refine hc_iconst C dX2_isFewer_21 (v := 0) rfl ?_
      refine hc_zret C rfl rfl dX2_isFewer_22 ?_
      refine ⟨?_, rfl⟩
      first | exact hb_t (Or.inl c_3) | exact hb_t (Or.inr c_14) | exact hb_f (fun z => z.elim c_3 (fun w => w c_14))
    · refine hc_iconst C dX2_isFewer_17 (v := 1) rfl ?_
      refine hc_goto C (tgt := 22) dX2_isFewer_18 (by decide) ?_
      refine hc_zret C rfl rfl dX2_isFewer_22 ?_
      refine ⟨?_, rfl⟩
      first | exact hb_t (Or.inl c_3) | exact hb_t (Or.inr c_14) | exact hb_f (fun z => z.elim c_3 (fun w => w c_14))
