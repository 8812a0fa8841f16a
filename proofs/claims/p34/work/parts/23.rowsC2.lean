theorem hb_iff {P Q : Prop} [Decidable P] [Decidable Q] (h : P ↔ Q) : hb P = hb Q := by unfold hb; simp only [h]
theorem hx_lt7 {x : Int32} : (7 : Int32) < x ↔ (8 : Int32) ≤ x := by
  rw [Int32.lt_iff_toInt_lt, Int32.le_iff_toInt_le, show (7 : Int32).toInt = 7 from rfl, show (8 : Int32).toInt = 8 from rfl]
  omega
theorem hx_pred {x : Int32} {n : Nat} (hn : n < 2 ^ 30) : nI n - 1 < x ↔ nI n ≤ x := by
  rw [Int32.lt_iff_toInt_lt, Int32.le_iff_toInt_le, show (1 : Int32) = nI 1 from rfl, pk_sub_toInt hn (by decide), nI_toInt (by omega)]
  omega
/-- indices of the reference's houses -/
theorem hx_67 (e k : Nat) : (6 : Int32) + 7 * nI e + nI k = nI (6 + 7 * e + k) := by
  rw [show (6 : Int32) = nI 6 from rfl, show (7 : Int32) = nI 7 from rfl, pk_mul, nI_add, nI_add]
theorem hx_670 (e : Nat) : (6 : Int32) + 7 * nI e = nI (6 + 7 * e) := by
  rw [show (6 : Int32) = nI 6 from rfl, show (7 : Int32) = nI 7 from rfl, pk_mul, nI_add]
theorem hx_row {j : Nat} (h : j < 8) : ¬ nI j < 0 ∧ ¬ (8 : Int32) ≤ nI j := ⟨nI_pos (by omega), show ¬ nI 8 ≤ nI j from nI_ge h (by decide)⟩
set_option maxRecDepth 100000 in
set_option maxHeartbeats 4000000 in
theorem c_X7_row_b {l : Launch} {G : hc_Geo} (hG : hc_ok G) {M : hc_Mem} {r la n : Int32}  (h0 : ¬ ((¬ r < 0 ∧ ¬ 8 ≤ r) ∧ (¬ la < 0 ∧ ¬ 2 < la) ∧ n ≤ 40)) : hc_M l G yX7_row cX7_row 4 (some .int) 4 [.ref (hc_ad G 0), .int r, .int la, .int n] M (hc_pi (fun z M' => -1000001 = z ∧ M = M')) := by
  refine hc_M.of hG (by decide) [some (.ref (hc_ad G 0)), some (.int r), some (.int la), some (.int n)] rfl (Nat.le_of_ble_eq_true rfl) ?_
  intro p e s m args below meth c C
  refine hc_iload_n C dX7_row_0 rfl rfl ?_
  refine hc_cS1i C ms_X7_57 (c_X5_isRow C.ok) (Nat.le_of_ble_eq_true rfl) (hc_rr_rm (by decide)) ⟨Nat.zero_le _, Nat.zero_le _⟩ dX7_row_1 (fun r_1 M_1 h_1 => ?_)
  obtain ⟨rfl, rfl⟩ := h_1
  refine hc_if_eq C (tgt := 20) dX7_row_4 (by decide) (fun c_4 => ?_) (fun c_4 => ?_)
  · refine hc_ldc C kc_X7_64 dX7_row_20 ?_
    refine hc_iret C rfl dX7_row_22 ?_
    exact ⟨rfl, rfl⟩
  · refine hc_iload_n C dX7_row_7 rfl rfl ?_
    refine hc_cS1i C ms_X7_61 (c_X5_isLane C.ok) (Nat.le_of_ble_eq_true rfl) (hc_rr_rm (by decide)) ⟨Nat.zero_le _, Nat.zero_le _⟩ dX7_row_8 (fun r_8 M_8 h_8 => ?_)
    obtain ⟨rfl, rfl⟩ := h_8
    refine hc_if_eq C (tgt := 20) dX7_row_11 (by decide) (fun c_11 => ?_) (fun c_11 => ?_)
    · refine hc_ldc C kc_X7_64 dX7_row_20 ?_
      refine hc_iret C rfl dX7_row_22 ?_
      exact ⟨rfl, rfl⟩
    · refine hc_iload_n C dX7_row_14 rfl rfl ?_
      refine hc_bipush C dX7_row_15 (v := 40) rfl ?_
      refine hc_icmp_le C (tgt := 23) dX7_row_17 (by decide) (fun c_17 => ?_) (fun c_17 => ?_)
      · exact absurd ⟨hb_nz.mp c_4, hb_nz.mp c_11, c_17⟩ h0
      refine hc_ldc C kc_X7_64 dX7_row_20 ?_
      refine hc_iret C rfl dX7_row_22 ?_
      exact ⟨rfl, rfl⟩

set_option maxRecDepth 100000 in
set_option maxHeartbeats 4000000 in
theorem c_X7_row_s {l : Launch} {G : hc_Geo} (hG : hc_ok G) {M : hc_Mem} {r la n : Int32}  (h1 : ¬ r < 0 ∧ ¬ 8 ≤ r) (h2 : ¬ la < 0 ∧ ¬ 2 < la) (h3 : n ≤ 40) (h4 : ¬ 0 ≤ n) : hc_M l G yX7_row cX7_row 4 (some .int) 4 [.ref (hc_ad G 0), .int r, .int la, .int n] M (hc_pi (fun z M' => -1000014 = z ∧ hc_ms M 0 8 4 = M')) := by
  refine hc_M.of hG (by decide) [some (.ref (hc_ad G 0)), some (.int r), some (.int la), some (.int n)] rfl (Nat.le_of_ble_eq_true rfl) ?_
  intro p e s m args below meth c C
  refine hc_iload_n C dX7_row_0 rfl rfl ?_
  refine hc_cS1i C ms_X7_57 (c_X5_isRow C.ok) (Nat.le_of_ble_eq_true rfl) (hc_rr_rm (by decide)) ⟨Nat.zero_le _, Nat.zero_le _⟩ dX7_row_1 (fun r_1 M_1 h_1 => ?_)
  obtain ⟨rfl, rfl⟩ := h_1
  refine hc_if_eq C (tgt := 20) dX7_row_4 (by decide) (fun c_4 => ?_) (fun c_4 => ?_)
  · exact absurd h1 (hb_z.mp c_4)
  refine hc_iload_n C dX7_row_7 rfl rfl ?_
  refine hc_cS1i C ms_X7_61 (c_X5_isLane C.ok) (Nat.le_of_ble_eq_true rfl) (hc_rr_rm (by decide)) ⟨Nat.zero_le _, Nat.zero_le _⟩ dX7_row_8 (fun r_8 M_8 h_8 => ?_)
  obtain ⟨rfl, rfl⟩ := h_8
  refine hc_if_eq C (tgt := 20) dX7_row_11 (by decide) (fun c_11 => ?_) (fun c_11 => ?_)
  · exact absurd h2 (hb_z.mp c_11)
  refine hc_iload_n C dX7_row_14 rfl rfl ?_
  refine hc_bipush C dX7_row_15 (v := 40) rfl ?_
  refine hc_icmp_le C (tgt := 23) dX7_row_17 (by decide) (fun c_17 => ?_) (fun c_17 => ?_)
  rotate_left
  · exact absurd h3 c_17
  refine hc_iload_n C dX7_row_23 rfl rfl ?_
  refine hc_if_ge C (tgt := 33) dX7_row_24 (by decide) (fun c_24 => ?_) (fun c_24 => ?_)
  · exact absurd c_24 h4
  refine hc_aload_n C dX7_row_27 rfl rfl ?_
  refine hc_iconst C dX7_row_28 (v := 4) rfl ?_
  refine hc_cV1i C mv_X7_65 (c_X7_found C.ok) rfl rfl rfl (Nat.le_of_ble_eq_true rfl) (hc_rr_rm (by decide)) ⟨Nat.zero_le _, Nat.zero_le _⟩ dX7_row_29 (fun r_29 M_29 h_29 => ?_)
  obtain ⟨rfl, rfl⟩ := h_29
  refine hc_iret C rfl dX7_row_32 ?_
  exact ⟨rfl, rfl⟩

set_option maxRecDepth 100000 in
set_option maxHeartbeats 4000000 in
theorem c_X7_row_o {l : Launch} {G : hc_Geo} (hG : hc_ok G) {M : hc_Mem} {j n : Nat} {la : Int32}  (hj : j < 8) (h2 : ¬ la < 0 ∧ ¬ 2 < la) (hn : n ≤ 40) : hc_M l G yX7_row cX7_row 4 (some .int) 4 [.ref (hc_ad G 0), .int (nI j), .int la, .int (nI n)] M (hc_pi (fun z M' => nI n = z ∧ hc_ms (hc_mf (hc_ms (hc_ms M 2 j la) 3 j (nI n)) 4 (fun i => if 40 * j ≤ i ∧ i < 40 * j + 40 then 0 else M 4 i)) 0 8 0 = M')) := by
  refine hc_M.of hG (by decide) [some (.ref (hc_ad G 0)), some (.int (nI j)), some (.int la), some (.int (nI n))] rfl (Nat.le_of_ble_eq_true rfl) ?_
  intro p e s m args below meth c C
  refine hc_iload_n C dX7_row_0 rfl rfl ?_
  refine hc_cS1i C ms_X7_57 (c_X5_isRow C.ok) (Nat.le_of_ble_eq_true rfl) (hc_rr_rm (by decide)) ⟨Nat.zero_le _, Nat.zero_le _⟩ dX7_row_1 (fun r_1 M_1 h_1 => ?_)
  obtain ⟨rfl, rfl⟩ := h_1
  refine hc_if_eq C (tgt := 20) dX7_row_4 (by decide) (fun c_4 => ?_) (fun c_4 => ?_)
  · exact absurd (hx_row (show j < 8 by omega)) (hb_z.mp c_4)
  refine hc_iload_n C dX7_row_7 rfl rfl ?_
  refine hc_cS1i C ms_X7_61 (c_X5_isLane C.ok) (Nat.le_of_ble_eq_true rfl) (hc_rr_rm (by decide)) ⟨Nat.zero_le _, Nat.zero_le _⟩ dX7_row_8 (fun r_8 M_8 h_8 => ?_)
  obtain ⟨rfl, rfl⟩ := h_8
  refine hc_if_eq C (tgt := 20) dX7_row_11 (by decide) (fun c_11 => ?_) (fun c_11 => ?_)
  · exact absurd h2 (hb_z.mp c_11)
  refine hc_iload_n C dX7_row_14 rfl rfl ?_
  refine hc_bipush C dX7_row_15 (v := 40) rfl ?_
  refine hc_icmp_le C (tgt := 23) dX7_row_17 (by decide) (fun c_17 => ?_) (fun c_17 => ?_)
  rotate_left
  · exact absurd (show nI n ≤ nI 40 from nI_le hn (by omega)) c_17
  refine hc_iload_n C dX7_row_23 rfl rfl ?_
  refine hc_if_ge C (tgt := 33) dX7_row_24 (by decide) (fun c_24 => ?_) (fun c_24 => ?_)
  rotate_left
  · exact absurd (nI_pos' (by omega)) c_24
  refine hc_aload_n C dX7_row_33 rfl rfl ?_
  refine hc_getR C fl_X7_10 rfl rfl dX7_row_34 ?_
  refine hc_iload_n C dX7_row_37 rfl rfl ?_
  refine hc_iload_n C dX7_row_38 rfl rfl ?_
  refine hc_iload_n C dX7_row_39 rfl rfl ?_
  refine hc_cV3v C mv_X7_69 (c_X5_make C.ok hj) rfl rfl rfl (Nat.le_of_ble_eq_true rfl) (hc_rr_rm (by decide)) ⟨Nat.zero_le _, Nat.zero_le _⟩ dX7_row_40 (fun M_40 h_40 => ?_)
  obtain rfl := h_40
  refine hc_aload_n C dX7_row_43 rfl rfl ?_
  refine hc_iload_n C dX7_row_44 rfl rfl ?_
  refine hc_cV1i C mv_X7_73 (c_X7_foundNothing C.ok) rfl rfl rfl (Nat.le_of_ble_eq_true rfl) (hc_rr_rm (by decide)) ⟨Nat.zero_le _, Nat.zero_le _⟩ dX7_row_45 (fun r_45 M_45 h_45 => ?_)
  obtain ⟨rfl, rfl⟩ := h_45
  refine hc_iret C rfl dX7_row_48 ?_
  exact ⟨rfl, rfl⟩

set_option maxRecDepth 100000 in
set_option maxHeartbeats 4000000 in
theorem c_X7_set_b {l : Launch} {G : hc_Geo} (hG : hc_ok G) {M : hc_Mem} {r i v : Int32}  (h0 : ¬ (¬ r < 0 ∧ ¬ 8 ≤ r)) : hc_M l G yX7_set cX7_set 5 (some .int) 3 [.ref (hc_ad G 0), .int r, .int i, .int v] M (hc_pi (fun z M' => -1000001 = z ∧ M = M')) := by
  refine hc_M.of hG (by decide) [some (.ref (hc_ad G 0)), some (.int r), some (.int i), some (.int v), none] rfl (Nat.le_of_ble_eq_true rfl) ?_
  intro p e s m args below meth c C
  refine hc_iload_n C dX7_set_0 rfl rfl ?_
  refine hc_cS1i C ms_X7_57 (c_X5_isRow C.ok) (Nat.le_of_ble_eq_true rfl) (hc_rr_rm (by decide)) ⟨Nat.zero_le _, Nat.zero_le _⟩ dX7_set_1 (fun r_1 M_1 h_1 => ?_)
  obtain ⟨rfl, rfl⟩ := h_1
  refine hc_if_ne C (tgt := 10) dX7_set_4 (by decide) (fun c_4 => ?_) (fun c_4 => ?_)
  · exact absurd (hb_f h0) c_4
  refine hc_ldc C kc_X7_64 dX7_set_7 ?_
  refine hc_iret C rfl dX7_set_9 ?_
  exact ⟨rfl, rfl⟩

set_option maxRecDepth 100000 in
set_option maxHeartbeats 4000000 in
theorem c_X7_set_n {l : Launch} {G : hc_Geo} (hG : hc_ok G) {M : hc_Mem} {j : Nat} {i v : Int32}  (hj : j < 8) (h1 : M 2 j = -1) : hc_M l G yX7_set cX7_set 5 (some .int) 3 [.ref (hc_ad G 0), .int (nI j), .int i, .int v] M (hc_pi (fun z M' => -1000011 = z ∧ hc_ms M 0 8 1 = M')) := by
  refine hc_M.of hG (by decide) [some (.ref (hc_ad G 0)), some (.int (nI j)), some (.int i), some (.int v), none] rfl (Nat.le_of_ble_eq_true rfl) ?_
  intro p e s m args below meth c C
  refine hc_iload_n C dX7_set_0 rfl rfl ?_
  refine hc_cS1i C ms_X7_57 (c_X5_isRow C.ok) (Nat.le_of_ble_eq_true rfl) (hc_rr_rm (by decide)) ⟨Nat.zero_le _, Nat.zero_le _⟩ dX7_set_1 (fun r_1 M_1 h_1 => ?_)
  obtain ⟨rfl, rfl⟩ := h_1
  refine hc_if_ne C (tgt := 10) dX7_set_4 (by decide) (fun c_4 => ?_) (fun c_4 => ?_)
  rotate_left
  · exact absurd (hx_row (show j < 8 by omega)) (hb_z.mp c_4)
  refine hc_aload_n C dX7_set_10 rfl rfl ?_
  refine hc_getR C fl_X7_10 rfl rfl dX7_set_11 ?_
  refine hc_iload_n C dX7_set_14 rfl rfl ?_
  refine hc_iload_n C dX7_set_15 rfl rfl ?_
  refine hc_iconst C dX7_set_16 (v := 1) rfl ?_
  refine hc_cV3i C mv_X7_76 (c_X5_findingOf C.ok hj) rfl rfl rfl (Nat.le_of_ble_eq_true rfl) (hc_rr_rm (by decide)) ⟨Nat.zero_le _, Nat.zero_le _⟩ dX7_set_17 (fun r_17 M_17 h_17 => ?_)
  obtain ⟨rfl, rfl⟩ := h_17
  rw [if_pos h1]
  refine hc_istore4 C dX7_set_20 (by decide) rfl ?_
  refine hc_iload C dX7_set_22 rfl ?_
  refine hc_if_eq C (tgt := 34) dX7_set_24 (by decide) (fun c_24 => ?_) (fun c_24 => ?_)
  · exact absurd c_24 (by decide)
  refine hc_aload_n C dX7_set_27 rfl rfl ?_
  refine hc_iload C dX7_set_28 rfl ?_
  refine hc_cV1i C mv_X7_65 (c_X7_found C.ok) rfl rfl rfl (Nat.le_of_ble_eq_true rfl) (hc_rr_rm (by decide)) ⟨Nat.zero_le _, Nat.zero_le _⟩ dX7_set_30 (fun r_30 M_30 h_30 => ?_)
  obtain ⟨rfl, rfl⟩ := h_30
  refine hc_iret C rfl dX7_set_33 ?_
  exact ⟨rfl, rfl⟩

set_option maxRecDepth 100000 in
set_option maxHeartbeats 4000000 in
theorem c_X7_set_p {l : Launch} {G : hc_Geo} (hG : hc_ok G) {M : hc_Mem} {j : Nat} {i v : Int32}  (hj : j < 8) (h1 : ¬ M 2 j = -1) (h2 : ¬ (¬ i < 0 ∧ ¬ (1 : Int32) < 0 ∧ ¬ M 3 j < i ∧ ¬ M 3 j - i < 1)) : hc_M l G yX7_set cX7_set 5 (some .int) 3 [.ref (hc_ad G 0), .int (nI j), .int i, .int v] M (hc_pi (fun z M' => -1000012 = z ∧ hc_ms M 0 8 2 = M')) := by
  refine hc_M.of hG (by decide) [some (.ref (hc_ad G 0)), some (.int (nI j)), some (.int i), some (.int v), none] rfl (Nat.le_of_ble_eq_true rfl) ?_
  intro p e s m args below meth c C
  refine hc_iload_n C dX7_set_0 rfl rfl ?_
  refine hc_cS1i C ms_X7_57 (c_X5_isRow C.ok) (Nat.le_of_ble_eq_true rfl) (hc_rr_rm (by decide)) ⟨Nat.zero_le _, Nat.zero_le _⟩ dX7_set_1 (fun r_1 M_1 h_1 => ?_)
  obtain ⟨rfl, rfl⟩ := h_1
  refine hc_if_ne C (tgt := 10) dX7_set_4 (by decide) (fun c_4 => ?_) (fun c_4 => ?_)
  rotate_left
  · exact absurd (hx_row (show j < 8 by omega)) (hb_z.mp c_4)
  refine hc_aload_n C dX7_set_10 rfl rfl ?_
  refine hc_getR C fl_X7_10 rfl rfl dX7_set_11 ?_
  refine hc_iload_n C dX7_set_14 rfl rfl ?_
  refine hc_iload_n C dX7_set_15 rfl rfl ?_
  refine hc_iconst C dX7_set_16 (v := 1) rfl ?_
  refine hc_cV3i C mv_X7_76 (c_X5_findingOf C.ok hj) rfl rfl rfl (Nat.le_of_ble_eq_true rfl) (hc_rr_rm (by decide)) ⟨Nat.zero_le _, Nat.zero_le _⟩ dX7_set_17 (fun r_17 M_17 h_17 => ?_)
  obtain ⟨rfl, rfl⟩ := h_17
  rw [if_neg h1, if_neg h2]
  refine hc_istore4 C dX7_set_20 (by decide) rfl ?_
  refine hc_iload C dX7_set_22 rfl ?_
  refine hc_if_eq C (tgt := 34) dX7_set_24 (by decide) (fun c_24 => ?_) (fun c_24 => ?_)
  · exact absurd c_24 (by decide)
  refine hc_aload_n C dX7_set_27 rfl rfl ?_
  refine hc_iload C dX7_set_28 rfl ?_
  refine hc_cV1i C mv_X7_65 (c_X7_found C.ok) rfl rfl rfl (Nat.le_of_ble_eq_true rfl) (hc_rr_rm (by decide)) ⟨Nat.zero_le _, Nat.zero_le _⟩ dX7_set_30 (fun r_30 M_30 h_30 => ?_)
  obtain ⟨rfl, rfl⟩ := h_30
  refine hc_iret C rfl dX7_set_33 ?_
  exact ⟨rfl, rfl⟩

set_option maxRecDepth 100000 in
set_option maxHeartbeats 4000000 in
theorem c_X7_set_o {l : Launch} {G : hc_Geo} (hG : hc_ok G) {M : hc_Mem} {j i : Nat} {v : Int32}  (hj : j < 8) (hi : i < 40) (h1 : ¬ M 2 j = -1) (h2 : ¬ nI i < 0 ∧ ¬ (1 : Int32) < 0 ∧ ¬ M 3 j < nI i ∧ ¬ M 3 j - nI i < 1) : hc_M l G yX7_set cX7_set 5 (some .int) 3 [.ref (hc_ad G 0), .int (nI j), .int (nI i), .int v] M (hc_pi (fun z M' => hc_cut v (M 2 j) = z ∧ hc_ms (hc_ms M 4 (40 * j + i) (hc_cut v (M 2 j))) 0 8 0 = M')) := by
  refine hc_M.of hG (by decide) [some (.ref (hc_ad G 0)), some (.int (nI j)), some (.int (nI i)), some (.int v), none] rfl (Nat.le_of_ble_eq_true rfl) ?_
  intro p e s m args below meth c C
  refine hc_iload_n C dX7_set_0 rfl rfl ?_
  refine hc_cS1i C ms_X7_57 (c_X5_isRow C.ok) (Nat.le_of_ble_eq_true rfl) (hc_rr_rm (by decide)) ⟨Nat.zero_le _, Nat.zero_le _⟩ dX7_set_1 (fun r_1 M_1 h_1 => ?_)
  obtain ⟨rfl, rfl⟩ := h_1
  refine hc_if_ne C (tgt := 10) dX7_set_4 (by decide) (fun c_4 => ?_) (fun c_4 => ?_)
  rotate_left
  · exact absurd (hx_row (show j < 8 by omega)) (hb_z.mp c_4)
  refine hc_aload_n C dX7_set_10 rfl rfl ?_
  refine hc_getR C fl_X7_10 rfl rfl dX7_set_11 ?_
  refine hc_iload_n C dX7_set_14 rfl rfl ?_
  refine hc_iload_n C dX7_set_15 rfl rfl ?_
  refine hc_iconst C dX7_set_16 (v := 1) rfl ?_
  refine hc_cV3i C mv_X7_76 (c_X5_findingOf C.ok hj) rfl rfl rfl (Nat.le_of_ble_eq_true rfl) (hc_rr_rm (by decide)) ⟨Nat.zero_le _, Nat.zero_le _⟩ dX7_set_17 (fun r_17 M_17 h_17 => ?_)
  obtain ⟨rfl, rfl⟩ := h_17
  rw [if_neg h1, if_pos h2]
  refine hc_istore4 C dX7_set_20 (by decide) rfl ?_
  refine hc_iload C dX7_set_22 rfl ?_
  refine hc_if_eq C (tgt := 34) dX7_set_24 (by decide) (fun c_24 => ?_) (fun c_24 => ?_)
  rotate_left
  · exact absurd rfl c_24
  refine hc_aload_n C dX7_set_34 rfl rfl ?_
  refine hc_aload_n C dX7_set_35 rfl rfl ?_
  refine hc_getR C fl_X7_10 rfl rfl dX7_set_36 ?_
  refine hc_iload_n C dX7_set_39 rfl rfl ?_
  refine hc_iload_n C dX7_set_40 rfl rfl ?_
  refine hc_iload_n C dX7_set_41 rfl rfl ?_
  refine hc_cV3i C mv_X7_80 (c_X5_put C.ok hj hi) rfl rfl rfl (Nat.le_of_ble_eq_true rfl) (hc_rr_rm (by decide)) ⟨Nat.zero_le _, Nat.zero_le _⟩ dX7_set_42 (fun r_42 M_42 h_42 => ?_)
  obtain ⟨rfl, rfl⟩ := h_42
  refine hc_cV1i C mv_X7_73 (c_X7_foundNothing C.ok) rfl rfl rfl (Nat.le_of_ble_eq_true rfl) (hc_rr_rm (by decide)) ⟨Nat.zero_le _, Nat.zero_le _⟩ dX7_set_45 (fun r_45 M_45 h_45 => ?_)
  obtain ⟨rfl, rfl⟩ := h_45
  refine hc_iret C rfl dX7_set_48 ?_
  exact ⟨rfl, rfl⟩

set_option maxRecDepth 100000 in
set_option maxHeartbeats 4000000 in
theorem c_X7_copy_b {l : Launch} {G : hc_Geo} (hG : hc_ok G) {M : hc_Mem} {a i b j n : Int32}  (h0 : ¬ ((¬ a < 0 ∧ ¬ 8 ≤ a) ∧ (¬ b < 0 ∧ ¬ 8 ≤ b))) : hc_M l G yX7_copy cX7_copy 7 (some .int) 3 [.ref (hc_ad G 0), .int a, .int i, .int b, .int j, .int n] M (hc_pi (fun z M' => -1000001 = z ∧ M = M')) := by
  refine hc_M.of hG (by decide) [some (.ref (hc_ad G 0)), some (.int a), some (.int i), some (.int b), some (.int j), some (.int n), none] rfl (Nat.le_of_ble_eq_true rfl) ?_
  intro p e s m args below meth c C
  refine hc_iload_n C dX7_copy_0 rfl rfl ?_
  refine hc_cS1i C ms_X7_57 (c_X5_isRow C.ok) (Nat.le_of_ble_eq_true rfl) (hc_rr_rm (by decide)) ⟨Nat.zero_le _, Nat.zero_le _⟩ dX7_copy_1 (fun r_1 M_1 h_1 => ?_)
  obtain ⟨rfl, rfl⟩ := h_1
  refine hc_if_eq C (tgt := 14) dX7_copy_4 (by decide) (fun c_4 => ?_) (fun c_4 => ?_)
  · refine hc_ldc C kc_X7_64 dX7_copy_14 ?_
    refine hc_iret C rfl dX7_copy_16 ?_
    exact ⟨rfl, rfl⟩
  · refine hc_iload_n C dX7_copy_7 rfl rfl ?_
    refine hc_cS1i C ms_X7_57 (c_X5_isRow C.ok) (Nat.le_of_ble_eq_true rfl) (hc_rr_rm (by decide)) ⟨Nat.zero_le _, Nat.zero_le _⟩ dX7_copy_8 (fun r_8 M_8 h_8 => ?_)
    obtain ⟨rfl, rfl⟩ := h_8
    refine hc_if_ne C (tgt := 17) dX7_copy_11 (by decide) (fun c_11 => ?_) (fun c_11 => ?_)
    · exact absurd ⟨hb_nz.mp c_4, hb_nz.mp c_11⟩ h0
    refine hc_ldc C kc_X7_64 dX7_copy_14 ?_
    refine hc_iret C rfl dX7_copy_16 ?_
    exact ⟨rfl, rfl⟩

set_option maxRecDepth 100000 in
set_option maxHeartbeats 4000000 in
theorem c_X7_copy_n {l : Launch} {G : hc_Geo} (hG : hc_ok G) {M : hc_Mem} {a b : Nat} {i j n : Int32}  (ha : a < 8) (hb : b < 8) (h1 : M 2 a = -1 ∨ M 2 b = -1) : hc_M l G yX7_copy cX7_copy 7 (some .int) 3 [.ref (hc_ad G 0), .int (nI a), .int i, .int (nI b), .int j, .int n] M (hc_pi (fun z M' => -1000011 = z ∧ hc_ms M 0 8 1 = M')) := by
  refine hc_M.of hG (by decide) [some (.ref (hc_ad G 0)), some (.int (nI a)), some (.int i), some (.int (nI b)), some (.int j), some (.int n), none] rfl (Nat.le_of_ble_eq_true rfl) ?_
  intro p e s m args below meth c C
  refine hc_iload_n C dX7_copy_0 rfl rfl ?_
  refine hc_cS1i C ms_X7_57 (c_X5_isRow C.ok) (Nat.le_of_ble_eq_true rfl) (hc_rr_rm (by decide)) ⟨Nat.zero_le _, Nat.zero_le _⟩ dX7_copy_1 (fun r_1 M_1 h_1 => ?_)
  obtain ⟨rfl, rfl⟩ := h_1
  refine hc_if_eq C (tgt := 14) dX7_copy_4 (by decide) (fun c_4 => ?_) (fun c_4 => ?_)
  · exact absurd (hx_row (show a < 8 by omega)) (hb_z.mp c_4)
  refine hc_iload_n C dX7_copy_7 rfl rfl ?_
  refine hc_cS1i C ms_X7_57 (c_X5_isRow C.ok) (Nat.le_of_ble_eq_true rfl) (hc_rr_rm (by decide)) ⟨Nat.zero_le _, Nat.zero_le _⟩ dX7_copy_8 (fun r_8 M_8 h_8 => ?_)
  obtain ⟨rfl, rfl⟩ := h_8
  refine hc_if_ne C (tgt := 17) dX7_copy_11 (by decide) (fun c_11 => ?_) (fun c_11 => ?_)
  rotate_left
  · exact absurd (hx_row (show b < 8 by omega)) (hb_z.mp c_11)
  refine hc_aload_n C dX7_copy_17 rfl rfl ?_
  refine hc_getR C fl_X7_10 rfl rfl dX7_copy_18 ?_
  refine hc_iload_n C dX7_copy_21 rfl rfl ?_
  refine hc_iload_n C dX7_copy_22 rfl rfl ?_
  refine hc_iload_n C dX7_copy_23 rfl rfl ?_
  refine hc_iload C dX7_copy_24 rfl ?_
  refine hc_iload C dX7_copy_26 rfl ?_
  refine hc_cV5i C mv_X7_83 (c_X5_findingOfCopy C.ok ha hb) rfl rfl rfl (Nat.le_of_ble_eq_true rfl) (hc_rr_rm (by decide)) ⟨Nat.zero_le _, Nat.zero_le _⟩ dX7_copy_28 (fun r_28 M_28 h_28 => ?_)
  obtain ⟨rfl, rfl⟩ := h_28
  rw [if_pos h1]
  refine hc_istore6 C dX7_copy_31 (by decide) rfl ?_
  refine hc_iload C dX7_copy_33 rfl ?_
  refine hc_if_eq C (tgt := 45) dX7_copy_35 (by decide) (fun c_35 => ?_) (fun c_35 => ?_)
  · exact absurd c_35 (by decide)
  refine hc_aload_n C dX7_copy_38 rfl rfl ?_
  refine hc_iload C dX7_copy_39 rfl ?_
  refine hc_cV1i C mv_X7_65 (c_X7_found C.ok) rfl rfl rfl (Nat.le_of_ble_eq_true rfl) (hc_rr_rm (by decide)) ⟨Nat.zero_le _, Nat.zero_le _⟩ dX7_copy_41 (fun r_41 M_41 h_41 => ?_)
  obtain ⟨rfl, rfl⟩ := h_41
  refine hc_iret C rfl dX7_copy_44 ?_
  exact ⟨rfl, rfl⟩

set_option maxRecDepth 100000 in
set_option maxHeartbeats 4000000 in
theorem c_X7_copy_s {l : Launch} {G : hc_Geo} (hG : hc_ok G) {M : hc_Mem} {a b : Nat} {i j n : Int32}  (ha : a < 8) (hb : b < 8) (h1 : ¬ (M 2 a = -1 ∨ M 2 b = -1)) (h2 : M 2 a ≠ M 2 b) : hc_M l G yX7_copy cX7_copy 7 (some .int) 3 [.ref (hc_ad G 0), .int (nI a), .int i, .int (nI b), .int j, .int n] M (hc_pi (fun z M' => -1000015 = z ∧ hc_ms M 0 8 5 = M')) := by
  refine hc_M.of hG (by decide) [some (.ref (hc_ad G 0)), some (.int (nI a)), some (.int i), some (.int (nI b)), some (.int j), some (.int n), none] rfl (Nat.le_of_ble_eq_true rfl) ?_
  intro p e s m args below meth c C
  refine hc_iload_n C dX7_copy_0 rfl rfl ?_
  refine hc_cS1i C ms_X7_57 (c_X5_isRow C.ok) (Nat.le_of_ble_eq_true rfl) (hc_rr_rm (by decide)) ⟨Nat.zero_le _, Nat.zero_le _⟩ dX7_copy_1 (fun r_1 M_1 h_1 => ?_)
  obtain ⟨rfl, rfl⟩ := h_1
  refine hc_if_eq C (tgt := 14) dX7_copy_4 (by decide) (fun c_4 => ?_) (fun c_4 => ?_)
  · exact absurd (hx_row (show a < 8 by omega)) (hb_z.mp c_4)
  refine hc_iload_n C dX7_copy_7 rfl rfl ?_
  refine hc_cS1i C ms_X7_57 (c_X5_isRow C.ok) (Nat.le_of_ble_eq_true rfl) (hc_rr_rm (by decide)) ⟨Nat.zero_le _, Nat.zero_le _⟩ dX7_copy_8 (fun r_8 M_8 h_8 => ?_)
  obtain ⟨rfl, rfl⟩ := h_8
  refine hc_if_ne C (tgt := 17) dX7_copy_11 (by decide) (fun c_11 => ?_) (fun c_11 => ?_)
  rotate_left
  · exact absurd (hx_row (show b < 8 by omega)) (hb_z.mp c_11)
  refine hc_aload_n C dX7_copy_17 rfl rfl ?_
  refine hc_getR C fl_X7_10 rfl rfl dX7_copy_18 ?_
  refine hc_iload_n C dX7_copy_21 rfl rfl ?_
  refine hc_iload_n C dX7_copy_22 rfl rfl ?_
  refine hc_iload_n C dX7_copy_23 rfl rfl ?_
  refine hc_iload C dX7_copy_24 rfl ?_
  refine hc_iload C dX7_copy_26 rfl ?_
  refine hc_cV5i C mv_X7_83 (c_X5_findingOfCopy C.ok ha hb) rfl rfl rfl (Nat.le_of_ble_eq_true rfl) (hc_rr_rm (by decide)) ⟨Nat.zero_le _, Nat.zero_le _⟩ dX7_copy_28 (fun r_28 M_28 h_28 => ?_)
  obtain ⟨rfl, rfl⟩ := h_28
  rw [if_neg h1, if_pos h2]
  refine hc_istore6 C dX7_copy_31 (by decide) rfl ?_
  refine hc_iload C dX7_copy_33 rfl ?_
  refine hc_if_eq C (tgt := 45) dX7_copy_35 (by decide) (fun c_35 => ?_) (fun c_35 => ?_)
  · exact absurd c_35 (by decide)
  refine hc_aload_n C dX7_copy_38 rfl rfl ?_
  refine hc_iload C dX7_copy_39 rfl ?_
  refine hc_cV1i C mv_X7_65 (c_X7_found C.ok) rfl rfl rfl (Nat.le_of_ble_eq_true rfl) (hc_rr_rm (by decide)) ⟨Nat.zero_le _, Nat.zero_le _⟩ dX7_copy_41 (fun r_41 M_41 h_41 => ?_)
  obtain ⟨rfl, rfl⟩ := h_41
  refine hc_iret C rfl dX7_copy_44 ?_
  exact ⟨rfl, rfl⟩

set_option maxRecDepth 100000 in
set_option maxHeartbeats 4000000 in
theorem c_X7_copy_p {l : Launch} {G : hc_Geo} (hG : hc_ok G) {M : hc_Mem} {a b : Nat} {i j n : Int32}  (ha : a < 8) (hb : b < 8) (h1 : ¬ (M 2 a = -1 ∨ M 2 b = -1)) (h2 : ¬ M 2 a ≠ M 2 b) (h3 : ¬ ((¬ i < 0 ∧ ¬ n < 0 ∧ ¬ M 3 a < i ∧ ¬ M 3 a - i < n) ∧ (¬ j < 0 ∧ ¬ n < 0 ∧ ¬ M 3 b < j ∧ ¬ M 3 b - j < n))) : hc_M l G yX7_copy cX7_copy 7 (some .int) 3 [.ref (hc_ad G 0), .int (nI a), .int i, .int (nI b), .int j, .int n] M (hc_pi (fun z M' => -1000012 = z ∧ hc_ms M 0 8 2 = M')) := by
  refine hc_M.of hG (by decide) [some (.ref (hc_ad G 0)), some (.int (nI a)), some (.int i), some (.int (nI b)), some (.int j), some (.int n), none] rfl (Nat.le_of_ble_eq_true rfl) ?_
  intro p e s m args below meth c C
  refine hc_iload_n C dX7_copy_0 rfl rfl ?_
  refine hc_cS1i C ms_X7_57 (c_X5_isRow C.ok) (Nat.le_of_ble_eq_true rfl) (hc_rr_rm (by decide)) ⟨Nat.zero_le _, Nat.zero_le _⟩ dX7_copy_1 (fun r_1 M_1 h_1 => ?_)
  obtain ⟨rfl, rfl⟩ := h_1
  refine hc_if_eq C (tgt := 14) dX7_copy_4 (by decide) (fun c_4 => ?_) (fun c_4 => ?_)
  · exact absurd (hx_row (show a < 8 by omega)) (hb_z.mp c_4)
  refine hc_iload_n C dX7_copy_7 rfl rfl ?_
  refine hc_cS1i C ms_X7_57 (c_X5_isRow C.ok) (Nat.le_of_ble_eq_true rfl) (hc_rr_rm (by decide)) ⟨Nat.zero_le _, Nat.zero_le _⟩ dX7_copy_8 (fun r_8 M_8 h_8 => ?_)
  obtain ⟨rfl, rfl⟩ := h_8
  refine hc_if_ne C (tgt := 17) dX7_copy_11 (by decide) (fun c_11 => ?_) (fun c_11 => ?_)
  rotate_left
  · exact absurd (hx_row (show b < 8 by omega)) (hb_z.mp c_11)
  refine hc_aload_n C dX7_copy_17 rfl rfl ?_
  refine hc_getR C fl_X7_10 rfl rfl dX7_copy_18 ?_
  refine hc_iload_n C dX7_copy_21 rfl rfl ?_
  refine hc_iload_n C dX7_copy_22 rfl rfl ?_
  refine hc_iload_n C dX7_copy_23 rfl rfl ?_
  refine hc_iload C dX7_copy_24 rfl ?_
  refine hc_iload C dX7_copy_26 rfl ?_
  refine hc_cV5i C mv_X7_83 (c_X5_findingOfCopy C.ok ha hb) rfl rfl rfl (Nat.le_of_ble_eq_true rfl) (hc_rr_rm (by decide)) ⟨Nat.zero_le _, Nat.zero_le _⟩ dX7_copy_28 (fun r_28 M_28 h_28 => ?_)
  obtain ⟨rfl, rfl⟩ := h_28
  rw [if_neg h1, if_neg h2, if_neg h3]
  refine hc_istore6 C dX7_copy_31 (by decide) rfl ?_
  refine hc_iload C dX7_copy_33 rfl ?_
  refine hc_if_eq C (tgt := 45) dX7_copy_35 (by decide) (fun c_35 => ?_) (fun c_35 => ?_)
  · exact absurd c_35 (by decide)
  refine hc_aload_n C dX7_copy_38 rfl rfl ?_
  refine hc_iload C dX7_copy_39 rfl ?_
  refine hc_cV1i C mv_X7_65 (c_X7_found C.ok) rfl rfl rfl (Nat.le_of_ble_eq_true rfl) (hc_rr_rm (by decide)) ⟨Nat.zero_le _, Nat.zero_le _⟩ dX7_copy_41 (fun r_41 M_41 h_41 => ?_)
  obtain ⟨rfl, rfl⟩ := h_41
  refine hc_iret C rfl dX7_copy_44 ?_
  exact ⟨rfl, rfl⟩

set_option maxRecDepth 100000 in
set_option maxHeartbeats 4000000 in
theorem c_X7_copy_o {l : Launch} {G : hc_Geo} (hG : hc_ok G) {M : hc_Mem} {a b i j n : Nat}  (ha : a < 8) (hb : b < 8) (hi : i + n ≤ 40) (hj : j + n ≤ 40) (h1 : ¬ (M 2 a = -1 ∨ M 2 b = -1)) (h2 : ¬ M 2 a ≠ M 2 b) (h3 : (¬ nI i < 0 ∧ ¬ nI n < 0 ∧ ¬ M 3 a < nI i ∧ ¬ M 3 a - nI i < nI n) ∧ (¬ nI j < 0 ∧ ¬ nI n < 0 ∧ ¬ M 3 b < nI j ∧ ¬ M 3 b - nI j < nI n)) : hc_M l G yX7_copy cX7_copy 7 (some .int) 3 [.ref (hc_ad G 0), .int (nI a), .int (nI i), .int (nI b), .int (nI j), .int (nI n)] M (hc_pi (fun z M' => nI n = z ∧ hc_ms (hc_mf M 4 (va_cpy (M 4) (M 4) (40 * a + i) (40 * b + j) n)) 0 8 0 = M')) := by
  refine hc_M.of hG (by decide) [some (.ref (hc_ad G 0)), some (.int (nI a)), some (.int (nI i)), some (.int (nI b)), some (.int (nI j)), some (.int (nI n)), none] rfl (Nat.le_of_ble_eq_true rfl) ?_
  intro p e s m args below meth c C
  refine hc_iload_n C dX7_copy_0 rfl rfl ?_
  refine hc_cS1i C ms_X7_57 (c_X5_isRow C.ok) (Nat.le_of_ble_eq_true rfl) (hc_rr_rm (by decide)) ⟨Nat.zero_le _, Nat.zero_le _⟩ dX7_copy_1 (fun r_1 M_1 h_1 => ?_)
  obtain ⟨rfl, rfl⟩ := h_1
  refine hc_if_eq C (tgt := 14) dX7_copy_4 (by decide) (fun c_4 => ?_) (fun c_4 => ?_)
  · exact absurd (hx_row (show a < 8 by omega)) (hb_z.mp c_4)
  refine hc_iload_n C dX7_copy_7 rfl rfl ?_
  refine hc_cS1i C ms_X7_57 (c_X5_isRow C.ok) (Nat.le_of_ble_eq_true rfl) (hc_rr_rm (by decide)) ⟨Nat.zero_le _, Nat.zero_le _⟩ dX7_copy_8 (fun r_8 M_8 h_8 => ?_)
  obtain ⟨rfl, rfl⟩ := h_8
  refine hc_if_ne C (tgt := 17) dX7_copy_11 (by decide) (fun c_11 => ?_) (fun c_11 => ?_)
  rotate_left
  · exact absurd (hx_row (show b < 8 by omega)) (hb_z.mp c_11)
  refine hc_aload_n C dX7_copy_17 rfl rfl ?_
  refine hc_getR C fl_X7_10 rfl rfl dX7_copy_18 ?_
  refine hc_iload_n C dX7_copy_21 rfl rfl ?_
  refine hc_iload_n C dX7_copy_22 rfl rfl ?_
  refine hc_iload_n C dX7_copy_23 rfl rfl ?_
  refine hc_iload C dX7_copy_24 rfl ?_
  refine hc_iload C dX7_copy_26 rfl ?_
  refine hc_cV5i C mv_X7_83 (c_X5_findingOfCopy C.ok ha hb) rfl rfl rfl (Nat.le_of_ble_eq_true rfl) (hc_rr_rm (by decide)) ⟨Nat.zero_le _, Nat.zero_le _⟩ dX7_copy_28 (fun r_28 M_28 h_28 => ?_)
  obtain ⟨rfl, rfl⟩ := h_28
  rw [if_neg h1, if_neg h2, if_pos h3]
  refine hc_istore6 C dX7_copy_31 (by decide) rfl ?_
  refine hc_iload C dX7_copy_33 rfl ?_
  refine hc_if_eq C (tgt := 45) dX7_copy_35 (by decide) (fun c_35 => ?_) (fun c_35 => ?_)
  rotate_left
  · exact absurd rfl c_35
  refine hc_aload_n C dX7_copy_45 rfl rfl ?_
  refine hc_getR C fl_X7_10 rfl rfl dX7_copy_46 ?_
  refine hc_iload_n C dX7_copy_49 rfl rfl ?_
  refine hc_iload_n C dX7_copy_50 rfl rfl ?_
  refine hc_iload_n C dX7_copy_51 rfl rfl ?_
  refine hc_iload C dX7_copy_52 rfl ?_
  refine hc_iload C dX7_copy_54 rfl ?_
  refine hc_cV5v C mv_X7_87 (c_X5_move C.ok ha hb hi hj) rfl rfl rfl (Nat.le_of_ble_eq_true rfl) (hc_rr_rm (by decide)) ⟨Nat.zero_le _, Nat.zero_le _⟩ dX7_copy_56 (fun M_56 h_56 => ?_)
  obtain rfl := h_56
  refine hc_aload_n C dX7_copy_59 rfl rfl ?_
  refine hc_iload C dX7_copy_60 rfl ?_
  refine hc_cV1i C mv_X7_73 (c_X7_foundNothing C.ok) rfl rfl rfl (Nat.le_of_ble_eq_true rfl) (hc_rr_rm (by decide)) ⟨Nat.zero_le _, Nat.zero_le _⟩ dX7_copy_62 (fun r_62 M_62 h_62 => ?_)
  obtain ⟨rfl, rfl⟩ := h_62
  refine hc_iret C rfl dX7_copy_65 ?_
  exact ⟨rfl, rfl⟩

set_option maxRecDepth 100000 in
set_option maxHeartbeats 4000000 in
theorem c_X7_drop_b {l : Launch} {G : hc_Geo} (hG : hc_ok G) {M : hc_Mem} {r : Int32}  (h0 : ¬ (¬ r < 0 ∧ ¬ 8 ≤ r)) : hc_M l G yX7_drop cX7_drop 2 (some .int) 3 [.ref (hc_ad G 0), .int r] M (hc_pi (fun z M' => -1000001 = z ∧ M = M')) := by
  refine hc_M.of hG (by decide) [some (.ref (hc_ad G 0)), some (.int r)] rfl (Nat.le_of_ble_eq_true rfl) ?_
  intro p e s m args below meth c C
  refine hc_iload_n C dX7_drop_0 rfl rfl ?_
  refine hc_cS1i C ms_X7_57 (c_X5_isRow C.ok) (Nat.le_of_ble_eq_true rfl) (hc_rr_rm (by decide)) ⟨Nat.zero_le _, Nat.zero_le _⟩ dX7_drop_1 (fun r_1 M_1 h_1 => ?_)
  obtain ⟨rfl, rfl⟩ := h_1
  refine hc_if_ne C (tgt := 10) dX7_drop_4 (by decide) (fun c_4 => ?_) (fun c_4 => ?_)
  · exact absurd (hb_f h0) c_4
  refine hc_ldc C kc_X7_64 dX7_drop_7 ?_
  refine hc_iret C rfl dX7_drop_9 ?_
  exact ⟨rfl, rfl⟩

set_option maxRecDepth 100000 in
set_option maxHeartbeats 4000000 in
theorem c_X7_drop_n {l : Launch} {G : hc_Geo} (hG : hc_ok G) {M : hc_Mem} {j : Nat}  (hj : j < 8) (h1 : M 2 j = -1) : hc_M l G yX7_drop cX7_drop 2 (some .int) 3 [.ref (hc_ad G 0), .int (nI j)] M (hc_pi (fun z M' => -1000011 = z ∧ hc_ms M 0 8 1 = M')) := by
  refine hc_M.of hG (by decide) [some (.ref (hc_ad G 0)), some (.int (nI j))] rfl (Nat.le_of_ble_eq_true rfl) ?_
  intro p e s m args below meth c C
  refine hc_iload_n C dX7_drop_0 rfl rfl ?_
  refine hc_cS1i C ms_X7_57 (c_X5_isRow C.ok) (Nat.le_of_ble_eq_true rfl) (hc_rr_rm (by decide)) ⟨Nat.zero_le _, Nat.zero_le _⟩ dX7_drop_1 (fun r_1 M_1 h_1 => ?_)
  obtain ⟨rfl, rfl⟩ := h_1
  refine hc_if_ne C (tgt := 10) dX7_drop_4 (by decide) (fun c_4 => ?_) (fun c_4 => ?_)
  rotate_left
  · exact absurd (hx_row (show j < 8 by omega)) (hb_z.mp c_4)
  refine hc_aload_n C dX7_drop_10 rfl rfl ?_
  refine hc_getR C fl_X7_10 rfl rfl dX7_drop_11 ?_
  refine hc_iload_n C dX7_drop_14 rfl rfl ?_
  refine hc_cV1i C mv_X7_91 (c_X5_isMissing C.ok hj) rfl rfl rfl (Nat.le_of_ble_eq_true rfl) (hc_rr_rm (by decide)) ⟨Nat.zero_le _, Nat.zero_le _⟩ dX7_drop_15 (fun r_15 M_15 h_15 => ?_)
  obtain ⟨rfl, rfl⟩ := h_15
  refine hc_if_eq C (tgt := 27) dX7_drop_18 (by decide) (fun c_18 => ?_) (fun c_18 => ?_)
  · exact absurd h1 (hb_z.mp c_18)
  refine hc_aload_n C dX7_drop_21 rfl rfl ?_
  refine hc_iconst C dX7_drop_22 (v := 1) rfl ?_
  refine hc_cV1i C mv_X7_65 (c_X7_found C.ok) rfl rfl rfl (Nat.le_of_ble_eq_true rfl) (hc_rr_rm (by decide)) ⟨Nat.zero_le _, Nat.zero_le _⟩ dX7_drop_23 (fun r_23 M_23 h_23 => ?_)
  obtain ⟨rfl, rfl⟩ := h_23
  refine hc_iret C rfl dX7_drop_26 ?_
  exact ⟨rfl, rfl⟩

set_option maxRecDepth 100000 in
set_option maxHeartbeats 4000000 in
theorem c_X7_drop_o {l : Launch} {G : hc_Geo} (hG : hc_ok G) {M : hc_Mem} {j : Nat}  (hj : j < 8) (h1 : ¬ M 2 j = -1) : hc_M l G yX7_drop cX7_drop 2 (some .int) 3 [.ref (hc_ad G 0), .int (nI j)] M (hc_pi (fun z M' => M 3 j = z ∧ hc_ms (hc_ms (hc_ms M 2 j (-1)) 3 j 0) 0 8 0 = M')) := by
  refine hc_M.of hG (by decide) [some (.ref (hc_ad G 0)), some (.int (nI j))] rfl (Nat.le_of_ble_eq_true rfl) ?_
  intro p e s m args below meth c C
  refine hc_iload_n C dX7_drop_0 rfl rfl ?_
  refine hc_cS1i C ms_X7_57 (c_X5_isRow C.ok) (Nat.le_of_ble_eq_true rfl) (hc_rr_rm (by decide)) ⟨Nat.zero_le _, Nat.zero_le _⟩ dX7_drop_1 (fun r_1 M_1 h_1 => ?_)
  obtain ⟨rfl, rfl⟩ := h_1
  refine hc_if_ne C (tgt := 10) dX7_drop_4 (by decide) (fun c_4 => ?_) (fun c_4 => ?_)
  rotate_left
  · exact absurd (hx_row (show j < 8 by omega)) (hb_z.mp c_4)
  refine hc_aload_n C dX7_drop_10 rfl rfl ?_
  refine hc_getR C fl_X7_10 rfl rfl dX7_drop_11 ?_
  refine hc_iload_n C dX7_drop_14 rfl rfl ?_
  refine hc_cV1i C mv_X7_91 (c_X5_isMissing C.ok hj) rfl rfl rfl (Nat.le_of_ble_eq_true rfl) (hc_rr_rm (by decide)) ⟨Nat.zero_le _, Nat.zero_le _⟩ dX7_drop_15 (fun r_15 M_15 h_15 => ?_)
  obtain ⟨rfl, rfl⟩ := h_15
  refine hc_if_eq C (tgt := 27) dX7_drop_18 (by decide) (fun c_18 => ?_) (fun c_18 => ?_)
  rotate_left
  · exact absurd (hb_z.mpr h1) c_18
  refine hc_aload_n C dX7_drop_27 rfl rfl ?_
  refine hc_aload_n C dX7_drop_28 rfl rfl ?_
  refine hc_getR C fl_X7_10 rfl rfl dX7_drop_29 ?_
  refine hc_iload_n C dX7_drop_32 rfl rfl ?_
  refine hc_cV1i C mv_X7_94 (c_X5_remove C.ok hj) rfl rfl rfl (Nat.le_of_ble_eq_true rfl) (hc_rr_rm (by decide)) ⟨Nat.zero_le _, Nat.zero_le _⟩ dX7_drop_33 (fun r_33 M_33 h_33 => ?_)
  obtain ⟨rfl, rfl⟩ := h_33
  refine hc_cV1i C mv_X7_73 (c_X7_foundNothing C.ok) rfl rfl rfl (Nat.le_of_ble_eq_true rfl) (hc_rr_rm (by decide)) ⟨Nat.zero_le _, Nat.zero_le _⟩ dX7_drop_36 (fun r_36 M_36 h_36 => ?_)
  obtain ⟨rfl, rfl⟩ := h_36
  refine hc_iret C rfl dX7_drop_39 ?_
  exact ⟨rfl, rfl⟩
