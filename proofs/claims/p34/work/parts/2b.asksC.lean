/-! ASKS of the class: THE TRACE as a list -/
def hTr (M : hc_Mem) (l : List Int32) : hc_Mem := hc_ms (hc_mf M 47 (fun j => if j < l.length then l.getD j 0 else M 47 j)) 46 1 (nI l.length)
theorem hTr_push {M : hc_Mem} {l : List Int32} {b : Int32} : hc_ms (hc_ms (hTr M l) 47 l.length b) 46 1 (nI (l.length + 1)) = hTr M (l ++ [b]) := by
  funext c
  unfold hTr
  by_cases h46 : c = 46
  · subst h46
    simp only [hc_ms_s, hc_ms_n (show (46 : Nat) ≠ 47 by decide), List.length_append, List.length_cons, List.length_nil]
    funext j
    simp only [upd]
    split <;> rfl
  · rw [hc_ms_n h46, hc_ms_n h46]
    by_cases h47 : c = 47
    · subst h47
      rw [hc_ms_s, hc_ms_n (by decide), hc_mf_s, hc_mf_s]
      funext j
      simp only [upd, List.length_append, List.length_cons, List.length_nil]
      by_cases hj : j = l.length
      · subst hj
        rw [if_pos rfl, if_pos (by omega), List.getD_eq_getElem?_getD, List.getElem?_append_right (Nat.le_refl _)]
        simp
      · rw [if_neg hj]
        by_cases h2 : j < l.length
        · rw [if_pos h2, if_pos (by omega), List.getD_eq_getElem?_getD, List.getD_eq_getElem?_getD, List.getElem?_append_left h2]
        · rw [if_neg h2, if_neg (by omega)]
    · rw [hc_ms_n h47, hc_ms_n h46, hc_mf_n h47, hc_mf_n h47]
theorem hTr_nil {M : hc_Mem} (h : M 46 1 = 0) : hTr M [] = M := by
  funext c
  unfold hTr
  by_cases h46 : c = 46
  · subst h46
    rw [hc_ms_s, hc_mf_n (by decide)]
    funext j
    simp only [upd]
    split
    · rename_i q; rw [q, h]; rfl
    · rfl
  · rw [hc_ms_n h46]
    by_cases h47 : c = 47
    · subst h47; rw [hc_mf_s]; funext j; exact if_neg (Nat.not_lt_zero j)
    · rw [hc_mf_n h47]
def hAsk (M : hc_Mem) (e : Nat) : hc_Mem := hc_ms (hc_ms (hc_ms (hc_ms (hc_ms M 46 1 0) 46 2 (nI e)) 46 3 (M 10 e)) 46 4 (M 11 e)) 46 5 (M 15 e)

set_option maxRecDepth 100000 in
set_option maxHeartbeats 4000000 in
theorem c_X1_leaveTrace {l : Launch} {G : hc_Geo} (hG : hc_ok G) {M : hc_Mem} {b0 : Int32} {l0 : List Int32}  (hl : l0.length < 16) : hc_M l G yX1_leaveTrace cX1_leaveTrace 2 none 1 [.ref (hc_ad G 46), .int b0] (hTr M l0) (hc_pv (fun M' => hTr M (l0 ++ [b0]) = M')) := by
  refine hc_M.of hG (by decide) [some (.ref (hc_ad G 46)), some (.int b0)] rfl (Nat.le_of_ble_eq_true rfl) ?_
  intro p e s m args below meth c C
  refine hc_aload_n C dX1_leaveTrace_0 rfl rfl ?_
  refine hc_getI C fl_X1_13 rfl rfl dX1_leaveTrace_1 ?_
  refine hc_bipush C dX1_leaveTrace_4 (v := 16) rfl ?_
  refine hc_icmp_ge C (tgt := 29) dX1_leaveTrace_6 (by decide) (fun c_6 => ?_) (fun c_6 => ?_)
  · exact absurd (show nI 16 ≤ nI l0.length from c_6) (nI_ge hl (by omega))
  refine hc_aload_n C dX1_leaveTrace_9 rfl rfl ?_
  refine hc_getR C fl_X1_9 rfl rfl dX1_leaveTrace_10 ?_
  refine hc_aload_n C dX1_leaveTrace_13 rfl rfl ?_
  refine hc_getI C fl_X1_13 rfl rfl dX1_leaveTrace_14 ?_
  refine hc_iload_n C dX1_leaveTrace_17 rfl rfl ?_
  refine hc_iastN C (j := l0.length) rfl rfl (by omega) dX1_leaveTrace_18 ?_
  refine hc_aload_n C dX1_leaveTrace_19 rfl rfl ?_
  refine hc_dup C dX1_leaveTrace_20 rfl ?_
  refine hc_getI C fl_X1_13 rfl rfl dX1_leaveTrace_21 ?_
  refine hc_iconst C dX1_leaveTrace_24 (v := 1) rfl ?_
  refine hc_iadd C dX1_leaveTrace_25 ?_
  refine hc_top (nI_1 l0.length) ?_
  refine hc_putI C fl_X1_13 pl_1_1 rfl rfl dX1_leaveTrace_26 ?_
  refine hc_mem hTr_push ?_
  refine hc_vret C rfl dX1_leaveTrace_29 ?_
  rfl

set_option maxRecDepth 100000 in
set_option maxHeartbeats 4000000 in
theorem c_bodyFor_1_0 {l : Launch} {G : hc_Geo} (hG : hc_ok G) {M : hc_Mem}  : hc_M l G yX1_bodyFor cX1_bodyFor 2 (some .int) 2 [.int 1, .int 0] M (hc_pi (fun z M' => 11 = z ∧ M = M')) := by
  refine hc_M.of hG (by decide) [some (.int 1), some (.int 0)] rfl (Nat.le_of_ble_eq_true rfl) ?_
  intro p e s m args below meth c C
  refine hc_iload_n C dX1_bodyFor_0 rfl rfl ?_
  refine hc_cS1i C ms_X1_56 (c_X4_isKind C.ok) (Nat.le_of_ble_eq_true rfl) (hc_rr_rm (by decide)) ⟨Nat.zero_le _, Nat.zero_le _⟩ dX1_bodyFor_1 (fun r_1 M_1 h_1 => ?_)
  obtain ⟨rfl, rfl⟩ := h_1
  refine hc_if_ne C (tgt := 9) dX1_bodyFor_4 (by decide) (fun c_4 => ?_) (fun c_4 => ?_)
  rotate_left
  · exact absurd (by decide) (hb_z.mp c_4)
  refine hc_iload_n C dX1_bodyFor_9 rfl rfl ?_
  refine hc_if_ne C (tgt := 21) dX1_bodyFor_10 (by decide) (fun c_10 => ?_) (fun c_10 => ?_)
  · exact absurd rfl c_10
  refine hc_gets C (i := 7) rfl sl_X1_60 dX1_bodyFor_13 ?_
  refine hc_iload_n C dX1_bodyFor_16 rfl rfl ?_
  refine hc_sald C (v := 11) rfl (vp_in_nI (n := 1) (N := 6) (by decide) (by decide)) rfl dX1_bodyFor_17 ?_
  refine hc_goto C (tgt := 26) dX1_bodyFor_18 (by decide) ?_
  refine hc_iret C rfl dX1_bodyFor_26 ?_
  exact ⟨rfl, rfl⟩

set_option maxRecDepth 100000 in
set_option maxHeartbeats 4000000 in
theorem c_bodyFor_1_1 {l : Launch} {G : hc_Geo} (hG : hc_ok G) {M : hc_Mem}  : hc_M l G yX1_bodyFor cX1_bodyFor 2 (some .int) 2 [.int 1, .int 1] M (hc_pi (fun z M' => 21 = z ∧ M = M')) := by
  refine hc_M.of hG (by decide) [some (.int 1), some (.int 1)] rfl (Nat.le_of_ble_eq_true rfl) ?_
  intro p e s m args below meth c C
  refine hc_iload_n C dX1_bodyFor_0 rfl rfl ?_
  refine hc_cS1i C ms_X1_56 (c_X4_isKind C.ok) (Nat.le_of_ble_eq_true rfl) (hc_rr_rm (by decide)) ⟨Nat.zero_le _, Nat.zero_le _⟩ dX1_bodyFor_1 (fun r_1 M_1 h_1 => ?_)
  obtain ⟨rfl, rfl⟩ := h_1
  refine hc_if_ne C (tgt := 9) dX1_bodyFor_4 (by decide) (fun c_4 => ?_) (fun c_4 => ?_)
  rotate_left
  · exact absurd (by decide) (hb_z.mp c_4)
  refine hc_iload_n C dX1_bodyFor_9 rfl rfl ?_
  refine hc_if_ne C (tgt := 21) dX1_bodyFor_10 (by decide) (fun c_10 => ?_) (fun c_10 => ?_)
  rotate_left
  · exact absurd c_10 (by decide)
  refine hc_gets C (i := 8) rfl sl_X1_63 dX1_bodyFor_21 ?_
  refine hc_iload_n C dX1_bodyFor_24 rfl rfl ?_
  refine hc_sald C (v := 21) rfl (vp_in_nI (n := 1) (N := 6) (by decide) (by decide)) rfl dX1_bodyFor_25 ?_
  refine hc_iret C rfl dX1_bodyFor_26 ?_
  exact ⟨rfl, rfl⟩

set_option maxRecDepth 100000 in
set_option maxHeartbeats 4000000 in
theorem c_bodyFor_2_0 {l : Launch} {G : hc_Geo} (hG : hc_ok G) {M : hc_Mem}  : hc_M l G yX1_bodyFor cX1_bodyFor 2 (some .int) 2 [.int 2, .int 0] M (hc_pi (fun z M' => 12 = z ∧ M = M')) := by
  refine hc_M.of hG (by decide) [some (.int 2), some (.int 0)] rfl (Nat.le_of_ble_eq_true rfl) ?_
  intro p e s m args below meth c C
  refine hc_iload_n C dX1_bodyFor_0 rfl rfl ?_
  refine hc_cS1i C ms_X1_56 (c_X4_isKind C.ok) (Nat.le_of_ble_eq_true rfl) (hc_rr_rm (by decide)) ⟨Nat.zero_le _, Nat.zero_le _⟩ dX1_bodyFor_1 (fun r_1 M_1 h_1 => ?_)
  obtain ⟨rfl, rfl⟩ := h_1
  refine hc_if_ne C (tgt := 9) dX1_bodyFor_4 (by decide) (fun c_4 => ?_) (fun c_4 => ?_)
  rotate_left
  · exact absurd (by decide) (hb_z.mp c_4)
  refine hc_iload_n C dX1_bodyFor_9 rfl rfl ?_
  refine hc_if_ne C (tgt := 21) dX1_bodyFor_10 (by decide) (fun c_10 => ?_) (fun c_10 => ?_)
  · exact absurd rfl c_10
  refine hc_gets C (i := 7) rfl sl_X1_60 dX1_bodyFor_13 ?_
  refine hc_iload_n C dX1_bodyFor_16 rfl rfl ?_
  refine hc_sald C (v := 12) rfl (vp_in_nI (n := 2) (N := 6) (by decide) (by decide)) rfl dX1_bodyFor_17 ?_
  refine hc_goto C (tgt := 26) dX1_bodyFor_18 (by decide) ?_
  refine hc_iret C rfl dX1_bodyFor_26 ?_
  exact ⟨rfl, rfl⟩

set_option maxRecDepth 100000 in
set_option maxHeartbeats 4000000 in
theorem c_bodyFor_2_1 {l : Launch} {G : hc_Geo} (hG : hc_ok G) {M : hc_Mem}  : hc_M l G yX1_bodyFor cX1_bodyFor 2 (some .int) 2 [.int 2, .int 1] M (hc_pi (fun z M' => 24 = z ∧ M = M')) := by
  refine hc_M.of hG (by decide) [some (.int 2), some (.int 1)] rfl (Nat.le_of_ble_eq_true rfl) ?_
  intro p e s m args below meth c C
  refine hc_iload_n C dX1_bodyFor_0 rfl rfl ?_
  refine hc_cS1i C ms_X1_56 (c_X4_isKind C.ok) (Nat.le_of_ble_eq_true rfl) (hc_rr_rm (by decide)) ⟨Nat.zero_le _, Nat.zero_le _⟩ dX1_bodyFor_1 (fun r_1 M_1 h_1 => ?_)
  obtain ⟨rfl, rfl⟩ := h_1
  refine hc_if_ne C (tgt := 9) dX1_bodyFor_4 (by decide) (fun c_4 => ?_) (fun c_4 => ?_)
  rotate_left
  · exact absurd (by decide) (hb_z.mp c_4)
  refine hc_iload_n C dX1_bodyFor_9 rfl rfl ?_
  refine hc_if_ne C (tgt := 21) dX1_bodyFor_10 (by decide) (fun c_10 => ?_) (fun c_10 => ?_)
  rotate_left
  · exact absurd c_10 (by decide)
  refine hc_gets C (i := 8) rfl sl_X1_63 dX1_bodyFor_21 ?_
  refine hc_iload_n C dX1_bodyFor_24 rfl rfl ?_
  refine hc_sald C (v := 24) rfl (vp_in_nI (n := 2) (N := 6) (by decide) (by decide)) rfl dX1_bodyFor_25 ?_
  refine hc_iret C rfl dX1_bodyFor_26 ?_
  exact ⟨rfl, rfl⟩

set_option maxRecDepth 100000 in
set_option maxHeartbeats 4000000 in
theorem c_bodyFor_3_0 {l : Launch} {G : hc_Geo} (hG : hc_ok G) {M : hc_Mem}  : hc_M l G yX1_bodyFor cX1_bodyFor 2 (some .int) 2 [.int 3, .int 0] M (hc_pi (fun z M' => 0 = z ∧ M = M')) := by
  refine hc_M.of hG (by decide) [some (.int 3), some (.int 0)] rfl (Nat.le_of_ble_eq_true rfl) ?_
  intro p e s m args below meth c C
  refine hc_iload_n C dX1_bodyFor_0 rfl rfl ?_
  refine hc_cS1i C ms_X1_56 (c_X4_isKind C.ok) (Nat.le_of_ble_eq_true rfl) (hc_rr_rm (by decide)) ⟨Nat.zero_le _, Nat.zero_le _⟩ dX1_bodyFor_1 (fun r_1 M_1 h_1 => ?_)
  obtain ⟨rfl, rfl⟩ := h_1
  refine hc_if_ne C (tgt := 9) dX1_bodyFor_4 (by decide) (fun c_4 => ?_) (fun c_4 => ?_)
  rotate_left
  · exact absurd (by decide) (hb_z.mp c_4)
  refine hc_iload_n C dX1_bodyFor_9 rfl rfl ?_
  refine hc_if_ne C (tgt := 21) dX1_bodyFor_10 (by decide) (fun c_10 => ?_) (fun c_10 => ?_)
  · exact absurd rfl c_10
  refine hc_gets C (i := 7) rfl sl_X1_60 dX1_bodyFor_13 ?_
  refine hc_iload_n C dX1_bodyFor_16 rfl rfl ?_
  refine hc_sald C (v := 0) rfl (vp_in_nI (n := 3) (N := 6) (by decide) (by decide)) rfl dX1_bodyFor_17 ?_
  refine hc_goto C (tgt := 26) dX1_bodyFor_18 (by decide) ?_
  refine hc_iret C rfl dX1_bodyFor_26 ?_
  exact ⟨rfl, rfl⟩

set_option maxRecDepth 100000 in
set_option maxHeartbeats 4000000 in
theorem c_bodyFor_3_1 {l : Launch} {G : hc_Geo} (hG : hc_ok G) {M : hc_Mem}  : hc_M l G yX1_bodyFor cX1_bodyFor 2 (some .int) 2 [.int 3, .int 1] M (hc_pi (fun z M' => 22 = z ∧ M = M')) := by
  refine hc_M.of hG (by decide) [some (.int 3), some (.int 1)] rfl (Nat.le_of_ble_eq_true rfl) ?_
  intro p e s m args below meth c C
  refine hc_iload_n C dX1_bodyFor_0 rfl rfl ?_
  refine hc_cS1i C ms_X1_56 (c_X4_isKind C.ok) (Nat.le_of_ble_eq_true rfl) (hc_rr_rm (by decide)) ⟨Nat.zero_le _, Nat.zero_le _⟩ dX1_bodyFor_1 (fun r_1 M_1 h_1 => ?_)
  obtain ⟨rfl, rfl⟩ := h_1
  refine hc_if_ne C (tgt := 9) dX1_bodyFor_4 (by decide) (fun c_4 => ?_) (fun c_4 => ?_)
  rotate_left
  · exact absurd (by decide) (hb_z.mp c_4)
  refine hc_iload_n C dX1_bodyFor_9 rfl rfl ?_
  refine hc_if_ne C (tgt := 21) dX1_bodyFor_10 (by decide) (fun c_10 => ?_) (fun c_10 => ?_)
  rotate_left
  · exact absurd c_10 (by decide)
  refine hc_gets C (i := 8) rfl sl_X1_63 dX1_bodyFor_21 ?_
  refine hc_iload_n C dX1_bodyFor_24 rfl rfl ?_
  refine hc_sald C (v := 22) rfl (vp_in_nI (n := 3) (N := 6) (by decide) (by decide)) rfl dX1_bodyFor_25 ?_
  refine hc_iret C rfl dX1_bodyFor_26 ?_
  exact ⟨rfl, rfl⟩

set_option maxRecDepth 100000 in
set_option maxHeartbeats 4000000 in
theorem c_bodyFor_4_0 {l : Launch} {G : hc_Geo} (hG : hc_ok G) {M : hc_Mem}  : hc_M l G yX1_bodyFor cX1_bodyFor 2 (some .int) 2 [.int 4, .int 0] M (hc_pi (fun z M' => 13 = z ∧ M = M')) := by
  refine hc_M.of hG (by decide) [some (.int 4), some (.int 0)] rfl (Nat.le_of_ble_eq_true rfl) ?_
  intro p e s m args below meth c C
  refine hc_iload_n C dX1_bodyFor_0 rfl rfl ?_
  refine hc_cS1i C ms_X1_56 (c_X4_isKind C.ok) (Nat.le_of_ble_eq_true rfl) (hc_rr_rm (by decide)) ⟨Nat.zero_le _, Nat.zero_le _⟩ dX1_bodyFor_1 (fun r_1 M_1 h_1 => ?_)
  obtain ⟨rfl, rfl⟩ := h_1
  refine hc_if_ne C (tgt := 9) dX1_bodyFor_4 (by decide) (fun c_4 => ?_) (fun c_4 => ?_)
  rotate_left
  · exact absurd (by decide) (hb_z.mp c_4)
  refine hc_iload_n C dX1_bodyFor_9 rfl rfl ?_
  refine hc_if_ne C (tgt := 21) dX1_bodyFor_10 (by decide) (fun c_10 => ?_) (fun c_10 => ?_)
  · exact absurd rfl c_10
  refine hc_gets C (i := 7) rfl sl_X1_60 dX1_bodyFor_13 ?_
  refine hc_iload_n C dX1_bodyFor_16 rfl rfl ?_
  refine hc_sald C (v := 13) rfl (vp_in_nI (n := 4) (N := 6) (by decide) (by decide)) rfl dX1_bodyFor_17 ?_
  refine hc_goto C (tgt := 26) dX1_bodyFor_18 (by decide) ?_
  refine hc_iret C rfl dX1_bodyFor_26 ?_
  exact ⟨rfl, rfl⟩

set_option maxRecDepth 100000 in
set_option maxHeartbeats 4000000 in
theorem c_bodyFor_4_1 {l : Launch} {G : hc_Geo} (hG : hc_ok G) {M : hc_Mem}  : hc_M l G yX1_bodyFor cX1_bodyFor 2 (some .int) 2 [.int 4, .int 1] M (hc_pi (fun z M' => 23 = z ∧ M = M')) := by
  refine hc_M.of hG (by decide) [some (.int 4), some (.int 1)] rfl (Nat.le_of_ble_eq_true rfl) ?_
  intro p e s m args below meth c C
  refine hc_iload_n C dX1_bodyFor_0 rfl rfl ?_
  refine hc_cS1i C ms_X1_56 (c_X4_isKind C.ok) (Nat.le_of_ble_eq_true rfl) (hc_rr_rm (by decide)) ⟨Nat.zero_le _, Nat.zero_le _⟩ dX1_bodyFor_1 (fun r_1 M_1 h_1 => ?_)
  obtain ⟨rfl, rfl⟩ := h_1
  refine hc_if_ne C (tgt := 9) dX1_bodyFor_4 (by decide) (fun c_4 => ?_) (fun c_4 => ?_)
  rotate_left
  · exact absurd (by decide) (hb_z.mp c_4)
  refine hc_iload_n C dX1_bodyFor_9 rfl rfl ?_
  refine hc_if_ne C (tgt := 21) dX1_bodyFor_10 (by decide) (fun c_10 => ?_) (fun c_10 => ?_)
  rotate_left
  · exact absurd c_10 (by decide)
  refine hc_gets C (i := 8) rfl sl_X1_63 dX1_bodyFor_21 ?_
  refine hc_iload_n C dX1_bodyFor_24 rfl rfl ?_
  refine hc_sald C (v := 23) rfl (vp_in_nI (n := 4) (N := 6) (by decide) (by decide)) rfl dX1_bodyFor_25 ?_
  refine hc_iret C rfl dX1_bodyFor_26 ?_
  exact ⟨rfl, rfl⟩

set_option maxRecDepth 100000 in
set_option maxHeartbeats 4000000 in
theorem c_bodyFor_5_0 {l : Launch} {G : hc_Geo} (hG : hc_ok G) {M : hc_Mem}  : hc_M l G yX1_bodyFor cX1_bodyFor 2 (some .int) 2 [.int 5, .int 0] M (hc_pi (fun z M' => 14 = z ∧ M = M')) := by
  refine hc_M.of hG (by decide) [some (.int 5), some (.int 0)] rfl (Nat.le_of_ble_eq_true rfl) ?_
  intro p e s m args below meth c C
  refine hc_iload_n C dX1_bodyFor_0 rfl rfl ?_
  refine hc_cS1i C ms_X1_56 (c_X4_isKind C.ok) (Nat.le_of_ble_eq_true rfl) (hc_rr_rm (by decide)) ⟨Nat.zero_le _, Nat.zero_le _⟩ dX1_bodyFor_1 (fun r_1 M_1 h_1 => ?_)
  obtain ⟨rfl, rfl⟩ := h_1
  refine hc_if_ne C (tgt := 9) dX1_bodyFor_4 (by decide) (fun c_4 => ?_) (fun c_4 => ?_)
  rotate_left
  · exact absurd (by decide) (hb_z.mp c_4)
  refine hc_iload_n C dX1_bodyFor_9 rfl rfl ?_
  refine hc_if_ne C (tgt := 21) dX1_bodyFor_10 (by decide) (fun c_10 => ?_) (fun c_10 => ?_)
  · exact absurd rfl c_10
  refine hc_gets C (i := 7) rfl sl_X1_60 dX1_bodyFor_13 ?_
  refine hc_iload_n C dX1_bodyFor_16 rfl rfl ?_
  refine hc_sald C (v := 14) rfl (vp_in_nI (n := 5) (N := 6) (by decide) (by decide)) rfl dX1_bodyFor_17 ?_
  refine hc_goto C (tgt := 26) dX1_bodyFor_18 (by decide) ?_
  refine hc_iret C rfl dX1_bodyFor_26 ?_
  exact ⟨rfl, rfl⟩

set_option maxRecDepth 100000 in
set_option maxHeartbeats 4000000 in
theorem c_bodyFor_5_1 {l : Launch} {G : hc_Geo} (hG : hc_ok G) {M : hc_Mem}  : hc_M l G yX1_bodyFor cX1_bodyFor 2 (some .int) 2 [.int 5, .int 1] M (hc_pi (fun z M' => 0 = z ∧ M = M')) := by
  refine hc_M.of hG (by decide) [some (.int 5), some (.int 1)] rfl (Nat.le_of_ble_eq_true rfl) ?_
  intro p e s m args below meth c C
  refine hc_iload_n C dX1_bodyFor_0 rfl rfl ?_
  refine hc_cS1i C ms_X1_56 (c_X4_isKind C.ok) (Nat.le_of_ble_eq_true rfl) (hc_rr_rm (by decide)) ⟨Nat.zero_le _, Nat.zero_le _⟩ dX1_bodyFor_1 (fun r_1 M_1 h_1 => ?_)
  obtain ⟨rfl, rfl⟩ := h_1
  refine hc_if_ne C (tgt := 9) dX1_bodyFor_4 (by decide) (fun c_4 => ?_) (fun c_4 => ?_)
  rotate_left
  · exact absurd (by decide) (hb_z.mp c_4)
  refine hc_iload_n C dX1_bodyFor_9 rfl rfl ?_
  refine hc_if_ne C (tgt := 21) dX1_bodyFor_10 (by decide) (fun c_10 => ?_) (fun c_10 => ?_)
  rotate_left
  · exact absurd c_10 (by decide)
  refine hc_gets C (i := 8) rfl sl_X1_63 dX1_bodyFor_21 ?_
  refine hc_iload_n C dX1_bodyFor_24 rfl rfl ?_
  refine hc_sald C (v := 0) rfl (vp_in_nI (n := 5) (N := 6) (by decide) (by decide)) rfl dX1_bodyFor_25 ?_
  refine hc_iret C rfl dX1_bodyFor_26 ?_
  exact ⟨rfl, rfl⟩

set_option maxRecDepth 100000 in
set_option maxHeartbeats 4000000 in
theorem c_run_10 {l : Launch} {G : hc_Geo} (hG : hc_ok G) {M : hc_Mem} {dp : Nat} {l0 : List Int32}  (hl : l0.length + 1 ≤ 16) (hdp : dp < 16) : hc_M l G yX1_run cX1_run 4 (some .int) 2 [.ref (hc_ad G 46), .int 10, .int (nI dp)] (hTr M l0) (hc_pi (fun z M' => M 46 4 = z ∧ hTr M (l0 ++ [10]) = M')) := by
  refine hc_M.of hG (by decide) [some (.ref (hc_ad G 46)), some (.int 10), some (.int (nI dp)), none] rfl (Nat.le_of_ble_eq_true rfl) ?_
  intro p e s m args below meth c C
  refine hc_iload_n C dX1_run_0 rfl rfl ?_
  refine hc_bipush C dX1_run_1 (v := 16) rfl ?_
  refine hc_icmp_lt C (tgt := 8) dX1_run_3 (by decide) (fun c_3 => ?_) (fun c_3 => ?_)
  rotate_left
  · exact absurd (show nI dp < nI 16 from nI_lt (by omega) (by decide)) c_3
  refine hc_aload_n C dX1_run_8 rfl rfl ?_
  refine hc_iload_n C dX1_run_9 rfl rfl ?_
  refine hc_cV1v C mv_X1_66 (c_X1_leaveTrace C.ok (by first | omega | (simp only [List.length_append, List.length_cons, List.length_nil]; omega))) rfl rfl rfl (Nat.le_of_ble_eq_true rfl) (hc_rr_rm (by decide)) ⟨Nat.zero_le _, Nat.zero_le _⟩ dX1_run_10 (fun M_10 h_10 => ?_)
  obtain rfl := h_10
  refine hc_iload_n C dX1_run_13 rfl rfl ?_
  refine hc_iconst C dX1_run_14 (v := 1) rfl ?_
  refine hc_iadd C dX1_run_15 ?_
  refine hc_top (nI_1 dp) ?_
  refine hc_istore_n3 C dX1_run_16 rfl (by decide) rfl ?_
  refine hc_iload_n C dX1_run_17 rfl rfl ?_
  refine hc_tableIn C (off := 74) (tgt := 92) dX1_run_18 (by decide) (by decide) rfl (by decide) ?_
  refine hc_aload_n C dX1_run_92 rfl rfl ?_
  refine hc_getI C fl_X1_23 rfl rfl dX1_run_93 ?_
  refine hc_iret C rfl dX1_run_96 ?_
  exact ⟨rfl, by simp only [List.append_assoc, List.cons_append, List.nil_append]⟩

set_option maxRecDepth 100000 in
set_option maxHeartbeats 4000000 in
theorem c_run_20 {l : Launch} {G : hc_Geo} (hG : hc_ok G) {M : hc_Mem} {dp : Nat} {l0 : List Int32}  (hl : l0.length + 1 ≤ 16) (hdp : dp < 16) : hc_M l G yX1_run cX1_run 4 (some .int) 2 [.ref (hc_ad G 46), .int 20, .int (nI dp)] (hTr M l0) (hc_pi (fun z M' => M 46 2 = z ∧ hTr M (l0 ++ [20]) = M')) := by
  refine hc_M.of hG (by decide) [some (.ref (hc_ad G 46)), some (.int 20), some (.int (nI dp)), none] rfl (Nat.le_of_ble_eq_true rfl) ?_
  intro p e s m args below meth c C
  refine hc_iload_n C dX1_run_0 rfl rfl ?_
  refine hc_bipush C dX1_run_1 (v := 16) rfl ?_
  refine hc_icmp_lt C (tgt := 8) dX1_run_3 (by decide) (fun c_3 => ?_) (fun c_3 => ?_)
  rotate_left
  · exact absurd (show nI dp < nI 16 from nI_lt (by omega) (by decide)) c_3
  refine hc_aload_n C dX1_run_8 rfl rfl ?_
  refine hc_iload_n C dX1_run_9 rfl rfl ?_
  refine hc_cV1v C mv_X1_66 (c_X1_leaveTrace C.ok (by first | omega | (simp only [List.length_append, List.length_cons, List.length_nil]; omega))) rfl rfl rfl (Nat.le_of_ble_eq_true rfl) (hc_rr_rm (by decide)) ⟨Nat.zero_le _, Nat.zero_le _⟩ dX1_run_10 (fun M_10 h_10 => ?_)
  obtain rfl := h_10
  refine hc_iload_n C dX1_run_13 rfl rfl ?_
  refine hc_iconst C dX1_run_14 (v := 1) rfl ?_
  refine hc_iadd C dX1_run_15 ?_
  refine hc_top (nI_1 dp) ?_
  refine hc_istore_n3 C dX1_run_16 rfl (by decide) rfl ?_
  refine hc_iload_n C dX1_run_17 rfl rfl ?_
  refine hc_tableIn C (off := 124) (tgt := 142) dX1_run_18 (by decide) (by decide) rfl (by decide) ?_
  refine hc_aload_n C dX1_run_142 rfl rfl ?_
  refine hc_getI C fl_X1_17 rfl rfl dX1_run_143 ?_
  refine hc_iret C rfl dX1_run_146 ?_
  exact ⟨rfl, by simp only [List.append_assoc, List.cons_append, List.nil_append]⟩

set_option maxRecDepth 100000 in
set_option maxHeartbeats 4000000 in
theorem c_run_21 {l : Launch} {G : hc_Geo} (hG : hc_ok G) {M : hc_Mem} {dp : Nat} {l0 : List Int32}  (hl : l0.length + 2 ≤ 16) (hdp : dp < 10) : hc_M l G yX1_run cX1_run 4 (some .int) 3 [.ref (hc_ad G 46), .int 21, .int (nI dp)] (hTr M l0) (hc_pi (fun z M' => (M 46 2 + M 46 5) = z ∧ hTr M (l0 ++ [21, 20]) = M')) := by
  refine hc_M.of hG (by decide) [some (.ref (hc_ad G 46)), some (.int 21), some (.int (nI dp)), none] rfl (Nat.le_of_ble_eq_true rfl) ?_
  intro p e s m args below meth c C
  refine hc_iload_n C dX1_run_0 rfl rfl ?_
  refine hc_bipush C dX1_run_1 (v := 16) rfl ?_
  refine hc_icmp_lt C (tgt := 8) dX1_run_3 (by decide) (fun c_3 => ?_) (fun c_3 => ?_)
  rotate_left
  · exact absurd (show nI dp < nI 16 from nI_lt (by omega) (by decide)) c_3
  refine hc_aload_n C dX1_run_8 rfl rfl ?_
  refine hc_iload_n C dX1_run_9 rfl rfl ?_
  refine hc_cV1v C mv_X1_66 (c_X1_leaveTrace C.ok (by first | omega | (simp only [List.length_append, List.length_cons, List.length_nil]; omega))) rfl rfl rfl (Nat.le_of_ble_eq_true rfl) (hc_rr_rm (by decide)) ⟨Nat.zero_le _, Nat.zero_le _⟩ dX1_run_10 (fun M_10 h_10 => ?_)
  obtain rfl := h_10
  refine hc_iload_n C dX1_run_13 rfl rfl ?_
  refine hc_iconst C dX1_run_14 (v := 1) rfl ?_
  refine hc_iadd C dX1_run_15 ?_
  refine hc_top (nI_1 dp) ?_
  refine hc_istore_n3 C dX1_run_16 rfl (by decide) rfl ?_
  refine hc_iload_n C dX1_run_17 rfl rfl ?_
  refine hc_tableIn C (off := 129) (tgt := 147) dX1_run_18 (by decide) (by decide) rfl (by decide) ?_
  refine hc_aload_n C dX1_run_147 rfl rfl ?_
  refine hc_bipush C dX1_run_148 (v := 20) rfl ?_
  refine hc_iload_n C dX1_run_150 rfl rfl ?_
  refine hc_cV2i C mv_X1_53 (c_run_20 C.ok (by first | omega | (simp only [List.length_append, List.length_cons, List.length_nil]; omega)) (by omega)) rfl rfl rfl (Nat.le_of_ble_eq_true rfl) (hc_rr_rm (by decide)) ⟨Nat.zero_le _, Nat.zero_le _⟩ dX1_run_151 (fun r_151 M_151 h_151 => ?_)
  obtain ⟨rfl, rfl⟩ := h_151
  refine hc_aload_n C dX1_run_154 rfl rfl ?_
  refine hc_getI C fl_X1_26 rfl rfl dX1_run_155 ?_
  refine hc_iadd C dX1_run_158 ?_
  refine hc_iret C rfl dX1_run_159 ?_
  exact ⟨rfl, by simp only [List.append_assoc, List.cons_append, List.nil_append]⟩

set_option maxRecDepth 100000 in
set_option maxHeartbeats 4000000 in
theorem c_run_13 {l : Launch} {G : hc_Geo} (hG : hc_ok G) {M : hc_Mem} {dp : Nat} {l0 : List Int32}  (hl : l0.length + 2 ≤ 16) (hdp : dp < 10) : hc_M l G yX1_run cX1_run 4 (some .int) 3 [.ref (hc_ad G 46), .int 13, .int (nI dp)] (hTr M l0) (hc_pi (fun z M' => (M 46 4 - 100) = z ∧ hTr M (l0 ++ [13, 10]) = M')) := by
  refine hc_M.of hG (by decide) [some (.ref (hc_ad G 46)), some (.int 13), some (.int (nI dp)), none] rfl (Nat.le_of_ble_eq_true rfl) ?_
  intro p e s m args below meth c C
  refine hc_iload_n C dX1_run_0 rfl rfl ?_
  refine hc_bipush C dX1_run_1 (v := 16) rfl ?_
  refine hc_icmp_lt C (tgt := 8) dX1_run_3 (by decide) (fun c_3 => ?_) (fun c_3 => ?_)
  rotate_left
  · exact absurd (show nI dp < nI 16 from nI_lt (by omega) (by decide)) c_3
  refine hc_aload_n C dX1_run_8 rfl rfl ?_
  refine hc_iload_n C dX1_run_9 rfl rfl ?_
  refine hc_cV1v C mv_X1_66 (c_X1_leaveTrace C.ok (by first | omega | (simp only [List.length_append, List.length_cons, List.length_nil]; omega))) rfl rfl rfl (Nat.le_of_ble_eq_true rfl) (hc_rr_rm (by decide)) ⟨Nat.zero_le _, Nat.zero_le _⟩ dX1_run_10 (fun M_10 h_10 => ?_)
  obtain rfl := h_10
  refine hc_iload_n C dX1_run_13 rfl rfl ?_
  refine hc_iconst C dX1_run_14 (v := 1) rfl ?_
  refine hc_iadd C dX1_run_15 ?_
  refine hc_top (nI_1 dp) ?_
  refine hc_istore_n3 C dX1_run_16 rfl (by decide) rfl ?_
  refine hc_iload_n C dX1_run_17 rfl rfl ?_
  refine hc_tableIn C (off := 103) (tgt := 121) dX1_run_18 (by decide) (by decide) rfl (by decide) ?_
  refine hc_aload_n C dX1_run_121 rfl rfl ?_
  refine hc_bipush C dX1_run_122 (v := 10) rfl ?_
  refine hc_iload_n C dX1_run_124 rfl rfl ?_
  refine hc_cV2i C mv_X1_53 (c_run_10 C.ok (by first | omega | (simp only [List.length_append, List.length_cons, List.length_nil]; omega)) (by omega)) rfl rfl rfl (Nat.le_of_ble_eq_true rfl) (hc_rr_rm (by decide)) ⟨Nat.zero_le _, Nat.zero_le _⟩ dX1_run_125 (fun r_125 M_125 h_125 => ?_)
  obtain ⟨rfl, rfl⟩ := h_125
  refine hc_bipush C dX1_run_128 (v := 100) rfl ?_
  refine hc_isub C dX1_run_130 ?_
  refine hc_iret C rfl dX1_run_131 ?_
  exact ⟨rfl, by simp only [List.append_assoc, List.cons_append, List.nil_append]⟩

set_option maxRecDepth 100000 in
set_option maxHeartbeats 4000000 in
theorem c_run_14 {l : Launch} {G : hc_Geo} (hG : hc_ok G) {M : hc_Mem} {dp : Nat} {l0 : List Int32}  (hl : l0.length + 3 ≤ 16) (hdp : dp < 9) : hc_M l G yX1_run cX1_run 4 (some .int) 4 [.ref (hc_ad G 46), .int 14, .int (nI dp)] (hTr M l0) (hc_pi (fun z M' => (2 * (M 46 4 - 100)) = z ∧ hTr M (l0 ++ [14, 13, 10]) = M')) := by
  refine hc_M.of hG (by decide) [some (.ref (hc_ad G 46)), some (.int 14), some (.int (nI dp)), none] rfl (Nat.le_of_ble_eq_true rfl) ?_
  intro p e s m args below meth c C
  refine hc_iload_n C dX1_run_0 rfl rfl ?_
  refine hc_bipush C dX1_run_1 (v := 16) rfl ?_
  refine hc_icmp_lt C (tgt := 8) dX1_run_3 (by decide) (fun c_3 => ?_) (fun c_3 => ?_)
  rotate_left
  · exact absurd (show nI dp < nI 16 from nI_lt (by omega) (by decide)) c_3
  refine hc_aload_n C dX1_run_8 rfl rfl ?_
  refine hc_iload_n C dX1_run_9 rfl rfl ?_
  refine hc_cV1v C mv_X1_66 (c_X1_leaveTrace C.ok (by first | omega | (simp only [List.length_append, List.length_cons, List.length_nil]; omega))) rfl rfl rfl (Nat.le_of_ble_eq_true rfl) (hc_rr_rm (by decide)) ⟨Nat.zero_le _, Nat.zero_le _⟩ dX1_run_10 (fun M_10 h_10 => ?_)
  obtain rfl := h_10
  refine hc_iload_n C dX1_run_13 rfl rfl ?_
  refine hc_iconst C dX1_run_14 (v := 1) rfl ?_
  refine hc_iadd C dX1_run_15 ?_
  refine hc_top (nI_1 dp) ?_
  refine hc_istore_n3 C dX1_run_16 rfl (by decide) rfl ?_
  refine hc_iload_n C dX1_run_17 rfl rfl ?_
  refine hc_tableIn C (off := 114) (tgt := 132) dX1_run_18 (by decide) (by decide) rfl (by decide) ?_
  refine hc_iconst C dX1_run_132 (v := 2) rfl ?_
  refine hc_aload_n C dX1_run_133 rfl rfl ?_
  refine hc_bipush C dX1_run_134 (v := 13) rfl ?_
  refine hc_iload_n C dX1_run_136 rfl rfl ?_
  refine hc_cV2i C mv_X1_53 (c_run_13 C.ok (by first | omega | (simp only [List.length_append, List.length_cons, List.length_nil]; omega)) (by omega)) rfl rfl rfl (Nat.le_of_ble_eq_true rfl) (hc_rr_rm (by decide)) ⟨Nat.zero_le _, Nat.zero_le _⟩ dX1_run_137 (fun r_137 M_137 h_137 => ?_)
  obtain ⟨rfl, rfl⟩ := h_137
  refine hc_imul C dX1_run_140 ?_
  refine hc_iret C rfl dX1_run_141 ?_
  exact ⟨rfl, by simp only [List.append_assoc, List.cons_append, List.nil_append]⟩

set_option maxRecDepth 100000 in
set_option maxHeartbeats 4000000 in
theorem c_run_22 {l : Launch} {G : hc_Geo} (hG : hc_ok G) {M : hc_Mem} {dp : Nat} {l0 : List Int32}  (hl : l0.length + 3 ≤ 16) (hdp : dp < 9) : hc_M l G yX1_run cX1_run 4 (some .int) 4 [.ref (hc_ad G 46), .int 22, .int (nI dp)] (hTr M l0) (hc_pi (fun z M' => (M 46 2 + M 46 5 - 1000) = z ∧ hTr M (l0 ++ [22, 21, 20]) = M')) := by
  refine hc_M.of hG (by decide) [some (.ref (hc_ad G 46)), some (.int 22), some (.int (nI dp)), none] rfl (Nat.le_of_ble_eq_true rfl) ?_
  intro p e s m args below meth c C
  refine hc_iload_n C dX1_run_0 rfl rfl ?_
  refine hc_bipush C dX1_run_1 (v := 16) rfl ?_
  refine hc_icmp_lt C (tgt := 8) dX1_run_3 (by decide) (fun c_3 => ?_) (fun c_3 => ?_)
  rotate_left
  · exact absurd (show nI dp < nI 16 from nI_lt (by omega) (by decide)) c_3
  refine hc_aload_n C dX1_run_8 rfl rfl ?_
  refine hc_iload_n C dX1_run_9 rfl rfl ?_
  refine hc_cV1v C mv_X1_66 (c_X1_leaveTrace C.ok (by first | omega | (simp only [List.length_append, List.length_cons, List.length_nil]; omega))) rfl rfl rfl (Nat.le_of_ble_eq_true rfl) (hc_rr_rm (by decide)) ⟨Nat.zero_le _, Nat.zero_le _⟩ dX1_run_10 (fun M_10 h_10 => ?_)
  obtain rfl := h_10
  refine hc_iload_n C dX1_run_13 rfl rfl ?_
  refine hc_iconst C dX1_run_14 (v := 1) rfl ?_
  refine hc_iadd C dX1_run_15 ?_
  refine hc_top (nI_1 dp) ?_
  refine hc_istore_n3 C dX1_run_16 rfl (by decide) rfl ?_
  refine hc_iload_n C dX1_run_17 rfl rfl ?_
  refine hc_tableIn C (off := 142) (tgt := 160) dX1_run_18 (by decide) (by decide) rfl (by decide) ?_
  refine hc_aload_n C dX1_run_160 rfl rfl ?_
  refine hc_bipush C dX1_run_161 (v := 21) rfl ?_
  refine hc_iload_n C dX1_run_163 rfl rfl ?_
  refine hc_cV2i C mv_X1_53 (c_run_21 C.ok (by first | omega | (simp only [List.length_append, List.length_cons, List.length_nil]; omega)) (by omega)) rfl rfl rfl (Nat.le_of_ble_eq_true rfl) (hc_rr_rm (by decide)) ⟨Nat.zero_le _, Nat.zero_le _⟩ dX1_run_164 (fun r_164 M_164 h_164 => ?_)
  obtain ⟨rfl, rfl⟩ := h_164
  refine hc_sipush C dX1_run_167 (v := 1000) rfl ?_
  refine hc_isub C dX1_run_170 ?_
  refine hc_iret C rfl dX1_run_171 ?_
  exact ⟨rfl, by simp only [List.append_assoc, List.cons_append, List.nil_append]⟩

set_option maxRecDepth 100000 in
set_option maxHeartbeats 4000000 in
theorem c_run_24 {l : Launch} {G : hc_Geo} (hG : hc_ok G) {M : hc_Mem} {dp : Nat} {l0 : List Int32}  (hl : l0.length + 3 ≤ 16) (hdp : dp < 9) : hc_M l G yX1_run cX1_run 4 (some .int) 4 [.ref (hc_ad G 46), .int 24, .int (nI dp)] (hTr M l0) (hc_pi (fun z M' => (2 * (M 46 2 + M 46 5)) = z ∧ hTr M (l0 ++ [24, 21, 20]) = M')) := by
  refine hc_M.of hG (by decide) [some (.ref (hc_ad G 46)), some (.int 24), some (.int (nI dp)), none] rfl (Nat.le_of_ble_eq_true rfl) ?_
  intro p e s m args below meth c C
  refine hc_iload_n C dX1_run_0 rfl rfl ?_
  refine hc_bipush C dX1_run_1 (v := 16) rfl ?_
  refine hc_icmp_lt C (tgt := 8) dX1_run_3 (by decide) (fun c_3 => ?_) (fun c_3 => ?_)
  rotate_left
  · exact absurd (show nI dp < nI 16 from nI_lt (by omega) (by decide)) c_3
  refine hc_aload_n C dX1_run_8 rfl rfl ?_
  refine hc_iload_n C dX1_run_9 rfl rfl ?_
  refine hc_cV1v C mv_X1_66 (c_X1_leaveTrace C.ok (by first | omega | (simp only [List.length_append, List.length_cons, List.length_nil]; omega))) rfl rfl rfl (Nat.le_of_ble_eq_true rfl) (hc_rr_rm (by decide)) ⟨Nat.zero_le _, Nat.zero_le _⟩ dX1_run_10 (fun M_10 h_10 => ?_)
  obtain rfl := h_10
  refine hc_iload_n C dX1_run_13 rfl rfl ?_
  refine hc_iconst C dX1_run_14 (v := 1) rfl ?_
  refine hc_iadd C dX1_run_15 ?_
  refine hc_top (nI_1 dp) ?_
  refine hc_istore_n3 C dX1_run_16 rfl (by decide) rfl ?_
  refine hc_iload_n C dX1_run_17 rfl rfl ?_
  refine hc_tableIn C (off := 169) (tgt := 187) dX1_run_18 (by decide) (by decide) rfl (by decide) ?_
  refine hc_iconst C dX1_run_187 (v := 2) rfl ?_
  refine hc_aload_n C dX1_run_188 rfl rfl ?_
  refine hc_bipush C dX1_run_189 (v := 21) rfl ?_
  refine hc_iload_n C dX1_run_191 rfl rfl ?_
  refine hc_cV2i C mv_X1_53 (c_run_21 C.ok (by first | omega | (simp only [List.length_append, List.length_cons, List.length_nil]; omega)) (by omega)) rfl rfl rfl (Nat.le_of_ble_eq_true rfl) (hc_rr_rm (by decide)) ⟨Nat.zero_le _, Nat.zero_le _⟩ dX1_run_192 (fun r_192 M_192 h_192 => ?_)
  obtain ⟨rfl, rfl⟩ := h_192
  refine hc_imul C dX1_run_195 ?_
  refine hc_iret C rfl dX1_run_196 ?_
  exact ⟨rfl, by simp only [List.append_assoc, List.cons_append, List.nil_append]⟩

set_option maxRecDepth 100000 in
set_option maxHeartbeats 4000000 in
theorem c_begin_1_1 {l : Launch} {G : hc_Geo} (hG : hc_ok G) {M : hc_Mem} {dp : Nat} {l0 : List Int32}  (hk : M 46 3 = 1) (hl : l0.length + 2 ≤ 16) (hdp : dp < 8) : hc_M l G yX1_begin cX1_begin 4 (some .int) 5 [.ref (hc_ad G 46), .int 1, .int (nI dp)] (hTr M l0) (hc_pi (fun z M' => (M 46 2 + M 46 5) = z ∧ hTr M (l0 ++ [21, 20]) = M')) := by
  refine hc_M.of hG (by decide) [some (.ref (hc_ad G 46)), some (.int 1), some (.int (nI dp)), none] rfl (Nat.le_of_ble_eq_true rfl) ?_
  intro p e s m args below meth c C
  refine hc_aload_n C dX1_begin_0 rfl rfl ?_
  refine hc_getI C fl_X1_20 rfl rfl dX1_begin_1 ?_
  refine hc_top (show _ = _ from hk) ?_
  refine hc_iload_n C dX1_begin_4 rfl rfl ?_
  refine hc_cS2i C ms_X1_44 (c_bodyFor_1_1 C.ok) (Nat.le_of_ble_eq_true rfl) (hc_rr_rm (by decide)) ⟨Nat.zero_le _, Nat.zero_le _⟩ dX1_begin_5 (fun r_5 M_5 h_5 => ?_)
  obtain ⟨rfl, rfl⟩ := h_5
  refine hc_istore_n3 C dX1_begin_8 rfl (by decide) rfl ?_
  refine hc_iload_n C dX1_begin_9 rfl rfl ?_
  refine hc_if_ne C (tgt := 25) dX1_begin_10 (by decide) (fun c_10 => ?_) (fun c_10 => ?_)
  rotate_left
  · exact absurd c_10 (by decide)
  refine hc_aload_n C dX1_begin_25 rfl rfl ?_
  refine hc_iload_n C dX1_begin_26 rfl rfl ?_
  refine hc_iload_n C dX1_begin_27 rfl rfl ?_
  refine hc_cV2i C mv_X1_53 (c_run_21 C.ok hl (by omega)) rfl rfl rfl (Nat.le_of_ble_eq_true rfl) (hc_rr_rm (by decide)) ⟨Nat.zero_le _, Nat.zero_le _⟩ dX1_begin_28 (fun r_28 M_28 h_28 => ?_)
  obtain ⟨rfl, rfl⟩ := h_28
  refine hc_iret C rfl dX1_begin_31 ?_
  exact ⟨rfl, rfl⟩

set_option maxRecDepth 100000 in
set_option maxHeartbeats 4000000 in
theorem c_begin_2_1 {l : Launch} {G : hc_Geo} (hG : hc_ok G) {M : hc_Mem} {dp : Nat} {l0 : List Int32}  (hk : M 46 3 = 2) (hl : l0.length + 3 ≤ 16) (hdp : dp < 8) : hc_M l G yX1_begin cX1_begin 4 (some .int) 5 [.ref (hc_ad G 46), .int 1, .int (nI dp)] (hTr M l0) (hc_pi (fun z M' => (2 * (M 46 2 + M 46 5)) = z ∧ hTr M (l0 ++ [24, 21, 20]) = M')) := by
  refine hc_M.of hG (by decide) [some (.ref (hc_ad G 46)), some (.int 1), some (.int (nI dp)), none] rfl (Nat.le_of_ble_eq_true rfl) ?_
  intro p e s m args below meth c C
  refine hc_aload_n C dX1_begin_0 rfl rfl ?_
  refine hc_getI C fl_X1_20 rfl rfl dX1_begin_1 ?_
  refine hc_top (show _ = _ from hk) ?_
  refine hc_iload_n C dX1_begin_4 rfl rfl ?_
  refine hc_cS2i C ms_X1_44 (c_bodyFor_2_1 C.ok) (Nat.le_of_ble_eq_true rfl) (hc_rr_rm (by decide)) ⟨Nat.zero_le _, Nat.zero_le _⟩ dX1_begin_5 (fun r_5 M_5 h_5 => ?_)
  obtain ⟨rfl, rfl⟩ := h_5
  refine hc_istore_n3 C dX1_begin_8 rfl (by decide) rfl ?_
  refine hc_iload_n C dX1_begin_9 rfl rfl ?_
  refine hc_if_ne C (tgt := 25) dX1_begin_10 (by decide) (fun c_10 => ?_) (fun c_10 => ?_)
  rotate_left
  · exact absurd c_10 (by decide)
  refine hc_aload_n C dX1_begin_25 rfl rfl ?_
  refine hc_iload_n C dX1_begin_26 rfl rfl ?_
  refine hc_iload_n C dX1_begin_27 rfl rfl ?_
  refine hc_cV2i C mv_X1_53 (c_run_24 C.ok hl (by omega)) rfl rfl rfl (Nat.le_of_ble_eq_true rfl) (hc_rr_rm (by decide)) ⟨Nat.zero_le _, Nat.zero_le _⟩ dX1_begin_28 (fun r_28 M_28 h_28 => ?_)
  obtain ⟨rfl, rfl⟩ := h_28
  refine hc_iret C rfl dX1_begin_31 ?_
  exact ⟨rfl, rfl⟩

set_option maxRecDepth 100000 in
set_option maxHeartbeats 4000000 in
theorem c_begin_3_1 {l : Launch} {G : hc_Geo} (hG : hc_ok G) {M : hc_Mem} {dp : Nat} {l0 : List Int32}  (hk : M 46 3 = 3) (hl : l0.length + 3 ≤ 16) (hdp : dp < 8) : hc_M l G yX1_begin cX1_begin 4 (some .int) 5 [.ref (hc_ad G 46), .int 1, .int (nI dp)] (hTr M l0) (hc_pi (fun z M' => ((M 46 2 + M 46 5) - 1000) = z ∧ hTr M (l0 ++ [22, 21, 20]) = M')) := by
  refine hc_M.of hG (by decide) [some (.ref (hc_ad G 46)), some (.int 1), some (.int (nI dp)), none] rfl (Nat.le_of_ble_eq_true rfl) ?_
  intro p e s m args below meth c C
  refine hc_aload_n C dX1_begin_0 rfl rfl ?_
  refine hc_getI C fl_X1_20 rfl rfl dX1_begin_1 ?_
  refine hc_top (show _ = _ from hk) ?_
  refine hc_iload_n C dX1_begin_4 rfl rfl ?_
  refine hc_cS2i C ms_X1_44 (c_bodyFor_3_1 C.ok) (Nat.le_of_ble_eq_true rfl) (hc_rr_rm (by decide)) ⟨Nat.zero_le _, Nat.zero_le _⟩ dX1_begin_5 (fun r_5 M_5 h_5 => ?_)
  obtain ⟨rfl, rfl⟩ := h_5
  refine hc_istore_n3 C dX1_begin_8 rfl (by decide) rfl ?_
  refine hc_iload_n C dX1_begin_9 rfl rfl ?_
  refine hc_if_ne C (tgt := 25) dX1_begin_10 (by decide) (fun c_10 => ?_) (fun c_10 => ?_)
  rotate_left
  · exact absurd c_10 (by decide)
  refine hc_aload_n C dX1_begin_25 rfl rfl ?_
  refine hc_iload_n C dX1_begin_26 rfl rfl ?_
  refine hc_iload_n C dX1_begin_27 rfl rfl ?_
  refine hc_cV2i C mv_X1_53 (c_run_22 C.ok hl (by omega)) rfl rfl rfl (Nat.le_of_ble_eq_true rfl) (hc_rr_rm (by decide)) ⟨Nat.zero_le _, Nat.zero_le _⟩ dX1_begin_28 (fun r_28 M_28 h_28 => ?_)
  obtain ⟨rfl, rfl⟩ := h_28
  refine hc_iret C rfl dX1_begin_31 ?_
  exact ⟨rfl, rfl⟩

set_option maxRecDepth 100000 in
set_option maxHeartbeats 4000000 in
theorem c_run_11_k1 {l : Launch} {G : hc_Geo} (hG : hc_ok G) {M : hc_Mem} {dp : Nat} {l0 : List Int32}  (hk : M 46 3 = 1) (hl : l0.length + 4 ≤ 16) (hdp : dp < 6) : hc_M l G yX1_run cX1_run 4 (some .int) 6 [.ref (hc_ad G 46), .int 11, .int (nI dp)] (hTr M l0) (hc_pi (fun z M' => (M 46 4 + (M 46 2 + M 46 5)) = z ∧ hTr M (l0 ++ [11, 10, 21, 20]) = M')) := by
  refine hc_M.of hG (by decide) [some (.ref (hc_ad G 46)), some (.int 11), some (.int (nI dp)), none] rfl (Nat.le_of_ble_eq_true rfl) ?_
  intro p e s m args below meth c C
  refine hc_iload_n C dX1_run_0 rfl rfl ?_
  refine hc_bipush C dX1_run_1 (v := 16) rfl ?_
  refine hc_icmp_lt C (tgt := 8) dX1_run_3 (by decide) (fun c_3 => ?_) (fun c_3 => ?_)
  rotate_left
  · exact absurd (show nI dp < nI 16 from nI_lt (by omega) (by decide)) c_3
  refine hc_aload_n C dX1_run_8 rfl rfl ?_
  refine hc_iload_n C dX1_run_9 rfl rfl ?_
  refine hc_cV1v C mv_X1_66 (c_X1_leaveTrace C.ok (by first | omega | (simp only [List.length_append, List.length_cons, List.length_nil]; omega))) rfl rfl rfl (Nat.le_of_ble_eq_true rfl) (hc_rr_rm (by decide)) ⟨Nat.zero_le _, Nat.zero_le _⟩ dX1_run_10 (fun M_10 h_10 => ?_)
  obtain rfl := h_10
  refine hc_iload_n C dX1_run_13 rfl rfl ?_
  refine hc_iconst C dX1_run_14 (v := 1) rfl ?_
  refine hc_iadd C dX1_run_15 ?_
  refine hc_top (nI_1 dp) ?_
  refine hc_istore_n3 C dX1_run_16 rfl (by decide) rfl ?_
  refine hc_iload_n C dX1_run_17 rfl rfl ?_
  refine hc_tableIn C (off := 79) (tgt := 97) dX1_run_18 (by decide) (by decide) rfl (by decide) ?_
  refine hc_aload_n C dX1_run_97 rfl rfl ?_
  refine hc_bipush C dX1_run_98 (v := 10) rfl ?_
  refine hc_iload_n C dX1_run_100 rfl rfl ?_
  refine hc_cV2i C mv_X1_53 (c_run_10 C.ok (by first | omega | (simp only [List.length_append, List.length_cons, List.length_nil]; omega)) (by omega)) rfl rfl rfl (Nat.le_of_ble_eq_true rfl) (hc_rr_rm (by decide)) ⟨Nat.zero_le _, Nat.zero_le _⟩ dX1_run_101 (fun r_101 M_101 h_101 => ?_)
  obtain ⟨rfl, rfl⟩ := h_101
  refine hc_aload_n C dX1_run_104 rfl rfl ?_
  refine hc_iconst C dX1_run_105 (v := 1) rfl ?_
  refine hc_iload_n C dX1_run_106 rfl rfl ?_
  refine hc_cV2i C mv_X1_40 (c_begin_1_1 C.ok (show _ = _ from hk) (by first | omega | (simp only [List.length_append, List.length_cons, List.length_nil]; omega)) (by omega)) rfl rfl rfl (Nat.le_of_ble_eq_true rfl) (hc_rr_rm (by decide)) ⟨Nat.zero_le _, Nat.zero_le _⟩ dX1_run_107 (fun r_107 M_107 h_107 => ?_)
  obtain ⟨rfl, rfl⟩ := h_107
  refine hc_iadd C dX1_run_110 ?_
  refine hc_iret C rfl dX1_run_111 ?_
  exact ⟨rfl, by simp only [List.append_assoc, List.cons_append, List.nil_append]⟩

set_option maxRecDepth 100000 in
set_option maxHeartbeats 4000000 in
theorem c_run_11_k2 {l : Launch} {G : hc_Geo} (hG : hc_ok G) {M : hc_Mem} {dp : Nat} {l0 : List Int32}  (hk : M 46 3 = 2) (hl : l0.length + 5 ≤ 16) (hdp : dp < 6) : hc_M l G yX1_run cX1_run 4 (some .int) 6 [.ref (hc_ad G 46), .int 11, .int (nI dp)] (hTr M l0) (hc_pi (fun z M' => (M 46 4 + (2 * (M 46 2 + M 46 5))) = z ∧ hTr M (l0 ++ [11, 10, 24, 21, 20]) = M')) := by
  refine hc_M.of hG (by decide) [some (.ref (hc_ad G 46)), some (.int 11), some (.int (nI dp)), none] rfl (Nat.le_of_ble_eq_true rfl) ?_
  intro p e s m args below meth c C
  refine hc_iload_n C dX1_run_0 rfl rfl ?_
  refine hc_bipush C dX1_run_1 (v := 16) rfl ?_
  refine hc_icmp_lt C (tgt := 8) dX1_run_3 (by decide) (fun c_3 => ?_) (fun c_3 => ?_)
  rotate_left
  · exact absurd (show nI dp < nI 16 from nI_lt (by omega) (by decide)) c_3
  refine hc_aload_n C dX1_run_8 rfl rfl ?_
  refine hc_iload_n C dX1_run_9 rfl rfl ?_
  refine hc_cV1v C mv_X1_66 (c_X1_leaveTrace C.ok (by first | omega | (simp only [List.length_append, List.length_cons, List.length_nil]; omega))) rfl rfl rfl (Nat.le_of_ble_eq_true rfl) (hc_rr_rm (by decide)) ⟨Nat.zero_le _, Nat.zero_le _⟩ dX1_run_10 (fun M_10 h_10 => ?_)
  obtain rfl := h_10
  refine hc_iload_n C dX1_run_13 rfl rfl ?_
  refine hc_iconst C dX1_run_14 (v := 1) rfl ?_
  refine hc_iadd C dX1_run_15 ?_
  refine hc_top (nI_1 dp) ?_
  refine hc_istore_n3 C dX1_run_16 rfl (by decide) rfl ?_
  refine hc_iload_n C dX1_run_17 rfl rfl ?_
  refine hc_tableIn C (off := 79) (tgt := 97) dX1_run_18 (by decide) (by decide) rfl (by decide) ?_
  refine hc_aload_n C dX1_run_97 rfl rfl ?_
  refine hc_bipush C dX1_run_98 (v := 10) rfl ?_
  refine hc_iload_n C dX1_run_100 rfl rfl ?_
  refine hc_cV2i C mv_X1_53 (c_run_10 C.ok (by first | omega | (simp only [List.length_append, List.length_cons, List.length_nil]; omega)) (by omega)) rfl rfl rfl (Nat.le_of_ble_eq_true rfl) (hc_rr_rm (by decide)) ⟨Nat.zero_le _, Nat.zero_le _⟩ dX1_run_101 (fun r_101 M_101 h_101 => ?_)
  obtain ⟨rfl, rfl⟩ := h_101
  refine hc_aload_n C dX1_run_104 rfl rfl ?_
  refine hc_iconst C dX1_run_105 (v := 1) rfl ?_
  refine hc_iload_n C dX1_run_106 rfl rfl ?_
  refine hc_cV2i C mv_X1_40 (c_begin_2_1 C.ok (show _ = _ from hk) (by first | omega | (simp only [List.length_append, List.length_cons, List.length_nil]; omega)) (by omega)) rfl rfl rfl (Nat.le_of_ble_eq_true rfl) (hc_rr_rm (by decide)) ⟨Nat.zero_le _, Nat.zero_le _⟩ dX1_run_107 (fun r_107 M_107 h_107 => ?_)
  obtain ⟨rfl, rfl⟩ := h_107
  refine hc_iadd C dX1_run_110 ?_
  refine hc_iret C rfl dX1_run_111 ?_
  exact ⟨rfl, by simp only [List.append_assoc, List.cons_append, List.nil_append]⟩

set_option maxRecDepth 100000 in
set_option maxHeartbeats 4000000 in
theorem c_run_11_k3 {l : Launch} {G : hc_Geo} (hG : hc_ok G) {M : hc_Mem} {dp : Nat} {l0 : List Int32}  (hk : M 46 3 = 3) (hl : l0.length + 5 ≤ 16) (hdp : dp < 6) : hc_M l G yX1_run cX1_run 4 (some .int) 6 [.ref (hc_ad G 46), .int 11, .int (nI dp)] (hTr M l0) (hc_pi (fun z M' => (M 46 4 + ((M 46 2 + M 46 5) - 1000)) = z ∧ hTr M (l0 ++ [11, 10, 22, 21, 20]) = M')) := by
  refine hc_M.of hG (by decide) [some (.ref (hc_ad G 46)), some (.int 11), some (.int (nI dp)), none] rfl (Nat.le_of_ble_eq_true rfl) ?_
  intro p e s m args below meth c C
  refine hc_iload_n C dX1_run_0 rfl rfl ?_
  refine hc_bipush C dX1_run_1 (v := 16) rfl ?_
  refine hc_icmp_lt C (tgt := 8) dX1_run_3 (by decide) (fun c_3 => ?_) (fun c_3 => ?_)
  rotate_left
  · exact absurd (show nI dp < nI 16 from nI_lt (by omega) (by decide)) c_3
  refine hc_aload_n C dX1_run_8 rfl rfl ?_
  refine hc_iload_n C dX1_run_9 rfl rfl ?_
  refine hc_cV1v C mv_X1_66 (c_X1_leaveTrace C.ok (by first | omega | (simp only [List.length_append, List.length_cons, List.length_nil]; omega))) rfl rfl rfl (Nat.le_of_ble_eq_true rfl) (hc_rr_rm (by decide)) ⟨Nat.zero_le _, Nat.zero_le _⟩ dX1_run_10 (fun M_10 h_10 => ?_)
  obtain rfl := h_10
  refine hc_iload_n C dX1_run_13 rfl rfl ?_
  refine hc_iconst C dX1_run_14 (v := 1) rfl ?_
  refine hc_iadd C dX1_run_15 ?_
  refine hc_top (nI_1 dp) ?_
  refine hc_istore_n3 C dX1_run_16 rfl (by decide) rfl ?_
  refine hc_iload_n C dX1_run_17 rfl rfl ?_
  refine hc_tableIn C (off := 79) (tgt := 97) dX1_run_18 (by decide) (by decide) rfl (by decide) ?_
  refine hc_aload_n C dX1_run_97 rfl rfl ?_
  refine hc_bipush C dX1_run_98 (v := 10) rfl ?_
  refine hc_iload_n C dX1_run_100 rfl rfl ?_
  refine hc_cV2i C mv_X1_53 (c_run_10 C.ok (by first | omega | (simp only [List.length_append, List.length_cons, List.length_nil]; omega)) (by omega)) rfl rfl rfl (Nat.le_of_ble_eq_true rfl) (hc_rr_rm (by decide)) ⟨Nat.zero_le _, Nat.zero_le _⟩ dX1_run_101 (fun r_101 M_101 h_101 => ?_)
  obtain ⟨rfl, rfl⟩ := h_101
  refine hc_aload_n C dX1_run_104 rfl rfl ?_
  refine hc_iconst C dX1_run_105 (v := 1) rfl ?_
  refine hc_iload_n C dX1_run_106 rfl rfl ?_
  refine hc_cV2i C mv_X1_40 (c_begin_3_1 C.ok (show _ = _ from hk) (by first | omega | (simp only [List.length_append, List.length_cons, List.length_nil]; omega)) (by omega)) rfl rfl rfl (Nat.le_of_ble_eq_true rfl) (hc_rr_rm (by decide)) ⟨Nat.zero_le _, Nat.zero_le _⟩ dX1_run_107 (fun r_107 M_107 h_107 => ?_)
  obtain ⟨rfl, rfl⟩ := h_107
  refine hc_iadd C dX1_run_110 ?_
  refine hc_iret C rfl dX1_run_111 ?_
  exact ⟨rfl, by simp only [List.append_assoc, List.cons_append, List.nil_append]⟩

set_option maxRecDepth 100000 in
set_option maxHeartbeats 4000000 in
theorem c_run_12_k2 {l : Launch} {G : hc_Geo} (hG : hc_ok G) {M : hc_Mem} {dp : Nat} {l0 : List Int32}  (hk : M 46 3 = 2) (hl : l0.length + 6 ≤ 16) (hdp : dp < 5) : hc_M l G yX1_run cX1_run 4 (some .int) 7 [.ref (hc_ad G 46), .int 12, .int (nI dp)] (hTr M l0) (hc_pi (fun z M' => (-(M 46 4 + (2 * (M 46 2 + M 46 5)))) = z ∧ hTr M (l0 ++ [12, 11, 10, 24, 21, 20]) = M')) := by
  refine hc_M.of hG (by decide) [some (.ref (hc_ad G 46)), some (.int 12), some (.int (nI dp)), none] rfl (Nat.le_of_ble_eq_true rfl) ?_
  intro p e s m args below meth c C
  refine hc_iload_n C dX1_run_0 rfl rfl ?_
  refine hc_bipush C dX1_run_1 (v := 16) rfl ?_
  refine hc_icmp_lt C (tgt := 8) dX1_run_3 (by decide) (fun c_3 => ?_) (fun c_3 => ?_)
  rotate_left
  · exact absurd (show nI dp < nI 16 from nI_lt (by omega) (by decide)) c_3
  refine hc_aload_n C dX1_run_8 rfl rfl ?_
  refine hc_iload_n C dX1_run_9 rfl rfl ?_
  refine hc_cV1v C mv_X1_66 (c_X1_leaveTrace C.ok (by first | omega | (simp only [List.length_append, List.length_cons, List.length_nil]; omega))) rfl rfl rfl (Nat.le_of_ble_eq_true rfl) (hc_rr_rm (by decide)) ⟨Nat.zero_le _, Nat.zero_le _⟩ dX1_run_10 (fun M_10 h_10 => ?_)
  obtain rfl := h_10
  refine hc_iload_n C dX1_run_13 rfl rfl ?_
  refine hc_iconst C dX1_run_14 (v := 1) rfl ?_
  refine hc_iadd C dX1_run_15 ?_
  refine hc_top (nI_1 dp) ?_
  refine hc_istore_n3 C dX1_run_16 rfl (by decide) rfl ?_
  refine hc_iload_n C dX1_run_17 rfl rfl ?_
  refine hc_tableIn C (off := 94) (tgt := 112) dX1_run_18 (by decide) (by decide) rfl (by decide) ?_
  refine hc_aload_n C dX1_run_112 rfl rfl ?_
  refine hc_bipush C dX1_run_113 (v := 11) rfl ?_
  refine hc_iload_n C dX1_run_115 rfl rfl ?_
  refine hc_cV2i C mv_X1_53 (c_run_11_k2 C.ok (show _ = _ from hk) (by first | omega | (simp only [List.length_append, List.length_cons, List.length_nil]; omega)) (by omega)) rfl rfl rfl (Nat.le_of_ble_eq_true rfl) (hc_rr_rm (by decide)) ⟨Nat.zero_le _, Nat.zero_le _⟩ dX1_run_116 (fun r_116 M_116 h_116 => ?_)
  obtain ⟨rfl, rfl⟩ := h_116
  refine hc_ineg C dX1_run_119 ?_
  refine hc_iret C rfl dX1_run_120 ?_
  exact ⟨rfl, by simp only [List.append_assoc, List.cons_append, List.nil_append]⟩

set_option maxRecDepth 100000 in
set_option maxHeartbeats 4000000 in
theorem c_begin_1_0 {l : Launch} {G : hc_Geo} (hG : hc_ok G) {M : hc_Mem} {dp : Nat} {l0 : List Int32}  (hk : M 46 3 = 1) (hl : l0.length + 4 ≤ 16) (hdp : dp < 4) : hc_M l G yX1_begin cX1_begin 4 (some .int) 8 [.ref (hc_ad G 46), .int 0, .int (nI dp)] (hTr M l0) (hc_pi (fun z M' => (M 46 4 + (M 46 2 + M 46 5)) = z ∧ hTr M (l0 ++ [11, 10, 21, 20]) = M')) := by
  refine hc_M.of hG (by decide) [some (.ref (hc_ad G 46)), some (.int 0), some (.int (nI dp)), none] rfl (Nat.le_of_ble_eq_true rfl) ?_
  intro p e s m args below meth c C
  refine hc_aload_n C dX1_begin_0 rfl rfl ?_
  refine hc_getI C fl_X1_20 rfl rfl dX1_begin_1 ?_
  refine hc_top (show _ = _ from hk) ?_
  refine hc_iload_n C dX1_begin_4 rfl rfl ?_
  refine hc_cS2i C ms_X1_44 (c_bodyFor_1_0 C.ok) (Nat.le_of_ble_eq_true rfl) (hc_rr_rm (by decide)) ⟨Nat.zero_le _, Nat.zero_le _⟩ dX1_begin_5 (fun r_5 M_5 h_5 => ?_)
  obtain ⟨rfl, rfl⟩ := h_5
  refine hc_istore_n3 C dX1_begin_8 rfl (by decide) rfl ?_
  refine hc_iload_n C dX1_begin_9 rfl rfl ?_
  refine hc_if_ne C (tgt := 25) dX1_begin_10 (by decide) (fun c_10 => ?_) (fun c_10 => ?_)
  rotate_left
  · exact absurd c_10 (by decide)
  refine hc_aload_n C dX1_begin_25 rfl rfl ?_
  refine hc_iload_n C dX1_begin_26 rfl rfl ?_
  refine hc_iload_n C dX1_begin_27 rfl rfl ?_
  refine hc_cV2i C mv_X1_53 (c_run_11_k1 C.ok hk hl (by omega)) rfl rfl rfl (Nat.le_of_ble_eq_true rfl) (hc_rr_rm (by decide)) ⟨Nat.zero_le _, Nat.zero_le _⟩ dX1_begin_28 (fun r_28 M_28 h_28 => ?_)
  obtain ⟨rfl, rfl⟩ := h_28
  refine hc_iret C rfl dX1_begin_31 ?_
  exact ⟨rfl, rfl⟩

set_option maxRecDepth 100000 in
set_option maxHeartbeats 4000000 in
theorem c_begin_2_0 {l : Launch} {G : hc_Geo} (hG : hc_ok G) {M : hc_Mem} {dp : Nat} {l0 : List Int32}  (hk : M 46 3 = 2) (hl : l0.length + 6 ≤ 16) (hdp : dp < 4) : hc_M l G yX1_begin cX1_begin 4 (some .int) 8 [.ref (hc_ad G 46), .int 0, .int (nI dp)] (hTr M l0) (hc_pi (fun z M' => (-(M 46 4 + (2 * (M 46 2 + M 46 5)))) = z ∧ hTr M (l0 ++ [12, 11, 10, 24, 21, 20]) = M')) := by
  refine hc_M.of hG (by decide) [some (.ref (hc_ad G 46)), some (.int 0), some (.int (nI dp)), none] rfl (Nat.le_of_ble_eq_true rfl) ?_
  intro p e s m args below meth c C
  refine hc_aload_n C dX1_begin_0 rfl rfl ?_
  refine hc_getI C fl_X1_20 rfl rfl dX1_begin_1 ?_
  refine hc_top (show _ = _ from hk) ?_
  refine hc_iload_n C dX1_begin_4 rfl rfl ?_
  refine hc_cS2i C ms_X1_44 (c_bodyFor_2_0 C.ok) (Nat.le_of_ble_eq_true rfl) (hc_rr_rm (by decide)) ⟨Nat.zero_le _, Nat.zero_le _⟩ dX1_begin_5 (fun r_5 M_5 h_5 => ?_)
  obtain ⟨rfl, rfl⟩ := h_5
  refine hc_istore_n3 C dX1_begin_8 rfl (by decide) rfl ?_
  refine hc_iload_n C dX1_begin_9 rfl rfl ?_
  refine hc_if_ne C (tgt := 25) dX1_begin_10 (by decide) (fun c_10 => ?_) (fun c_10 => ?_)
  rotate_left
  · exact absurd c_10 (by decide)
  refine hc_aload_n C dX1_begin_25 rfl rfl ?_
  refine hc_iload_n C dX1_begin_26 rfl rfl ?_
  refine hc_iload_n C dX1_begin_27 rfl rfl ?_
  refine hc_cV2i C mv_X1_53 (c_run_12_k2 C.ok hk hl (by omega)) rfl rfl rfl (Nat.le_of_ble_eq_true rfl) (hc_rr_rm (by decide)) ⟨Nat.zero_le _, Nat.zero_le _⟩ dX1_begin_28 (fun r_28 M_28 h_28 => ?_)
  obtain ⟨rfl, rfl⟩ := h_28
  refine hc_iret C rfl dX1_begin_31 ?_
  exact ⟨rfl, rfl⟩

set_option maxRecDepth 100000 in
set_option maxHeartbeats 4000000 in
theorem c_begin_3_0 {l : Launch} {G : hc_Geo} (hG : hc_ok G) {M : hc_Mem} {dp : Nat} {l0 : List Int32}  (hk : M 46 3 = 3) (hl : l0.length + 5 ≤ 16) (hdp : dp < 4) : hc_M l G yX1_begin cX1_begin 4 (some .int) 8 [.ref (hc_ad G 46), .int 0, .int (nI dp)] (hTr M l0) (hc_pi (fun z M' => (M 46 4 + ((M 46 2 + M 46 5) - 1000)) = z ∧ hTr M (l0 ++ [11, 10, 22, 21, 20]) = M')) := by
  refine hc_M.of hG (by decide) [some (.ref (hc_ad G 46)), some (.int 0), some (.int (nI dp)), none] rfl (Nat.le_of_ble_eq_true rfl) ?_
  intro p e s m args below meth c C
  refine hc_aload_n C dX1_begin_0 rfl rfl ?_
  refine hc_getI C fl_X1_20 rfl rfl dX1_begin_1 ?_
  refine hc_top (show _ = _ from hk) ?_
  refine hc_iload_n C dX1_begin_4 rfl rfl ?_
  refine hc_cS2i C ms_X1_44 (c_bodyFor_3_0 C.ok) (Nat.le_of_ble_eq_true rfl) (hc_rr_rm (by decide)) ⟨Nat.zero_le _, Nat.zero_le _⟩ dX1_begin_5 (fun r_5 M_5 h_5 => ?_)
  obtain ⟨rfl, rfl⟩ := h_5
  refine hc_istore_n3 C dX1_begin_8 rfl (by decide) rfl ?_
  refine hc_iload_n C dX1_begin_9 rfl rfl ?_
  refine hc_if_ne C (tgt := 25) dX1_begin_10 (by decide) (fun c_10 => ?_) (fun c_10 => ?_)
  · exact absurd rfl c_10
  refine hc_aload_n C dX1_begin_13 rfl rfl ?_
  refine hc_getI C fl_X1_20 rfl rfl dX1_begin_14 ?_
  refine hc_top (show _ = _ from hk) ?_
  refine hc_cS1i C ms_X1_47 (c_X4_nearest C.ok) (Nat.le_of_ble_eq_true rfl) (hc_rr_rm (by decide)) ⟨Nat.zero_le _, Nat.zero_le _⟩ dX1_begin_17 (fun r_17 M_17 h_17 => ?_)
  obtain ⟨rfl, rfl⟩ := h_17
  refine hc_top (v := 1) (by decide) ?_
  refine hc_iload_n C dX1_begin_20 rfl rfl ?_
  refine hc_cS2i C ms_X1_44 (c_bodyFor_1_0 C.ok) (Nat.le_of_ble_eq_true rfl) (hc_rr_rm (by decide)) ⟨Nat.zero_le _, Nat.zero_le _⟩ dX1_begin_21 (fun r_21 M_21 h_21 => ?_)
  obtain ⟨rfl, rfl⟩ := h_21
  refine hc_istore_n3 C dX1_begin_24 rfl (by decide) rfl ?_
  refine hc_aload_n C dX1_begin_25 rfl rfl ?_
  refine hc_iload_n C dX1_begin_26 rfl rfl ?_
  refine hc_iload_n C dX1_begin_27 rfl rfl ?_
  refine hc_cV2i C mv_X1_53 (c_run_11_k3 C.ok hk hl (by omega)) rfl rfl rfl (Nat.le_of_ble_eq_true rfl) (hc_rr_rm (by decide)) ⟨Nat.zero_le _, Nat.zero_le _⟩ dX1_begin_28 (fun r_28 M_28 h_28 => ?_)
  obtain ⟨rfl, rfl⟩ := h_28
  refine hc_iret C rfl dX1_begin_31 ?_
  exact ⟨rfl, rfl⟩

set_option maxRecDepth 100000 in
set_option maxHeartbeats 4000000 in
theorem c_begin_4_0 {l : Launch} {G : hc_Geo} (hG : hc_ok G) {M : hc_Mem} {dp : Nat} {l0 : List Int32}  (hk : M 46 3 = 4) (hl : l0.length + 2 ≤ 16) (hdp : dp < 4) : hc_M l G yX1_begin cX1_begin 4 (some .int) 8 [.ref (hc_ad G 46), .int 0, .int (nI dp)] (hTr M l0) (hc_pi (fun z M' => (M 46 4 - 100) = z ∧ hTr M (l0 ++ [13, 10]) = M')) := by
  refine hc_M.of hG (by decide) [some (.ref (hc_ad G 46)), some (.int 0), some (.int (nI dp)), none] rfl (Nat.le_of_ble_eq_true rfl) ?_
  intro p e s m args below meth c C
  refine hc_aload_n C dX1_begin_0 rfl rfl ?_
  refine hc_getI C fl_X1_20 rfl rfl dX1_begin_1 ?_
  refine hc_top (show _ = _ from hk) ?_
  refine hc_iload_n C dX1_begin_4 rfl rfl ?_
  refine hc_cS2i C ms_X1_44 (c_bodyFor_4_0 C.ok) (Nat.le_of_ble_eq_true rfl) (hc_rr_rm (by decide)) ⟨Nat.zero_le _, Nat.zero_le _⟩ dX1_begin_5 (fun r_5 M_5 h_5 => ?_)
  obtain ⟨rfl, rfl⟩ := h_5
  refine hc_istore_n3 C dX1_begin_8 rfl (by decide) rfl ?_
  refine hc_iload_n C dX1_begin_9 rfl rfl ?_
  refine hc_if_ne C (tgt := 25) dX1_begin_10 (by decide) (fun c_10 => ?_) (fun c_10 => ?_)
  rotate_left
  · exact absurd c_10 (by decide)
  refine hc_aload_n C dX1_begin_25 rfl rfl ?_
  refine hc_iload_n C dX1_begin_26 rfl rfl ?_
  refine hc_iload_n C dX1_begin_27 rfl rfl ?_
  refine hc_cV2i C mv_X1_53 (c_run_13 C.ok hl (by omega)) rfl rfl rfl (Nat.le_of_ble_eq_true rfl) (hc_rr_rm (by decide)) ⟨Nat.zero_le _, Nat.zero_le _⟩ dX1_begin_28 (fun r_28 M_28 h_28 => ?_)
  obtain ⟨rfl, rfl⟩ := h_28
  refine hc_iret C rfl dX1_begin_31 ?_
  exact ⟨rfl, rfl⟩

set_option maxRecDepth 100000 in
set_option maxHeartbeats 4000000 in
theorem c_begin_5_0 {l : Launch} {G : hc_Geo} (hG : hc_ok G) {M : hc_Mem} {dp : Nat} {l0 : List Int32}  (hk : M 46 3 = 5) (hl : l0.length + 3 ≤ 16) (hdp : dp < 4) : hc_M l G yX1_begin cX1_begin 4 (some .int) 8 [.ref (hc_ad G 46), .int 0, .int (nI dp)] (hTr M l0) (hc_pi (fun z M' => (2 * (M 46 4 - 100)) = z ∧ hTr M (l0 ++ [14, 13, 10]) = M')) := by
  refine hc_M.of hG (by decide) [some (.ref (hc_ad G 46)), some (.int 0), some (.int (nI dp)), none] rfl (Nat.le_of_ble_eq_true rfl) ?_
  intro p e s m args below meth c C
  refine hc_aload_n C dX1_begin_0 rfl rfl ?_
  refine hc_getI C fl_X1_20 rfl rfl dX1_begin_1 ?_
  refine hc_top (show _ = _ from hk) ?_
  refine hc_iload_n C dX1_begin_4 rfl rfl ?_
  refine hc_cS2i C ms_X1_44 (c_bodyFor_5_0 C.ok) (Nat.le_of_ble_eq_true rfl) (hc_rr_rm (by decide)) ⟨Nat.zero_le _, Nat.zero_le _⟩ dX1_begin_5 (fun r_5 M_5 h_5 => ?_)
  obtain ⟨rfl, rfl⟩ := h_5
  refine hc_istore_n3 C dX1_begin_8 rfl (by decide) rfl ?_
  refine hc_iload_n C dX1_begin_9 rfl rfl ?_
  refine hc_if_ne C (tgt := 25) dX1_begin_10 (by decide) (fun c_10 => ?_) (fun c_10 => ?_)
  rotate_left
  · exact absurd c_10 (by decide)
  refine hc_aload_n C dX1_begin_25 rfl rfl ?_
  refine hc_iload_n C dX1_begin_26 rfl rfl ?_
  refine hc_iload_n C dX1_begin_27 rfl rfl ?_
  refine hc_cV2i C mv_X1_53 (c_run_14 C.ok hl (by omega)) rfl rfl rfl (Nat.le_of_ble_eq_true rfl) (hc_rr_rm (by decide)) ⟨Nat.zero_le _, Nat.zero_le _⟩ dX1_begin_28 (fun r_28 M_28 h_28 => ?_)
  obtain ⟨rfl, rfl⟩ := h_28
  refine hc_iret C rfl dX1_begin_31 ?_
  exact ⟨rfl, rfl⟩

set_option maxRecDepth 100000 in
set_option maxHeartbeats 4000000 in
theorem c_run_23_k4 {l : Launch} {G : hc_Geo} (hG : hc_ok G) {M : hc_Mem} {dp : Nat} {l0 : List Int32}  (hk : M 46 3 = 4) (hl : l0.length + 4 ≤ 16) (hdp : dp < 3) : hc_M l G yX1_run cX1_run 4 (some .int) 9 [.ref (hc_ad G 46), .int 23, .int (nI dp)] (hTr M l0) (hc_pi (fun z M' => (M 46 2 - (M 46 4 - 100)) = z ∧ hTr M (l0 ++ [23, 20, 13, 10]) = M')) := by
  refine hc_M.of hG (by decide) [some (.ref (hc_ad G 46)), some (.int 23), some (.int (nI dp)), none] rfl (Nat.le_of_ble_eq_true rfl) ?_
  intro p e s m args below meth c C
  refine hc_iload_n C dX1_run_0 rfl rfl ?_
  refine hc_bipush C dX1_run_1 (v := 16) rfl ?_
  refine hc_icmp_lt C (tgt := 8) dX1_run_3 (by decide) (fun c_3 => ?_) (fun c_3 => ?_)
  rotate_left
  · exact absurd (show nI dp < nI 16 from nI_lt (by omega) (by decide)) c_3
  refine hc_aload_n C dX1_run_8 rfl rfl ?_
  refine hc_iload_n C dX1_run_9 rfl rfl ?_
  refine hc_cV1v C mv_X1_66 (c_X1_leaveTrace C.ok (by first | omega | (simp only [List.length_append, List.length_cons, List.length_nil]; omega))) rfl rfl rfl (Nat.le_of_ble_eq_true rfl) (hc_rr_rm (by decide)) ⟨Nat.zero_le _, Nat.zero_le _⟩ dX1_run_10 (fun M_10 h_10 => ?_)
  obtain rfl := h_10
  refine hc_iload_n C dX1_run_13 rfl rfl ?_
  refine hc_iconst C dX1_run_14 (v := 1) rfl ?_
  refine hc_iadd C dX1_run_15 ?_
  refine hc_top (nI_1 dp) ?_
  refine hc_istore_n3 C dX1_run_16 rfl (by decide) rfl ?_
  refine hc_iload_n C dX1_run_17 rfl rfl ?_
  refine hc_tableIn C (off := 154) (tgt := 172) dX1_run_18 (by decide) (by decide) rfl (by decide) ?_
  refine hc_aload_n C dX1_run_172 rfl rfl ?_
  refine hc_bipush C dX1_run_173 (v := 20) rfl ?_
  refine hc_iload_n C dX1_run_175 rfl rfl ?_
  refine hc_cV2i C mv_X1_53 (c_run_20 C.ok (by first | omega | (simp only [List.length_append, List.length_cons, List.length_nil]; omega)) (by omega)) rfl rfl rfl (Nat.le_of_ble_eq_true rfl) (hc_rr_rm (by decide)) ⟨Nat.zero_le _, Nat.zero_le _⟩ dX1_run_176 (fun r_176 M_176 h_176 => ?_)
  obtain ⟨rfl, rfl⟩ := h_176
  refine hc_aload_n C dX1_run_179 rfl rfl ?_
  refine hc_iconst C dX1_run_180 (v := 0) rfl ?_
  refine hc_iload_n C dX1_run_181 rfl rfl ?_
  refine hc_cV2i C mv_X1_40 (c_begin_4_0 C.ok (show _ = _ from hk) (by first | omega | (simp only [List.length_append, List.length_cons, List.length_nil]; omega)) (by omega)) rfl rfl rfl (Nat.le_of_ble_eq_true rfl) (hc_rr_rm (by decide)) ⟨Nat.zero_le _, Nat.zero_le _⟩ dX1_run_182 (fun r_182 M_182 h_182 => ?_)
  obtain ⟨rfl, rfl⟩ := h_182
  refine hc_isub C dX1_run_185 ?_
  refine hc_iret C rfl dX1_run_186 ?_
  exact ⟨rfl, by simp only [List.append_assoc, List.cons_append, List.nil_append]⟩

set_option maxRecDepth 100000 in
set_option maxHeartbeats 4000000 in
theorem c_begin_4_1 {l : Launch} {G : hc_Geo} (hG : hc_ok G) {M : hc_Mem} {dp : Nat} {l0 : List Int32}  (hk : M 46 3 = 4) (hl : l0.length + 4 ≤ 16) (hdp : dp < 2) : hc_M l G yX1_begin cX1_begin 4 (some .int) 10 [.ref (hc_ad G 46), .int 1, .int (nI dp)] (hTr M l0) (hc_pi (fun z M' => (M 46 2 - (M 46 4 - 100)) = z ∧ hTr M (l0 ++ [23, 20, 13, 10]) = M')) := by
  refine hc_M.of hG (by decide) [some (.ref (hc_ad G 46)), some (.int 1), some (.int (nI dp)), none] rfl (Nat.le_of_ble_eq_true rfl) ?_
  intro p e s m args below meth c C
  refine hc_aload_n C dX1_begin_0 rfl rfl ?_
  refine hc_getI C fl_X1_20 rfl rfl dX1_begin_1 ?_
  refine hc_top (show _ = _ from hk) ?_
  refine hc_iload_n C dX1_begin_4 rfl rfl ?_
  refine hc_cS2i C ms_X1_44 (c_bodyFor_4_1 C.ok) (Nat.le_of_ble_eq_true rfl) (hc_rr_rm (by decide)) ⟨Nat.zero_le _, Nat.zero_le _⟩ dX1_begin_5 (fun r_5 M_5 h_5 => ?_)
  obtain ⟨rfl, rfl⟩ := h_5
  refine hc_istore_n3 C dX1_begin_8 rfl (by decide) rfl ?_
  refine hc_iload_n C dX1_begin_9 rfl rfl ?_
  refine hc_if_ne C (tgt := 25) dX1_begin_10 (by decide) (fun c_10 => ?_) (fun c_10 => ?_)
  rotate_left
  · exact absurd c_10 (by decide)
  refine hc_aload_n C dX1_begin_25 rfl rfl ?_
  refine hc_iload_n C dX1_begin_26 rfl rfl ?_
  refine hc_iload_n C dX1_begin_27 rfl rfl ?_
  refine hc_cV2i C mv_X1_53 (c_run_23_k4 C.ok hk hl (by omega)) rfl rfl rfl (Nat.le_of_ble_eq_true rfl) (hc_rr_rm (by decide)) ⟨Nat.zero_le _, Nat.zero_le _⟩ dX1_begin_28 (fun r_28 M_28 h_28 => ?_)
  obtain ⟨rfl, rfl⟩ := h_28
  refine hc_iret C rfl dX1_begin_31 ?_
  exact ⟨rfl, rfl⟩

set_option maxRecDepth 100000 in
set_option maxHeartbeats 4000000 in
theorem c_run_23_k5 {l : Launch} {G : hc_Geo} (hG : hc_ok G) {M : hc_Mem} {dp : Nat} {l0 : List Int32}  (hk : M 46 3 = 5) (hl : l0.length + 5 ≤ 16) (hdp : dp < 3) : hc_M l G yX1_run cX1_run 4 (some .int) 9 [.ref (hc_ad G 46), .int 23, .int (nI dp)] (hTr M l0) (hc_pi (fun z M' => (M 46 2 - (2 * (M 46 4 - 100))) = z ∧ hTr M (l0 ++ [23, 20, 14, 13, 10]) = M')) := by
  refine hc_M.of hG (by decide) [some (.ref (hc_ad G 46)), some (.int 23), some (.int (nI dp)), none] rfl (Nat.le_of_ble_eq_true rfl) ?_
  intro p e s m args below meth c C
  refine hc_iload_n C dX1_run_0 rfl rfl ?_
  refine hc_bipush C dX1_run_1 (v := 16) rfl ?_
  refine hc_icmp_lt C (tgt := 8) dX1_run_3 (by decide) (fun c_3 => ?_) (fun c_3 => ?_)
  rotate_left
  · exact absurd (show nI dp < nI 16 from nI_lt (by omega) (by decide)) c_3
  refine hc_aload_n C dX1_run_8 rfl rfl ?_
  refine hc_iload_n C dX1_run_9 rfl rfl ?_
  refine hc_cV1v C mv_X1_66 (c_X1_leaveTrace C.ok (by first | omega | (simp only [List.length_append, List.length_cons, List.length_nil]; omega))) rfl rfl rfl (Nat.le_of_ble_eq_true rfl) (hc_rr_rm (by decide)) ⟨Nat.zero_le _, Nat.zero_le _⟩ dX1_run_10 (fun M_10 h_10 => ?_)
  obtain rfl := h_10
  refine hc_iload_n C dX1_run_13 rfl rfl ?_
  refine hc_iconst C dX1_run_14 (v := 1) rfl ?_
  refine hc_iadd C dX1_run_15 ?_
  refine hc_top (nI_1 dp) ?_
  refine hc_istore_n3 C dX1_run_16 rfl (by decide) rfl ?_
  refine hc_iload_n C dX1_run_17 rfl rfl ?_
  refine hc_tableIn C (off := 154) (tgt := 172) dX1_run_18 (by decide) (by decide) rfl (by decide) ?_
  refine hc_aload_n C dX1_run_172 rfl rfl ?_
  refine hc_bipush C dX1_run_173 (v := 20) rfl ?_
  refine hc_iload_n C dX1_run_175 rfl rfl ?_
  refine hc_cV2i C mv_X1_53 (c_run_20 C.ok (by first | omega | (simp only [List.length_append, List.length_cons, List.length_nil]; omega)) (by omega)) rfl rfl rfl (Nat.le_of_ble_eq_true rfl) (hc_rr_rm (by decide)) ⟨Nat.zero_le _, Nat.zero_le _⟩ dX1_run_176 (fun r_176 M_176 h_176 => ?_)
  obtain ⟨rfl, rfl⟩ := h_176
  refine hc_aload_n C dX1_run_179 rfl rfl ?_
  refine hc_iconst C dX1_run_180 (v := 0) rfl ?_
  refine hc_iload_n C dX1_run_181 rfl rfl ?_
  refine hc_cV2i C mv_X1_40 (c_begin_5_0 C.ok (show _ = _ from hk) (by first | omega | (simp only [List.length_append, List.length_cons, List.length_nil]; omega)) (by omega)) rfl rfl rfl (Nat.le_of_ble_eq_true rfl) (hc_rr_rm (by decide)) ⟨Nat.zero_le _, Nat.zero_le _⟩ dX1_run_182 (fun r_182 M_182 h_182 => ?_)
  obtain ⟨rfl, rfl⟩ := h_182
  refine hc_isub C dX1_run_185 ?_
  refine hc_iret C rfl dX1_run_186 ?_
  exact ⟨rfl, by simp only [List.append_assoc, List.cons_append, List.nil_append]⟩

set_option maxRecDepth 100000 in
set_option maxHeartbeats 4000000 in
theorem c_begin_5_1 {l : Launch} {G : hc_Geo} (hG : hc_ok G) {M : hc_Mem} {dp : Nat} {l0 : List Int32}  (hk : M 46 3 = 5) (hl : l0.length + 5 ≤ 16) (hdp : dp < 2) : hc_M l G yX1_begin cX1_begin 4 (some .int) 10 [.ref (hc_ad G 46), .int 1, .int (nI dp)] (hTr M l0) (hc_pi (fun z M' => (M 46 2 - (2 * (M 46 4 - 100))) = z ∧ hTr M (l0 ++ [23, 20, 14, 13, 10]) = M')) := by
  refine hc_M.of hG (by decide) [some (.ref (hc_ad G 46)), some (.int 1), some (.int (nI dp)), none] rfl (Nat.le_of_ble_eq_true rfl) ?_
  intro p e s m args below meth c C
  refine hc_aload_n C dX1_begin_0 rfl rfl ?_
  refine hc_getI C fl_X1_20 rfl rfl dX1_begin_1 ?_
  refine hc_top (show _ = _ from hk) ?_
  refine hc_iload_n C dX1_begin_4 rfl rfl ?_
  refine hc_cS2i C ms_X1_44 (c_bodyFor_5_1 C.ok) (Nat.le_of_ble_eq_true rfl) (hc_rr_rm (by decide)) ⟨Nat.zero_le _, Nat.zero_le _⟩ dX1_begin_5 (fun r_5 M_5 h_5 => ?_)
  obtain ⟨rfl, rfl⟩ := h_5
  refine hc_istore_n3 C dX1_begin_8 rfl (by decide) rfl ?_
  refine hc_iload_n C dX1_begin_9 rfl rfl ?_
  refine hc_if_ne C (tgt := 25) dX1_begin_10 (by decide) (fun c_10 => ?_) (fun c_10 => ?_)
  · exact absurd rfl c_10
  refine hc_aload_n C dX1_begin_13 rfl rfl ?_
  refine hc_getI C fl_X1_20 rfl rfl dX1_begin_14 ?_
  refine hc_top (show _ = _ from hk) ?_
  refine hc_cS1i C ms_X1_47 (c_X4_nearest C.ok) (Nat.le_of_ble_eq_true rfl) (hc_rr_rm (by decide)) ⟨Nat.zero_le _, Nat.zero_le _⟩ dX1_begin_17 (fun r_17 M_17 h_17 => ?_)
  obtain ⟨rfl, rfl⟩ := h_17
  refine hc_top (v := 4) (by decide) ?_
  refine hc_iload_n C dX1_begin_20 rfl rfl ?_
  refine hc_cS2i C ms_X1_44 (c_bodyFor_4_1 C.ok) (Nat.le_of_ble_eq_true rfl) (hc_rr_rm (by decide)) ⟨Nat.zero_le _, Nat.zero_le _⟩ dX1_begin_21 (fun r_21 M_21 h_21 => ?_)
  obtain ⟨rfl, rfl⟩ := h_21
  refine hc_istore_n3 C dX1_begin_24 rfl (by decide) rfl ?_
  refine hc_aload_n C dX1_begin_25 rfl rfl ?_
  refine hc_iload_n C dX1_begin_26 rfl rfl ?_
  refine hc_iload_n C dX1_begin_27 rfl rfl ?_
  refine hc_cV2i C mv_X1_53 (c_run_23_k5 C.ok hk hl (by omega)) rfl rfl rfl (Nat.le_of_ble_eq_true rfl) (hc_rr_rm (by decide)) ⟨Nat.zero_le _, Nat.zero_le _⟩ dX1_begin_28 (fun r_28 M_28 h_28 => ?_)
  obtain ⟨rfl, rfl⟩ := h_28
  refine hc_iret C rfl dX1_begin_31 ?_
  exact ⟨rfl, rfl⟩

set_option maxRecDepth 100000 in
set_option maxHeartbeats 4000000 in
theorem c_X1_answer_1_0 {l : Launch} {G : hc_Geo} (hG : hc_ok G) {M : hc_Mem} {e0 : Nat}  (he : e0 < 6) (hk : M 10 e0 = 1) : hc_M l G yX1_answer cX1_answer 4 (some .int) 11 [.ref (hc_ad G 46), .ref (hc_ad G 9), .int (nI e0), .int 0] M (hc_pi (fun z M' => (M 11 e0 + (nI e0 + M 15 e0)) = z ∧ hTr (hAsk M e0) [11, 10, 21, 20] = M')) := by
  refine hc_M.of hG (by decide) [some (.ref (hc_ad G 46)), some (.ref (hc_ad G 9)), some (.int (nI e0)), some (.int 0)] rfl (Nat.le_of_ble_eq_true rfl) ?_
  intro p e s m args below meth c C
  refine hc_aload_n C dX1_answer_0 rfl rfl ?_
  refine hc_iconst C dX1_answer_1 (v := 0) rfl ?_
  refine hc_putI C fl_X1_13 pl_1_1 rfl rfl dX1_answer_2 ?_
  refine hc_aload_n C dX1_answer_5 rfl rfl ?_
  refine hc_iload_n C dX1_answer_6 rfl rfl ?_
  refine hc_putI C fl_X1_17 pl_1_2 rfl rfl dX1_answer_7 ?_
  refine hc_aload_n C dX1_answer_10 rfl rfl ?_
  refine hc_aload_n C dX1_answer_11 rfl rfl ?_
  refine hc_getR C fl_X1_29 rfl rfl dX1_answer_12 ?_
  refine hc_iload_n C dX1_answer_15 rfl rfl ?_
  refine hc_ialdN C (j := e0) rfl rfl (by omega) dX1_answer_16 ?_
  refine hc_putI C fl_X1_20 pl_1_3 rfl rfl dX1_answer_17 ?_
  refine hc_aload_n C dX1_answer_20 rfl rfl ?_
  refine hc_aload_n C dX1_answer_21 rfl rfl ?_
  refine hc_getR C fl_X1_34 rfl rfl dX1_answer_22 ?_
  refine hc_iload_n C dX1_answer_25 rfl rfl ?_
  refine hc_ialdN C (j := e0) rfl rfl (by omega) dX1_answer_26 ?_
  refine hc_putI C fl_X1_23 pl_1_4 rfl rfl dX1_answer_27 ?_
  refine hc_aload_n C dX1_answer_30 rfl rfl ?_
  refine hc_aload_n C dX1_answer_31 rfl rfl ?_
  refine hc_getR C fl_X1_37 rfl rfl dX1_answer_32 ?_
  refine hc_iload_n C dX1_answer_35 rfl rfl ?_
  refine hc_ialdN C (j := e0) rfl rfl (by omega) dX1_answer_36 ?_
  refine hc_putI C fl_X1_26 pl_1_5 rfl rfl dX1_answer_37 ?_
  refine hc_mem (M2 := hTr (hAsk M e0) []) (hTr_nil (M := hAsk M e0) rfl).symm ?_
  refine hc_aload_n C dX1_answer_40 rfl rfl ?_
  refine hc_iload_n C dX1_answer_41 rfl rfl ?_
  refine hc_iconst C dX1_answer_42 (v := 0) rfl ?_
  refine hc_cV2i C mv_X1_40 (c_begin_1_0 (l0 := []) (dp := 0) C.ok (show hAsk M e0 46 3 = 1 from hk) (by decide) (by decide)) rfl rfl rfl (Nat.le_of_ble_eq_true rfl) (hc_rr_rm (by decide)) ⟨Nat.zero_le _, Nat.zero_le _⟩ dX1_answer_43 (fun r_43 M_43 h_43 => ?_)
  obtain ⟨rfl, rfl⟩ := h_43
  refine hc_iret C rfl dX1_answer_46 ?_
  exact ⟨rfl, rfl⟩

set_option maxRecDepth 100000 in
set_option maxHeartbeats 4000000 in
theorem c_X1_answer_1_1 {l : Launch} {G : hc_Geo} (hG : hc_ok G) {M : hc_Mem} {e0 : Nat}  (he : e0 < 6) (hk : M 10 e0 = 1) : hc_M l G yX1_answer cX1_answer 4 (some .int) 11 [.ref (hc_ad G 46), .ref (hc_ad G 9), .int (nI e0), .int 1] M (hc_pi (fun z M' => (nI e0 + M 15 e0) = z ∧ hTr (hAsk M e0) [21, 20] = M')) := by
  refine hc_M.of hG (by decide) [some (.ref (hc_ad G 46)), some (.ref (hc_ad G 9)), some (.int (nI e0)), some (.int 1)] rfl (Nat.le_of_ble_eq_true rfl) ?_
  intro p e s m args below meth c C
  refine hc_aload_n C dX1_answer_0 rfl rfl ?_
  refine hc_iconst C dX1_answer_1 (v := 0) rfl ?_
  refine hc_putI C fl_X1_13 pl_1_1 rfl rfl dX1_answer_2 ?_
  refine hc_aload_n C dX1_answer_5 rfl rfl ?_
  refine hc_iload_n C dX1_answer_6 rfl rfl ?_
  refine hc_putI C fl_X1_17 pl_1_2 rfl rfl dX1_answer_7 ?_
  refine hc_aload_n C dX1_answer_10 rfl rfl ?_
  refine hc_aload_n C dX1_answer_11 rfl rfl ?_
  refine hc_getR C fl_X1_29 rfl rfl dX1_answer_12 ?_
  refine hc_iload_n C dX1_answer_15 rfl rfl ?_
  refine hc_ialdN C (j := e0) rfl rfl (by omega) dX1_answer_16 ?_
  refine hc_putI C fl_X1_20 pl_1_3 rfl rfl dX1_answer_17 ?_
  refine hc_aload_n C dX1_answer_20 rfl rfl ?_
  refine hc_aload_n C dX1_answer_21 rfl rfl ?_
  refine hc_getR C fl_X1_34 rfl rfl dX1_answer_22 ?_
  refine hc_iload_n C dX1_answer_25 rfl rfl ?_
  refine hc_ialdN C (j := e0) rfl rfl (by omega) dX1_answer_26 ?_
  refine hc_putI C fl_X1_23 pl_1_4 rfl rfl dX1_answer_27 ?_
  refine hc_aload_n C dX1_answer_30 rfl rfl ?_
  refine hc_aload_n C dX1_answer_31 rfl rfl ?_
  refine hc_getR C fl_X1_37 rfl rfl dX1_answer_32 ?_
  refine hc_iload_n C dX1_answer_35 rfl rfl ?_
  refine hc_ialdN C (j := e0) rfl rfl (by omega) dX1_answer_36 ?_
  refine hc_putI C fl_X1_26 pl_1_5 rfl rfl dX1_answer_37 ?_
  refine hc_mem (M2 := hTr (hAsk M e0) []) (hTr_nil (M := hAsk M e0) rfl).symm ?_
  refine hc_aload_n C dX1_answer_40 rfl rfl ?_
  refine hc_iload_n C dX1_answer_41 rfl rfl ?_
  refine hc_iconst C dX1_answer_42 (v := 0) rfl ?_
  refine hc_cV2i C mv_X1_40 (c_begin_1_1 (l0 := []) (dp := 0) C.ok (show hAsk M e0 46 3 = 1 from hk) (by decide) (by decide)) rfl rfl rfl (Nat.le_of_ble_eq_true rfl) (hc_rr_rm (by decide)) ⟨Nat.zero_le _, Nat.zero_le _⟩ dX1_answer_43 (fun r_43 M_43 h_43 => ?_)
  obtain ⟨rfl, rfl⟩ := h_43
  refine hc_iret C rfl dX1_answer_46 ?_
  exact ⟨rfl, rfl⟩

set_option maxRecDepth 100000 in
set_option maxHeartbeats 4000000 in
theorem c_X1_answer_2_0 {l : Launch} {G : hc_Geo} (hG : hc_ok G) {M : hc_Mem} {e0 : Nat}  (he : e0 < 6) (hk : M 10 e0 = 2) : hc_M l G yX1_answer cX1_answer 4 (some .int) 11 [.ref (hc_ad G 46), .ref (hc_ad G 9), .int (nI e0), .int 0] M (hc_pi (fun z M' => (-(M 11 e0 + (2 * (nI e0 + M 15 e0)))) = z ∧ hTr (hAsk M e0) [12, 11, 10, 24, 21, 20] = M')) := by
  refine hc_M.of hG (by decide) [some (.ref (hc_ad G 46)), some (.ref (hc_ad G 9)), some (.int (nI e0)), some (.int 0)] rfl (Nat.le_of_ble_eq_true rfl) ?_
  intro p e s m args below meth c C
  refine hc_aload_n C dX1_answer_0 rfl rfl ?_
  refine hc_iconst C dX1_answer_1 (v := 0) rfl ?_
  refine hc_putI C fl_X1_13 pl_1_1 rfl rfl dX1_answer_2 ?_
  refine hc_aload_n C dX1_answer_5 rfl rfl ?_
  refine hc_iload_n C dX1_answer_6 rfl rfl ?_
  refine hc_putI C fl_X1_17 pl_1_2 rfl rfl dX1_answer_7 ?_
  refine hc_aload_n C dX1_answer_10 rfl rfl ?_
  refine hc_aload_n C dX1_answer_11 rfl rfl ?_
  refine hc_getR C fl_X1_29 rfl rfl dX1_answer_12 ?_
  refine hc_iload_n C dX1_answer_15 rfl rfl ?_
  refine hc_ialdN C (j := e0) rfl rfl (by omega) dX1_answer_16 ?_
  refine hc_putI C fl_X1_20 pl_1_3 rfl rfl dX1_answer_17 ?_
  refine hc_aload_n C dX1_answer_20 rfl rfl ?_
  refine hc_aload_n C dX1_answer_21 rfl rfl ?_
  refine hc_getR C fl_X1_34 rfl rfl dX1_answer_22 ?_
  refine hc_iload_n C dX1_answer_25 rfl rfl ?_
  refine hc_ialdN C (j := e0) rfl rfl (by omega) dX1_answer_26 ?_
  refine hc_putI C fl_X1_23 pl_1_4 rfl rfl dX1_answer_27 ?_
  refine hc_aload_n C dX1_answer_30 rfl rfl ?_
  refine hc_aload_n C dX1_answer_31 rfl rfl ?_
  refine hc_getR C fl_X1_37 rfl rfl dX1_answer_32 ?_
  refine hc_iload_n C dX1_answer_35 rfl rfl ?_
  refine hc_ialdN C (j := e0) rfl rfl (by omega) dX1_answer_36 ?_
  refine hc_putI C fl_X1_26 pl_1_5 rfl rfl dX1_answer_37 ?_
  refine hc_mem (M2 := hTr (hAsk M e0) []) (hTr_nil (M := hAsk M e0) rfl).symm ?_
  refine hc_aload_n C dX1_answer_40 rfl rfl ?_
  refine hc_iload_n C dX1_answer_41 rfl rfl ?_
  refine hc_iconst C dX1_answer_42 (v := 0) rfl ?_
  refine hc_cV2i C mv_X1_40 (c_begin_2_0 (l0 := []) (dp := 0) C.ok (show hAsk M e0 46 3 = 2 from hk) (by decide) (by decide)) rfl rfl rfl (Nat.le_of_ble_eq_true rfl) (hc_rr_rm (by decide)) ⟨Nat.zero_le _, Nat.zero_le _⟩ dX1_answer_43 (fun r_43 M_43 h_43 => ?_)
  obtain ⟨rfl, rfl⟩ := h_43
  refine hc_iret C rfl dX1_answer_46 ?_
  exact ⟨rfl, rfl⟩

set_option maxRecDepth 100000 in
set_option maxHeartbeats 4000000 in
theorem c_X1_answer_2_1 {l : Launch} {G : hc_Geo} (hG : hc_ok G) {M : hc_Mem} {e0 : Nat}  (he : e0 < 6) (hk : M 10 e0 = 2) : hc_M l G yX1_answer cX1_answer 4 (some .int) 11 [.ref (hc_ad G 46), .ref (hc_ad G 9), .int (nI e0), .int 1] M (hc_pi (fun z M' => (2 * (nI e0 + M 15 e0)) = z ∧ hTr (hAsk M e0) [24, 21, 20] = M')) := by
  refine hc_M.of hG (by decide) [some (.ref (hc_ad G 46)), some (.ref (hc_ad G 9)), some (.int (nI e0)), some (.int 1)] rfl (Nat.le_of_ble_eq_true rfl) ?_
  intro p e s m args below meth c C
  refine hc_aload_n C dX1_answer_0 rfl rfl ?_
  refine hc_iconst C dX1_answer_1 (v := 0) rfl ?_
  refine hc_putI C fl_X1_13 pl_1_1 rfl rfl dX1_answer_2 ?_
  refine hc_aload_n C dX1_answer_5 rfl rfl ?_
  refine hc_iload_n C dX1_answer_6 rfl rfl ?_
  refine hc_putI C fl_X1_17 pl_1_2 rfl rfl dX1_answer_7 ?_
  refine hc_aload_n C dX1_answer_10 rfl rfl ?_
  refine hc_aload_n C dX1_answer_11 rfl rfl ?_
  refine hc_getR C fl_X1_29 rfl rfl dX1_answer_12 ?_
  refine hc_iload_n C dX1_answer_15 rfl rfl ?_
  refine hc_ialdN C (j := e0) rfl rfl (by omega) dX1_answer_16 ?_
  refine hc_putI C fl_X1_20 pl_1_3 rfl rfl dX1_answer_17 ?_
  refine hc_aload_n C dX1_answer_20 rfl rfl ?_
  refine hc_aload_n C dX1_answer_21 rfl rfl ?_
  refine hc_getR C fl_X1_34 rfl rfl dX1_answer_22 ?_
  refine hc_iload_n C dX1_answer_25 rfl rfl ?_
  refine hc_ialdN C (j := e0) rfl rfl (by omega) dX1_answer_26 ?_
  refine hc_putI C fl_X1_23 pl_1_4 rfl rfl dX1_answer_27 ?_
  refine hc_aload_n C dX1_answer_30 rfl rfl ?_
  refine hc_aload_n C dX1_answer_31 rfl rfl ?_
  refine hc_getR C fl_X1_37 rfl rfl dX1_answer_32 ?_
  refine hc_iload_n C dX1_answer_35 rfl rfl ?_
  refine hc_ialdN C (j := e0) rfl rfl (by omega) dX1_answer_36 ?_
  refine hc_putI C fl_X1_26 pl_1_5 rfl rfl dX1_answer_37 ?_
  refine hc_mem (M2 := hTr (hAsk M e0) []) (hTr_nil (M := hAsk M e0) rfl).symm ?_
  refine hc_aload_n C dX1_answer_40 rfl rfl ?_
  refine hc_iload_n C dX1_answer_41 rfl rfl ?_
  refine hc_iconst C dX1_answer_42 (v := 0) rfl ?_
  refine hc_cV2i C mv_X1_40 (c_begin_2_1 (l0 := []) (dp := 0) C.ok (show hAsk M e0 46 3 = 2 from hk) (by decide) (by decide)) rfl rfl rfl (Nat.le_of_ble_eq_true rfl) (hc_rr_rm (by decide)) ⟨Nat.zero_le _, Nat.zero_le _⟩ dX1_answer_43 (fun r_43 M_43 h_43 => ?_)
  obtain ⟨rfl, rfl⟩ := h_43
  refine hc_iret C rfl dX1_answer_46 ?_
  exact ⟨rfl, rfl⟩

set_option maxRecDepth 100000 in
set_option maxHeartbeats 4000000 in
theorem c_X1_answer_3_0 {l : Launch} {G : hc_Geo} (hG : hc_ok G) {M : hc_Mem} {e0 : Nat}  (he : e0 < 6) (hk : M 10 e0 = 3) : hc_M l G yX1_answer cX1_answer 4 (some .int) 11 [.ref (hc_ad G 46), .ref (hc_ad G 9), .int (nI e0), .int 0] M (hc_pi (fun z M' => (M 11 e0 + ((nI e0 + M 15 e0) - 1000)) = z ∧ hTr (hAsk M e0) [11, 10, 22, 21, 20] = M')) := by
  refine hc_M.of hG (by decide) [some (.ref (hc_ad G 46)), some (.ref (hc_ad G 9)), some (.int (nI e0)), some (.int 0)] rfl (Nat.le_of_ble_eq_true rfl) ?_
  intro p e s m args below meth c C
  refine hc_aload_n C dX1_answer_0 rfl rfl ?_
  refine hc_iconst C dX1_answer_1 (v := 0) rfl ?_
  refine hc_putI C fl_X1_13 pl_1_1 rfl rfl dX1_answer_2 ?_
  refine hc_aload_n C dX1_answer_5 rfl rfl ?_
  refine hc_iload_n C dX1_answer_6 rfl rfl ?_
  refine hc_putI C fl_X1_17 pl_1_2 rfl rfl dX1_answer_7 ?_
  refine hc_aload_n C dX1_answer_10 rfl rfl ?_
  refine hc_aload_n C dX1_answer_11 rfl rfl ?_
  refine hc_getR C fl_X1_29 rfl rfl dX1_answer_12 ?_
  refine hc_iload_n C dX1_answer_15 rfl rfl ?_
  refine hc_ialdN C (j := e0) rfl rfl (by omega) dX1_answer_16 ?_
  refine hc_putI C fl_X1_20 pl_1_3 rfl rfl dX1_answer_17 ?_
  refine hc_aload_n C dX1_answer_20 rfl rfl ?_
  refine hc_aload_n C dX1_answer_21 rfl rfl ?_
  refine hc_getR C fl_X1_34 rfl rfl dX1_answer_22 ?_
  refine hc_iload_n C dX1_answer_25 rfl rfl ?_
  refine hc_ialdN C (j := e0) rfl rfl (by omega) dX1_answer_26 ?_
  refine hc_putI C fl_X1_23 pl_1_4 rfl rfl dX1_answer_27 ?_
  refine hc_aload_n C dX1_answer_30 rfl rfl ?_
  refine hc_aload_n C dX1_answer_31 rfl rfl ?_
  refine hc_getR C fl_X1_37 rfl rfl dX1_answer_32 ?_
  refine hc_iload_n C dX1_answer_35 rfl rfl ?_
  refine hc_ialdN C (j := e0) rfl rfl (by omega) dX1_answer_36 ?_
  refine hc_putI C fl_X1_26 pl_1_5 rfl rfl dX1_answer_37 ?_
  refine hc_mem (M2 := hTr (hAsk M e0) []) (hTr_nil (M := hAsk M e0) rfl).symm ?_
  refine hc_aload_n C dX1_answer_40 rfl rfl ?_
  refine hc_iload_n C dX1_answer_41 rfl rfl ?_
  refine hc_iconst C dX1_answer_42 (v := 0) rfl ?_
  refine hc_cV2i C mv_X1_40 (c_begin_3_0 (l0 := []) (dp := 0) C.ok (show hAsk M e0 46 3 = 3 from hk) (by decide) (by decide)) rfl rfl rfl (Nat.le_of_ble_eq_true rfl) (hc_rr_rm (by decide)) ⟨Nat.zero_le _, Nat.zero_le _⟩ dX1_answer_43 (fun r_43 M_43 h_43 => ?_)
  obtain ⟨rfl, rfl⟩ := h_43
  refine hc_iret C rfl dX1_answer_46 ?_
  exact ⟨rfl, rfl⟩

set_option maxRecDepth 100000 in
set_option maxHeartbeats 4000000 in
theorem c_X1_answer_3_1 {l : Launch} {G : hc_Geo} (hG : hc_ok G) {M : hc_Mem} {e0 : Nat}  (he : e0 < 6) (hk : M 10 e0 = 3) : hc_M l G yX1_answer cX1_answer 4 (some .int) 11 [.ref (hc_ad G 46), .ref (hc_ad G 9), .int (nI e0), .int 1] M (hc_pi (fun z M' => ((nI e0 + M 15 e0) - 1000) = z ∧ hTr (hAsk M e0) [22, 21, 20] = M')) := by
  refine hc_M.of hG (by decide) [some (.ref (hc_ad G 46)), some (.ref (hc_ad G 9)), some (.int (nI e0)), some (.int 1)] rfl (Nat.le_of_ble_eq_true rfl) ?_
  intro p e s m args below meth c C
  refine hc_aload_n C dX1_answer_0 rfl rfl ?_
  refine hc_iconst C dX1_answer_1 (v := 0) rfl ?_
  refine hc_putI C fl_X1_13 pl_1_1 rfl rfl dX1_answer_2 ?_
  refine hc_aload_n C dX1_answer_5 rfl rfl ?_
  refine hc_iload_n C dX1_answer_6 rfl rfl ?_
  refine hc_putI C fl_X1_17 pl_1_2 rfl rfl dX1_answer_7 ?_
  refine hc_aload_n C dX1_answer_10 rfl rfl ?_
  refine hc_aload_n C dX1_answer_11 rfl rfl ?_
  refine hc_getR C fl_X1_29 rfl rfl dX1_answer_12 ?_
  refine hc_iload_n C dX1_answer_15 rfl rfl ?_
  refine hc_ialdN C (j := e0) rfl rfl (by omega) dX1_answer_16 ?_
  refine hc_putI C fl_X1_20 pl_1_3 rfl rfl dX1_answer_17 ?_
  refine hc_aload_n C dX1_answer_20 rfl rfl ?_
  refine hc_aload_n C dX1_answer_21 rfl rfl ?_
  refine hc_getR C fl_X1_34 rfl rfl dX1_answer_22 ?_
  refine hc_iload_n C dX1_answer_25 rfl rfl ?_
  refine hc_ialdN C (j := e0) rfl rfl (by omega) dX1_answer_26 ?_
  refine hc_putI C fl_X1_23 pl_1_4 rfl rfl dX1_answer_27 ?_
  refine hc_aload_n C dX1_answer_30 rfl rfl ?_
  refine hc_aload_n C dX1_answer_31 rfl rfl ?_
  refine hc_getR C fl_X1_37 rfl rfl dX1_answer_32 ?_
  refine hc_iload_n C dX1_answer_35 rfl rfl ?_
  refine hc_ialdN C (j := e0) rfl rfl (by omega) dX1_answer_36 ?_
  refine hc_putI C fl_X1_26 pl_1_5 rfl rfl dX1_answer_37 ?_
  refine hc_mem (M2 := hTr (hAsk M e0) []) (hTr_nil (M := hAsk M e0) rfl).symm ?_
  refine hc_aload_n C dX1_answer_40 rfl rfl ?_
  refine hc_iload_n C dX1_answer_41 rfl rfl ?_
  refine hc_iconst C dX1_answer_42 (v := 0) rfl ?_
  refine hc_cV2i C mv_X1_40 (c_begin_3_1 (l0 := []) (dp := 0) C.ok (show hAsk M e0 46 3 = 3 from hk) (by decide) (by decide)) rfl rfl rfl (Nat.le_of_ble_eq_true rfl) (hc_rr_rm (by decide)) ⟨Nat.zero_le _, Nat.zero_le _⟩ dX1_answer_43 (fun r_43 M_43 h_43 => ?_)
  obtain ⟨rfl, rfl⟩ := h_43
  refine hc_iret C rfl dX1_answer_46 ?_
  exact ⟨rfl, rfl⟩

set_option maxRecDepth 100000 in
set_option maxHeartbeats 4000000 in
theorem c_X1_answer_4_0 {l : Launch} {G : hc_Geo} (hG : hc_ok G) {M : hc_Mem} {e0 : Nat}  (he : e0 < 6) (hk : M 10 e0 = 4) : hc_M l G yX1_answer cX1_answer 4 (some .int) 11 [.ref (hc_ad G 46), .ref (hc_ad G 9), .int (nI e0), .int 0] M (hc_pi (fun z M' => (M 11 e0 - 100) = z ∧ hTr (hAsk M e0) [13, 10] = M')) := by
  refine hc_M.of hG (by decide) [some (.ref (hc_ad G 46)), some (.ref (hc_ad G 9)), some (.int (nI e0)), some (.int 0)] rfl (Nat.le_of_ble_eq_true rfl) ?_
  intro p e s m args below meth c C
  refine hc_aload_n C dX1_answer_0 rfl rfl ?_
  refine hc_iconst C dX1_answer_1 (v := 0) rfl ?_
  refine hc_putI C fl_X1_13 pl_1_1 rfl rfl dX1_answer_2 ?_
  refine hc_aload_n C dX1_answer_5 rfl rfl ?_
  refine hc_iload_n C dX1_answer_6 rfl rfl ?_
  refine hc_putI C fl_X1_17 pl_1_2 rfl rfl dX1_answer_7 ?_
  refine hc_aload_n C dX1_answer_10 rfl rfl ?_
  refine hc_aload_n C dX1_answer_11 rfl rfl ?_
  refine hc_getR C fl_X1_29 rfl rfl dX1_answer_12 ?_
  refine hc_iload_n C dX1_answer_15 rfl rfl ?_
  refine hc_ialdN C (j := e0) rfl rfl (by omega) dX1_answer_16 ?_
  refine hc_putI C fl_X1_20 pl_1_3 rfl rfl dX1_answer_17 ?_
  refine hc_aload_n C dX1_answer_20 rfl rfl ?_
  refine hc_aload_n C dX1_answer_21 rfl rfl ?_
  refine hc_getR C fl_X1_34 rfl rfl dX1_answer_22 ?_
  refine hc_iload_n C dX1_answer_25 rfl rfl ?_
  refine hc_ialdN C (j := e0) rfl rfl (by omega) dX1_answer_26 ?_
  refine hc_putI C fl_X1_23 pl_1_4 rfl rfl dX1_answer_27 ?_
  refine hc_aload_n C dX1_answer_30 rfl rfl ?_
  refine hc_aload_n C dX1_answer_31 rfl rfl ?_
  refine hc_getR C fl_X1_37 rfl rfl dX1_answer_32 ?_
  refine hc_iload_n C dX1_answer_35 rfl rfl ?_
  refine hc_ialdN C (j := e0) rfl rfl (by omega) dX1_answer_36 ?_
  refine hc_putI C fl_X1_26 pl_1_5 rfl rfl dX1_answer_37 ?_
  refine hc_mem (M2 := hTr (hAsk M e0) []) (hTr_nil (M := hAsk M e0) rfl).symm ?_
  refine hc_aload_n C dX1_answer_40 rfl rfl ?_
  refine hc_iload_n C dX1_answer_41 rfl rfl ?_
  refine hc_iconst C dX1_answer_42 (v := 0) rfl ?_
  refine hc_cV2i C mv_X1_40 (c_begin_4_0 (l0 := []) (dp := 0) C.ok (show hAsk M e0 46 3 = 4 from hk) (by decide) (by decide)) rfl rfl rfl (Nat.le_of_ble_eq_true rfl) (hc_rr_rm (by decide)) ⟨Nat.zero_le _, Nat.zero_le _⟩ dX1_answer_43 (fun r_43 M_43 h_43 => ?_)
  obtain ⟨rfl, rfl⟩ := h_43
  refine hc_iret C rfl dX1_answer_46 ?_
  exact ⟨rfl, rfl⟩

set_option maxRecDepth 100000 in
set_option maxHeartbeats 4000000 in
theorem c_X1_answer_4_1 {l : Launch} {G : hc_Geo} (hG : hc_ok G) {M : hc_Mem} {e0 : Nat}  (he : e0 < 6) (hk : M 10 e0 = 4) : hc_M l G yX1_answer cX1_answer 4 (some .int) 11 [.ref (hc_ad G 46), .ref (hc_ad G 9), .int (nI e0), .int 1] M (hc_pi (fun z M' => (nI e0 - (M 11 e0 - 100)) = z ∧ hTr (hAsk M e0) [23, 20, 13, 10] = M')) := by
  refine hc_M.of hG (by decide) [some (.ref (hc_ad G 46)), some (.ref (hc_ad G 9)), some (.int (nI e0)), some (.int 1)] rfl (Nat.le_of_ble_eq_true rfl) ?_
  intro p e s m args below meth c C
  refine hc_aload_n C dX1_answer_0 rfl rfl ?_
  refine hc_iconst C dX1_answer_1 (v := 0) rfl ?_
  refine hc_putI C fl_X1_13 pl_1_1 rfl rfl dX1_answer_2 ?_
  refine hc_aload_n C dX1_answer_5 rfl rfl ?_
  refine hc_iload_n C dX1_answer_6 rfl rfl ?_
  refine hc_putI C fl_X1_17 pl_1_2 rfl rfl dX1_answer_7 ?_
  refine hc_aload_n C dX1_answer_10 rfl rfl ?_
  refine hc_aload_n C dX1_answer_11 rfl rfl ?_
  refine hc_getR C fl_X1_29 rfl rfl dX1_answer_12 ?_
  refine hc_iload_n C dX1_answer_15 rfl rfl ?_
  refine hc_ialdN C (j := e0) rfl rfl (by omega) dX1_answer_16 ?_
  refine hc_putI C fl_X1_20 pl_1_3 rfl rfl dX1_answer_17 ?_
  refine hc_aload_n C dX1_answer_20 rfl rfl ?_
  refine hc_aload_n C dX1_answer_21 rfl rfl ?_
  refine hc_getR C fl_X1_34 rfl rfl dX1_answer_22 ?_
  refine hc_iload_n C dX1_answer_25 rfl rfl ?_
  refine hc_ialdN C (j := e0) rfl rfl (by omega) dX1_answer_26 ?_
  refine hc_putI C fl_X1_23 pl_1_4 rfl rfl dX1_answer_27 ?_
  refine hc_aload_n C dX1_answer_30 rfl rfl ?_
  refine hc_aload_n C dX1_answer_31 rfl rfl ?_
  refine hc_getR C fl_X1_37 rfl rfl dX1_answer_32 ?_
  refine hc_iload_n C dX1_answer_35 rfl rfl ?_
  refine hc_ialdN C (j := e0) rfl rfl (by omega) dX1_answer_36 ?_
  refine hc_putI C fl_X1_26 pl_1_5 rfl rfl dX1_answer_37 ?_
  refine hc_mem (M2 := hTr (hAsk M e0) []) (hTr_nil (M := hAsk M e0) rfl).symm ?_
  refine hc_aload_n C dX1_answer_40 rfl rfl ?_
  refine hc_iload_n C dX1_answer_41 rfl rfl ?_
  refine hc_iconst C dX1_answer_42 (v := 0) rfl ?_
  refine hc_cV2i C mv_X1_40 (c_begin_4_1 (l0 := []) (dp := 0) C.ok (show hAsk M e0 46 3 = 4 from hk) (by decide) (by decide)) rfl rfl rfl (Nat.le_of_ble_eq_true rfl) (hc_rr_rm (by decide)) ⟨Nat.zero_le _, Nat.zero_le _⟩ dX1_answer_43 (fun r_43 M_43 h_43 => ?_)
  obtain ⟨rfl, rfl⟩ := h_43
  refine hc_iret C rfl dX1_answer_46 ?_
  exact ⟨rfl, rfl⟩

set_option maxRecDepth 100000 in
set_option maxHeartbeats 4000000 in
theorem c_X1_answer_5_0 {l : Launch} {G : hc_Geo} (hG : hc_ok G) {M : hc_Mem} {e0 : Nat}  (he : e0 < 6) (hk : M 10 e0 = 5) : hc_M l G yX1_answer cX1_answer 4 (some .int) 11 [.ref (hc_ad G 46), .ref (hc_ad G 9), .int (nI e0), .int 0] M (hc_pi (fun z M' => (2 * (M 11 e0 - 100)) = z ∧ hTr (hAsk M e0) [14, 13, 10] = M')) := by
  refine hc_M.of hG (by decide) [some (.ref (hc_ad G 46)), some (.ref (hc_ad G 9)), some (.int (nI e0)), some (.int 0)] rfl (Nat.le_of_ble_eq_true rfl) ?_
  intro p e s m args below meth c C
  refine hc_aload_n C dX1_answer_0 rfl rfl ?_
  refine hc_iconst C dX1_answer_1 (v := 0) rfl ?_
  refine hc_putI C fl_X1_13 pl_1_1 rfl rfl dX1_answer_2 ?_
  refine hc_aload_n C dX1_answer_5 rfl rfl ?_
  refine hc_iload_n C dX1_answer_6 rfl rfl ?_
  refine hc_putI C fl_X1_17 pl_1_2 rfl rfl dX1_answer_7 ?_
  refine hc_aload_n C dX1_answer_10 rfl rfl ?_
  refine hc_aload_n C dX1_answer_11 rfl rfl ?_
  refine hc_getR C fl_X1_29 rfl rfl dX1_answer_12 ?_
  refine hc_iload_n C dX1_answer_15 rfl rfl ?_
  refine hc_ialdN C (j := e0) rfl rfl (by omega) dX1_answer_16 ?_
  refine hc_putI C fl_X1_20 pl_1_3 rfl rfl dX1_answer_17 ?_
  refine hc_aload_n C dX1_answer_20 rfl rfl ?_
  refine hc_aload_n C dX1_answer_21 rfl rfl ?_
  refine hc_getR C fl_X1_34 rfl rfl dX1_answer_22 ?_
  refine hc_iload_n C dX1_answer_25 rfl rfl ?_
  refine hc_ialdN C (j := e0) rfl rfl (by omega) dX1_answer_26 ?_
  refine hc_putI C fl_X1_23 pl_1_4 rfl rfl dX1_answer_27 ?_
  refine hc_aload_n C dX1_answer_30 rfl rfl ?_
  refine hc_aload_n C dX1_answer_31 rfl rfl ?_
  refine hc_getR C fl_X1_37 rfl rfl dX1_answer_32 ?_
  refine hc_iload_n C dX1_answer_35 rfl rfl ?_
  refine hc_ialdN C (j := e0) rfl rfl (by omega) dX1_answer_36 ?_
  refine hc_putI C fl_X1_26 pl_1_5 rfl rfl dX1_answer_37 ?_
  refine hc_mem (M2 := hTr (hAsk M e0) []) (hTr_nil (M := hAsk M e0) rfl).symm ?_
  refine hc_aload_n C dX1_answer_40 rfl rfl ?_
  refine hc_iload_n C dX1_answer_41 rfl rfl ?_
  refine hc_iconst C dX1_answer_42 (v := 0) rfl ?_
  refine hc_cV2i C mv_X1_40 (c_begin_5_0 (l0 := []) (dp := 0) C.ok (show hAsk M e0 46 3 = 5 from hk) (by decide) (by decide)) rfl rfl rfl (Nat.le_of_ble_eq_true rfl) (hc_rr_rm (by decide)) ⟨Nat.zero_le _, Nat.zero_le _⟩ dX1_answer_43 (fun r_43 M_43 h_43 => ?_)
  obtain ⟨rfl, rfl⟩ := h_43
  refine hc_iret C rfl dX1_answer_46 ?_
  exact ⟨rfl, rfl⟩

set_option maxRecDepth 100000 in
set_option maxHeartbeats 4000000 in
theorem c_X1_answer_5_1 {l : Launch} {G : hc_Geo} (hG : hc_ok G) {M : hc_Mem} {e0 : Nat}  (he : e0 < 6) (hk : M 10 e0 = 5) : hc_M l G yX1_answer cX1_answer 4 (some .int) 11 [.ref (hc_ad G 46), .ref (hc_ad G 9), .int (nI e0), .int 1] M (hc_pi (fun z M' => (nI e0 - (2 * (M 11 e0 - 100))) = z ∧ hTr (hAsk M e0) [23, 20, 14, 13, 10] = M')) := by
  refine hc_M.of hG (by decide) [some (.ref (hc_ad G 46)), some (.ref (hc_ad G 9)), some (.int (nI e0)), some (.int 1)] rfl (Nat.le_of_ble_eq_true rfl) ?_
  intro p e s m args below meth c C
  refine hc_aload_n C dX1_answer_0 rfl rfl ?_
  refine hc_iconst C dX1_answer_1 (v := 0) rfl ?_
  refine hc_putI C fl_X1_13 pl_1_1 rfl rfl dX1_answer_2 ?_
  refine hc_aload_n C dX1_answer_5 rfl rfl ?_
  refine hc_iload_n C dX1_answer_6 rfl rfl ?_
  refine hc_putI C fl_X1_17 pl_1_2 rfl rfl dX1_answer_7 ?_
  refine hc_aload_n C dX1_answer_10 rfl rfl ?_
  refine hc_aload_n C dX1_answer_11 rfl rfl ?_
  refine hc_getR C fl_X1_29 rfl rfl dX1_answer_12 ?_
  refine hc_iload_n C dX1_answer_15 rfl rfl ?_
  refine hc_ialdN C (j := e0) rfl rfl (by omega) dX1_answer_16 ?_
  refine hc_putI C fl_X1_20 pl_1_3 rfl rfl dX1_answer_17 ?_
  refine hc_aload_n C dX1_answer_20 rfl rfl ?_
  refine hc_aload_n C dX1_answer_21 rfl rfl ?_
  refine hc_getR C fl_X1_34 rfl rfl dX1_answer_22 ?_
  refine hc_iload_n C dX1_answer_25 rfl rfl ?_
  refine hc_ialdN C (j := e0) rfl rfl (by omega) dX1_answer_26 ?_
  refine hc_putI C fl_X1_23 pl_1_4 rfl rfl dX1_answer_27 ?_
  refine hc_aload_n C dX1_answer_30 rfl rfl ?_
  refine hc_aload_n C dX1_answer_31 rfl rfl ?_
  refine hc_getR C fl_X1_37 rfl rfl dX1_answer_32 ?_
  refine hc_iload_n C dX1_answer_35 rfl rfl ?_
  refine hc_ialdN C (j := e0) rfl rfl (by omega) dX1_answer_36 ?_
  refine hc_putI C fl_X1_26 pl_1_5 rfl rfl dX1_answer_37 ?_
  refine hc_mem (M2 := hTr (hAsk M e0) []) (hTr_nil (M := hAsk M e0) rfl).symm ?_
  refine hc_aload_n C dX1_answer_40 rfl rfl ?_
  refine hc_iload_n C dX1_answer_41 rfl rfl ?_
  refine hc_iconst C dX1_answer_42 (v := 0) rfl ?_
  refine hc_cV2i C mv_X1_40 (c_begin_5_1 (l0 := []) (dp := 0) C.ok (show hAsk M e0 46 3 = 5 from hk) (by decide) (by decide)) rfl rfl rfl (Nat.le_of_ble_eq_true rfl) (hc_rr_rm (by decide)) ⟨Nat.zero_le _, Nat.zero_le _⟩ dX1_answer_43 (fun r_43 M_43 h_43 => ?_)
  obtain ⟨rfl, rfl⟩ := h_43
  refine hc_iret C rfl dX1_answer_46 ?_
  exact ⟨rfl, rfl⟩

def hc_lsh (x : Int64) (k : Int32) : Int64 := (x.toUInt64 >>> (k.toInt64.toUInt64 &&& Int64.toUInt64 63)).toInt64
def hc_bL1 (x : Int64) : Int64 := x - (hc_lsh x 1 &&& 6148914691236517205)
def hc_bL2 (x : Int64) : Int64 := (x &&& 3689348814741910323) + (hc_lsh x 2 &&& 3689348814741910323)
def hc_bL3 (x : Int64) : Int64 := (x + hc_lsh x 4) &&& 1085102592571150095
def hc_bL4 (x : Int64) : Int64 := x + hc_lsh x 8
def hc_bL5 (x : Int64) : Int64 := x + hc_lsh x 16
def hc_bL6 (x : Int64) : Int64 := x + hc_lsh x 32
def hc_bL (x : Int64) : Int32 := (hc_bL6 (hc_bL5 (hc_bL4 (hc_bL3 (hc_bL2 (hc_bL1 x)))))).toInt32 &&& 127
def hc_ush (x k : Int32) : Int32 := (x.toUInt32 >>> (k.toUInt32 &&& Int32.toUInt32 31)).toInt32
def hc_nz0 (x : Int32) : Int32 := (x ^^^ -1) &&& (x - 1)
def hc_nst (c k : Int32) (p : Int32 × Int32) : Int32 × Int32 := if p.1 ≤ c then p else (hc_ush p.1 k, p.2 + k)
def hc_nz1 (x : Int32) : Int32 × Int32 := hc_nst 4 2 (hc_nst 16 4 (hc_nst 256 8 (hc_nst 65536 16 (x, 1))))
/-- trailing zeros as the JDK counts them -/
def hc_nz (x : Int32) : Int32 := if 0 < hc_nz0 x then (hc_nz1 (hc_nz0 x)).2 + hc_ush (hc_nz1 (hc_nz0 x)).1 1 else hc_nz0 x &&& 32
def hc_nzL (x : Int64) : Int32 := if x.toInt32 = 0 then 32 + hc_nz (hc_lsh x 32).toInt32 else hc_nz x.toInt32

set_option maxRecDepth 100000 in
set_option maxHeartbeats 4000000 in
theorem c_J13_bitCount_95d88 {l : Launch} {G : hc_Geo} (hG : hc_ok G) {M : hc_Mem} {x : Int64}  : hc_M l G yJ13_bitCount_95d88 cJ13_bitCount_95d88 2 (some .int) 1 [.long x] M (hc_pi (fun z M' => hc_bL x = z ∧ M = M')) := by
  refine hc_M.of hG (by decide) [some (.long x), none] rfl (Nat.le_of_ble_eq_true rfl) ?_
  intro p e s m args below meth c C
  refine hc_lload_n C dJ13_bitCount_95d88_0 rfl rfl ?_
  refine hc_lload_n C dJ13_bitCount_95d88_1 rfl rfl ?_
  refine hc_iconst C dJ13_bitCount_95d88_2 (v := 1) rfl ?_
  refine hc_lushr C dJ13_bitCount_95d88_3 ?_
  refine hc_ldc2 C kl_J13_314 dJ13_bitCount_95d88_4 ?_
  refine hc_land C dJ13_bitCount_95d88_7 ?_
  refine hc_lsub C dJ13_bitCount_95d88_8 ?_
  refine hc_lstore_n0 C dJ13_bitCount_95d88_9 rfl (by decide) ?_
  refine hc_lload_n C dJ13_bitCount_95d88_10 rfl rfl ?_
  refine hc_ldc2 C kl_J13_316 dJ13_bitCount_95d88_11 ?_
  refine hc_land C dJ13_bitCount_95d88_14 ?_
  refine hc_lload_n C dJ13_bitCount_95d88_15 rfl rfl ?_
  refine hc_iconst C dJ13_bitCount_95d88_16 (v := 2) rfl ?_
  refine hc_lushr C dJ13_bitCount_95d88_17 ?_
  refine hc_ldc2 C kl_J13_316 dJ13_bitCount_95d88_18 ?_
  refine hc_land C dJ13_bitCount_95d88_21 ?_
  refine hc_ladd C dJ13_bitCount_95d88_22 ?_
  refine hc_lstore_n0 C dJ13_bitCount_95d88_23 rfl (by decide) ?_
  refine hc_lload_n C dJ13_bitCount_95d88_24 rfl rfl ?_
  refine hc_lload_n C dJ13_bitCount_95d88_25 rfl rfl ?_
  refine hc_iconst C dJ13_bitCount_95d88_26 (v := 4) rfl ?_
  refine hc_lushr C dJ13_bitCount_95d88_27 ?_
  refine hc_ladd C dJ13_bitCount_95d88_28 ?_
  refine hc_ldc2 C kl_J13_318 dJ13_bitCount_95d88_29 ?_
  refine hc_land C dJ13_bitCount_95d88_32 ?_
  refine hc_lstore_n0 C dJ13_bitCount_95d88_33 rfl (by decide) ?_
  refine hc_lload_n C dJ13_bitCount_95d88_34 rfl rfl ?_
  refine hc_lload_n C dJ13_bitCount_95d88_35 rfl rfl ?_
  refine hc_bipush C dJ13_bitCount_95d88_36 (v := 8) rfl ?_
  refine hc_lushr C dJ13_bitCount_95d88_38 ?_
  refine hc_ladd C dJ13_bitCount_95d88_39 ?_
  refine hc_lstore_n0 C dJ13_bitCount_95d88_40 rfl (by decide) ?_
  refine hc_lload_n C dJ13_bitCount_95d88_41 rfl rfl ?_
  refine hc_lload_n C dJ13_bitCount_95d88_42 rfl rfl ?_
  refine hc_bipush C dJ13_bitCount_95d88_43 (v := 16) rfl ?_
  refine hc_lushr C dJ13_bitCount_95d88_45 ?_
  refine hc_ladd C dJ13_bitCount_95d88_46 ?_
  refine hc_lstore_n0 C dJ13_bitCount_95d88_47 rfl (by decide) ?_
  refine hc_lload_n C dJ13_bitCount_95d88_48 rfl rfl ?_
  refine hc_lload_n C dJ13_bitCount_95d88_49 rfl rfl ?_
  refine hc_bipush C dJ13_bitCount_95d88_50 (v := 32) rfl ?_
  refine hc_lushr C dJ13_bitCount_95d88_52 ?_
  refine hc_ladd C dJ13_bitCount_95d88_53 ?_
  refine hc_lstore_n0 C dJ13_bitCount_95d88_54 rfl (by decide) ?_
  refine hc_lload_n C dJ13_bitCount_95d88_55 rfl rfl ?_
  refine hc_l2i C dJ13_bitCount_95d88_56 ?_
  refine hc_bipush C dJ13_bitCount_95d88_57 (v := 127) rfl ?_
  refine hc_iand C dJ13_bitCount_95d88_59 ?_
  refine hc_iret C rfl dJ13_bitCount_95d88_60 ?_
  exact ⟨rfl, rfl⟩

set_option maxRecDepth 100000 in
set_option maxHeartbeats 4000000 in
theorem nz_a {G : hc_Geo} {p : Program} {l : Launch} {e : Env} {s : State} {m : MethodId} {args : Array Value} {below : List Frame} {meth : Method} {c : Code} {Q : State → Prop} (C : hc_Cx G hc_lay cJ6_numberOfTrailingZeros_0f7a4 2 (some .int) yJ6_numberOfTrailingZeros_0f7a4.cls p s m args meth c) {M : hc_Mem} {x y : Int32} (kk : ∀ x2 y2 : Int32, hc_nst 65536 16 (x, y) = (x2, y2) → hc_W G hc_lay p l e (hc_rm 1) s m args below meth c 2 0 0 Q 34 [some (.int x2), some (.int y2)] [] M) : hc_W G hc_lay p l e (hc_rm 1) s m args below meth c 2 0 0 Q 19 [some (.int x), some (.int y)] [] M := by
  refine hc_iload_n C dJ6_numberOfTrailingZeros_0f7a4_19 rfl rfl ?_
  refine hc_ldcw C kc_J6_264 dJ6_numberOfTrailingZeros_0f7a4_20 ?_
  refine hc_icmp_le C (tgt := 34) dJ6_numberOfTrailingZeros_0f7a4_23 (by decide) (fun c_23 => ?_) (fun c_23 => ?_)
  · exact kk _ _ (by simp only [hc_nst]; first | rw [if_pos c_23] | rw [if_neg c_23]; rfl)
  · refine hc_iinc1 C dJ6_numberOfTrailingZeros_0f7a4_26 (by decide) rfl rfl rfl ?_
    refine hc_iload_n C dJ6_numberOfTrailingZeros_0f7a4_29 rfl rfl ?_
    refine hc_bipush C dJ6_numberOfTrailingZeros_0f7a4_30 (v := 16) rfl ?_
    refine hc_iushr C dJ6_numberOfTrailingZeros_0f7a4_32 ?_
    refine hc_istore_n0 C dJ6_numberOfTrailingZeros_0f7a4_33 rfl (by decide) ?_
    exact kk _ _ (by simp only [hc_nst]; first | rw [if_pos c_23] | rw [if_neg c_23]; rfl)

set_option maxRecDepth 100000 in
set_option maxHeartbeats 4000000 in
theorem nz_b {G : hc_Geo} {p : Program} {l : Launch} {e : Env} {s : State} {m : MethodId} {args : Array Value} {below : List Frame} {meth : Method} {c : Code} {Q : State → Prop} (C : hc_Cx G hc_lay cJ6_numberOfTrailingZeros_0f7a4 2 (some .int) yJ6_numberOfTrailingZeros_0f7a4.cls p s m args meth c) {M : hc_Mem} {x y : Int32} (kk : ∀ x2 y2 : Int32, hc_nst 256 8 (x, y) = (x2, y2) → hc_W G hc_lay p l e (hc_rm 1) s m args below meth c 2 0 0 Q 49 [some (.int x2), some (.int y2)] [] M) : hc_W G hc_lay p l e (hc_rm 1) s m args below meth c 2 0 0 Q 34 [some (.int x), some (.int y)] [] M := by
  refine hc_iload_n C dJ6_numberOfTrailingZeros_0f7a4_34 rfl rfl ?_
  refine hc_sipush C dJ6_numberOfTrailingZeros_0f7a4_35 (v := 256) rfl ?_
  refine hc_icmp_le C (tgt := 49) dJ6_numberOfTrailingZeros_0f7a4_38 (by decide) (fun c_38 => ?_) (fun c_38 => ?_)
  · exact kk _ _ (by simp only [hc_nst]; first | rw [if_pos c_38] | rw [if_neg c_38]; rfl)
  · refine hc_iinc1 C dJ6_numberOfTrailingZeros_0f7a4_41 (by decide) rfl rfl rfl ?_
    refine hc_iload_n C dJ6_numberOfTrailingZeros_0f7a4_44 rfl rfl ?_
    refine hc_bipush C dJ6_numberOfTrailingZeros_0f7a4_45 (v := 8) rfl ?_
    refine hc_iushr C dJ6_numberOfTrailingZeros_0f7a4_47 ?_
    refine hc_istore_n0 C dJ6_numberOfTrailingZeros_0f7a4_48 rfl (by decide) ?_
    exact kk _ _ (by simp only [hc_nst]; first | rw [if_pos c_38] | rw [if_neg c_38]; rfl)

set_option maxRecDepth 100000 in
set_option maxHeartbeats 4000000 in
theorem nz_c {G : hc_Geo} {p : Program} {l : Launch} {e : Env} {s : State} {m : MethodId} {args : Array Value} {below : List Frame} {meth : Method} {c : Code} {Q : State → Prop} (C : hc_Cx G hc_lay cJ6_numberOfTrailingZeros_0f7a4 2 (some .int) yJ6_numberOfTrailingZeros_0f7a4.cls p s m args meth c) {M : hc_Mem} {x y : Int32} (kk : ∀ x2 y2 : Int32, hc_nst 16 4 (x, y) = (x2, y2) → hc_W G hc_lay p l e (hc_rm 1) s m args below meth c 2 0 0 Q 62 [some (.int x2), some (.int y2)] [] M) : hc_W G hc_lay p l e (hc_rm 1) s m args below meth c 2 0 0 Q 49 [some (.int x), some (.int y)] [] M := by
  refine hc_iload_n C dJ6_numberOfTrailingZeros_0f7a4_49 rfl rfl ?_
  refine hc_bipush C dJ6_numberOfTrailingZeros_0f7a4_50 (v := 16) rfl ?_
  refine hc_icmp_le C (tgt := 62) dJ6_numberOfTrailingZeros_0f7a4_52 (by decide) (fun c_52 => ?_) (fun c_52 => ?_)
  · exact kk _ _ (by simp only [hc_nst]; first | rw [if_pos c_52] | rw [if_neg c_52]; rfl)
  · refine hc_iinc1 C dJ6_numberOfTrailingZeros_0f7a4_55 (by decide) rfl rfl rfl ?_
    refine hc_iload_n C dJ6_numberOfTrailingZeros_0f7a4_58 rfl rfl ?_
    refine hc_iconst C dJ6_numberOfTrailingZeros_0f7a4_59 (v := 4) rfl ?_
    refine hc_iushr C dJ6_numberOfTrailingZeros_0f7a4_60 ?_
    refine hc_istore_n0 C dJ6_numberOfTrailingZeros_0f7a4_61 rfl (by decide) ?_
    exact kk _ _ (by simp only [hc_nst]; first | rw [if_pos c_52] | rw [if_neg c_52]; rfl)

set_option maxRecDepth 100000 in
set_option maxHeartbeats 4000000 in
theorem nz_d {G : hc_Geo} {p : Program} {l : Launch} {e : Env} {s : State} {m : MethodId} {args : Array Value} {below : List Frame} {meth : Method} {c : Code} {Q : State → Prop} (C : hc_Cx G hc_lay cJ6_numberOfTrailingZeros_0f7a4 2 (some .int) yJ6_numberOfTrailingZeros_0f7a4.cls p s m args meth c) {M : hc_Mem} {x y : Int32} (kk : ∀ x2 y2 : Int32, hc_nst 4 2 (x, y) = (x2, y2) → hc_W G hc_lay p l e (hc_rm 1) s m args below meth c 2 0 0 Q 74 [some (.int x2), some (.int y2)] [] M) : hc_W G hc_lay p l e (hc_rm 1) s m args below meth c 2 0 0 Q 62 [some (.int x), some (.int y)] [] M := by
  refine hc_iload_n C dJ6_numberOfTrailingZeros_0f7a4_62 rfl rfl ?_
  refine hc_iconst C dJ6_numberOfTrailingZeros_0f7a4_63 (v := 4) rfl ?_
  refine hc_icmp_le C (tgt := 74) dJ6_numberOfTrailingZeros_0f7a4_64 (by decide) (fun c_64 => ?_) (fun c_64 => ?_)
  · exact kk _ _ (by simp only [hc_nst]; first | rw [if_pos c_64] | rw [if_neg c_64]; rfl)
  · refine hc_iinc1 C dJ6_numberOfTrailingZeros_0f7a4_67 (by decide) rfl rfl rfl ?_
    refine hc_iload_n C dJ6_numberOfTrailingZeros_0f7a4_70 rfl rfl ?_
    refine hc_iconst C dJ6_numberOfTrailingZeros_0f7a4_71 (v := 2) rfl ?_
    refine hc_iushr C dJ6_numberOfTrailingZeros_0f7a4_72 ?_
    refine hc_istore_n0 C dJ6_numberOfTrailingZeros_0f7a4_73 rfl (by decide) ?_
    exact kk _ _ (by simp only [hc_nst]; first | rw [if_pos c_64] | rw [if_neg c_64]; rfl)

set_option maxRecDepth 100000 in
set_option maxHeartbeats 4000000 in
theorem c_J6_numberOfTrailingZeros_0f7a4 {l : Launch} {G : hc_Geo} (hG : hc_ok G) {M : hc_Mem} {x : Int32}  : hc_M l G yJ6_numberOfTrailingZeros_0f7a4 cJ6_numberOfTrailingZeros_0f7a4 2 (some .int) 1 [.int x] M (hc_pi (fun z M' => hc_nz x = z ∧ M = M')) := by
  refine hc_M.of hG (by decide) [some (.int x), none] rfl (Nat.le_of_ble_eq_true rfl) ?_
  intro p e s m args below meth c C
  refine hc_iload_n C dJ6_numberOfTrailingZeros_0f7a4_0 rfl rfl ?_
  refine hc_iconst C dJ6_numberOfTrailingZeros_0f7a4_1 (v := (-1)) rfl ?_
  refine hc_ixor C dJ6_numberOfTrailingZeros_0f7a4_2 ?_
  refine hc_iload_n C dJ6_numberOfTrailingZeros_0f7a4_3 rfl rfl ?_
  refine hc_iconst C dJ6_numberOfTrailingZeros_0f7a4_4 (v := 1) rfl ?_
  refine hc_isub C dJ6_numberOfTrailingZeros_0f7a4_5 ?_
  refine hc_iand C dJ6_numberOfTrailingZeros_0f7a4_6 ?_
  refine hc_istore_n0 C dJ6_numberOfTrailingZeros_0f7a4_7 rfl (by decide) ?_
  refine hc_iload_n C dJ6_numberOfTrailingZeros_0f7a4_8 rfl rfl ?_
  refine hc_if_gt C (tgt := 17) dJ6_numberOfTrailingZeros_0f7a4_9 (by decide) (fun c_9 => ?_) (fun c_9 => ?_)
  · refine hc_iconst C dJ6_numberOfTrailingZeros_0f7a4_17 (v := 1) rfl ?_
    refine hc_istore_n1 C dJ6_numberOfTrailingZeros_0f7a4_18 rfl (by decide) rfl ?_
    refine nz_a C (fun x1 y1 e1 => ?_)
    refine nz_b C (fun x2 y2 e2 => ?_)
    refine nz_c C (fun x3 y3 e3 => ?_)
    refine nz_d C (fun x4 y4 e4 => ?_)
    refine hc_iload_n C dJ6_numberOfTrailingZeros_0f7a4_74 rfl rfl ?_
    refine hc_iload_n C dJ6_numberOfTrailingZeros_0f7a4_75 rfl rfl ?_
    refine hc_iconst C dJ6_numberOfTrailingZeros_0f7a4_76 (v := 1) rfl ?_
    refine hc_iushr C dJ6_numberOfTrailingZeros_0f7a4_77 ?_
    refine hc_iadd C dJ6_numberOfTrailingZeros_0f7a4_78 ?_
    refine hc_iret C rfl dJ6_numberOfTrailingZeros_0f7a4_79 ?_
    refine ⟨?_, rfl⟩
    have e5 : hc_nz1 (hc_nz0 x) = (x4, y4) := by
      unfold hc_nz1
      rw [show hc_nst 65536 16 (hc_nz0 x, 1) = (x1, y1) from e1, e2, e3, e4]
    rw [hc_nz, if_pos (show 0 < hc_nz0 x from c_9), e5]
    rfl
  · refine hc_iload_n C dJ6_numberOfTrailingZeros_0f7a4_12 rfl rfl ?_
    refine hc_bipush C dJ6_numberOfTrailingZeros_0f7a4_13 (v := 32) rfl ?_
    refine hc_iand C dJ6_numberOfTrailingZeros_0f7a4_15 ?_
    refine hc_iret C rfl dJ6_numberOfTrailingZeros_0f7a4_16 ?_
    exact ⟨if_neg c_9, rfl⟩

set_option maxRecDepth 100000 in
set_option maxHeartbeats 4000000 in
theorem c_J13_numberOfTrailingZeros_95d88 {l : Launch} {G : hc_Geo} (hG : hc_ok G) {M : hc_Mem} {x : Int64}  : hc_M l G yJ13_numberOfTrailingZeros_95d88 cJ13_numberOfTrailingZeros_95d88 3 (some .int) 2 [.long x] M (hc_pi (fun z M' => hc_nzL x = z ∧ M = M')) := by
  refine hc_M.of hG (by decide) [some (.long x), none, none] rfl (Nat.le_of_ble_eq_true rfl) ?_
  intro p e s m args below meth c C
  refine hc_lload_n C dJ13_numberOfTrailingZeros_95d88_0 rfl rfl ?_
  refine hc_l2i C dJ13_numberOfTrailingZeros_95d88_1 ?_
  refine hc_istore_n2 C dJ13_numberOfTrailingZeros_95d88_2 rfl (by decide) rfl ?_
  refine hc_iload_n C dJ13_numberOfTrailingZeros_95d88_3 rfl rfl ?_
  refine hc_if_ne C (tgt := 21) dJ13_numberOfTrailingZeros_95d88_4 (by decide) (fun c_4 => ?_) (fun c_4 => ?_)
  · refine hc_iload_n C dJ13_numberOfTrailingZeros_95d88_21 rfl rfl ?_
    refine hc_cS1i C ms_J13_311 (c_J6_numberOfTrailingZeros_0f7a4 C.ok) (Nat.le_of_ble_eq_true rfl) (hc_rr_rm (by decide)) ⟨Nat.zero_le _, Nat.zero_le _⟩ dJ13_numberOfTrailingZeros_95d88_22 (fun r_22 M_22 h_22 => ?_)
    obtain ⟨rfl, rfl⟩ := h_22
    refine hc_iret C rfl dJ13_numberOfTrailingZeros_95d88_25 ?_
    refine ⟨?_, rfl⟩
    unfold hc_nzL
    first | exact if_pos c_4 | exact if_neg c_4
  · refine hc_bipush C dJ13_numberOfTrailingZeros_95d88_7 (v := 32) rfl ?_
    refine hc_lload_n C dJ13_numberOfTrailingZeros_95d88_9 rfl rfl ?_
    refine hc_bipush C dJ13_numberOfTrailingZeros_95d88_10 (v := 32) rfl ?_
    refine hc_lushr C dJ13_numberOfTrailingZeros_95d88_12 ?_
    refine hc_l2i C dJ13_numberOfTrailingZeros_95d88_13 ?_
    refine hc_cS1i C ms_J13_311 (c_J6_numberOfTrailingZeros_0f7a4 C.ok) (Nat.le_of_ble_eq_true rfl) (hc_rr_rm (by decide)) ⟨Nat.zero_le _, Nat.zero_le _⟩ dJ13_numberOfTrailingZeros_95d88_14 (fun r_14 M_14 h_14 => ?_)
    obtain ⟨rfl, rfl⟩ := h_14
    refine hc_iadd C dJ13_numberOfTrailingZeros_95d88_17 ?_
    refine hc_goto C (tgt := 25) dJ13_numberOfTrailingZeros_95d88_18 (by decide) ?_
    refine hc_iret C rfl dJ13_numberOfTrailingZeros_95d88_25 ?_
    refine ⟨?_, rfl⟩
    unfold hc_nzL
    first | exact if_pos c_4 | exact if_neg c_4
