theorem hc_sx8 (v : Int32) : (v <<< ((24 : Int32) &&& 31)) >>> ((24 : Int32) &&& 31) = v.toInt8.toInt32 := by
  apply Int32.toBitVec_inj.mp
  have h : (((24 : Int32) &&& 31).toBitVec).smod 32 = 24#32 := by decide
  rw [Int32.toBitVec_shiftRight, Int32.toBitVec_shiftLeft, h]
  show (v.toBitVec <<< 24).sshiftRight 24 = (v.toBitVec.signExtend 8).signExtend 32
  apply BitVec.eq_of_getLsbD_eq
  intro i hi
  simp [BitVec.getLsbD_sshiftRight, BitVec.getLsbD_shiftLeft, BitVec.getLsbD_signExtend, BitVec.msb_eq_getLsbD_last]
  by_cases h : i < 8
  · simp [h, hi, show ¬ 32 ≤ i by omega, show 24 + i < 32 by omega, show ¬ 24 + i < 24 by omega]
  · simp [h, hi, show ¬ 32 ≤ i by omega, show ¬ 24 + i < 32 by omega, BitVec.getElem_signExtend]
theorem hc_sx16 (v : Int32) : (v <<< ((16 : Int32) &&& 31)) >>> ((16 : Int32) &&& 31) = v.toInt16.toInt32 := by
  apply Int32.toBitVec_inj.mp
  have h : (((16 : Int32) &&& 31).toBitVec).smod 32 = 16#32 := by decide
  rw [Int32.toBitVec_shiftRight, Int32.toBitVec_shiftLeft, h]
  show (v.toBitVec <<< 16).sshiftRight 16 = (v.toBitVec.signExtend 16).signExtend 32
  apply BitVec.eq_of_getLsbD_eq
  intro i hi
  simp [BitVec.getLsbD_sshiftRight, BitVec.getLsbD_shiftLeft, BitVec.getLsbD_signExtend, BitVec.msb_eq_getLsbD_last]
  by_cases h : i < 16
  · simp [h, hi, show ¬ 32 ≤ i by omega, show 16 + i < 32 by omega, show ¬ 16 + i < 16 by omega]
  · simp [h, hi, show ¬ 32 ≤ i by omega, show ¬ 16 + i < 32 by omega, BitVec.getElem_signExtend]
abbrev rPt (m i n : Int32) : Prop := ¬ i < 0 ∧ ¬ n < 0 ∧ ¬ m < i ∧ ¬ m - i < n

set_option maxRecDepth 100000 in
set_option maxHeartbeats 4000000 in
theorem c_X8_cut {l : Launch} {G : hc_Geo} (hG : hc_ok G) {M : hc_Mem} {v la : Int32}  : hc_M l G yX8_cut cX8_cut 2 (some .int) 1 [.int la, .int v] M (hc_pi (fun z M' => hc_cut v la = z ∧ M = M')) := by
  refine hc_M.of hG (by decide) [some (.int la), some (.int v)] rfl (Nat.le_of_ble_eq_true rfl) ?_
  intro p e s m args below meth c C
  refine hc_iload_n C dX8_cut_0 rfl rfl ?_
  refine hc_if_ne C (tgt := 14) dX8_cut_1 (by decide) (fun c_1 => ?_) (fun c_1 => ?_)
  · refine hc_iload_n C dX8_cut_14 rfl rfl ?_
    refine hc_iconst C dX8_cut_15 (v := 1) rfl ?_
    refine hc_icmp_ne C (tgt := 29) dX8_cut_16 (by decide) (fun c_16 => ?_) (fun c_16 => ?_)
    · refine hc_iload_n C dX8_cut_29 rfl rfl ?_
      refine hc_iret C rfl dX8_cut_30 ?_
      refine ⟨?_, rfl⟩
      unfold hc_cut
      first
        | exact (if_pos c_1).trans (hc_sx8 v).symm
        | exact (if_neg c_1).trans ((if_pos c_16).trans (hc_sx16 v).symm)
        | exact (if_neg c_1).trans (if_neg c_16)
    · refine hc_iload_n C dX8_cut_19 rfl rfl ?_
      refine hc_bipush C dX8_cut_20 (v := 16) rfl ?_
      refine hc_ishl C dX8_cut_22 ?_
      refine hc_bipush C dX8_cut_23 (v := 16) rfl ?_
      refine hc_ishr C dX8_cut_25 ?_
      refine hc_goto C (tgt := 30) dX8_cut_26 (by decide) ?_
      refine hc_iret C rfl dX8_cut_30 ?_
      refine ⟨?_, rfl⟩
      unfold hc_cut
      first
        | exact (if_pos c_1).trans (hc_sx8 v).symm
        | exact (if_neg c_1).trans ((if_pos c_16).trans (hc_sx16 v).symm)
        | exact (if_neg c_1).trans (if_neg c_16)
  · refine hc_iload_n C dX8_cut_4 rfl rfl ?_
    refine hc_bipush C dX8_cut_5 (v := 24) rfl ?_
    refine hc_ishl C dX8_cut_7 ?_
    refine hc_bipush C dX8_cut_8 (v := 24) rfl ?_
    refine hc_ishr C dX8_cut_10 ?_
    refine hc_goto C (tgt := 30) dX8_cut_11 (by decide) ?_
    refine hc_iret C rfl dX8_cut_30 ?_
    refine ⟨?_, rfl⟩
    unfold hc_cut
    first
      | exact (if_pos c_1).trans (hc_sx8 v).symm
      | exact (if_neg c_1).trans ((if_pos c_16).trans (hc_sx16 v).symm)
      | exact (if_neg c_1).trans (if_neg c_16)

set_option maxRecDepth 100000 in
set_option maxHeartbeats 4000000 in
theorem c_X8_isPart {l : Launch} {G : hc_Geo} (hG : hc_ok G) {M : hc_Mem} {j : Nat} {i n : Int32}  (hj : j < 8) : hc_M l G yX8_isPart cX8_isPart 4 (some .boolean) 1 [.ref (hc_ad G 48), .int (nI j), .int i, .int n] M (hc_pi (fun z M' => hb (rPt (M 50 j) i n) = z ∧ M = M')) := by
  refine hc_M.of hG (by decide) [some (.ref (hc_ad G 48)), some (.int (nI j)), some (.int i), some (.int n)] rfl (Nat.le_of_ble_eq_true rfl) ?_
  intro p e s m args below meth c C
  refine hc_iload_n C dX8_isPart_0 rfl rfl ?_
  refine hc_if_lt C (tgt := 34) dX8_isPart_1 (by decide) (fun c_1 => ?_) (fun c_1 => ?_)
  · refine hc_iconst C dX8_isPart_34 (v := 0) rfl ?_
    refine hc_zret C rfl rfl dX8_isPart_35 ?_
    refine ⟨?_, rfl⟩
    first | exact hb_t ⟨c_1, c_5, c_15, c_27⟩ | exact hb_f (fun z => z.2.2.2 c_27) | exact hb_f (fun z => z.2.2.1 c_15) | exact hb_f (fun z => z.2.1 c_5) | exact hb_f (fun z => z.1 c_1)
  · refine hc_iload_n C dX8_isPart_4 rfl rfl ?_
    refine hc_if_lt C (tgt := 34) dX8_isPart_5 (by decide) (fun c_5 => ?_) (fun c_5 => ?_)
    · refine hc_iconst C dX8_isPart_34 (v := 0) rfl ?_
      refine hc_zret C rfl rfl dX8_isPart_35 ?_
      refine ⟨?_, rfl⟩
      first | exact hb_t ⟨c_1, c_5, c_15, c_27⟩ | exact hb_f (fun z => z.2.2.2 c_27) | exact hb_f (fun z => z.2.2.1 c_15) | exact hb_f (fun z => z.2.1 c_5) | exact hb_f (fun z => z.1 c_1)
    · refine hc_iload_n C dX8_isPart_8 rfl rfl ?_
      refine hc_aload_n C dX8_isPart_9 rfl rfl ?_
      refine hc_getR C fl_X8_13 rfl rfl dX8_isPart_10 ?_
      refine hc_iload_n C dX8_isPart_13 rfl rfl ?_
      refine hc_ialdN C (j := j) rfl rfl (by omega) dX8_isPart_14 ?_
      refine hc_icmp_gt C (tgt := 34) dX8_isPart_15 (by decide) (fun c_15 => ?_) (fun c_15 => ?_)
      · refine hc_iconst C dX8_isPart_34 (v := 0) rfl ?_
        refine hc_zret C rfl rfl dX8_isPart_35 ?_
        refine ⟨?_, rfl⟩
        first | exact hb_t ⟨c_1, c_5, c_15, c_27⟩ | exact hb_f (fun z => z.2.2.2 c_27) | exact hb_f (fun z => z.2.2.1 c_15) | exact hb_f (fun z => z.2.1 c_5) | exact hb_f (fun z => z.1 c_1)
      · refine hc_iload_n C dX8_isPart_18 rfl rfl ?_
        refine hc_aload_n C dX8_isPart_19 rfl rfl ?_
        refine hc_getR C fl_X8_13 rfl rfl dX8_isPart_20 ?_
        refine hc_iload_n C dX8_isPart_23 rfl rfl ?_
        refine hc_ialdN C (j := j) rfl rfl (by omega) dX8_isPart_24 ?_
        refine hc_iload_n C dX8_isPart_25 rfl rfl ?_
        refine hc_isub C dX8_isPart_26 ?_
        refine hc_icmp_gt C (tgt := 34) dX8_isPart_27 (by decide) (fun c_27 => ?_) (fun c_27 => ?_)
        · refine hc_iconst C dX8_isPart_34 (v := 0) rfl ?_
          refine hc_zret C rfl rfl dX8_isPart_35 ?_
          refine ⟨?_, rfl⟩
          first | exact hb_t ⟨c_1, c_5, c_15, c_27⟩ | exact hb_f (fun z => z.2.2.2 c_27) | exact hb_f (fun z => z.2.2.1 c_15) | exact hb_f (fun z => z.2.1 c_5) | exact hb_f (fun z => z.1 c_1)
        · refine hc_iconst C dX8_isPart_30 (v := 1) rfl ?_
          refine hc_goto C (tgt := 35) dX8_isPart_31 (by decide) ?_
          refine hc_zret C rfl rfl dX8_isPart_35 ?_
          refine ⟨?_, rfl⟩
          first | exact hb_t ⟨c_1, c_5, c_15, c_27⟩ | exact hb_f (fun z => z.2.2.2 c_27) | exact hb_f (fun z => z.2.2.1 c_15) | exact hb_f (fun z => z.2.1 c_5) | exact hb_f (fun z => z.1 c_1)

set_option maxRecDepth 100000 in
set_option maxHeartbeats 4000000 in
theorem c_X8_set_p {l : Launch} {G : hc_Geo} (hG : hc_ok G) {M : hc_Mem} {j m : Nat} {i v : Int32}  (hj : j < 8) (h1 : ¬ M 49 j = -1000000) (hm : M 50 j = nI m) (hm4 : m ≤ 40) (h2 : ¬ (¬ i < 0 ∧ ¬ M 50 j ≤ i)) : hc_M l G yX8_set cX8_set 4 (some .int) 3 [.ref (hc_ad G 48), .int (nI j), .int i, .int v] M (hc_pi (fun z M' => -1000012 = z ∧ hc_ms M 48 4 2 = M')) := by
  refine hc_M.of hG (by decide) [some (.ref (hc_ad G 48)), some (.int (nI j)), some (.int i), some (.int v)] rfl (Nat.le_of_ble_eq_true rfl) ?_
  intro p e s m args below meth c C
  refine hc_iload_n C dX8_set_0 rfl rfl ?_
  refine hc_cS1i C ms_X8_60 (c_X8_isRow C.ok) (Nat.le_of_ble_eq_true rfl) (hc_rr_rm (by decide)) ⟨Nat.zero_le _, Nat.zero_le _⟩ dX8_set_1 (fun r_1 M_1 h_1 => ?_)
  obtain ⟨rfl, rfl⟩ := h_1
  refine hc_if_ne C (tgt := 10) dX8_set_4 (by decide) (fun c_4 => ?_) (fun c_4 => ?_)
  rotate_left
  · exact absurd (hx_row hj) (hb_z.mp c_4)
  refine hc_aload_n C dX8_set_10 rfl rfl ?_
  refine hc_iload_n C dX8_set_11 rfl rfl ?_
  refine hc_cV1i C mv_X8_72 (c_X8_isMissing C.ok hj) rfl rfl rfl (Nat.le_of_ble_eq_true rfl) (hc_rr_rm (by decide)) ⟨Nat.zero_le _, Nat.zero_le _⟩ dX8_set_12 (fun r_12 M_12 h_12 => ?_)
  obtain ⟨rfl, rfl⟩ := h_12
  refine hc_if_eq C (tgt := 24) dX8_set_15 (by decide) (fun c_15 => ?_) (fun c_15 => ?_)
  rotate_left
  · exact absurd (hb_f h1) c_15
  refine hc_iload_n C dX8_set_24 rfl rfl ?_
  refine hc_iconst C dX8_set_25 (v := 0) rfl ?_
  refine hc_aload_n C dX8_set_26 rfl rfl ?_
  refine hc_getR C fl_X8_13 rfl rfl dX8_set_27 ?_
  refine hc_iload_n C dX8_set_30 rfl rfl ?_
  refine hc_ialdN C (j := j) rfl rfl (by omega) dX8_set_31 ?_
  refine hc_iconst C dX8_set_32 (v := 1) rfl ?_
  refine hc_isub C dX8_set_33 ?_
  refine hc_cS3i C ms_X8_56 (c_X8_in C.ok) (Nat.le_of_ble_eq_true rfl) (hc_rr_rm (by decide)) ⟨Nat.zero_le _, Nat.zero_le _⟩ dX8_set_34 (fun r_34 M_34 h_34 => ?_)
  obtain ⟨rfl, rfl⟩ := h_34
  refine hc_if_ne C (tgt := 46) dX8_set_37 (by decide) (fun c_37 => ?_) (fun c_37 => ?_)
  · exact absurd (hb_z.mpr (show ¬ (¬ i < 0 ∧ ¬ M 50 j - 1 < i) from by rw [hm, hx_pred (by omega), ← hm]; exact h2)) c_37
  refine hc_aload_n C dX8_set_40 rfl rfl ?_
  refine hc_iconst C dX8_set_41 (v := 2) rfl ?_
  refine hc_cV1i C mv_X8_65 (c_X8_found C.ok) rfl rfl rfl (Nat.le_of_ble_eq_true rfl) (hc_rr_rm (by decide)) ⟨Nat.zero_le _, Nat.zero_le _⟩ dX8_set_42 (fun r_42 M_42 h_42 => ?_)
  obtain ⟨rfl, rfl⟩ := h_42
  refine hc_iret C rfl dX8_set_45 ?_
  exact ⟨rfl, rfl⟩

set_option maxRecDepth 100000 in
set_option maxHeartbeats 4000000 in
theorem c_X8_set_o {l : Launch} {G : hc_Geo} (hG : hc_ok G) {M : hc_Mem} {j i m : Nat} {v : Int32}  (hj : j < 8) (h1 : ¬ M 49 j = -1000000) (hm : M 50 j = nI m) (hm4 : m ≤ 40) (hi : i < m) : hc_M l G yX8_set cX8_set 4 (some .int) 3 [.ref (hc_ad G 48), .int (nI j), .int (nI i), .int v] M (hc_pi (fun z M' => hc_cut v (M 49 j) = z ∧ hc_ms (hc_ms M 51 (40 * j + i) (hc_cut v (M 49 j))) 48 4 0 = M')) := by
  refine hc_M.of hG (by decide) [some (.ref (hc_ad G 48)), some (.int (nI j)), some (.int (nI i)), some (.int v)] rfl (Nat.le_of_ble_eq_true rfl) ?_
  intro p e s m args below meth c C
  refine hc_iload_n C dX8_set_0 rfl rfl ?_
  refine hc_cS1i C ms_X8_60 (c_X8_isRow C.ok) (Nat.le_of_ble_eq_true rfl) (hc_rr_rm (by decide)) ⟨Nat.zero_le _, Nat.zero_le _⟩ dX8_set_1 (fun r_1 M_1 h_1 => ?_)
  obtain ⟨rfl, rfl⟩ := h_1
  refine hc_if_ne C (tgt := 10) dX8_set_4 (by decide) (fun c_4 => ?_) (fun c_4 => ?_)
  rotate_left
  · exact absurd (hx_row hj) (hb_z.mp c_4)
  refine hc_aload_n C dX8_set_10 rfl rfl ?_
  refine hc_iload_n C dX8_set_11 rfl rfl ?_
  refine hc_cV1i C mv_X8_72 (c_X8_isMissing C.ok hj) rfl rfl rfl (Nat.le_of_ble_eq_true rfl) (hc_rr_rm (by decide)) ⟨Nat.zero_le _, Nat.zero_le _⟩ dX8_set_12 (fun r_12 M_12 h_12 => ?_)
  obtain ⟨rfl, rfl⟩ := h_12
  refine hc_if_eq C (tgt := 24) dX8_set_15 (by decide) (fun c_15 => ?_) (fun c_15 => ?_)
  rotate_left
  · exact absurd (hb_f h1) c_15
  refine hc_iload_n C dX8_set_24 rfl rfl ?_
  refine hc_iconst C dX8_set_25 (v := 0) rfl ?_
  refine hc_aload_n C dX8_set_26 rfl rfl ?_
  refine hc_getR C fl_X8_13 rfl rfl dX8_set_27 ?_
  refine hc_iload_n C dX8_set_30 rfl rfl ?_
  refine hc_ialdN C (j := j) rfl rfl (by omega) dX8_set_31 ?_
  refine hc_iconst C dX8_set_32 (v := 1) rfl ?_
  refine hc_isub C dX8_set_33 ?_
  refine hc_cS3i C ms_X8_56 (c_X8_in C.ok) (Nat.le_of_ble_eq_true rfl) (hc_rr_rm (by decide)) ⟨Nat.zero_le _, Nat.zero_le _⟩ dX8_set_34 (fun r_34 M_34 h_34 => ?_)
  obtain ⟨rfl, rfl⟩ := h_34
  refine hc_if_ne C (tgt := 46) dX8_set_37 (by decide) (fun c_37 => ?_) (fun c_37 => ?_)
  rotate_left
  · exact absurd (show (¬ nI i < 0 ∧ ¬ M 50 j - 1 < nI i) from ⟨nI_pos (by omega), by rw [hm, hx_pred (by omega)]; exact nI_ge hi (by omega)⟩) (hb_z.mp c_37)
  refine hc_aload_n C dX8_set_46 rfl rfl ?_
  refine hc_getR C fl_X8_16 rfl rfl dX8_set_47 ?_
  refine hc_bipush C dX8_set_50 (v := 40) rfl ?_
  refine hc_iload_n C dX8_set_52 rfl rfl ?_
  refine hc_imul C dX8_set_53 ?_
  refine hc_iload_n C dX8_set_54 rfl rfl ?_
  refine hc_iadd C dX8_set_55 ?_
  refine hc_aload_n C dX8_set_56 rfl rfl ?_
  refine hc_getR C fl_X8_7 rfl rfl dX8_set_57 ?_
  refine hc_iload_n C dX8_set_60 rfl rfl ?_
  refine hc_ialdN C (j := j) rfl rfl (by omega) dX8_set_61 ?_
  refine hc_iload_n C dX8_set_62 rfl rfl ?_
  refine hc_cS2i C ms_X8_75 (c_X8_cut C.ok) (Nat.le_of_ble_eq_true rfl) (hc_rr_rm (by decide)) ⟨Nat.zero_le _, Nat.zero_le _⟩ dX8_set_63 (fun r_63 M_63 h_63 => ?_)
  obtain ⟨rfl, rfl⟩ := h_63
  refine hc_iastN C (j := (40 * j + i)) rfl (show (40 : Int32) * nI j + nI i = nI (40 * j + i) by rw [show (40 : Int32) = nI 40 from rfl, pk_mul, nI_add]) (by omega) dX8_set_66 ?_
  refine hc_aload_n C dX8_set_67 rfl rfl ?_
  refine hc_aload_n C dX8_set_68 rfl rfl ?_
  refine hc_getR C fl_X8_16 rfl rfl dX8_set_69 ?_
  refine hc_bipush C dX8_set_72 (v := 40) rfl ?_
  refine hc_iload_n C dX8_set_74 rfl rfl ?_
  refine hc_imul C dX8_set_75 ?_
  refine hc_iload_n C dX8_set_76 rfl rfl ?_
  refine hc_iadd C dX8_set_77 ?_
  refine hc_ialdN C (j := (40 * j + i)) rfl (show (40 : Int32) * nI j + nI i = nI (40 * j + i) by rw [show (40 : Int32) = nI 40 from rfl, pk_mul, nI_add]) (by omega) dX8_set_78 ?_
  refine hc_top (v := hc_cut v (M 49 j)) hc_ms_v ?_
  refine hc_cV1i C mv_X8_69 (c_X8_well C.ok) rfl rfl rfl (Nat.le_of_ble_eq_true rfl) (hc_rr_rm (by decide)) ⟨Nat.zero_le _, Nat.zero_le _⟩ dX8_set_79 (fun r_79 M_79 h_79 => ?_)
  obtain ⟨rfl, rfl⟩ := h_79
  refine hc_iret C rfl dX8_set_82 ?_
  exact ⟨rfl, rfl⟩

set_option maxRecDepth 100000 in
set_option maxHeartbeats 4000000 in
theorem c_X8_drop_o {l : Launch} {G : hc_Geo} (hG : hc_ok G) {M : hc_Mem} {j : Nat}  (hj : j < 8) (h1 : ¬ M 49 j = -1000000) : hc_M l G yX8_drop cX8_drop 2 (some .int) 3 [.ref (hc_ad G 48), .int (nI j)] M (hc_pi (fun z M' => M 50 j = z ∧ hc_ms (hc_ms M 49 j (-1000000)) 48 4 0 = M')) := by
  refine hc_M.of hG (by decide) [some (.ref (hc_ad G 48)), some (.int (nI j))] rfl (Nat.le_of_ble_eq_true rfl) ?_
  intro p e s m args below meth c C
  refine hc_iload_n C dX8_drop_0 rfl rfl ?_
  refine hc_cS1i C ms_X8_60 (c_X8_isRow C.ok) (Nat.le_of_ble_eq_true rfl) (hc_rr_rm (by decide)) ⟨Nat.zero_le _, Nat.zero_le _⟩ dX8_drop_1 (fun r_1 M_1 h_1 => ?_)
  obtain ⟨rfl, rfl⟩ := h_1
  refine hc_if_ne C (tgt := 10) dX8_drop_4 (by decide) (fun c_4 => ?_) (fun c_4 => ?_)
  rotate_left
  · exact absurd (hx_row hj) (hb_z.mp c_4)
  refine hc_aload_n C dX8_drop_10 rfl rfl ?_
  refine hc_iload_n C dX8_drop_11 rfl rfl ?_
  refine hc_cV1i C mv_X8_72 (c_X8_isMissing C.ok hj) rfl rfl rfl (Nat.le_of_ble_eq_true rfl) (hc_rr_rm (by decide)) ⟨Nat.zero_le _, Nat.zero_le _⟩ dX8_drop_12 (fun r_12 M_12 h_12 => ?_)
  obtain ⟨rfl, rfl⟩ := h_12
  refine hc_if_eq C (tgt := 24) dX8_drop_15 (by decide) (fun c_15 => ?_) (fun c_15 => ?_)
  rotate_left
  · exact absurd (hb_f h1) c_15
  refine hc_aload_n C dX8_drop_24 rfl rfl ?_
  refine hc_getR C fl_X8_7 rfl rfl dX8_drop_25 ?_
  refine hc_iload_n C dX8_drop_28 rfl rfl ?_
  refine hc_ldc C kc_X8_50 dX8_drop_29 ?_
  refine hc_iastN C (j := j) rfl rfl (by omega) dX8_drop_31 ?_
  refine hc_aload_n C dX8_drop_32 rfl rfl ?_
  refine hc_aload_n C dX8_drop_33 rfl rfl ?_
  refine hc_getR C fl_X8_13 rfl rfl dX8_drop_34 ?_
  refine hc_iload_n C dX8_drop_37 rfl rfl ?_
  refine hc_ialdN C (j := j) rfl rfl (by omega) dX8_drop_38 ?_
  refine hc_cV1i C mv_X8_69 (c_X8_well C.ok) rfl rfl rfl (Nat.le_of_ble_eq_true rfl) (hc_rr_rm (by decide)) ⟨Nat.zero_le _, Nat.zero_le _⟩ dX8_drop_39 (fun r_39 M_39 h_39 => ?_)
  obtain ⟨rfl, rfl⟩ := h_39
  refine hc_iret C rfl dX8_drop_42 ?_
  exact ⟨rfl, rfl⟩

set_option maxRecDepth 100000 in
set_option maxHeartbeats 4000000 in
theorem c_X8_copy_s {l : Launch} {G : hc_Geo} (hG : hc_ok G) {M : hc_Mem} {a b : Nat} {i j n : Int32}  (ha : a < 8) (hb8 : b < 8) (h1 : ¬ M 49 a = -1000000) (h2 : ¬ M 49 b = -1000000) (h3 : ¬ M 49 a = M 49 b) : hc_M l G yX8_copy cX8_copy 7 (some .int) 3 [.ref (hc_ad G 48), .int (nI a), .int i, .int (nI b), .int j, .int n] M (hc_pi (fun z M' => -1000015 = z ∧ hc_ms M 48 4 5 = M')) := by
  refine hc_M.of hG (by decide) [some (.ref (hc_ad G 48)), some (.int (nI a)), some (.int i), some (.int (nI b)), some (.int j), some (.int n), none] rfl (Nat.le_of_ble_eq_true rfl) ?_
  intro p e s m args below meth c C
  refine hc_iload_n C dX8_copy_0 rfl rfl ?_
  refine hc_cS1i C ms_X8_60 (c_X8_isRow C.ok) (Nat.le_of_ble_eq_true rfl) (hc_rr_rm (by decide)) ⟨Nat.zero_le _, Nat.zero_le _⟩ dX8_copy_1 (fun r_1 M_1 h_1 => ?_)
  obtain ⟨rfl, rfl⟩ := h_1
  refine hc_if_eq C (tgt := 14) dX8_copy_4 (by decide) (fun c_4 => ?_) (fun c_4 => ?_)
  · exact absurd (hx_row ha) (hb_z.mp c_4)
  refine hc_iload_n C dX8_copy_7 rfl rfl ?_
  refine hc_cS1i C ms_X8_60 (c_X8_isRow C.ok) (Nat.le_of_ble_eq_true rfl) (hc_rr_rm (by decide)) ⟨Nat.zero_le _, Nat.zero_le _⟩ dX8_copy_8 (fun r_8 M_8 h_8 => ?_)
  obtain ⟨rfl, rfl⟩ := h_8
  refine hc_if_ne C (tgt := 17) dX8_copy_11 (by decide) (fun c_11 => ?_) (fun c_11 => ?_)
  rotate_left
  · exact absurd (hx_row hb8) (hb_z.mp c_11)
  refine hc_aload_n C dX8_copy_17 rfl rfl ?_
  refine hc_iload_n C dX8_copy_18 rfl rfl ?_
  refine hc_cV1i C mv_X8_72 (c_X8_isMissing C.ok ha) rfl rfl rfl (Nat.le_of_ble_eq_true rfl) (hc_rr_rm (by decide)) ⟨Nat.zero_le _, Nat.zero_le _⟩ dX8_copy_19 (fun r_19 M_19 h_19 => ?_)
  obtain ⟨rfl, rfl⟩ := h_19
  refine hc_if_ne C (tgt := 33) dX8_copy_22 (by decide) (fun c_22 => ?_) (fun c_22 => ?_)
  · exact absurd (hb_f h1) c_22
  refine hc_aload_n C dX8_copy_25 rfl rfl ?_
  refine hc_iload_n C dX8_copy_26 rfl rfl ?_
  refine hc_cV1i C mv_X8_72 (c_X8_isMissing C.ok hb8) rfl rfl rfl (Nat.le_of_ble_eq_true rfl) (hc_rr_rm (by decide)) ⟨Nat.zero_le _, Nat.zero_le _⟩ dX8_copy_27 (fun r_27 M_27 h_27 => ?_)
  obtain ⟨rfl, rfl⟩ := h_27
  refine hc_if_eq C (tgt := 39) dX8_copy_30 (by decide) (fun c_30 => ?_) (fun c_30 => ?_)
  rotate_left
  · exact absurd (hb_f h2) c_30
  refine hc_aload_n C dX8_copy_39 rfl rfl ?_
  refine hc_getR C fl_X8_7 rfl rfl dX8_copy_40 ?_
  refine hc_iload_n C dX8_copy_43 rfl rfl ?_
  refine hc_ialdN C (j := a) rfl rfl (by omega) dX8_copy_44 ?_
  refine hc_aload_n C dX8_copy_45 rfl rfl ?_
  refine hc_getR C fl_X8_7 rfl rfl dX8_copy_46 ?_
  refine hc_iload_n C dX8_copy_49 rfl rfl ?_
  refine hc_ialdN C (j := b) rfl rfl (by omega) dX8_copy_50 ?_
  refine hc_icmp_eq C (tgt := 60) dX8_copy_51 (by decide) (fun c_51 => ?_) (fun c_51 => ?_)
  · exact absurd c_51 h3
  refine hc_aload_n C dX8_copy_54 rfl rfl ?_
  refine hc_iconst C dX8_copy_55 (v := 5) rfl ?_
  refine hc_cV1i C mv_X8_65 (c_X8_found C.ok) rfl rfl rfl (Nat.le_of_ble_eq_true rfl) (hc_rr_rm (by decide)) ⟨Nat.zero_le _, Nat.zero_le _⟩ dX8_copy_56 (fun r_56 M_56 h_56 => ?_)
  obtain ⟨rfl, rfl⟩ := h_56
  refine hc_iret C rfl dX8_copy_59 ?_
  exact ⟨rfl, rfl⟩

set_option maxRecDepth 100000 in
set_option maxHeartbeats 4000000 in
theorem c_X8_copy_p {l : Launch} {G : hc_Geo} (hG : hc_ok G) {M : hc_Mem} {a b : Nat} {i j n : Int32}  (ha : a < 8) (hb8 : b < 8) (h1 : ¬ M 49 a = -1000000) (h2 : ¬ M 49 b = -1000000) (h3 : M 49 a = M 49 b) (h4 : ¬ (rPt (M 50 a) i n ∧ rPt (M 50 b) j n)) : hc_M l G yX8_copy cX8_copy 7 (some .int) 3 [.ref (hc_ad G 48), .int (nI a), .int i, .int (nI b), .int j, .int n] M (hc_pi (fun z M' => -1000012 = z ∧ hc_ms M 48 4 2 = M')) := by
  refine hc_M.of hG (by decide) [some (.ref (hc_ad G 48)), some (.int (nI a)), some (.int i), some (.int (nI b)), some (.int j), some (.int n), none] rfl (Nat.le_of_ble_eq_true rfl) ?_
  intro p e s m args below meth c C
  refine hc_iload_n C dX8_copy_0 rfl rfl ?_
  refine hc_cS1i C ms_X8_60 (c_X8_isRow C.ok) (Nat.le_of_ble_eq_true rfl) (hc_rr_rm (by decide)) ⟨Nat.zero_le _, Nat.zero_le _⟩ dX8_copy_1 (fun r_1 M_1 h_1 => ?_)
  obtain ⟨rfl, rfl⟩ := h_1
  refine hc_if_eq C (tgt := 14) dX8_copy_4 (by decide) (fun c_4 => ?_) (fun c_4 => ?_)
  · exact absurd (hx_row ha) (hb_z.mp c_4)
  refine hc_iload_n C dX8_copy_7 rfl rfl ?_
  refine hc_cS1i C ms_X8_60 (c_X8_isRow C.ok) (Nat.le_of_ble_eq_true rfl) (hc_rr_rm (by decide)) ⟨Nat.zero_le _, Nat.zero_le _⟩ dX8_copy_8 (fun r_8 M_8 h_8 => ?_)
  obtain ⟨rfl, rfl⟩ := h_8
  refine hc_if_ne C (tgt := 17) dX8_copy_11 (by decide) (fun c_11 => ?_) (fun c_11 => ?_)
  rotate_left
  · exact absurd (hx_row hb8) (hb_z.mp c_11)
  refine hc_aload_n C dX8_copy_17 rfl rfl ?_
  refine hc_iload_n C dX8_copy_18 rfl rfl ?_
  refine hc_cV1i C mv_X8_72 (c_X8_isMissing C.ok ha) rfl rfl rfl (Nat.le_of_ble_eq_true rfl) (hc_rr_rm (by decide)) ⟨Nat.zero_le _, Nat.zero_le _⟩ dX8_copy_19 (fun r_19 M_19 h_19 => ?_)
  obtain ⟨rfl, rfl⟩ := h_19
  refine hc_if_ne C (tgt := 33) dX8_copy_22 (by decide) (fun c_22 => ?_) (fun c_22 => ?_)
  · exact absurd (hb_f h1) c_22
  refine hc_aload_n C dX8_copy_25 rfl rfl ?_
  refine hc_iload_n C dX8_copy_26 rfl rfl ?_
  refine hc_cV1i C mv_X8_72 (c_X8_isMissing C.ok hb8) rfl rfl rfl (Nat.le_of_ble_eq_true rfl) (hc_rr_rm (by decide)) ⟨Nat.zero_le _, Nat.zero_le _⟩ dX8_copy_27 (fun r_27 M_27 h_27 => ?_)
  obtain ⟨rfl, rfl⟩ := h_27
  refine hc_if_eq C (tgt := 39) dX8_copy_30 (by decide) (fun c_30 => ?_) (fun c_30 => ?_)
  rotate_left
  · exact absurd (hb_f h2) c_30
  refine hc_aload_n C dX8_copy_39 rfl rfl ?_
  refine hc_getR C fl_X8_7 rfl rfl dX8_copy_40 ?_
  refine hc_iload_n C dX8_copy_43 rfl rfl ?_
  refine hc_ialdN C (j := a) rfl rfl (by omega) dX8_copy_44 ?_
  refine hc_aload_n C dX8_copy_45 rfl rfl ?_
  refine hc_getR C fl_X8_7 rfl rfl dX8_copy_46 ?_
  refine hc_iload_n C dX8_copy_49 rfl rfl ?_
  refine hc_ialdN C (j := b) rfl rfl (by omega) dX8_copy_50 ?_
  refine hc_icmp_eq C (tgt := 60) dX8_copy_51 (by decide) (fun c_51 => ?_) (fun c_51 => ?_)
  rotate_left
  · exact absurd h3 c_51
  refine hc_aload_n C dX8_copy_60 rfl rfl ?_
  refine hc_iload_n C dX8_copy_61 rfl rfl ?_
  refine hc_iload_n C dX8_copy_62 rfl rfl ?_
  refine hc_iload C dX8_copy_63 rfl ?_
  refine hc_cV3i C mv_X8_79 (c_X8_isPart C.ok ha) rfl rfl rfl (Nat.le_of_ble_eq_true rfl) (hc_rr_rm (by decide)) ⟨Nat.zero_le _, Nat.zero_le _⟩ dX8_copy_65 (fun r_65 M_65 h_65 => ?_)
  obtain ⟨rfl, rfl⟩ := h_65
  refine hc_if_eq C (tgt := 83) dX8_copy_68 (by decide) (fun c_68 => ?_) (fun c_68 => ?_)
  · refine hc_aload_n C dX8_copy_83 rfl rfl ?_
    refine hc_iconst C dX8_copy_84 (v := 2) rfl ?_
    refine hc_cV1i C mv_X8_65 (c_X8_found C.ok) rfl rfl rfl (Nat.le_of_ble_eq_true rfl) (hc_rr_rm (by decide)) ⟨Nat.zero_le _, Nat.zero_le _⟩ dX8_copy_85 (fun r_85 M_85 h_85 => ?_)
    obtain ⟨rfl, rfl⟩ := h_85
    refine hc_iret C rfl dX8_copy_88 ?_
    exact ⟨rfl, rfl⟩
  · refine hc_aload_n C dX8_copy_71 rfl rfl ?_
    refine hc_iload_n C dX8_copy_72 rfl rfl ?_
    refine hc_iload C dX8_copy_73 rfl ?_
    refine hc_iload C dX8_copy_75 rfl ?_
    refine hc_cV3i C mv_X8_79 (c_X8_isPart C.ok hb8) rfl rfl rfl (Nat.le_of_ble_eq_true rfl) (hc_rr_rm (by decide)) ⟨Nat.zero_le _, Nat.zero_le _⟩ dX8_copy_77 (fun r_77 M_77 h_77 => ?_)
    obtain ⟨rfl, rfl⟩ := h_77
    refine hc_if_ne C (tgt := 89) dX8_copy_80 (by decide) (fun c_80 => ?_) (fun c_80 => ?_)
    · exact absurd ⟨hb_nz.mp c_68, hb_nz.mp c_80⟩ h4
    · refine hc_aload_n C dX8_copy_83 rfl rfl ?_
      refine hc_iconst C dX8_copy_84 (v := 2) rfl ?_
      refine hc_cV1i C mv_X8_65 (c_X8_found C.ok) rfl rfl rfl (Nat.le_of_ble_eq_true rfl) (hc_rr_rm (by decide)) ⟨Nat.zero_le _, Nat.zero_le _⟩ dX8_copy_85 (fun r_85 M_85 h_85 => ?_)
      obtain ⟨rfl, rfl⟩ := h_85
      refine hc_iret C rfl dX8_copy_88 ?_
      exact ⟨rfl, rfl⟩

set_option maxRecDepth 100000 in
set_option maxHeartbeats 4000000 in
theorem lp_Rcp1 {G : hc_Geo} {p : Program} {l : Launch} {e : Env} {d : Nat} {s : State} {m : MethodId} {args : Array Value} {below : List Frame} {meth : Method} {c : Code} {Q : State → Prop} (C : hc_Cx G hc_lay cX8_copy 7 (some .int) yX8_copy.cls p s m args meth c) {M : hc_Mem} {a b i j n : Nat} (ha : a < 8) (hb8 : b < 8) (hi : i + n ≤ 40) (hj : j + n ≤ 40) 
    (kk : hc_W G hc_lay p l e (hc_rm d) s m args below meth c 7 0 0 Q 126 [some (.ref (hc_ad G 48)), some (.int (nI a)), some (.int (nI i)), some (.int (nI b)), some (.int (nI j)), some (.int (nI n)), some (.int (nI n))] [] (hc_mf M 52 (fun x => if x < n then M 51 (40 * a + i + x) else M 52 x))) :
    ∀ (t : Nat) (t0 : Nat), t0 + t = n → hc_W G hc_lay p l e (hc_rm d) s m args below meth c 7 0 0 Q 92 [some (.ref (hc_ad G 48)), some (.int (nI a)), some (.int (nI i)), some (.int (nI b)), some (.int (nI j)), some (.int (nI n)), some (.int (nI t0))] [] (hc_mf M 52 (fun x => if x < t0 then M 51 (40 * a + i + x) else M 52 x)) := by
  intro t
  induction t with
  | zero =>
    intro t0 ht
    refine hc_iload C dX8_copy_92 rfl ?_
    refine hc_iload C dX8_copy_94 rfl ?_
    refine hc_icmp_ge C (tgt := 126) dX8_copy_96 (by decide) (fun c_96 => ?_) (fun c_96 => ?_)
    rotate_left
    · exact absurd (nI_le (show n ≤ t0 by omega) (by omega)) c_96
    rw [show t0 = n by omega]
    exact kk
  | succ t ih =>
    intro t0 ht
    refine hc_iload C dX8_copy_92 rfl ?_
    refine hc_iload C dX8_copy_94 rfl ?_
    refine hc_icmp_ge C (tgt := 126) dX8_copy_96 (by decide) (fun c_96 => ?_) (fun c_96 => ?_)
    · exact absurd c_96 (nI_ge (show t0 < n by omega) (by omega))
    refine hc_aload_n C dX8_copy_99 rfl rfl ?_
    refine hc_getR C fl_X8_19 rfl rfl dX8_copy_100 ?_
    refine hc_iload C dX8_copy_103 rfl ?_
    refine hc_aload_n C dX8_copy_105 rfl rfl ?_
    refine hc_getR C fl_X8_16 rfl rfl dX8_copy_106 ?_
    refine hc_bipush C dX8_copy_109 (v := 40) rfl ?_
    refine hc_iload_n C dX8_copy_111 rfl rfl ?_
    refine hc_imul C dX8_copy_112 ?_
    refine hc_iload_n C dX8_copy_113 rfl rfl ?_
    refine hc_iadd C dX8_copy_114 ?_
    refine hc_iload C dX8_copy_115 rfl ?_
    refine hc_iadd C dX8_copy_117 ?_
    refine hc_ialdN C (j := (40 * a + i + t0)) rfl (show (40 : Int32) * nI a + nI i + nI t0 = nI (40 * a + i + t0) by rw [show (40 : Int32) = nI 40 from rfl, pk_mul, nI_add, nI_add]) (by omega) dX8_copy_118 ?_
    rw [hc_mf_n (by decide)]
    refine hc_iastN C (j := t0) rfl rfl (by omega) dX8_copy_119 ?_
    rw [hc_ms_mf]
    refine hc_mem (M2 := (hc_mf M 52 (fun x => if x < (t0 + 1) then M 51 (40 * a + i + x) else M 52 x))) (congrArg (hc_mf M 52) (upd_lt (f := fun x => M 51 (40 * a + i + x)))) ?_
    refine hc_iinc6 C (v := nI (t0 + 1)) dX8_copy_120 (by decide) rfl rfl (nI_1 t0) ?_
    refine hc_goto C (tgt := 92) dX8_copy_123 (by decide) ?_
    exact ih (t0 + 1) (by omega)

theorem rcp_s {f g : Nat → Int32} {p q t : Nat} : upd (va_cpy f g p q t) (q + t) (f (p + t)) = va_cpy f g p q (t + 1) := by
  funext x
  simp only [upd, va_cpy]
  by_cases hx : x = q + t
  · subst hx
    rw [if_pos rfl, if_pos (by omega)]
    congr 1
    omega
  · rw [if_neg hx]
    have e1 : (q ≤ x ∧ x < q + (t + 1)) ↔ (q ≤ x ∧ x < q + t) := by omega
    simp only [e1]
theorem rcp_0 {f g : Nat → Int32} {p q : Nat} : va_cpy f g p q 0 = g := by
  funext x
  simp only [va_cpy]
  rw [if_neg (by omega)]

set_option maxRecDepth 100000 in
set_option maxHeartbeats 4000000 in
theorem lp_Rcp2 {G : hc_Geo} {p : Program} {l : Launch} {e : Env} {d : Nat} {s : State} {m : MethodId} {args : Array Value} {below : List Frame} {meth : Method} {c : Code} {Q : State → Prop} (C : hc_Cx G hc_lay cX8_copy 7 (some .int) yX8_copy.cls p s m args meth c) {M X : hc_Mem} {a b i j n : Nat} (ha : a < 8) (hb8 : b < 8) (hi : i + n ≤ 40) (hj : j + n ≤ 40) (hX : ∀ x, x < n → X 52 x = M 51 (40 * a + i + x)) 
    (kk : hc_W G hc_lay p l e (hc_rm d) s m args below meth c 7 0 0 Q 164 [some (.ref (hc_ad G 48)), some (.int (nI a)), some (.int (nI i)), some (.int (nI b)), some (.int (nI j)), some (.int (nI n)), some (.int (nI n))] [] (hc_mf X 51 (va_cpy (M 51) (M 51) (40 * a + i) (40 * b + j) n))) :
    ∀ (t : Nat) (t0 : Nat), t0 + t = n → hc_W G hc_lay p l e (hc_rm d) s m args below meth c 7 0 0 Q 129 [some (.ref (hc_ad G 48)), some (.int (nI a)), some (.int (nI i)), some (.int (nI b)), some (.int (nI j)), some (.int (nI n)), some (.int (nI t0))] [] (hc_mf X 51 (va_cpy (M 51) (M 51) (40 * a + i) (40 * b + j) t0)) := by
  intro t
  induction t with
  | zero =>
    intro t0 ht
    refine hc_iload C dX8_copy_129 rfl ?_
    refine hc_iload C dX8_copy_131 rfl ?_
    refine hc_icmp_ge C (tgt := 164) dX8_copy_133 (by decide) (fun c_133 => ?_) (fun c_133 => ?_)
    rotate_left
    · exact absurd (nI_le (show n ≤ t0 by omega) (by omega)) c_133
    rw [show t0 = n by omega]
    exact kk
  | succ t ih =>
    intro t0 ht
    refine hc_iload C dX8_copy_129 rfl ?_
    refine hc_iload C dX8_copy_131 rfl ?_
    refine hc_icmp_ge C (tgt := 164) dX8_copy_133 (by decide) (fun c_133 => ?_) (fun c_133 => ?_)
    · exact absurd c_133 (nI_ge (show t0 < n by omega) (by omega))
    refine hc_aload_n C dX8_copy_136 rfl rfl ?_
    refine hc_getR C fl_X8_16 rfl rfl dX8_copy_137 ?_
    refine hc_bipush C dX8_copy_140 (v := 40) rfl ?_
    refine hc_iload_n C dX8_copy_142 rfl rfl ?_
    refine hc_imul C dX8_copy_143 ?_
    refine hc_iload C dX8_copy_144 rfl ?_
    refine hc_iadd C dX8_copy_146 ?_
    refine hc_iload C dX8_copy_147 rfl ?_
    refine hc_iadd C dX8_copy_149 ?_
    refine hc_aload_n C dX8_copy_150 rfl rfl ?_
    refine hc_getR C fl_X8_19 rfl rfl dX8_copy_151 ?_
    refine hc_iload C dX8_copy_154 rfl ?_
    refine hc_ialdN C (j := t0) rfl rfl (by omega) dX8_copy_156 ?_
    rw [hc_mf_n (by decide), hX t0 (by omega)]
    refine hc_iastN C (j := (40 * b + j + t0)) rfl (show (40 : Int32) * nI b + nI j + nI t0 = nI (40 * b + j + t0) by rw [show (40 : Int32) = nI 40 from rfl, pk_mul, nI_add, nI_add]) (by omega) dX8_copy_157 ?_
    rw [hc_ms_mf]
    refine hc_mem (M2 := (hc_mf X 51 (va_cpy (M 51) (M 51) (40 * a + i) (40 * b + j) (t0 + 1)))) (congrArg (hc_mf X 51) rcp_s) ?_
    refine hc_iinc6 C (v := nI (t0 + 1)) dX8_copy_158 (by decide) rfl rfl (nI_1 t0) ?_
    refine hc_goto C (tgt := 129) dX8_copy_161 (by decide) ?_
    exact ih (t0 + 1) (by omega)

set_option maxRecDepth 100000 in
set_option maxHeartbeats 4000000 in
theorem c_X8_copy_o {l : Launch} {G : hc_Geo} (hG : hc_ok G) {M : hc_Mem} {a b i j n : Nat}  (ha : a < 8) (hb8 : b < 8) (h1 : ¬ M 49 a = -1000000) (h2 : ¬ M 49 b = -1000000) (h3 : M 49 a = M 49 b) (h4 : rPt (M 50 a) (nI i) (nI n)) (h5 : rPt (M 50 b) (nI j) (nI n)) (hi : i + n ≤ 40) (hj : j + n ≤ 40) : hc_M l G yX8_copy cX8_copy 7 (some .int) 3 [.ref (hc_ad G 48), .int (nI a), .int (nI i), .int (nI b), .int (nI j), .int (nI n)] M (hc_pi (fun z M' => nI n = z ∧ hc_ms (hc_mf (hc_mf M 52 (fun x => if x < n then M 51 (40 * a + i + x) else M 52 x)) 51 (va_cpy (M 51) (M 51) (40 * a + i) (40 * b + j) n)) 48 4 0 = M')) := by
  refine hc_M.of hG (by decide) [some (.ref (hc_ad G 48)), some (.int (nI a)), some (.int (nI i)), some (.int (nI b)), some (.int (nI j)), some (.int (nI n)), none] rfl (Nat.le_of_ble_eq_true rfl) ?_
  intro p e s m args below meth c C
  refine hc_iload_n C dX8_copy_0 rfl rfl ?_
  refine hc_cS1i C ms_X8_60 (c_X8_isRow C.ok) (Nat.le_of_ble_eq_true rfl) (hc_rr_rm (by decide)) ⟨Nat.zero_le _, Nat.zero_le _⟩ dX8_copy_1 (fun r_1 M_1 h_1 => ?_)
  obtain ⟨rfl, rfl⟩ := h_1
  refine hc_if_eq C (tgt := 14) dX8_copy_4 (by decide) (fun c_4 => ?_) (fun c_4 => ?_)
  · exact absurd (hx_row ha) (hb_z.mp c_4)
  refine hc_iload_n C dX8_copy_7 rfl rfl ?_
  refine hc_cS1i C ms_X8_60 (c_X8_isRow C.ok) (Nat.le_of_ble_eq_true rfl) (hc_rr_rm (by decide)) ⟨Nat.zero_le _, Nat.zero_le _⟩ dX8_copy_8 (fun r_8 M_8 h_8 => ?_)
  obtain ⟨rfl, rfl⟩ := h_8
  refine hc_if_ne C (tgt := 17) dX8_copy_11 (by decide) (fun c_11 => ?_) (fun c_11 => ?_)
  rotate_left
  · exact absurd (hx_row hb8) (hb_z.mp c_11)
  refine hc_aload_n C dX8_copy_17 rfl rfl ?_
  refine hc_iload_n C dX8_copy_18 rfl rfl ?_
  refine hc_cV1i C mv_X8_72 (c_X8_isMissing C.ok ha) rfl rfl rfl (Nat.le_of_ble_eq_true rfl) (hc_rr_rm (by decide)) ⟨Nat.zero_le _, Nat.zero_le _⟩ dX8_copy_19 (fun r_19 M_19 h_19 => ?_)
  obtain ⟨rfl, rfl⟩ := h_19
  refine hc_if_ne C (tgt := 33) dX8_copy_22 (by decide) (fun c_22 => ?_) (fun c_22 => ?_)
  · exact absurd (hb_f h1) c_22
  refine hc_aload_n C dX8_copy_25 rfl rfl ?_
  refine hc_iload_n C dX8_copy_26 rfl rfl ?_
  refine hc_cV1i C mv_X8_72 (c_X8_isMissing C.ok hb8) rfl rfl rfl (Nat.le_of_ble_eq_true rfl) (hc_rr_rm (by decide)) ⟨Nat.zero_le _, Nat.zero_le _⟩ dX8_copy_27 (fun r_27 M_27 h_27 => ?_)
  obtain ⟨rfl, rfl⟩ := h_27
  refine hc_if_eq C (tgt := 39) dX8_copy_30 (by decide) (fun c_30 => ?_) (fun c_30 => ?_)
  rotate_left
  · exact absurd (hb_f h2) c_30
  refine hc_aload_n C dX8_copy_39 rfl rfl ?_
  refine hc_getR C fl_X8_7 rfl rfl dX8_copy_40 ?_
  refine hc_iload_n C dX8_copy_43 rfl rfl ?_
  refine hc_ialdN C (j := a) rfl rfl (by omega) dX8_copy_44 ?_
  refine hc_aload_n C dX8_copy_45 rfl rfl ?_
  refine hc_getR C fl_X8_7 rfl rfl dX8_copy_46 ?_
  refine hc_iload_n C dX8_copy_49 rfl rfl ?_
  refine hc_ialdN C (j := b) rfl rfl (by omega) dX8_copy_50 ?_
  refine hc_icmp_eq C (tgt := 60) dX8_copy_51 (by decide) (fun c_51 => ?_) (fun c_51 => ?_)
  rotate_left
  · exact absurd h3 c_51
  refine hc_aload_n C dX8_copy_60 rfl rfl ?_
  refine hc_iload_n C dX8_copy_61 rfl rfl ?_
  refine hc_iload_n C dX8_copy_62 rfl rfl ?_
  refine hc_iload C dX8_copy_63 rfl ?_
  refine hc_cV3i C mv_X8_79 (c_X8_isPart C.ok ha) rfl rfl rfl (Nat.le_of_ble_eq_true rfl) (hc_rr_rm (by decide)) ⟨Nat.zero_le _, Nat.zero_le _⟩ dX8_copy_65 (fun r_65 M_65 h_65 => ?_)
  obtain ⟨rfl, rfl⟩ := h_65
  refine hc_if_eq C (tgt := 83) dX8_copy_68 (by decide) (fun c_68 => ?_) (fun c_68 => ?_)
  · exact absurd h4 (hb_z.mp c_68)
  refine hc_aload_n C dX8_copy_71 rfl rfl ?_
  refine hc_iload_n C dX8_copy_72 rfl rfl ?_
  refine hc_iload C dX8_copy_73 rfl ?_
  refine hc_iload C dX8_copy_75 rfl ?_
  refine hc_cV3i C mv_X8_79 (c_X8_isPart C.ok hb8) rfl rfl rfl (Nat.le_of_ble_eq_true rfl) (hc_rr_rm (by decide)) ⟨Nat.zero_le _, Nat.zero_le _⟩ dX8_copy_77 (fun r_77 M_77 h_77 => ?_)
  obtain ⟨rfl, rfl⟩ := h_77
  refine hc_if_ne C (tgt := 89) dX8_copy_80 (by decide) (fun c_80 => ?_) (fun c_80 => ?_)
  rotate_left
  · exact absurd h5 (hb_z.mp c_80)
  refine hc_iconst C dX8_copy_89 (v := 0) rfl ?_
  refine hc_istore6 C dX8_copy_90 (by decide) rfl ?_
  refine hc_mem (M2 := (hc_mf M 52 (fun x => if x < 0 then M 51 (40 * a + i + x) else M 52 x))) (show M = _ from by funext q; by_cases hq : q = 52; { subst hq; rw [hc_mf_s]; funext x; rw [if_neg (by omega)] }; { rw [hc_mf_n hq] }) ?_
  refine lp_Rcp1 C ha hb8 hi hj ?_ n 0 (by omega)
  refine hc_iconst C dX8_copy_126 (v := 0) rfl ?_
  refine hc_istore6 C dX8_copy_127 (by decide) rfl ?_
  refine hc_mem (M2 := (hc_mf (hc_mf M 52 (fun x => if x < n then M 51 (40 * a + i + x) else M 52 x)) 51 (va_cpy (M 51) (M 51) (40 * a + i) (40 * b + j) 0))) (show (hc_mf M 52 (fun x => if x < n then M 51 (40 * a + i + x) else M 52 x)) = _ from by rw [rcp_0]; exact (hc_mf_id (M := (hc_mf M 52 (fun x => if x < n then M 51 (40 * a + i + x) else M 52 x))) (k := 51)).symm) ?_
  refine lp_Rcp2 C ha hb8 hi hj (fun x hx => by rw [hc_mf_s]; exact if_pos hx) ?_ n 0 (by omega)
  refine hc_aload_n C dX8_copy_164 rfl rfl ?_
  refine hc_iload C dX8_copy_165 rfl ?_
  refine hc_cV1i C mv_X8_69 (c_X8_well C.ok) rfl rfl rfl (Nat.le_of_ble_eq_true rfl) (hc_rr_rm (by decide)) ⟨Nat.zero_le _, Nat.zero_le _⟩ dX8_copy_167 (fun r_167 M_167 h_167 => ?_)
  obtain ⟨rfl, rfl⟩ := h_167
  refine hc_iret C rfl dX8_copy_170 ?_
  exact ⟨rfl, rfl⟩
