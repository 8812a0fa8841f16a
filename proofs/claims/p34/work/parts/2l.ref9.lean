set_option maxRecDepth 100000 in
set_option maxHeartbeats 4000000 in
theorem c_X8_who_b {l : Launch} {G : hc_Geo} (hG : hc_ok G) {M : hc_Mem} {v1 v2 v3 v4 : Int32}  (h0 : M 54 0 = 1) (h1 : ¬ ((¬ v1 < 0 ∧ ¬ 8 ≤ v1) ∧ (¬ v3 < 1 ∧ ¬ 16 < v3) ∧ (¬ v4 < 0 ∧ ¬ 1 < v4))) : hc_M l G yX8_who cX8_who 9 (some .int) 3 [.ref (hc_ad G 48), .int v1, .int v2, .int v3, .int v4] M (hc_pi (fun z M' => -1000001 = z ∧ M = M')) := by
  refine hc_M.of hG (by decide) [some (.ref (hc_ad G 48)), some (.int v1), some (.int v2), some (.int v3), some (.int v4), none, none, none, none] rfl (Nat.le_of_ble_eq_true rfl) ?_
  intro p e s m args below meth c C
  refine hc_aload_n C dX8_who_0 rfl rfl ?_
  refine hc_cV0i C mv_X8_171 (c_X8_isHouse C.ok) rfl rfl rfl (Nat.le_of_ble_eq_true rfl) (hc_rr_rm (by decide)) ⟨Nat.zero_le _, Nat.zero_le _⟩ dX8_who_1 (fun r_1 M_1 h_1 => ?_)
  obtain ⟨rfl, rfl⟩ := h_1
  refine hc_if_ne C (tgt := 10) dX8_who_4 (by decide) (fun c_4 => ?_) (fun c_4 => ?_)
  rotate_left
  · exact absurd h0 (hb_z.mp c_4)
  refine hc_iload_n C dX8_who_10 rfl rfl ?_
  refine hc_cS1i C ms_X8_60 (c_X8_isRow C.ok) (Nat.le_of_ble_eq_true rfl) (hc_rr_rm (by decide)) ⟨Nat.zero_le _, Nat.zero_le _⟩ dX8_who_11 (fun r_11 M_11 h_11 => ?_)
  obtain ⟨rfl, rfl⟩ := h_11
  refine hc_if_eq C (tgt := 37) dX8_who_14 (by decide) (fun c_14 => ?_) (fun c_14 => ?_)
  · refine hc_ldc C kc_X8_64 dX8_who_37 ?_
    refine hc_iret C rfl dX8_who_39 ?_
    exact ⟨rfl, rfl⟩
  · refine hc_iload_n C dX8_who_17 rfl rfl ?_
    refine hc_iconst C dX8_who_18 (v := 1) rfl ?_
    refine hc_bipush C dX8_who_19 (v := 16) rfl ?_
    refine hc_cS3i C ms_X8_56 (c_X8_in C.ok) (Nat.le_of_ble_eq_true rfl) (hc_rr_rm (by decide)) ⟨Nat.zero_le _, Nat.zero_le _⟩ dX8_who_21 (fun r_21 M_21 h_21 => ?_)
    obtain ⟨rfl, rfl⟩ := h_21
    refine hc_if_eq C (tgt := 37) dX8_who_24 (by decide) (fun c_24 => ?_) (fun c_24 => ?_)
    · refine hc_ldc C kc_X8_64 dX8_who_37 ?_
      refine hc_iret C rfl dX8_who_39 ?_
      exact ⟨rfl, rfl⟩
    · refine hc_iload C dX8_who_27 rfl ?_
      refine hc_iconst C dX8_who_29 (v := 0) rfl ?_
      refine hc_iconst C dX8_who_30 (v := 1) rfl ?_
      refine hc_cS3i C ms_X8_56 (c_X8_in C.ok) (Nat.le_of_ble_eq_true rfl) (hc_rr_rm (by decide)) ⟨Nat.zero_le _, Nat.zero_le _⟩ dX8_who_31 (fun r_31 M_31 h_31 => ?_)
      obtain ⟨rfl, rfl⟩ := h_31
      refine hc_if_ne C (tgt := 40) dX8_who_34 (by decide) (fun c_34 => ?_) (fun c_34 => ?_)
      · exact absurd ⟨hb_nz.mp c_14, hb_nz.mp c_24, hb_nz.mp c_34⟩ h1
      · refine hc_ldc C kc_X8_64 dX8_who_37 ?_
        refine hc_iret C rfl dX8_who_39 ?_
        exact ⟨rfl, rfl⟩

set_option maxRecDepth 100000 in
set_option maxHeartbeats 4000000 in
theorem c_X8_who_m {l : Launch} {G : hc_Geo} (hG : hc_ok G) {M : hc_Mem} {r : Nat} {v2 v3 v4 : Int32}  (h0 : M 54 0 = 1) (hr : r < 8) (h1 : ¬ v3 < 1 ∧ ¬ 16 < v3) (h4 : ¬ v4 < 0 ∧ ¬ 1 < v4) (h2 : M 49 r = -1000000) : hc_M l G yX8_who cX8_who 9 (some .int) 3 [.ref (hc_ad G 48), .int (nI r), .int v2, .int v3, .int v4] M (hc_pi (fun z M' => -1000011 = z ∧ hc_ms M 48 4 1 = M')) := by
  refine hc_M.of hG (by decide) [some (.ref (hc_ad G 48)), some (.int (nI r)), some (.int v2), some (.int v3), some (.int v4), none, none, none, none] rfl (Nat.le_of_ble_eq_true rfl) ?_
  intro p e s m args below meth c C
  refine hc_aload_n C dX8_who_0 rfl rfl ?_
  refine hc_cV0i C mv_X8_171 (c_X8_isHouse C.ok) rfl rfl rfl (Nat.le_of_ble_eq_true rfl) (hc_rr_rm (by decide)) ⟨Nat.zero_le _, Nat.zero_le _⟩ dX8_who_1 (fun r_1 M_1 h_1 => ?_)
  obtain ⟨rfl, rfl⟩ := h_1
  refine hc_if_ne C (tgt := 10) dX8_who_4 (by decide) (fun c_4 => ?_) (fun c_4 => ?_)
  rotate_left
  · exact absurd h0 (hb_z.mp c_4)
  refine hc_iload_n C dX8_who_10 rfl rfl ?_
  refine hc_cS1i C ms_X8_60 (c_X8_isRow C.ok) (Nat.le_of_ble_eq_true rfl) (hc_rr_rm (by decide)) ⟨Nat.zero_le _, Nat.zero_le _⟩ dX8_who_11 (fun r_11 M_11 h_11 => ?_)
  obtain ⟨rfl, rfl⟩ := h_11
  refine hc_if_eq C (tgt := 37) dX8_who_14 (by decide) (fun c_14 => ?_) (fun c_14 => ?_)
  · exact absurd (hx_row hr) (hb_z.mp c_14)
  refine hc_iload_n C dX8_who_17 rfl rfl ?_
  refine hc_iconst C dX8_who_18 (v := 1) rfl ?_
  refine hc_bipush C dX8_who_19 (v := 16) rfl ?_
  refine hc_cS3i C ms_X8_56 (c_X8_in C.ok) (Nat.le_of_ble_eq_true rfl) (hc_rr_rm (by decide)) ⟨Nat.zero_le _, Nat.zero_le _⟩ dX8_who_21 (fun r_21 M_21 h_21 => ?_)
  obtain ⟨rfl, rfl⟩ := h_21
  refine hc_if_eq C (tgt := 37) dX8_who_24 (by decide) (fun c_24 => ?_) (fun c_24 => ?_)
  · exact absurd h1 (hb_z.mp c_24)
  refine hc_iload C dX8_who_27 rfl ?_
  refine hc_iconst C dX8_who_29 (v := 0) rfl ?_
  refine hc_iconst C dX8_who_30 (v := 1) rfl ?_
  refine hc_cS3i C ms_X8_56 (c_X8_in C.ok) (Nat.le_of_ble_eq_true rfl) (hc_rr_rm (by decide)) ⟨Nat.zero_le _, Nat.zero_le _⟩ dX8_who_31 (fun r_31 M_31 h_31 => ?_)
  obtain ⟨rfl, rfl⟩ := h_31
  refine hc_if_ne C (tgt := 40) dX8_who_34 (by decide) (fun c_34 => ?_) (fun c_34 => ?_)
  rotate_left
  · exact absurd h4 (hb_z.mp c_34)
  refine hc_aload_n C dX8_who_40 rfl rfl ?_
  refine hc_iload_n C dX8_who_41 rfl rfl ?_
  refine hc_cV1i C mv_X8_72 (c_X8_isMissing C.ok hr) rfl rfl rfl (Nat.le_of_ble_eq_true rfl) (hc_rr_rm (by decide)) ⟨Nat.zero_le _, Nat.zero_le _⟩ dX8_who_42 (fun r_42 M_42 h_42 => ?_)
  obtain ⟨rfl, rfl⟩ := h_42
  refine hc_if_eq C (tgt := 54) dX8_who_45 (by decide) (fun c_45 => ?_) (fun c_45 => ?_)
  · exact absurd h2 (hb_z.mp c_45)
  refine hc_aload_n C dX8_who_48 rfl rfl ?_
  refine hc_iconst C dX8_who_49 (v := 1) rfl ?_
  refine hc_cV1i C mv_X8_65 (c_X8_found C.ok) rfl rfl rfl (Nat.le_of_ble_eq_true rfl) (hc_rr_rm (by decide)) ⟨Nat.zero_le _, Nat.zero_le _⟩ dX8_who_50 (fun r_50 M_50 h_50 => ?_)
  obtain ⟨rfl, rfl⟩ := h_50
  refine hc_iret C rfl dX8_who_53 ?_
  exact ⟨rfl, rfl⟩

set_option maxRecDepth 100000 in
set_option maxHeartbeats 4000000 in
theorem c_X8_who_p {l : Launch} {G : hc_Geo} (hG : hc_ok G) {M : hc_Mem} {r : Nat} {v2 v3 v4 : Int32}  (h0 : M 54 0 = 1) (hr : r < 8) (h1 : ¬ v3 < 1 ∧ ¬ 16 < v3) (h4 : ¬ v4 < 0 ∧ ¬ 1 < v4) (h2 : ¬ M 49 r = -1000000) (h3 : ¬ rPt (M 50 r) v2 v3) : hc_M l G yX8_who cX8_who 9 (some .int) 3 [.ref (hc_ad G 48), .int (nI r), .int v2, .int v3, .int v4] M (hc_pi (fun z M' => -1000012 = z ∧ hc_ms M 48 4 2 = M')) := by
  refine hc_M.of hG (by decide) [some (.ref (hc_ad G 48)), some (.int (nI r)), some (.int v2), some (.int v3), some (.int v4), none, none, none, none] rfl (Nat.le_of_ble_eq_true rfl) ?_
  intro p e s m args below meth c C
  refine hc_aload_n C dX8_who_0 rfl rfl ?_
  refine hc_cV0i C mv_X8_171 (c_X8_isHouse C.ok) rfl rfl rfl (Nat.le_of_ble_eq_true rfl) (hc_rr_rm (by decide)) ⟨Nat.zero_le _, Nat.zero_le _⟩ dX8_who_1 (fun r_1 M_1 h_1 => ?_)
  obtain ⟨rfl, rfl⟩ := h_1
  refine hc_if_ne C (tgt := 10) dX8_who_4 (by decide) (fun c_4 => ?_) (fun c_4 => ?_)
  rotate_left
  · exact absurd h0 (hb_z.mp c_4)
  refine hc_iload_n C dX8_who_10 rfl rfl ?_
  refine hc_cS1i C ms_X8_60 (c_X8_isRow C.ok) (Nat.le_of_ble_eq_true rfl) (hc_rr_rm (by decide)) ⟨Nat.zero_le _, Nat.zero_le _⟩ dX8_who_11 (fun r_11 M_11 h_11 => ?_)
  obtain ⟨rfl, rfl⟩ := h_11
  refine hc_if_eq C (tgt := 37) dX8_who_14 (by decide) (fun c_14 => ?_) (fun c_14 => ?_)
  · exact absurd (hx_row hr) (hb_z.mp c_14)
  refine hc_iload_n C dX8_who_17 rfl rfl ?_
  refine hc_iconst C dX8_who_18 (v := 1) rfl ?_
  refine hc_bipush C dX8_who_19 (v := 16) rfl ?_
  refine hc_cS3i C ms_X8_56 (c_X8_in C.ok) (Nat.le_of_ble_eq_true rfl) (hc_rr_rm (by decide)) ⟨Nat.zero_le _, Nat.zero_le _⟩ dX8_who_21 (fun r_21 M_21 h_21 => ?_)
  obtain ⟨rfl, rfl⟩ := h_21
  refine hc_if_eq C (tgt := 37) dX8_who_24 (by decide) (fun c_24 => ?_) (fun c_24 => ?_)
  · exact absurd h1 (hb_z.mp c_24)
  refine hc_iload C dX8_who_27 rfl ?_
  refine hc_iconst C dX8_who_29 (v := 0) rfl ?_
  refine hc_iconst C dX8_who_30 (v := 1) rfl ?_
  refine hc_cS3i C ms_X8_56 (c_X8_in C.ok) (Nat.le_of_ble_eq_true rfl) (hc_rr_rm (by decide)) ⟨Nat.zero_le _, Nat.zero_le _⟩ dX8_who_31 (fun r_31 M_31 h_31 => ?_)
  obtain ⟨rfl, rfl⟩ := h_31
  refine hc_if_ne C (tgt := 40) dX8_who_34 (by decide) (fun c_34 => ?_) (fun c_34 => ?_)
  rotate_left
  · exact absurd h4 (hb_z.mp c_34)
  refine hc_aload_n C dX8_who_40 rfl rfl ?_
  refine hc_iload_n C dX8_who_41 rfl rfl ?_
  refine hc_cV1i C mv_X8_72 (c_X8_isMissing C.ok hr) rfl rfl rfl (Nat.le_of_ble_eq_true rfl) (hc_rr_rm (by decide)) ⟨Nat.zero_le _, Nat.zero_le _⟩ dX8_who_42 (fun r_42 M_42 h_42 => ?_)
  obtain ⟨rfl, rfl⟩ := h_42
  refine hc_if_eq C (tgt := 54) dX8_who_45 (by decide) (fun c_45 => ?_) (fun c_45 => ?_)
  rotate_left
  · exact absurd (hb_f h2) c_45
  refine hc_aload_n C dX8_who_54 rfl rfl ?_
  refine hc_iload_n C dX8_who_55 rfl rfl ?_
  refine hc_iload_n C dX8_who_56 rfl rfl ?_
  refine hc_iload_n C dX8_who_57 rfl rfl ?_
  refine hc_cV3i C mv_X8_79 (c_X8_isPart C.ok hr) rfl rfl rfl (Nat.le_of_ble_eq_true rfl) (hc_rr_rm (by decide)) ⟨Nat.zero_le _, Nat.zero_le _⟩ dX8_who_58 (fun r_58 M_58 h_58 => ?_)
  obtain ⟨rfl, rfl⟩ := h_58
  refine hc_if_ne C (tgt := 70) dX8_who_61 (by decide) (fun c_61 => ?_) (fun c_61 => ?_)
  · exact absurd (hb_z.mpr h3) c_61
  refine hc_aload_n C dX8_who_64 rfl rfl ?_
  refine hc_iconst C dX8_who_65 (v := 2) rfl ?_
  refine hc_cV1i C mv_X8_65 (c_X8_found C.ok) rfl rfl rfl (Nat.le_of_ble_eq_true rfl) (hc_rr_rm (by decide)) ⟨Nat.zero_le _, Nat.zero_le _⟩ dX8_who_66 (fun r_66 M_66 h_66 => ?_)
  obtain ⟨rfl, rfl⟩ := h_66
  refine hc_iret C rfl dX8_who_69 ?_
  exact ⟨rfl, rfl⟩

set_option maxRecDepth 100000 in
set_option maxHeartbeats 4000000 in
theorem lp_Rwho1 {G : hc_Geo} {p : Program} {l : Launch} {e : Env} {d : Nat} {s : State} {m : MethodId} {args : Array Value} {below : List Frame} {meth : Method} {c : Code} {Q : State → Prop} (C : hc_Cx G hc_lay cX8_who 9 (some .int) yX8_who.cls p s m args meth c) {Y : hc_Mem} {f0 : Nat → Int32} {a1 a2 a3 a4 a5 a6 : Option Value} {x E : Nat} (hd : 1 < d) (hE : Y 54 4 = nI E) (hE6 : E ≤ 6) 
    (kk : hc_W G hc_lay p l e (hc_rm d) s m args below meth c 9 0 0 Q 172 [some (.ref (hc_ad G 48)), a1, a2, a3, a4, a5, a6, some (.int (nI x)), some (.int (nI E))] [] (hc_mf Y 59 (rWf f0 (nI x) E))) :
    ∀ (t : Nat) (k : Nat), k + t = E → hc_W G hc_lay p l e (hc_rm d) s m args below meth c 9 0 0 Q 109 [some (.ref (hc_ad G 48)), a1, a2, a3, a4, a5, a6, some (.int (nI x)), some (.int (nI k))] [] (hc_mf Y 59 (rWf f0 (nI x) k)) := by
  intro t
  induction t with
  | zero =>
    intro k hk
    refine hc_iload C dX8_who_109 rfl ?_
    refine hc_aload_n C dX8_who_111 rfl rfl ?_
    refine hc_getR C fl_X8_25 rfl rfl dX8_who_112 ?_
    refine hc_iconst C dX8_who_115 (v := 4) rfl ?_
    refine hc_ialdN C (j := 4) rfl rfl (by decide) dX8_who_116 ?_
    rw [hc_mf_n (by decide)]
    refine hc_icmp_ge C (tgt := 172) dX8_who_117 (by decide) (fun c_117 => ?_) (fun c_117 => ?_)
    rotate_left
    · exact absurd (by rw [hE]; exact nI_le (show E ≤ k by omega) (by omega)) c_117
    obtain rfl : k = E := by omega
    exact kk
  | succ t ih =>
    intro k hk
    refine hc_iload C dX8_who_109 rfl ?_
    refine hc_aload_n C dX8_who_111 rfl rfl ?_
    refine hc_getR C fl_X8_25 rfl rfl dX8_who_112 ?_
    refine hc_iconst C dX8_who_115 (v := 4) rfl ?_
    refine hc_ialdN C (j := 4) rfl rfl (by decide) dX8_who_116 ?_
    rw [hc_mf_n (by decide)]
    refine hc_icmp_ge C (tgt := 172) dX8_who_117 (by decide) (fun c_117 => ?_) (fun c_117 => ?_)
    · exact absurd (hE ▸ c_117) (nI_ge (show k < E by omega) (by omega))
    refine hc_aload_n C dX8_who_120 rfl rfl ?_
    refine hc_getR C fl_X8_41 rfl rfl dX8_who_121 ?_
    refine hc_bipush C dX8_who_124 (v := 6) rfl ?_
    refine hc_bipush C dX8_who_126 (v := 7) rfl ?_
    refine hc_iload C dX8_who_128 rfl ?_
    refine hc_imul C dX8_who_130 ?_
    refine hc_iadd C dX8_who_131 ?_
    refine hc_iconst C dX8_who_132 (v := 5) rfl ?_
    refine hc_iadd C dX8_who_133 ?_
    refine hc_iconst C dX8_who_134 (v := 0) rfl ?_
    refine hc_iastN C (j := (6 + 7 * k + 5)) rfl (hx_67 k 5) (by omega) dX8_who_135 ?_
    rw [hc_ms_mf]
    refine hc_aload_n C dX8_who_136 rfl rfl ?_
    refine hc_getR C fl_X8_41 rfl rfl dX8_who_137 ?_
    refine hc_bipush C dX8_who_140 (v := 6) rfl ?_
    refine hc_bipush C dX8_who_142 (v := 7) rfl ?_
    refine hc_iload C dX8_who_144 rfl ?_
    refine hc_imul C dX8_who_146 ?_
    refine hc_iadd C dX8_who_147 ?_
    refine hc_iconst C dX8_who_148 (v := 2) rfl ?_
    refine hc_iadd C dX8_who_149 ?_
    refine hc_iload C dX8_who_150 rfl ?_
    refine hc_iload C dX8_who_152 rfl ?_
    refine hc_cS2i C ms_X8_145 (c_X8_has C.ok) (Nat.le_of_ble_eq_true rfl) (hc_rr_rm hd) ⟨Nat.zero_le _, Nat.zero_le _⟩ dX8_who_154 (fun r_154 M_154 h_154 => ?_)
    obtain ⟨rfl, rfl⟩ := h_154
    refine hc_if_eq C (tgt := 164) dX8_who_157 (by decide) (fun c_157 => ?_) (fun c_157 => ?_)
    · refine hc_iconst C dX8_who_164 (v := 1) rfl ?_
      refine hc_iastN C (j := (6 + 7 * k + 2)) rfl (hx_67 k 2) (by omega) dX8_who_165 ?_
      rw [hc_ms_mf]
      refine hc_mem (M2 := (hc_mf Y 59 (rWf f0 (nI x) (k + 1)))) (by rw [rWf]; first | rw [if_neg (hb_z.mp c_157)] | rw [if_pos (hb_nz.mp c_157)]) ?_
      refine hc_iinc8 C (v := nI (k + 1)) dX8_who_166 (by decide) rfl rfl (nI_1 k) ?_
      refine hc_goto C (tgt := 109) dX8_who_169 (by decide) ?_
      exact ih (k + 1) (by omega)
    · refine hc_iconst C dX8_who_160 (v := 0) rfl ?_
      refine hc_goto C (tgt := 165) dX8_who_161 (by decide) ?_
      refine hc_iastN C (j := (6 + 7 * k + 2)) rfl (hx_67 k 2) (by omega) dX8_who_165 ?_
      rw [hc_ms_mf]
      refine hc_mem (M2 := (hc_mf Y 59 (rWf f0 (nI x) (k + 1)))) (by rw [rWf]; first | rw [if_neg (hb_z.mp c_157)] | rw [if_pos (hb_nz.mp c_157)]) ?_
      refine hc_iinc8 C (v := nI (k + 1)) dX8_who_166 (by decide) rfl rfl (nI_1 k) ?_
      refine hc_goto C (tgt := 109) dX8_who_169 (by decide) ?_
      exact ih (k + 1) (by omega)

set_option maxRecDepth 100000 in
set_option maxHeartbeats 4000000 in
theorem lp_Rwho {G : hc_Geo} {p : Program} {l : Launch} {e : Env} {d : Nat} {s : State} {m : MethodId} {args : Array Value} {below : List Frame} {meth : Method} {c : Code} {Q : State → Prop} (C : hc_Cx G hc_lay cX8_who 9 (some .int) yX8_who.cls p s m args meth c) {M : hc_Mem} {E D r i n : Nat} {v4 : Int32} (hd : 6 < d) (hE : M 54 4 = nI E) (hE6 : E ≤ 6) (hD : M 54 5 = nI D) (hD4 : D ≤ 4) (hr : r < 8) (hi0 : i + n ≤ 40) (hn1 : 1 ≤ n) (hn16 : n ≤ 16) (kk : ∀ (Y : hc_Mem) (v8 : Option Value), (∀ q, q ≠ 59 → q ≠ 60 → Y q = M q) → hc_W G hc_lay p l e (hc_rm d) s m args below meth c 9 0 0 Q 225 [some (.ref (hc_ad G 48)), some (.int (nI r)), some (.int (nI i)), some (.int (nI n)), some (.int v4), some (.int (rWc (M 54) E D (fun t => M 51 (40 * r + i + t)) n (2 ^ E))), some (.int (rWl (M 54) E D (fun t => M 51 (40 * r + i + t)) n (2 ^ E))), some (.int (nI (2 ^ E))), v8] [] Y)  :
    ∀ (t : Nat) (x : Nat) (Y : hc_Mem) (v8 : Option Value), x + t = 2 ^ E → (∀ q, q ≠ 59 → q ≠ 60 → Y q = M q) → hc_W G hc_lay p l e (hc_rm d) s m args below meth c 9 0 0 Q 80 [some (.ref (hc_ad G 48)), some (.int (nI r)), some (.int (nI i)), some (.int (nI n)), some (.int v4), some (.int (rWc (M 54) E D (fun t => M 51 (40 * r + i + t)) n x)), some (.int (rWl (M 54) E D (fun t => M 51 (40 * r + i + t)) n x)), some (.int (nI x)), v8] [] Y := by
  intro t
  induction t with
  | zero =>
    intro x Y v8 hx hY
    have hy54 : Y 54 = M 54 := hY 54 (by decide) (by decide)
    refine hc_iload C dX8_who_80 rfl ?_
    refine hc_iconst C dX8_who_82 (v := 1) rfl ?_
    refine hc_aload_n C dX8_who_83 rfl rfl ?_
    refine hc_getR C fl_X8_25 rfl rfl dX8_who_84 ?_
    refine hc_iconst C dX8_who_87 (v := 4) rfl ?_
    refine hc_ialdN C (j := 4) rfl rfl (by decide) dX8_who_88 ?_
    refine hc_ishl C dX8_who_89 ?_
    refine hc_top (hx_shE (by rw [hy54]; exact hE) hE6) ?_
    refine hc_icmp_ge C (tgt := 225) dX8_who_90 (by decide) (fun c_90 => ?_) (fun c_90 => ?_)
    rotate_left
    · exact absurd (nI_le (show 2 ^ E ≤ x by omega) (by have := hx_p6 hE6; omega)) c_90
    obtain rfl : x = 2 ^ E := by omega
    exact kk Y v8 hY
  | succ t ih =>
    intro x Y v8 hx hY
    have hy54 : Y 54 = M 54 := hY 54 (by decide) (by decide)
    refine hc_iload C dX8_who_80 rfl ?_
    refine hc_iconst C dX8_who_82 (v := 1) rfl ?_
    refine hc_aload_n C dX8_who_83 rfl rfl ?_
    refine hc_getR C fl_X8_25 rfl rfl dX8_who_84 ?_
    refine hc_iconst C dX8_who_87 (v := 4) rfl ?_
    refine hc_ialdN C (j := 4) rfl rfl (by decide) dX8_who_88 ?_
    refine hc_ishl C dX8_who_89 ?_
    refine hc_top (hx_shE (by rw [hy54]; exact hE) hE6) ?_
    refine hc_icmp_ge C (tgt := 225) dX8_who_90 (by decide) (fun c_90 => ?_) (fun c_90 => ?_)
    · exact absurd c_90 (nI_ge (show x < 2 ^ E by omega) (by have := hx_p6 hE6; omega))
    refine hc_aload_n C dX8_who_93 rfl rfl ?_
    refine hc_getR C fl_X8_25 rfl rfl dX8_who_94 ?_
    refine hc_iconst C dX8_who_97 (v := 0) rfl ?_
    refine hc_aload_n C dX8_who_98 rfl rfl ?_
    refine hc_getR C fl_X8_41 rfl rfl dX8_who_99 ?_
    refine hc_iconst C dX8_who_102 (v := 0) rfl ?_
    refine hc_cS4v C ms_X8_134 (c_X8_copies (a := 0) (b := 0) C.ok rfl rfl (by decide) (by decide) (by decide)) (Nat.le_of_ble_eq_true rfl) (hc_rr_rm (by omega)) ⟨Nat.zero_le _, Nat.zero_le _⟩ dX8_who_103 (fun M_103 h_103 => ?_)
    obtain rfl := h_103
    refine hc_iconst C dX8_who_106 (v := 0) rfl ?_
    refine hc_istore8 C dX8_who_107 (by decide) rfl ?_
    refine hc_mem (M2 := hc_mf Y 59 (rWf (va_cpy (Y 54) (Y 59) 0 0 68) (nI x) 0)) rfl ?_
    refine lp_Rwho1 (Y := Y) (f0 := va_cpy (Y 54) (Y 59) 0 0 68) C (by omega) (by rw [hy54]; exact hE) hE6 ?_ E 0 (by omega)
    refine hc_aload_n C dX8_who_172 rfl rfl ?_
    refine hc_bipush C dX8_who_173 (v := 40) rfl ?_
    refine hc_iload_n C dX8_who_175 rfl rfl ?_
    refine hc_imul C dX8_who_176 ?_
    refine hc_iload_n C dX8_who_177 rfl rfl ?_
    refine hc_iadd C dX8_who_178 ?_
    refine hc_top (v := nI (40 * r + i)) (by rw [show (40 : Int32) = nI 40 from rfl, pk_mul, nI_add]) ?_
    refine hc_iload_n C dX8_who_179 rfl rfl ?_
    refine hc_cV2i C mv_X8_203 (c_X8_goesSo (E := E) (D := D) (b := 40 * r + i) (n := n) C.ok (by rw [hc_mf_s, rWf_o (by decide), rAg_cpy (f := Y 54) (g := Y 59) 4 (by decide), hy54]; exact hE) hE6 (by rw [hc_mf_s, rWf_o (by decide), rAg_cpy (f := Y 54) (g := Y 59) 5 (by decide), hy54]; exact hD) hD4 hn16 (by omega)) rfl rfl rfl (Nat.le_of_ble_eq_true rfl) (hc_rr_rm hd) ⟨Nat.zero_le _, Nat.zero_le _⟩ dX8_who_180 (fun r_180 M_180 h_180 => ?_)
    obtain ⟨rfl, hS⟩ := h_180
    have hq : rSo ((hc_mf Y 59 (rWf (va_cpy (Y 54) (Y 59) 0 0 68) (nI x) E)) 59) E D (fun t => (hc_mf Y 59 (rWf (va_cpy (Y 54) (Y 59) 0 0 68) (nI x) E)) 51 (40 * r + i + t)) n ↔ rSo (rWf (M 54) (nI x) E) E D (fun t => M 51 (40 * r + i + t)) n := by
      rw [hc_mf_s, hc_mf_n (by decide), hY 51 (by decide) (by decide)]
      exact rSo_c hE6 hD4 (rWf_c (by rw [hy54]; exact rAg_cpy) E) rfl
    refine hc_istore8 C dX8_who_183 (by decide) rfl ?_
    refine hc_iload C dX8_who_185 rfl ?_
    refine hc_if_eq C (tgt := 200) dX8_who_187 (by decide) (fun c_187 => ?_) (fun c_187 => ?_)
    · refine hc_iload C dX8_who_200 rfl ?_
      refine hc_top (v := rWl (M 54) E D (fun t => M 51 (40 * r + i + t)) n (x + 1)) ?_ ?_
      · rw [rWl]
        first
          | rw [if_neg (fun w => hb_z.mp c_187 (hq.mpr w.1))]
          | rw [if_neg (fun w => c_192 w.2)]
          | rw [if_pos ⟨hq.mp (hb_nz.mp c_187), c_192⟩]
      refine hc_istore6 C dX8_who_202 (by decide) rfl ?_
      refine hc_iload C dX8_who_204 rfl ?_
      refine hc_iload C dX8_who_206 rfl ?_
      refine hc_if_eq C (tgt := 215) dX8_who_208 (by decide) (fun c_208 => ?_) (fun c_208 => ?_)
      · refine hc_iconst C dX8_who_215 (v := 0) rfl ?_
        refine hc_iadd C dX8_who_216 ?_
        refine hc_top (v := rWc (M 54) E D (fun t => M 51 (40 * r + i + t)) n (x + 1)) ?_ ?_
        · rw [rWc]
          first
            | rw [if_neg (fun w => hb_z.mp c_208 (hq.mpr w))]
            | rw [if_pos (hq.mp (hb_nz.mp c_208))]
        refine hc_istore5 C dX8_who_217 (by decide) rfl ?_
        refine hc_iinc7 C (v := nI (x + 1)) dX8_who_219 (by decide) rfl rfl (nI_1 x) ?_
        refine hc_goto C (tgt := 80) dX8_who_222 (by decide) ?_
        exact ih (x + 1) M_180 _ (by omega) (fun q h1 h2 => by rw [hS q h1 h2, hc_mf_n h1, hY q h1 h2])
      · refine hc_iconst C dX8_who_211 (v := 1) rfl ?_
        refine hc_goto C (tgt := 216) dX8_who_212 (by decide) ?_
        refine hc_iadd C dX8_who_216 ?_
        refine hc_top (v := rWc (M 54) E D (fun t => M 51 (40 * r + i + t)) n (x + 1)) ?_ ?_
        · rw [rWc]
          first
            | rw [if_neg (fun w => hb_z.mp c_208 (hq.mpr w))]
            | rw [if_pos (hq.mp (hb_nz.mp c_208))]
        refine hc_istore5 C dX8_who_217 (by decide) rfl ?_
        refine hc_iinc7 C (v := nI (x + 1)) dX8_who_219 (by decide) rfl rfl (nI_1 x) ?_
        refine hc_goto C (tgt := 80) dX8_who_222 (by decide) ?_
        exact ih (x + 1) M_180 _ (by omega) (fun q h1 h2 => by rw [hS q h1 h2, hc_mf_n h1, hY q h1 h2])
    · refine hc_iload C dX8_who_190 rfl ?_
      refine hc_if_ne C (tgt := 200) dX8_who_192 (by decide) (fun c_192 => ?_) (fun c_192 => ?_)
      · refine hc_iload C dX8_who_200 rfl ?_
        refine hc_top (v := rWl (M 54) E D (fun t => M 51 (40 * r + i + t)) n (x + 1)) ?_ ?_
        · rw [rWl]
          first
            | rw [if_neg (fun w => hb_z.mp c_187 (hq.mpr w.1))]
            | rw [if_neg (fun w => c_192 w.2)]
            | rw [if_pos ⟨hq.mp (hb_nz.mp c_187), c_192⟩]
        refine hc_istore6 C dX8_who_202 (by decide) rfl ?_
        refine hc_iload C dX8_who_204 rfl ?_
        refine hc_iload C dX8_who_206 rfl ?_
        refine hc_if_eq C (tgt := 215) dX8_who_208 (by decide) (fun c_208 => ?_) (fun c_208 => ?_)
        · refine hc_iconst C dX8_who_215 (v := 0) rfl ?_
          refine hc_iadd C dX8_who_216 ?_
          refine hc_top (v := rWc (M 54) E D (fun t => M 51 (40 * r + i + t)) n (x + 1)) ?_ ?_
          · rw [rWc]
            first
              | rw [if_neg (fun w => hb_z.mp c_208 (hq.mpr w))]
              | rw [if_pos (hq.mp (hb_nz.mp c_208))]
          refine hc_istore5 C dX8_who_217 (by decide) rfl ?_
          refine hc_iinc7 C (v := nI (x + 1)) dX8_who_219 (by decide) rfl rfl (nI_1 x) ?_
          refine hc_goto C (tgt := 80) dX8_who_222 (by decide) ?_
          exact ih (x + 1) M_180 _ (by omega) (fun q h1 h2 => by rw [hS q h1 h2, hc_mf_n h1, hY q h1 h2])
        · refine hc_iconst C dX8_who_211 (v := 1) rfl ?_
          refine hc_goto C (tgt := 216) dX8_who_212 (by decide) ?_
          refine hc_iadd C dX8_who_216 ?_
          refine hc_top (v := rWc (M 54) E D (fun t => M 51 (40 * r + i + t)) n (x + 1)) ?_ ?_
          · rw [rWc]
            first
              | rw [if_neg (fun w => hb_z.mp c_208 (hq.mpr w))]
              | rw [if_pos (hq.mp (hb_nz.mp c_208))]
          refine hc_istore5 C dX8_who_217 (by decide) rfl ?_
          refine hc_iinc7 C (v := nI (x + 1)) dX8_who_219 (by decide) rfl rfl (nI_1 x) ?_
          refine hc_goto C (tgt := 80) dX8_who_222 (by decide) ?_
          exact ih (x + 1) M_180 _ (by omega) (fun q h1 h2 => by rw [hS q h1 h2, hc_mf_n h1, hY q h1 h2])
      · refine hc_iload C dX8_who_195 rfl ?_
        refine hc_goto C (tgt := 202) dX8_who_197 (by decide) ?_
        refine hc_top (v := rWl (M 54) E D (fun t => M 51 (40 * r + i + t)) n (x + 1)) ?_ ?_
        · rw [rWl]
          first
            | rw [if_neg (fun w => hb_z.mp c_187 (hq.mpr w.1))]
            | rw [if_neg (fun w => c_192 w.2)]
            | rw [if_pos ⟨hq.mp (hb_nz.mp c_187), c_192⟩]
        refine hc_istore6 C dX8_who_202 (by decide) rfl ?_
        refine hc_iload C dX8_who_204 rfl ?_
        refine hc_iload C dX8_who_206 rfl ?_
        refine hc_if_eq C (tgt := 215) dX8_who_208 (by decide) (fun c_208 => ?_) (fun c_208 => ?_)
        · refine hc_iconst C dX8_who_215 (v := 0) rfl ?_
          refine hc_iadd C dX8_who_216 ?_
          refine hc_top (v := rWc (M 54) E D (fun t => M 51 (40 * r + i + t)) n (x + 1)) ?_ ?_
          · rw [rWc]
            first
              | rw [if_neg (fun w => hb_z.mp c_208 (hq.mpr w))]
              | rw [if_pos (hq.mp (hb_nz.mp c_208))]
          refine hc_istore5 C dX8_who_217 (by decide) rfl ?_
          refine hc_iinc7 C (v := nI (x + 1)) dX8_who_219 (by decide) rfl rfl (nI_1 x) ?_
          refine hc_goto C (tgt := 80) dX8_who_222 (by decide) ?_
          exact ih (x + 1) M_180 _ (by omega) (fun q h1 h2 => by rw [hS q h1 h2, hc_mf_n h1, hY q h1 h2])
        · refine hc_iconst C dX8_who_211 (v := 1) rfl ?_
          refine hc_goto C (tgt := 216) dX8_who_212 (by decide) ?_
          refine hc_iadd C dX8_who_216 ?_
          refine hc_top (v := rWc (M 54) E D (fun t => M 51 (40 * r + i + t)) n (x + 1)) ?_ ?_
          · rw [rWc]
            first
              | rw [if_neg (fun w => hb_z.mp c_208 (hq.mpr w))]
              | rw [if_pos (hq.mp (hb_nz.mp c_208))]
          refine hc_istore5 C dX8_who_217 (by decide) rfl ?_
          refine hc_iinc7 C (v := nI (x + 1)) dX8_who_219 (by decide) rfl rfl (nI_1 x) ?_
          refine hc_goto C (tgt := 80) dX8_who_222 (by decide) ?_
          exact ih (x + 1) M_180 _ (by omega) (fun q h1 h2 => by rw [hS q h1 h2, hc_mf_n h1, hY q h1 h2])

set_option maxRecDepth 100000 in
set_option maxHeartbeats 4000000 in
theorem c_X8_who_o {l : Launch} {G : hc_Geo} (hG : hc_ok G) {M : hc_Mem} {E D r i n : Nat} {v4 : Int32}  (h0 : M 54 0 = 1) (hE : M 54 4 = nI E) (hE6 : E ≤ 6) (hD : M 54 5 = nI D) (hD4 : D ≤ 4) (hr : r < 8) (hi0 : i + n ≤ 40) (hn1 : 1 ≤ n) (hn16 : n ≤ 16) (h4 : ¬ v4 < 0 ∧ ¬ 1 < v4) (h2 : ¬ M 49 r = -1000000) (h3 : rPt (M 50 r) (nI i) (nI n)) : hc_M l G yX8_who cX8_who 9 (some .int) 7 [.ref (hc_ad G 48), .int (nI r), .int (nI i), .int (nI n), .int v4] M (hc_pi (fun z M' => (if v4 = 0 then rWc (M 54) E D (fun t => M 51 (40 * r + i + t)) n (2 ^ E) else rWl (M 54) E D (fun t => M 51 (40 * r + i + t)) n (2 ^ E)) = z ∧ ∃ Y : hc_Mem, (∀ q, q ≠ 59 → q ≠ 60 → Y q = M q) ∧ hc_ms Y 48 4 0 = M')) := by
  refine hc_M.of hG (by decide) [some (.ref (hc_ad G 48)), some (.int (nI r)), some (.int (nI i)), some (.int (nI n)), some (.int v4), none, none, none, none] rfl (Nat.le_of_ble_eq_true rfl) ?_
  intro p e s m args below meth c C
  refine hc_aload_n C dX8_who_0 rfl rfl ?_
  refine hc_cV0i C mv_X8_171 (c_X8_isHouse C.ok) rfl rfl rfl (Nat.le_of_ble_eq_true rfl) (hc_rr_rm (by decide)) ⟨Nat.zero_le _, Nat.zero_le _⟩ dX8_who_1 (fun r_1 M_1 h_1 => ?_)
  obtain ⟨rfl, rfl⟩ := h_1
  refine hc_if_ne C (tgt := 10) dX8_who_4 (by decide) (fun c_4 => ?_) (fun c_4 => ?_)
  rotate_left
  · exact absurd h0 (hb_z.mp c_4)
  refine hc_iload_n C dX8_who_10 rfl rfl ?_
  refine hc_cS1i C ms_X8_60 (c_X8_isRow C.ok) (Nat.le_of_ble_eq_true rfl) (hc_rr_rm (by decide)) ⟨Nat.zero_le _, Nat.zero_le _⟩ dX8_who_11 (fun r_11 M_11 h_11 => ?_)
  obtain ⟨rfl, rfl⟩ := h_11
  refine hc_if_eq C (tgt := 37) dX8_who_14 (by decide) (fun c_14 => ?_) (fun c_14 => ?_)
  · exact absurd (hx_row hr) (hb_z.mp c_14)
  refine hc_iload_n C dX8_who_17 rfl rfl ?_
  refine hc_iconst C dX8_who_18 (v := 1) rfl ?_
  refine hc_bipush C dX8_who_19 (v := 16) rfl ?_
  refine hc_cS3i C ms_X8_56 (c_X8_in C.ok) (Nat.le_of_ble_eq_true rfl) (hc_rr_rm (by decide)) ⟨Nat.zero_le _, Nat.zero_le _⟩ dX8_who_21 (fun r_21 M_21 h_21 => ?_)
  obtain ⟨rfl, rfl⟩ := h_21
  refine hc_if_eq C (tgt := 37) dX8_who_24 (by decide) (fun c_24 => ?_) (fun c_24 => ?_)
  · exact absurd (hx_in (lo := 1) (hi := 16) hn1 hn16 (by decide)) (hb_z.mp c_24)
  refine hc_iload C dX8_who_27 rfl ?_
  refine hc_iconst C dX8_who_29 (v := 0) rfl ?_
  refine hc_iconst C dX8_who_30 (v := 1) rfl ?_
  refine hc_cS3i C ms_X8_56 (c_X8_in C.ok) (Nat.le_of_ble_eq_true rfl) (hc_rr_rm (by decide)) ⟨Nat.zero_le _, Nat.zero_le _⟩ dX8_who_31 (fun r_31 M_31 h_31 => ?_)
  obtain ⟨rfl, rfl⟩ := h_31
  refine hc_if_ne C (tgt := 40) dX8_who_34 (by decide) (fun c_34 => ?_) (fun c_34 => ?_)
  rotate_left
  · exact absurd h4 (hb_z.mp c_34)
  refine hc_aload_n C dX8_who_40 rfl rfl ?_
  refine hc_iload_n C dX8_who_41 rfl rfl ?_
  refine hc_cV1i C mv_X8_72 (c_X8_isMissing C.ok hr) rfl rfl rfl (Nat.le_of_ble_eq_true rfl) (hc_rr_rm (by decide)) ⟨Nat.zero_le _, Nat.zero_le _⟩ dX8_who_42 (fun r_42 M_42 h_42 => ?_)
  obtain ⟨rfl, rfl⟩ := h_42
  refine hc_if_eq C (tgt := 54) dX8_who_45 (by decide) (fun c_45 => ?_) (fun c_45 => ?_)
  rotate_left
  · exact absurd (hb_f h2) c_45
  refine hc_aload_n C dX8_who_54 rfl rfl ?_
  refine hc_iload_n C dX8_who_55 rfl rfl ?_
  refine hc_iload_n C dX8_who_56 rfl rfl ?_
  refine hc_iload_n C dX8_who_57 rfl rfl ?_
  refine hc_cV3i C mv_X8_79 (c_X8_isPart C.ok hr) rfl rfl rfl (Nat.le_of_ble_eq_true rfl) (hc_rr_rm (by decide)) ⟨Nat.zero_le _, Nat.zero_le _⟩ dX8_who_58 (fun r_58 M_58 h_58 => ?_)
  obtain ⟨rfl, rfl⟩ := h_58
  refine hc_if_ne C (tgt := 70) dX8_who_61 (by decide) (fun c_61 => ?_) (fun c_61 => ?_)
  rotate_left
  · exact absurd h3 (hb_z.mp c_61)
  refine hc_iconst C dX8_who_70 (v := 0) rfl ?_
  refine hc_istore5 C dX8_who_71 (by decide) rfl ?_
  refine hc_ldc C kc_X8_50 dX8_who_73 ?_
  refine hc_istore6 C dX8_who_75 (by decide) rfl ?_
  refine hc_iconst C dX8_who_77 (v := 0) rfl ?_
  refine hc_istore7 C dX8_who_78 (by decide) rfl ?_
  refine lp_Rwho C (by decide) hE hE6 hD hD4 hr hi0 hn1 hn16 (fun Y v8 hY => ?_) (2 ^ E) 0 M none (by omega) (fun q _ _ => rfl)
  refine hc_aload_n C dX8_who_225 rfl rfl ?_
  refine hc_iload C dX8_who_226 rfl ?_
  refine hc_if_ne C (tgt := 236) dX8_who_228 (by decide) (fun c_228 => ?_) (fun c_228 => ?_)
  · refine hc_iload C dX8_who_236 rfl ?_
    refine hc_cV1i C mv_X8_69 (c_X8_well C.ok) rfl rfl rfl (Nat.le_of_ble_eq_true rfl) (hc_rr_rm (by decide)) ⟨Nat.zero_le _, Nat.zero_le _⟩ dX8_who_238 (fun r_238 M_238 h_238 => ?_)
    obtain ⟨rfl, rfl⟩ := h_238
    refine hc_iret C rfl dX8_who_241 ?_
    exact ⟨by first | exact if_pos c_228 | exact if_neg c_228, Y, hY, rfl⟩
  · refine hc_iload C dX8_who_231 rfl ?_
    refine hc_goto C (tgt := 238) dX8_who_233 (by decide) ?_
    refine hc_cV1i C mv_X8_69 (c_X8_well C.ok) rfl rfl rfl (Nat.le_of_ble_eq_true rfl) (hc_rr_rm (by decide)) ⟨Nat.zero_le _, Nat.zero_le _⟩ dX8_who_238 (fun r_238 M_238 h_238 => ?_)
    obtain ⟨rfl, rfl⟩ := h_238
    refine hc_iret C rfl dX8_who_241 ?_
    exact ⟨by first | exact if_pos c_228 | exact if_neg c_228, Y, hY, rfl⟩
