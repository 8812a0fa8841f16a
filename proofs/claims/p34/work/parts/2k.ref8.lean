set_option maxRecDepth 100000 in
set_option maxHeartbeats 4000000 in
theorem c_X8_heed_b2 {l : Launch} {G : hc_Geo} (hG : hc_ok G) {M : hc_Mem} {E e0 : Nat} {v2 v3 v4 : Int32}  (hE : M 54 4 = nI E) (hE6 : E ≤ 6) (he : e0 < E) (h1 : ¬ ((¬ v2 < 0 ∧ ¬ 8 ≤ v2) ∧ (¬ v4 < 1 ∧ ¬ 16 < v4))) : hc_M l G yX8_heed cX8_heed 7 (some .int) 3 [.ref (hc_ad G 48), .int (nI e0), .int v2, .int v3, .int v4] M (hc_pi (fun z M' => -1000001 = z ∧ M = M')) := by
  refine hc_M.of hG (by decide) [some (.ref (hc_ad G 48)), some (.int (nI e0)), some (.int v2), some (.int v3), some (.int v4), none, none] rfl (Nat.le_of_ble_eq_true rfl) ?_
  intro p e s m args below meth c C
  refine hc_aload_n C dX8_heed_0 rfl rfl ?_
  refine hc_iload_n C dX8_heed_1 rfl rfl ?_
  refine hc_cV1i C mv_X8_178 (c_X8_isEar C.ok hE (by omega)) rfl rfl rfl (Nat.le_of_ble_eq_true rfl) (hc_rr_rm (by decide)) ⟨Nat.zero_le _, Nat.zero_le _⟩ dX8_heed_2 (fun r_2 M_2 h_2 => ?_)
  obtain ⟨rfl, rfl⟩ := h_2
  refine hc_if_eq C (tgt := 26) dX8_heed_5 (by decide) (fun c_5 => ?_) (fun c_5 => ?_)
  · exact absurd (hx_earR hE hE6 he) (hb_z.mp c_5)
  refine hc_iload_n C dX8_heed_8 rfl rfl ?_
  refine hc_cS1i C ms_X8_60 (c_X8_isRow C.ok) (Nat.le_of_ble_eq_true rfl) (hc_rr_rm (by decide)) ⟨Nat.zero_le _, Nat.zero_le _⟩ dX8_heed_9 (fun r_9 M_9 h_9 => ?_)
  obtain ⟨rfl, rfl⟩ := h_9
  refine hc_if_eq C (tgt := 26) dX8_heed_12 (by decide) (fun c_12 => ?_) (fun c_12 => ?_)
  · refine hc_ldc C kc_X8_64 dX8_heed_26 ?_
    refine hc_iret C rfl dX8_heed_28 ?_
    exact ⟨rfl, rfl⟩
  · refine hc_iload C dX8_heed_15 rfl ?_
    refine hc_iconst C dX8_heed_17 (v := 1) rfl ?_
    refine hc_bipush C dX8_heed_18 (v := 16) rfl ?_
    refine hc_cS3i C ms_X8_56 (c_X8_in C.ok) (Nat.le_of_ble_eq_true rfl) (hc_rr_rm (by decide)) ⟨Nat.zero_le _, Nat.zero_le _⟩ dX8_heed_20 (fun r_20 M_20 h_20 => ?_)
    obtain ⟨rfl, rfl⟩ := h_20
    refine hc_if_ne C (tgt := 29) dX8_heed_23 (by decide) (fun c_23 => ?_) (fun c_23 => ?_)
    · exact absurd ⟨hb_nz.mp c_12, hb_nz.mp c_23⟩ h1
    · refine hc_ldc C kc_X8_64 dX8_heed_26 ?_
      refine hc_iret C rfl dX8_heed_28 ?_
      exact ⟨rfl, rfl⟩

set_option maxRecDepth 100000 in
set_option maxHeartbeats 4000000 in
theorem c_X8_heed_n {l : Launch} {G : hc_Geo} (hG : hc_ok G) {M : hc_Mem} {E e0 r : Nat} {v3 v4 : Int32}  (hE : M 54 4 = nI E) (hE6 : E ≤ 6) (he : e0 < E) (hr : r < 8) (h1 : ¬ v4 < 1 ∧ ¬ 16 < v4) (h2 : M 49 r = -1000000) : hc_M l G yX8_heed cX8_heed 7 (some .int) 3 [.ref (hc_ad G 48), .int (nI e0), .int (nI r), .int v3, .int v4] M (hc_pi (fun z M' => -1000011 = z ∧ hc_ms M 48 4 1 = M')) := by
  refine hc_M.of hG (by decide) [some (.ref (hc_ad G 48)), some (.int (nI e0)), some (.int (nI r)), some (.int v3), some (.int v4), none, none] rfl (Nat.le_of_ble_eq_true rfl) ?_
  intro p e s m args below meth c C
  refine hc_aload_n C dX8_heed_0 rfl rfl ?_
  refine hc_iload_n C dX8_heed_1 rfl rfl ?_
  refine hc_cV1i C mv_X8_178 (c_X8_isEar C.ok hE (by omega)) rfl rfl rfl (Nat.le_of_ble_eq_true rfl) (hc_rr_rm (by decide)) ⟨Nat.zero_le _, Nat.zero_le _⟩ dX8_heed_2 (fun r_2 M_2 h_2 => ?_)
  obtain ⟨rfl, rfl⟩ := h_2
  refine hc_if_eq C (tgt := 26) dX8_heed_5 (by decide) (fun c_5 => ?_) (fun c_5 => ?_)
  · exact absurd (hx_earR hE hE6 he) (hb_z.mp c_5)
  refine hc_iload_n C dX8_heed_8 rfl rfl ?_
  refine hc_cS1i C ms_X8_60 (c_X8_isRow C.ok) (Nat.le_of_ble_eq_true rfl) (hc_rr_rm (by decide)) ⟨Nat.zero_le _, Nat.zero_le _⟩ dX8_heed_9 (fun r_9 M_9 h_9 => ?_)
  obtain ⟨rfl, rfl⟩ := h_9
  refine hc_if_eq C (tgt := 26) dX8_heed_12 (by decide) (fun c_12 => ?_) (fun c_12 => ?_)
  · exact absurd (hx_row hr) (hb_z.mp c_12)
  refine hc_iload C dX8_heed_15 rfl ?_
  refine hc_iconst C dX8_heed_17 (v := 1) rfl ?_
  refine hc_bipush C dX8_heed_18 (v := 16) rfl ?_
  refine hc_cS3i C ms_X8_56 (c_X8_in C.ok) (Nat.le_of_ble_eq_true rfl) (hc_rr_rm (by decide)) ⟨Nat.zero_le _, Nat.zero_le _⟩ dX8_heed_20 (fun r_20 M_20 h_20 => ?_)
  obtain ⟨rfl, rfl⟩ := h_20
  refine hc_if_ne C (tgt := 29) dX8_heed_23 (by decide) (fun c_23 => ?_) (fun c_23 => ?_)
  rotate_left
  · exact absurd h1 (hb_z.mp c_23)
  refine hc_aload_n C dX8_heed_29 rfl rfl ?_
  refine hc_iload_n C dX8_heed_30 rfl rfl ?_
  refine hc_cV1i C mv_X8_72 (c_X8_isMissing C.ok hr) rfl rfl rfl (Nat.le_of_ble_eq_true rfl) (hc_rr_rm (by decide)) ⟨Nat.zero_le _, Nat.zero_le _⟩ dX8_heed_31 (fun r_31 M_31 h_31 => ?_)
  obtain ⟨rfl, rfl⟩ := h_31
  refine hc_if_eq C (tgt := 43) dX8_heed_34 (by decide) (fun c_34 => ?_) (fun c_34 => ?_)
  · exact absurd h2 (hb_z.mp c_34)
  refine hc_aload_n C dX8_heed_37 rfl rfl ?_
  refine hc_iconst C dX8_heed_38 (v := 1) rfl ?_
  refine hc_cV1i C mv_X8_65 (c_X8_found C.ok) rfl rfl rfl (Nat.le_of_ble_eq_true rfl) (hc_rr_rm (by decide)) ⟨Nat.zero_le _, Nat.zero_le _⟩ dX8_heed_39 (fun r_39 M_39 h_39 => ?_)
  obtain ⟨rfl, rfl⟩ := h_39
  refine hc_iret C rfl dX8_heed_42 ?_
  exact ⟨rfl, rfl⟩

set_option maxRecDepth 100000 in
set_option maxHeartbeats 4000000 in
theorem c_X8_heed_p {l : Launch} {G : hc_Geo} (hG : hc_ok G) {M : hc_Mem} {E e0 r : Nat} {v3 v4 : Int32}  (hE : M 54 4 = nI E) (hE6 : E ≤ 6) (he : e0 < E) (hr : r < 8) (h1 : ¬ v4 < 1 ∧ ¬ 16 < v4) (h2 : ¬ M 49 r = -1000000) (h3 : ¬ rPt (M 50 r) v3 v4) : hc_M l G yX8_heed cX8_heed 7 (some .int) 3 [.ref (hc_ad G 48), .int (nI e0), .int (nI r), .int v3, .int v4] M (hc_pi (fun z M' => -1000012 = z ∧ hc_ms M 48 4 2 = M')) := by
  refine hc_M.of hG (by decide) [some (.ref (hc_ad G 48)), some (.int (nI e0)), some (.int (nI r)), some (.int v3), some (.int v4), none, none] rfl (Nat.le_of_ble_eq_true rfl) ?_
  intro p e s m args below meth c C
  refine hc_aload_n C dX8_heed_0 rfl rfl ?_
  refine hc_iload_n C dX8_heed_1 rfl rfl ?_
  refine hc_cV1i C mv_X8_178 (c_X8_isEar C.ok hE (by omega)) rfl rfl rfl (Nat.le_of_ble_eq_true rfl) (hc_rr_rm (by decide)) ⟨Nat.zero_le _, Nat.zero_le _⟩ dX8_heed_2 (fun r_2 M_2 h_2 => ?_)
  obtain ⟨rfl, rfl⟩ := h_2
  refine hc_if_eq C (tgt := 26) dX8_heed_5 (by decide) (fun c_5 => ?_) (fun c_5 => ?_)
  · exact absurd (hx_earR hE hE6 he) (hb_z.mp c_5)
  refine hc_iload_n C dX8_heed_8 rfl rfl ?_
  refine hc_cS1i C ms_X8_60 (c_X8_isRow C.ok) (Nat.le_of_ble_eq_true rfl) (hc_rr_rm (by decide)) ⟨Nat.zero_le _, Nat.zero_le _⟩ dX8_heed_9 (fun r_9 M_9 h_9 => ?_)
  obtain ⟨rfl, rfl⟩ := h_9
  refine hc_if_eq C (tgt := 26) dX8_heed_12 (by decide) (fun c_12 => ?_) (fun c_12 => ?_)
  · exact absurd (hx_row hr) (hb_z.mp c_12)
  refine hc_iload C dX8_heed_15 rfl ?_
  refine hc_iconst C dX8_heed_17 (v := 1) rfl ?_
  refine hc_bipush C dX8_heed_18 (v := 16) rfl ?_
  refine hc_cS3i C ms_X8_56 (c_X8_in C.ok) (Nat.le_of_ble_eq_true rfl) (hc_rr_rm (by decide)) ⟨Nat.zero_le _, Nat.zero_le _⟩ dX8_heed_20 (fun r_20 M_20 h_20 => ?_)
  obtain ⟨rfl, rfl⟩ := h_20
  refine hc_if_ne C (tgt := 29) dX8_heed_23 (by decide) (fun c_23 => ?_) (fun c_23 => ?_)
  rotate_left
  · exact absurd h1 (hb_z.mp c_23)
  refine hc_aload_n C dX8_heed_29 rfl rfl ?_
  refine hc_iload_n C dX8_heed_30 rfl rfl ?_
  refine hc_cV1i C mv_X8_72 (c_X8_isMissing C.ok hr) rfl rfl rfl (Nat.le_of_ble_eq_true rfl) (hc_rr_rm (by decide)) ⟨Nat.zero_le _, Nat.zero_le _⟩ dX8_heed_31 (fun r_31 M_31 h_31 => ?_)
  obtain ⟨rfl, rfl⟩ := h_31
  refine hc_if_eq C (tgt := 43) dX8_heed_34 (by decide) (fun c_34 => ?_) (fun c_34 => ?_)
  rotate_left
  · exact absurd (hb_f h2) c_34
  refine hc_aload_n C dX8_heed_43 rfl rfl ?_
  refine hc_iload_n C dX8_heed_44 rfl rfl ?_
  refine hc_iload_n C dX8_heed_45 rfl rfl ?_
  refine hc_iload C dX8_heed_46 rfl ?_
  refine hc_cV3i C mv_X8_79 (c_X8_isPart C.ok hr) rfl rfl rfl (Nat.le_of_ble_eq_true rfl) (hc_rr_rm (by decide)) ⟨Nat.zero_le _, Nat.zero_le _⟩ dX8_heed_48 (fun r_48 M_48 h_48 => ?_)
  obtain ⟨rfl, rfl⟩ := h_48
  refine hc_if_ne C (tgt := 60) dX8_heed_51 (by decide) (fun c_51 => ?_) (fun c_51 => ?_)
  · exact absurd (hb_z.mpr h3) c_51
  refine hc_aload_n C dX8_heed_54 rfl rfl ?_
  refine hc_iconst C dX8_heed_55 (v := 2) rfl ?_
  refine hc_cV1i C mv_X8_65 (c_X8_found C.ok) rfl rfl rfl (Nat.le_of_ble_eq_true rfl) (hc_rr_rm (by decide)) ⟨Nat.zero_le _, Nat.zero_le _⟩ dX8_heed_56 (fun r_56 M_56 h_56 => ?_)
  obtain ⟨rfl, rfl⟩ := h_56
  refine hc_iret C rfl dX8_heed_59 ?_
  exact ⟨rfl, rfl⟩

set_option maxRecDepth 100000 in
set_option maxHeartbeats 4000000 in
theorem lp_Rheed {G : hc_Geo} {p : Program} {l : Launch} {e : Env} {d : Nat} {s : State} {m : MethodId} {args : Array Value} {below : List Frame} {meth : Method} {c : Code} {Q : State → Prop} (C : hc_Cx G hc_lay cX8_heed 7 (some .int) yX8_heed.cls p s m args meth c) {M : hc_Mem} {E D e0 r i n : Nat} (hd : 6 < d) (hE : M 54 4 = nI E) (hE6 : E ≤ 6) (he : e0 < E) (hD : M 54 5 = nI D) (hD4 : D ≤ 4) (hr : r < 8) (hi0 : i + n ≤ 40) (hn1 : 1 ≤ n) (hn16 : n ≤ 16) (kk : ∀ Y : hc_Mem, (∀ q, q ≠ 59 → q ≠ 60 → Y q = M q) → hc_W G hc_lay p l e (hc_rm d) s m args below meth c 7 0 0 Q 138 [some (.ref (hc_ad G 48)), some (.int (nI e0)), some (.int (nI r)), some (.int (nI i)), some (.int (nI n)), some (.int (rHd (M 54) E D (fun t => M 51 (40 * r + i + t)) n e0 12)), some (.int (nI (12 + 1)))] [] Y)  :
    ∀ (t : Nat) (k : Nat) (Y : hc_Mem), k + t = 12 → (∀ q, q ≠ 59 → q ≠ 60 → Y q = M q) → hc_W G hc_lay p l e (hc_rm d) s m args below meth c 7 0 0 Q 66 [some (.ref (hc_ad G 48)), some (.int (nI e0)), some (.int (nI r)), some (.int (nI i)), some (.int (nI n)), some (.int (rHd (M 54) E D (fun t => M 51 (40 * r + i + t)) n e0 k)), some (.int (nI (k + 1)))] [] Y := by
  intro t
  induction t with
  | zero =>
    intro k Y hk hY
    refine hc_iload C dX8_heed_66 rfl ?_
    refine hc_bipush C dX8_heed_68 (v := 13) rfl ?_
    refine hc_icmp_ge C (tgt := 138) dX8_heed_70 (by decide) (fun c_70 => ?_) (fun c_70 => ?_)
    rotate_left
    · exact absurd (show nI 13 ≤ nI (k + 1) from nI_le (by omega) (by omega)) c_70
    obtain rfl : k = 12 := by omega
    exact kk Y hY
  | succ t ih =>
    intro k Y hk hY
    have hy54 : Y 54 = M 54 := hY 54 (by decide) (by decide)
    refine hc_iload C dX8_heed_66 rfl ?_
    refine hc_bipush C dX8_heed_68 (v := 13) rfl ?_
    refine hc_icmp_ge C (tgt := 138) dX8_heed_70 (by decide) (fun c_70 => ?_) (fun c_70 => ?_)
    · exact absurd (show nI 13 ≤ nI (k + 1) from c_70) (nI_ge (show k + 1 < 13 by omega) (by omega))
    refine hc_aload_n C dX8_heed_73 rfl rfl ?_
    refine hc_getR C fl_X8_25 rfl rfl dX8_heed_74 ?_
    refine hc_iconst C dX8_heed_77 (v := 0) rfl ?_
    refine hc_aload_n C dX8_heed_78 rfl rfl ?_
    refine hc_getR C fl_X8_41 rfl rfl dX8_heed_79 ?_
    refine hc_iconst C dX8_heed_82 (v := 0) rfl ?_
    refine hc_cS4v C ms_X8_134 (c_X8_copies (a := 0) (b := 0) C.ok rfl rfl (by decide) (by decide) (by decide)) (Nat.le_of_ble_eq_true rfl) (hc_rr_rm (by omega)) ⟨Nat.zero_le _, Nat.zero_le _⟩ dX8_heed_83 (fun M_83 h_83 => ?_)
    obtain rfl := h_83
    refine hc_aload_n C dX8_heed_86 rfl rfl ?_
    refine hc_getR C fl_X8_41 rfl rfl dX8_heed_87 ?_
    refine hc_bipush C dX8_heed_90 (v := 6) rfl ?_
    refine hc_bipush C dX8_heed_92 (v := 7) rfl ?_
    refine hc_iload_n C dX8_heed_94 rfl rfl ?_
    refine hc_imul C dX8_heed_95 ?_
    refine hc_iadd C dX8_heed_96 ?_
    refine hc_iconst C dX8_heed_97 (v := 1) rfl ?_
    refine hc_iadd C dX8_heed_98 ?_
    refine hc_iload C dX8_heed_99 rfl ?_
    refine hc_iastN C (j := (6 + 7 * e0 + 1)) rfl (hx_67 e0 1) (by omega) dX8_heed_101 ?_
    rw [hc_ms_mf]
    refine hc_iload C dX8_heed_102 rfl ?_
    refine hc_aload_n C dX8_heed_104 rfl rfl ?_
    refine hc_bipush C dX8_heed_105 (v := 40) rfl ?_
    refine hc_iload_n C dX8_heed_107 rfl rfl ?_
    refine hc_imul C dX8_heed_108 ?_
    refine hc_iload_n C dX8_heed_109 rfl rfl ?_
    refine hc_iadd C dX8_heed_110 ?_
    refine hc_top (v := nI (40 * r + i)) (by rw [show (40 : Int32) = nI 40 from rfl, pk_mul, nI_add]) ?_
    refine hc_iload C dX8_heed_111 rfl ?_
    refine hc_cV2i C mv_X8_203 (c_X8_goesSo (E := E) (D := D) (b := 40 * r + i) (n := n) C.ok (by rw [hc_mf_s]; unfold upd; rw [if_neg (by omega), rAg_cpy (f := Y 54) (g := Y 59) 4 (by decide), hy54]; exact hE) hE6 (by rw [hc_mf_s]; unfold upd; rw [if_neg (by omega), rAg_cpy (f := Y 54) (g := Y 59) 5 (by decide), hy54]; exact hD) hD4 hn16 (by omega)) rfl rfl rfl (Nat.le_of_ble_eq_true rfl) (hc_rr_rm hd) ⟨Nat.zero_le _, Nat.zero_le _⟩ dX8_heed_113 (fun r_113 M_113 h_113 => ?_)
    obtain ⟨rfl, hS⟩ := h_113
    have hq : rSo ((hc_mf Y 59 (upd (va_cpy (Y 54) (Y 59) 0 0 68) (6 + 7 * e0 + 1) (nI (k + 1)))) 59) E D (fun t => (hc_mf Y 59 (upd (va_cpy (Y 54) (Y 59) 0 0 68) (6 + 7 * e0 + 1) (nI (k + 1)))) 51 (40 * r + i + t)) n ↔ rSo (upd (M 54) (6 + 7 * e0 + 1) (nI (k + 1))) E D (fun t => M 51 (40 * r + i + t)) n := by
      rw [hc_mf_s, hc_mf_n (by decide), hY 51 (by decide) (by decide)]
      exact rSo_c hE6 hD4 (rAg.upd (by rw [hy54]; exact rAg_cpy) rfl) rfl
    refine hc_if_eq C (tgt := 128) dX8_heed_116 (by decide) (fun c_116 => ?_) (fun c_116 => ?_)
    · refine hc_iconst C dX8_heed_128 (v := 0) rfl ?_
      refine hc_ior C dX8_heed_129 ?_
      refine hc_top (v := rHd (M 54) E D (fun t => M 51 (40 * r + i + t)) n e0 (k + 1)) ?_ ?_
      · rw [rHd]
        first
          | rw [if_neg (fun w => hb_z.mp c_116 (hq.mpr w))]
          | rw [if_pos (hq.mp (hb_nz.mp c_116))]
      refine hc_istore5 C dX8_heed_130 (by decide) rfl ?_
      refine hc_iinc6 C (v := nI (k + 1 + 1)) dX8_heed_132 (by decide) rfl rfl (nI_1 (k + 1)) ?_
      refine hc_goto C (tgt := 66) dX8_heed_135 (by decide) ?_
      exact ih (k + 1) M_113 (by omega) (fun q h1 h2 => by rw [hS q h1 h2, hc_mf_n h1, hY q h1 h2])
    · refine hc_iconst C dX8_heed_119 (v := 1) rfl ?_
      refine hc_iload C dX8_heed_120 rfl ?_
      refine hc_iconst C dX8_heed_122 (v := 1) rfl ?_
      refine hc_isub C dX8_heed_123 ?_
      refine hc_ishl C dX8_heed_124 ?_
      refine hc_goto C (tgt := 129) dX8_heed_125 (by decide) ?_
      refine hc_ior C dX8_heed_129 ?_
      refine hc_top (v := rHd (M 54) E D (fun t => M 51 (40 * r + i + t)) n e0 (k + 1)) ?_ ?_
      · rw [rHd]
        first
          | rw [if_neg (fun w => hb_z.mp c_116 (hq.mpr w))]
          | rw [if_pos (hq.mp (hb_nz.mp c_116))]
      refine hc_istore5 C dX8_heed_130 (by decide) rfl ?_
      refine hc_iinc6 C (v := nI (k + 1 + 1)) dX8_heed_132 (by decide) rfl rfl (nI_1 (k + 1)) ?_
      refine hc_goto C (tgt := 66) dX8_heed_135 (by decide) ?_
      exact ih (k + 1) M_113 (by omega) (fun q h1 h2 => by rw [hS q h1 h2, hc_mf_n h1, hY q h1 h2])

set_option maxRecDepth 100000 in
set_option maxHeartbeats 4000000 in
theorem c_X8_heed_o {l : Launch} {G : hc_Geo} (hG : hc_ok G) {M : hc_Mem} {E D e0 r i n : Nat}  (hE : M 54 4 = nI E) (hE6 : E ≤ 6) (he : e0 < E) (hD : M 54 5 = nI D) (hD4 : D ≤ 4) (hr : r < 8) (hi0 : i + n ≤ 40) (hn1 : 1 ≤ n) (hn16 : n ≤ 16) (h2 : ¬ M 49 r = -1000000) (h3 : rPt (M 50 r) (nI i) (nI n)) : hc_M l G yX8_heed cX8_heed 7 (some .int) 7 [.ref (hc_ad G 48), .int (nI e0), .int (nI r), .int (nI i), .int (nI n)] M (hc_pi (fun z M' => rHd (M 54) E D (fun t => M 51 (40 * r + i + t)) n e0 12 = z ∧ ∃ Y : hc_Mem, (∀ q, q ≠ 59 → q ≠ 60 → Y q = M q) ∧ hc_ms Y 48 4 0 = M')) := by
  refine hc_M.of hG (by decide) [some (.ref (hc_ad G 48)), some (.int (nI e0)), some (.int (nI r)), some (.int (nI i)), some (.int (nI n)), none, none] rfl (Nat.le_of_ble_eq_true rfl) ?_
  intro p e s m args below meth c C
  refine hc_aload_n C dX8_heed_0 rfl rfl ?_
  refine hc_iload_n C dX8_heed_1 rfl rfl ?_
  refine hc_cV1i C mv_X8_178 (c_X8_isEar C.ok hE (by omega)) rfl rfl rfl (Nat.le_of_ble_eq_true rfl) (hc_rr_rm (by decide)) ⟨Nat.zero_le _, Nat.zero_le _⟩ dX8_heed_2 (fun r_2 M_2 h_2 => ?_)
  obtain ⟨rfl, rfl⟩ := h_2
  refine hc_if_eq C (tgt := 26) dX8_heed_5 (by decide) (fun c_5 => ?_) (fun c_5 => ?_)
  · exact absurd (hx_earR hE hE6 he) (hb_z.mp c_5)
  refine hc_iload_n C dX8_heed_8 rfl rfl ?_
  refine hc_cS1i C ms_X8_60 (c_X8_isRow C.ok) (Nat.le_of_ble_eq_true rfl) (hc_rr_rm (by decide)) ⟨Nat.zero_le _, Nat.zero_le _⟩ dX8_heed_9 (fun r_9 M_9 h_9 => ?_)
  obtain ⟨rfl, rfl⟩ := h_9
  refine hc_if_eq C (tgt := 26) dX8_heed_12 (by decide) (fun c_12 => ?_) (fun c_12 => ?_)
  · exact absurd (hx_row hr) (hb_z.mp c_12)
  refine hc_iload C dX8_heed_15 rfl ?_
  refine hc_iconst C dX8_heed_17 (v := 1) rfl ?_
  refine hc_bipush C dX8_heed_18 (v := 16) rfl ?_
  refine hc_cS3i C ms_X8_56 (c_X8_in C.ok) (Nat.le_of_ble_eq_true rfl) (hc_rr_rm (by decide)) ⟨Nat.zero_le _, Nat.zero_le _⟩ dX8_heed_20 (fun r_20 M_20 h_20 => ?_)
  obtain ⟨rfl, rfl⟩ := h_20
  refine hc_if_ne C (tgt := 29) dX8_heed_23 (by decide) (fun c_23 => ?_) (fun c_23 => ?_)
  rotate_left
  · exact absurd (hx_in (lo := 1) (hi := 16) hn1 hn16 (by decide)) (hb_z.mp c_23)
  refine hc_aload_n C dX8_heed_29 rfl rfl ?_
  refine hc_iload_n C dX8_heed_30 rfl rfl ?_
  refine hc_cV1i C mv_X8_72 (c_X8_isMissing C.ok hr) rfl rfl rfl (Nat.le_of_ble_eq_true rfl) (hc_rr_rm (by decide)) ⟨Nat.zero_le _, Nat.zero_le _⟩ dX8_heed_31 (fun r_31 M_31 h_31 => ?_)
  obtain ⟨rfl, rfl⟩ := h_31
  refine hc_if_eq C (tgt := 43) dX8_heed_34 (by decide) (fun c_34 => ?_) (fun c_34 => ?_)
  rotate_left
  · exact absurd (hb_f h2) c_34
  refine hc_aload_n C dX8_heed_43 rfl rfl ?_
  refine hc_iload_n C dX8_heed_44 rfl rfl ?_
  refine hc_iload_n C dX8_heed_45 rfl rfl ?_
  refine hc_iload C dX8_heed_46 rfl ?_
  refine hc_cV3i C mv_X8_79 (c_X8_isPart C.ok hr) rfl rfl rfl (Nat.le_of_ble_eq_true rfl) (hc_rr_rm (by decide)) ⟨Nat.zero_le _, Nat.zero_le _⟩ dX8_heed_48 (fun r_48 M_48 h_48 => ?_)
  obtain ⟨rfl, rfl⟩ := h_48
  refine hc_if_ne C (tgt := 60) dX8_heed_51 (by decide) (fun c_51 => ?_) (fun c_51 => ?_)
  rotate_left
  · exact absurd h3 (hb_z.mp c_51)
  refine hc_iconst C dX8_heed_60 (v := 0) rfl ?_
  refine hc_istore5 C dX8_heed_61 (by decide) rfl ?_
  refine hc_iconst C dX8_heed_63 (v := 1) rfl ?_
  refine hc_istore6 C dX8_heed_64 (by decide) rfl ?_
  refine lp_Rheed C (by decide) hE hE6 he hD hD4 hr hi0 hn1 hn16 (fun Y hY => ?_) 12 0 M rfl (fun q _ _ => rfl)
  refine hc_aload_n C dX8_heed_138 rfl rfl ?_
  refine hc_iload C dX8_heed_139 rfl ?_
  refine hc_cV1i C mv_X8_69 (c_X8_well C.ok) rfl rfl rfl (Nat.le_of_ble_eq_true rfl) (hc_rr_rm (by decide)) ⟨Nat.zero_le _, Nat.zero_le _⟩ dX8_heed_141 (fun r_141 M_141 h_141 => ?_)
  obtain ⟨rfl, rfl⟩ := h_141
  refine hc_iret C rfl dX8_heed_144 ?_
  exact ⟨rfl, Y, hY, rfl⟩
