set_option maxRecDepth 100000 in
set_option maxHeartbeats 4000000 in
theorem c_X7_isWithin {l : Launch} {G : hc_Geo} (hG : hc_ok G) {M : hc_Mem} {v lo hi : Int32}  : hc_M l G yX7_isWithin cX7_isWithin 3 (some .boolean) 1 [.int v, .int lo, .int hi] M (hc_pi (fun z M' => hb (¬ v < lo ∧ ¬ hi < v) = z ∧ M = M')) := by
  refine hc_M.of hG (by decide) [some (.int v), some (.int lo), some (.int hi)] rfl (Nat.le_of_ble_eq_true rfl) ?_
  intro p e s m args below meth c C
  refine hc_iload_n C dX7_isWithin_0 rfl rfl ?_
  refine hc_iload_n C dX7_isWithin_1 rfl rfl ?_
  refine hc_icmp_lt C (tgt := 14) dX7_isWithin_2 (by decide) (fun c_2 => ?_) (fun c_2 => ?_)
  · refine hc_iconst C dX7_isWithin_14 (v := 0) rfl ?_
    refine hc_zret C rfl rfl dX7_isWithin_15 ?_
    refine ⟨?_, rfl⟩
    first | exact hb_t (by simp_all) | exact hb_f (by simp_all)
  · refine hc_iload_n C dX7_isWithin_5 rfl rfl ?_
    refine hc_iload_n C dX7_isWithin_6 rfl rfl ?_
    refine hc_icmp_gt C (tgt := 14) dX7_isWithin_7 (by decide) (fun c_7 => ?_) (fun c_7 => ?_)
    · refine hc_iconst C dX7_isWithin_14 (v := 0) rfl ?_
      refine hc_zret C rfl rfl dX7_isWithin_15 ?_
      refine ⟨?_, rfl⟩
      first | exact hb_t (by simp_all) | exact hb_f (by simp_all)
    · refine hc_iconst C dX7_isWithin_10 (v := 1) rfl ?_
      refine hc_goto C (tgt := 15) dX7_isWithin_11 (by decide) ?_
      refine hc_zret C rfl rfl dX7_isWithin_15 ?_
      refine ⟨?_, rfl⟩
      first | exact hb_t (by simp_all) | exact hb_f (by simp_all)

set_option maxRecDepth 100000 in
set_option maxHeartbeats 4000000 in
theorem c_X3_hasEar {l : Launch} {G : hc_Geo} (hG : hc_ok G) {M : hc_Mem} {v : Int32}  : hc_M l G yX3_hasEar cX3_hasEar 2 (some .boolean) 1 [.ref (hc_ad G 9), .int v] M (hc_pi (fun z M' => hb (¬ v < 0 ∧ ¬ M 9 5 ≤ v) = z ∧ M = M')) := by
  refine hc_M.of hG (by decide) [some (.ref (hc_ad G 9)), some (.int v)] rfl (Nat.le_of_ble_eq_true rfl) ?_
  intro p e s m args below meth c C
  refine hc_iload_n C dX3_hasEar_0 rfl rfl ?_
  refine hc_if_lt C (tgt := 16) dX3_hasEar_1 (by decide) (fun c_1 => ?_) (fun c_1 => ?_)
  · refine hc_iconst C dX3_hasEar_16 (v := 0) rfl ?_
    refine hc_zret C rfl rfl dX3_hasEar_17 ?_
    refine ⟨?_, rfl⟩
    first | exact hb_t (by simp_all) | exact hb_f (by simp_all)
  · refine hc_iload_n C dX3_hasEar_4 rfl rfl ?_
    refine hc_aload_n C dX3_hasEar_5 rfl rfl ?_
    refine hc_getI C fl_X3_26 rfl rfl dX3_hasEar_6 ?_
    refine hc_icmp_ge C (tgt := 16) dX3_hasEar_9 (by decide) (fun c_9 => ?_) (fun c_9 => ?_)
    · refine hc_iconst C dX3_hasEar_16 (v := 0) rfl ?_
      refine hc_zret C rfl rfl dX3_hasEar_17 ?_
      refine ⟨?_, rfl⟩
      first | exact hb_t (by simp_all) | exact hb_f (by simp_all)
    · refine hc_iconst C dX3_hasEar_12 (v := 1) rfl ?_
      refine hc_goto C (tgt := 17) dX3_hasEar_13 (by decide) ?_
      refine hc_zret C rfl rfl dX3_hasEar_17 ?_
      refine ⟨?_, rfl⟩
      first | exact hb_t (by simp_all) | exact hb_f (by simp_all)

set_option maxRecDepth 100000 in
set_option maxHeartbeats 4000000 in
theorem c_X3_hasDoing {l : Launch} {G : hc_Geo} (hG : hc_ok G) {M : hc_Mem} {v : Int32}  : hc_M l G yX3_hasDoing cX3_hasDoing 2 (some .boolean) 1 [.ref (hc_ad G 9), .int v] M (hc_pi (fun z M' => hb (¬ v < 0 ∧ ¬ M 9 6 ≤ v) = z ∧ M = M')) := by
  refine hc_M.of hG (by decide) [some (.ref (hc_ad G 9)), some (.int v)] rfl (Nat.le_of_ble_eq_true rfl) ?_
  intro p e s m args below meth c C
  refine hc_iload_n C dX3_hasDoing_0 rfl rfl ?_
  refine hc_if_lt C (tgt := 16) dX3_hasDoing_1 (by decide) (fun c_1 => ?_) (fun c_1 => ?_)
  · refine hc_iconst C dX3_hasDoing_16 (v := 0) rfl ?_
    refine hc_zret C rfl rfl dX3_hasDoing_17 ?_
    refine ⟨?_, rfl⟩
    first | exact hb_t (by simp_all) | exact hb_f (by simp_all)
  · refine hc_iload_n C dX3_hasDoing_4 rfl rfl ?_
    refine hc_aload_n C dX3_hasDoing_5 rfl rfl ?_
    refine hc_getI C fl_X3_29 rfl rfl dX3_hasDoing_6 ?_
    refine hc_icmp_ge C (tgt := 16) dX3_hasDoing_9 (by decide) (fun c_9 => ?_) (fun c_9 => ?_)
    · refine hc_iconst C dX3_hasDoing_16 (v := 0) rfl ?_
      refine hc_zret C rfl rfl dX3_hasDoing_17 ?_
      refine ⟨?_, rfl⟩
      first | exact hb_t (by simp_all) | exact hb_f (by simp_all)
    · refine hc_iconst C dX3_hasDoing_12 (v := 1) rfl ?_
      refine hc_goto C (tgt := 17) dX3_hasDoing_13 (by decide) ?_
      refine hc_zret C rfl rfl dX3_hasDoing_17 ?_
      refine ⟨?_, rfl⟩
      first | exact hb_t (by simp_all) | exact hb_f (by simp_all)

set_option maxRecDepth 100000 in
set_option maxHeartbeats 4000000 in
theorem c_X7_quarters_n {l : Launch} {G : hc_Geo} (hG : hc_ok G) {M : hc_Mem} {v1 : Int32}  (h0 : M 9 0 = 0) : hc_M l G yX7_quarters cX7_quarters 3 (some .int) 2 [.ref (hc_ad G 0), .int v1] M (hc_pi (fun z M' => -1000002 = z ∧ M = M')) := by
  refine hc_M.of hG (by decide) [some (.ref (hc_ad G 0)), some (.int v1), none] rfl (Nat.le_of_ble_eq_true rfl) ?_
  intro p e s m args below meth c C
  refine hc_aload_n C dX7_quarters_0 rfl rfl ?_
  refine hc_getR C fl_X7_26 rfl rfl dX7_quarters_1 ?_
  refine hc_getI C fl_X7_123 rfl rfl dX7_quarters_4 ?_
  refine hc_if_ne C (tgt := 13) dX7_quarters_7 (by decide) (fun c_7 => ?_) (fun c_7 => ?_)
  · exact absurd h0 c_7
  refine hc_ldc C kc_X7_127 dX7_quarters_10 ?_
  refine hc_iret C rfl dX7_quarters_12 ?_
  exact ⟨rfl, rfl⟩

set_option maxRecDepth 100000 in
set_option maxHeartbeats 4000000 in
theorem c_X7_wool_n {l : Launch} {G : hc_Geo} (hG : hc_ok G) {M : hc_Mem} {v1 : Int32}  (h0 : M 9 0 = 0) : hc_M l G yX7_wool cX7_wool 3 (some .int) 2 [.ref (hc_ad G 0), .int v1] M (hc_pi (fun z M' => -1000002 = z ∧ M = M')) := by
  refine hc_M.of hG (by decide) [some (.ref (hc_ad G 0)), some (.int v1), none] rfl (Nat.le_of_ble_eq_true rfl) ?_
  intro p e s m args below meth c C
  refine hc_aload_n C dX7_wool_0 rfl rfl ?_
  refine hc_getR C fl_X7_26 rfl rfl dX7_wool_1 ?_
  refine hc_getI C fl_X7_123 rfl rfl dX7_wool_4 ?_
  refine hc_if_ne C (tgt := 13) dX7_wool_7 (by decide) (fun c_7 => ?_) (fun c_7 => ?_)
  · exact absurd h0 c_7
  refine hc_ldc C kc_X7_127 dX7_wool_10 ?_
  refine hc_iret C rfl dX7_wool_12 ?_
  exact ⟨rfl, rfl⟩

set_option maxRecDepth 100000 in
set_option maxHeartbeats 4000000 in
theorem c_X7_clock_n {l : Launch} {G : hc_Geo} (hG : hc_ok G) {M : hc_Mem} {v1 : Int32}  (h0 : M 9 0 = 0) : hc_M l G yX7_clock cX7_clock 2 (some .int) 2 [.ref (hc_ad G 0), .int v1] M (hc_pi (fun z M' => -1000002 = z ∧ M = M')) := by
  refine hc_M.of hG (by decide) [some (.ref (hc_ad G 0)), some (.int v1)] rfl (Nat.le_of_ble_eq_true rfl) ?_
  intro p e s m args below meth c C
  refine hc_aload_n C dX7_clock_0 rfl rfl ?_
  refine hc_getR C fl_X7_26 rfl rfl dX7_clock_1 ?_
  refine hc_getI C fl_X7_123 rfl rfl dX7_clock_4 ?_
  refine hc_if_ne C (tgt := 13) dX7_clock_7 (by decide) (fun c_7 => ?_) (fun c_7 => ?_)
  · exact absurd h0 c_7
  refine hc_ldc C kc_X7_127 dX7_clock_10 ?_
  refine hc_iret C rfl dX7_clock_12 ?_
  exact ⟨rfl, rfl⟩

set_option maxRecDepth 100000 in
set_option maxHeartbeats 4000000 in
theorem c_X7_ahead_n {l : Launch} {G : hc_Geo} (hG : hc_ok G) {M : hc_Mem} {v1 : Int32}  (h0 : M 9 0 = 0) : hc_M l G yX7_ahead cX7_ahead 2 (some .int) 2 [.ref (hc_ad G 0), .int v1] M (hc_pi (fun z M' => -1000002 = z ∧ M = M')) := by
  refine hc_M.of hG (by decide) [some (.ref (hc_ad G 0)), some (.int v1)] rfl (Nat.le_of_ble_eq_true rfl) ?_
  intro p e s m args below meth c C
  refine hc_aload_n C dX7_ahead_0 rfl rfl ?_
  refine hc_getR C fl_X7_26 rfl rfl dX7_ahead_1 ?_
  refine hc_getI C fl_X7_123 rfl rfl dX7_ahead_4 ?_
  refine hc_if_ne C (tgt := 13) dX7_ahead_7 (by decide) (fun c_7 => ?_) (fun c_7 => ?_)
  · exact absurd h0 c_7
  refine hc_ldc C kc_X7_127 dX7_ahead_10 ?_
  refine hc_iret C rfl dX7_ahead_12 ?_
  exact ⟨rfl, rfl⟩

set_option maxRecDepth 100000 in
set_option maxHeartbeats 4000000 in
theorem c_X7_whenShows_n {l : Launch} {G : hc_Geo} (hG : hc_ok G) {M : hc_Mem} {v1 : Int32}  (h0 : M 9 0 = 0) : hc_M l G yX7_whenShows cX7_whenShows 2 (some .int) 2 [.ref (hc_ad G 0), .int v1] M (hc_pi (fun z M' => -1000002 = z ∧ M = M')) := by
  refine hc_M.of hG (by decide) [some (.ref (hc_ad G 0)), some (.int v1)] rfl (Nat.le_of_ble_eq_true rfl) ?_
  intro p e s m args below meth c C
  refine hc_aload_n C dX7_whenShows_0 rfl rfl ?_
  refine hc_getR C fl_X7_26 rfl rfl dX7_whenShows_1 ?_
  refine hc_getI C fl_X7_123 rfl rfl dX7_whenShows_4 ?_
  refine hc_if_ne C (tgt := 13) dX7_whenShows_7 (by decide) (fun c_7 => ?_) (fun c_7 => ?_)
  · exact absurd h0 c_7
  refine hc_ldc C kc_X7_127 dX7_whenShows_10 ?_
  refine hc_iret C rfl dX7_whenShows_12 ?_
  exact ⟨rfl, rfl⟩

set_option maxRecDepth 100000 in
set_option maxHeartbeats 4000000 in
theorem c_X7_late_n {l : Launch} {G : hc_Geo} (hG : hc_ok G) {M : hc_Mem}  (h0 : M 9 0 = 0) : hc_M l G yX7_late cX7_late 1 (some .int) 2 [.ref (hc_ad G 0)] M (hc_pi (fun z M' => -1000002 = z ∧ M = M')) := by
  refine hc_M.of hG (by decide) [some (.ref (hc_ad G 0))] rfl (Nat.le_of_ble_eq_true rfl) ?_
  intro p e s m args below meth c C
  refine hc_aload_n C dX7_late_0 rfl rfl ?_
  refine hc_getR C fl_X7_26 rfl rfl dX7_late_1 ?_
  refine hc_getI C fl_X7_123 rfl rfl dX7_late_4 ?_
  refine hc_if_ne C (tgt := 13) dX7_late_7 (by decide) (fun c_7 => ?_) (fun c_7 => ?_)
  · exact absurd h0 c_7
  refine hc_ldc C kc_X7_127 dX7_late_10 ?_
  refine hc_iret C rfl dX7_late_12 ?_
  exact ⟨rfl, rfl⟩

set_option maxRecDepth 100000 in
set_option maxHeartbeats 4000000 in
theorem c_X7_toHush_n {l : Launch} {G : hc_Geo} (hG : hc_ok G) {M : hc_Mem} {v1 v2 v3 : Int32}  (h0 : M 9 0 = 0) : hc_M l G yX7_toHush cX7_toHush 4 (some .int) 2 [.ref (hc_ad G 0), .int v1, .int v2, .int v3] M (hc_pi (fun z M' => -1000002 = z ∧ M = M')) := by
  refine hc_M.of hG (by decide) [some (.ref (hc_ad G 0)), some (.int v1), some (.int v2), some (.int v3)] rfl (Nat.le_of_ble_eq_true rfl) ?_
  intro p e s m args below meth c C
  refine hc_aload_n C dX7_toHush_0 rfl rfl ?_
  refine hc_getR C fl_X7_26 rfl rfl dX7_toHush_1 ?_
  refine hc_getI C fl_X7_123 rfl rfl dX7_toHush_4 ?_
  refine hc_if_ne C (tgt := 13) dX7_toHush_7 (by decide) (fun c_7 => ?_) (fun c_7 => ?_)
  · exact absurd h0 c_7
  refine hc_ldc C kc_X7_127 dX7_toHush_10 ?_
  refine hc_iret C rfl dX7_toHush_12 ?_
  exact ⟨rfl, rfl⟩

set_option maxRecDepth 100000 in
set_option maxHeartbeats 4000000 in
theorem c_X7_toCall_n {l : Launch} {G : hc_Geo} (hG : hc_ok G) {M : hc_Mem} {v1 v2 v3 : Int32}  (h0 : M 9 0 = 0) : hc_M l G yX7_toCall cX7_toCall 4 (some .int) 2 [.ref (hc_ad G 0), .int v1, .int v2, .int v3] M (hc_pi (fun z M' => -1000002 = z ∧ M = M')) := by
  refine hc_M.of hG (by decide) [some (.ref (hc_ad G 0)), some (.int v1), some (.int v2), some (.int v3)] rfl (Nat.le_of_ble_eq_true rfl) ?_
  intro p e s m args below meth c C
  refine hc_aload_n C dX7_toCall_0 rfl rfl ?_
  refine hc_getR C fl_X7_26 rfl rfl dX7_toCall_1 ?_
  refine hc_getI C fl_X7_123 rfl rfl dX7_toCall_4 ?_
  refine hc_if_ne C (tgt := 13) dX7_toCall_7 (by decide) (fun c_7 => ?_) (fun c_7 => ?_)
  · exact absurd h0 c_7
  refine hc_ldc C kc_X7_127 dX7_toCall_10 ?_
  refine hc_iret C rfl dX7_toCall_12 ?_
  exact ⟨rfl, rfl⟩

set_option maxRecDepth 100000 in
set_option maxHeartbeats 4000000 in
theorem c_X7_who_n {l : Launch} {G : hc_Geo} (hG : hc_ok G) {M : hc_Mem} {v1 v2 v3 v4 : Int32}  (h0 : M 9 0 = 0) : hc_M l G yX7_who cX7_who 8 (some .int) 2 [.ref (hc_ad G 0), .int v1, .int v2, .int v3, .int v4] M (hc_pi (fun z M' => -1000002 = z ∧ M = M')) := by
  refine hc_M.of hG (by decide) [some (.ref (hc_ad G 0)), some (.int v1), some (.int v2), some (.int v3), some (.int v4), none, none, none] rfl (Nat.le_of_ble_eq_true rfl) ?_
  intro p e s m args below meth c C
  refine hc_aload_n C dX7_who_0 rfl rfl ?_
  refine hc_getR C fl_X7_26 rfl rfl dX7_who_1 ?_
  refine hc_getI C fl_X7_123 rfl rfl dX7_who_4 ?_
  refine hc_if_ne C (tgt := 13) dX7_who_7 (by decide) (fun c_7 => ?_) (fun c_7 => ?_)
  · exact absurd h0 c_7
  refine hc_ldc C kc_X7_127 dX7_who_10 ?_
  refine hc_iret C rfl dX7_who_12 ?_
  exact ⟨rfl, rfl⟩

set_option maxRecDepth 100000 in
set_option maxHeartbeats 4000000 in
theorem c_X7_odds_n {l : Launch} {G : hc_Geo} (hG : hc_ok G) {M : hc_Mem} {v1 v2 v3 : Int32}  (h0 : M 9 0 = 0) : hc_M l G yX7_odds cX7_odds 7 (some .int) 2 [.ref (hc_ad G 0), .int v1, .int v2, .int v3] M (hc_pi (fun z M' => -1000002 = z ∧ M = M')) := by
  refine hc_M.of hG (by decide) [some (.ref (hc_ad G 0)), some (.int v1), some (.int v2), some (.int v3), none, none, none] rfl (Nat.le_of_ble_eq_true rfl) ?_
  intro p e s m args below meth c C
  refine hc_aload_n C dX7_odds_0 rfl rfl ?_
  refine hc_getR C fl_X7_26 rfl rfl dX7_odds_1 ?_
  refine hc_getI C fl_X7_123 rfl rfl dX7_odds_4 ?_
  refine hc_if_ne C (tgt := 13) dX7_odds_7 (by decide) (fun c_7 => ?_) (fun c_7 => ?_)
  · exact absurd h0 c_7
  refine hc_ldc C kc_X7_127 dX7_odds_10 ?_
  refine hc_iret C rfl dX7_odds_12 ?_
  exact ⟨rfl, rfl⟩

set_option maxRecDepth 100000 in
set_option maxHeartbeats 4000000 in
theorem c_X7_go_b {l : Launch} {G : hc_Geo} (hG : hc_ok G) {M : hc_Mem} {v1 v2 : Int32}  (h0 : ¬ (¬ v1 < 0 ∧ ¬ M 9 5 ≤ v1)) : hc_M l G yX7_go cX7_go 4 (some .int) 2 [.ref (hc_ad G 0), .int v1, .int v2] M (hc_pi (fun z M' => -1000001 = z ∧ M = M')) := by
  refine hc_M.of hG (by decide) [some (.ref (hc_ad G 0)), some (.int v1), some (.int v2), none] rfl (Nat.le_of_ble_eq_true rfl) ?_
  intro p e s m args below meth c C
  refine hc_aload_n C dX7_go_0 rfl rfl ?_
  refine hc_getR C fl_X7_26 rfl rfl dX7_go_1 ?_
  refine hc_iload_n C dX7_go_4 rfl rfl ?_
  refine hc_cV1i C mv_X7_141 (c_X3_hasEar C.ok) rfl rfl rfl (Nat.le_of_ble_eq_true rfl) (hc_rr_rm (by decide)) ⟨Nat.zero_le _, Nat.zero_le _⟩ dX7_go_5 (fun r_5 M_5 h_5 => ?_)
  obtain ⟨rfl, rfl⟩ := h_5
  refine hc_if_eq C (tgt := 20) dX7_go_8 (by decide) (fun c_8 => ?_) (fun c_8 => ?_)
  rotate_left
  · exact absurd (hb_f h0) c_8
  refine hc_ldc C kc_X7_64 dX7_go_20 ?_
  refine hc_iret C rfl dX7_go_22 ?_
  exact ⟨rfl, rfl⟩

set_option maxRecDepth 100000 in
set_option maxHeartbeats 4000000 in
theorem c_X7_hush_b {l : Launch} {G : hc_Geo} (hG : hc_ok G) {M : hc_Mem} {v1 v2 : Int32}  (h0 : ¬ (¬ v1 < 0 ∧ ¬ M 9 5 ≤ v1)) : hc_M l G yX7_hush cX7_hush 3 (some .int) 2 [.ref (hc_ad G 0), .int v1, .int v2] M (hc_pi (fun z M' => -1000001 = z ∧ M = M')) := by
  refine hc_M.of hG (by decide) [some (.ref (hc_ad G 0)), some (.int v1), some (.int v2)] rfl (Nat.le_of_ble_eq_true rfl) ?_
  intro p e s m args below meth c C
  refine hc_aload_n C dX7_hush_0 rfl rfl ?_
  refine hc_getR C fl_X7_26 rfl rfl dX7_hush_1 ?_
  refine hc_iload_n C dX7_hush_4 rfl rfl ?_
  refine hc_cV1i C mv_X7_141 (c_X3_hasEar C.ok) rfl rfl rfl (Nat.le_of_ble_eq_true rfl) (hc_rr_rm (by decide)) ⟨Nat.zero_le _, Nat.zero_le _⟩ dX7_hush_5 (fun r_5 M_5 h_5 => ?_)
  obtain ⟨rfl, rfl⟩ := h_5
  refine hc_if_eq C (tgt := 20) dX7_hush_8 (by decide) (fun c_8 => ?_) (fun c_8 => ?_)
  rotate_left
  · exact absurd (hb_f h0) c_8
  refine hc_ldc C kc_X7_64 dX7_hush_20 ?_
  refine hc_iret C rfl dX7_hush_22 ?_
  exact ⟨rfl, rfl⟩

set_option maxRecDepth 100000 in
set_option maxHeartbeats 4000000 in
theorem c_X7_heed_b {l : Launch} {G : hc_Geo} (hG : hc_ok G) {M : hc_Mem} {v1 v2 v3 v4 : Int32}  (h0 : ¬ (¬ v1 < 0 ∧ ¬ M 9 5 ≤ v1)) : hc_M l G yX7_heed cX7_heed 6 (some .int) 2 [.ref (hc_ad G 0), .int v1, .int v2, .int v3, .int v4] M (hc_pi (fun z M' => -1000001 = z ∧ M = M')) := by
  refine hc_M.of hG (by decide) [some (.ref (hc_ad G 0)), some (.int v1), some (.int v2), some (.int v3), some (.int v4), none] rfl (Nat.le_of_ble_eq_true rfl) ?_
  intro p e s m args below meth c C
  refine hc_aload_n C dX7_heed_0 rfl rfl ?_
  refine hc_getR C fl_X7_26 rfl rfl dX7_heed_1 ?_
  refine hc_iload_n C dX7_heed_4 rfl rfl ?_
  refine hc_cV1i C mv_X7_141 (c_X3_hasEar C.ok) rfl rfl rfl (Nat.le_of_ble_eq_true rfl) (hc_rr_rm (by decide)) ⟨Nat.zero_le _, Nat.zero_le _⟩ dX7_heed_5 (fun r_5 M_5 h_5 => ?_)
  obtain ⟨rfl, rfl⟩ := h_5
  refine hc_if_eq C (tgt := 29) dX7_heed_8 (by decide) (fun c_8 => ?_) (fun c_8 => ?_)
  rotate_left
  · exact absurd (hb_f h0) c_8
  refine hc_ldc C kc_X7_64 dX7_heed_29 ?_
  refine hc_iret C rfl dX7_heed_31 ?_
  exact ⟨rfl, rfl⟩

set_option maxRecDepth 100000 in
set_option maxHeartbeats 4000000 in
theorem c_X7_older_b {l : Launch} {G : hc_Geo} (hG : hc_ok G) {M : hc_Mem} {v1 v2 v3 : Int32}  (h0 : ¬ (¬ v1 < 0 ∧ ¬ M 9 5 ≤ v1)) : hc_M l G yX7_older cX7_older 4 (some .int) 2 [.ref (hc_ad G 0), .int v1, .int v2, .int v3] M (hc_pi (fun z M' => -1000001 = z ∧ M = M')) := by
  refine hc_M.of hG (by decide) [some (.ref (hc_ad G 0)), some (.int v1), some (.int v2), some (.int v3)] rfl (Nat.le_of_ble_eq_true rfl) ?_
  intro p e s m args below meth c C
  refine hc_aload_n C dX7_older_0 rfl rfl ?_
  refine hc_getR C fl_X7_26 rfl rfl dX7_older_1 ?_
  refine hc_iload_n C dX7_older_4 rfl rfl ?_
  refine hc_cV1i C mv_X7_141 (c_X3_hasEar C.ok) rfl rfl rfl (Nat.le_of_ble_eq_true rfl) (hc_rr_rm (by decide)) ⟨Nat.zero_le _, Nat.zero_le _⟩ dX7_older_5 (fun r_5 M_5 h_5 => ?_)
  obtain ⟨rfl, rfl⟩ := h_5
  refine hc_if_eq C (tgt := 37) dX7_older_8 (by decide) (fun c_8 => ?_) (fun c_8 => ?_)
  rotate_left
  · exact absurd (hb_f h0) c_8
  refine hc_ldc C kc_X7_64 dX7_older_37 ?_
  refine hc_iret C rfl dX7_older_39 ?_
  exact ⟨rfl, rfl⟩

set_option maxRecDepth 100000 in
set_option maxHeartbeats 4000000 in
theorem c_X7_as_b {l : Launch} {G : hc_Geo} (hG : hc_ok G) {M : hc_Mem} {v1 v2 : Int32}  (h0 : ¬ (¬ v1 < 0 ∧ ¬ M 9 5 ≤ v1)) : hc_M l G yX7_as cX7_as 3 (some .int) 2 [.ref (hc_ad G 0), .int v1, .int v2] M (hc_pi (fun z M' => -1000001 = z ∧ M = M')) := by
  refine hc_M.of hG (by decide) [some (.ref (hc_ad G 0)), some (.int v1), some (.int v2)] rfl (Nat.le_of_ble_eq_true rfl) ?_
  intro p e s m args below meth c C
  refine hc_aload_n C dX7_as_0 rfl rfl ?_
  refine hc_getR C fl_X7_26 rfl rfl dX7_as_1 ?_
  refine hc_iload_n C dX7_as_4 rfl rfl ?_
  refine hc_cV1i C mv_X7_141 (c_X3_hasEar C.ok) rfl rfl rfl (Nat.le_of_ble_eq_true rfl) (hc_rr_rm (by decide)) ⟨Nat.zero_le _, Nat.zero_le _⟩ dX7_as_5 (fun r_5 M_5 h_5 => ?_)
  obtain ⟨rfl, rfl⟩ := h_5
  refine hc_if_eq C (tgt := 18) dX7_as_8 (by decide) (fun c_8 => ?_) (fun c_8 => ?_)
  rotate_left
  · exact absurd (hb_f h0) c_8
  refine hc_ldc C kc_X7_64 dX7_as_18 ?_
  refine hc_iret C rfl dX7_as_20 ?_
  exact ⟨rfl, rfl⟩

set_option maxRecDepth 100000 in
set_option maxHeartbeats 4000000 in
theorem c_X7_ask_b {l : Launch} {G : hc_Geo} (hG : hc_ok G) {M : hc_Mem} {v1 v2 : Int32}  (h0 : ¬ (¬ v1 < 0 ∧ ¬ M 9 5 ≤ v1)) : hc_M l G yX7_ask cX7_ask 3 (some .int) 2 [.ref (hc_ad G 0), .int v1, .int v2] M (hc_pi (fun z M' => -1000001 = z ∧ M = M')) := by
  refine hc_M.of hG (by decide) [some (.ref (hc_ad G 0)), some (.int v1), some (.int v2)] rfl (Nat.le_of_ble_eq_true rfl) ?_
  intro p e s m args below meth c C
  refine hc_aload_n C dX7_ask_0 rfl rfl ?_
  refine hc_getR C fl_X7_26 rfl rfl dX7_ask_1 ?_
  refine hc_iload_n C dX7_ask_4 rfl rfl ?_
  refine hc_cV1i C mv_X7_141 (c_X3_hasEar C.ok) rfl rfl rfl (Nat.le_of_ble_eq_true rfl) (hc_rr_rm (by decide)) ⟨Nat.zero_le _, Nat.zero_le _⟩ dX7_ask_5 (fun r_5 M_5 h_5 => ?_)
  obtain ⟨rfl, rfl⟩ := h_5
  refine hc_if_eq C (tgt := 20) dX7_ask_8 (by decide) (fun c_8 => ?_) (fun c_8 => ?_)
  rotate_left
  · exact absurd (hb_f h0) c_8
  refine hc_ldc C kc_X7_64 dX7_ask_20 ?_
  refine hc_iret C rfl dX7_ask_22 ?_
  exact ⟨rfl, rfl⟩

set_option maxRecDepth 100000 in
set_option maxHeartbeats 4000000 in
theorem c_X7_kind_b {l : Launch} {G : hc_Geo} (hG : hc_ok G) {M : hc_Mem} {v1 : Int32}  (h0 : ¬ (¬ v1 < 0 ∧ ¬ M 9 5 ≤ v1)) : hc_M l G yX7_kind cX7_kind 2 (some .int) 2 [.ref (hc_ad G 0), .int v1] M (hc_pi (fun z M' => -1000001 = z ∧ M = M')) := by
  refine hc_M.of hG (by decide) [some (.ref (hc_ad G 0)), some (.int v1)] rfl (Nat.le_of_ble_eq_true rfl) ?_
  intro p e s m args below meth c C
  refine hc_aload_n C dX7_kind_0 rfl rfl ?_
  refine hc_getR C fl_X7_26 rfl rfl dX7_kind_1 ?_
  refine hc_iload_n C dX7_kind_4 rfl rfl ?_
  refine hc_cV1i C mv_X7_141 (c_X3_hasEar C.ok) rfl rfl rfl (Nat.le_of_ble_eq_true rfl) (hc_rr_rm (by decide)) ⟨Nat.zero_le _, Nat.zero_le _⟩ dX7_kind_5 (fun r_5 M_5 h_5 => ?_)
  obtain ⟨rfl, rfl⟩ := h_5
  refine hc_if_eq C (tgt := 23) dX7_kind_8 (by decide) (fun c_8 => ?_) (fun c_8 => ?_)
  rotate_left
  · exact absurd (hb_f h0) c_8
  refine hc_ldc C kc_X7_64 dX7_kind_23 ?_
  refine hc_iret C rfl dX7_kind_25 ?_
  exact ⟨rfl, rfl⟩

set_option maxRecDepth 100000 in
set_option maxHeartbeats 4000000 in
theorem c_X7_ear_b {l : Launch} {G : hc_Geo} (hG : hc_ok G) {M : hc_Mem} {v1 v2 : Int32}  (h0 : ¬ (¬ v1 < 0 ∧ ¬ M 9 5 ≤ v1)) : hc_M l G yX7_ear cX7_ear 3 (some .int) 2 [.ref (hc_ad G 0), .int v1, .int v2] M (hc_pi (fun z M' => -1000001 = z ∧ M = M')) := by
  refine hc_M.of hG (by decide) [some (.ref (hc_ad G 0)), some (.int v1), some (.int v2)] rfl (Nat.le_of_ble_eq_true rfl) ?_
  intro p e s m args below meth c C
  refine hc_aload_n C dX7_ear_0 rfl rfl ?_
  refine hc_getR C fl_X7_26 rfl rfl dX7_ear_1 ?_
  refine hc_iload_n C dX7_ear_4 rfl rfl ?_
  refine hc_cV1i C mv_X7_141 (c_X3_hasEar C.ok) rfl rfl rfl (Nat.le_of_ble_eq_true rfl) (hc_rr_rm (by decide)) ⟨Nat.zero_le _, Nat.zero_le _⟩ dX7_ear_5 (fun r_5 M_5 h_5 => ?_)
  obtain ⟨rfl, rfl⟩ := h_5
  refine hc_if_ne C (tgt := 14) dX7_ear_8 (by decide) (fun c_8 => ?_) (fun c_8 => ?_)
  · exact absurd (hb_f h0) c_8
  refine hc_ldc C kc_X7_64 dX7_ear_11 ?_
  refine hc_iret C rfl dX7_ear_13 ?_
  exact ⟨rfl, rfl⟩

set_option maxRecDepth 100000 in
set_option maxHeartbeats 4000000 in
theorem c_X7_done_b {l : Launch} {G : hc_Geo} (hG : hc_ok G) {M : hc_Mem} {v1 : Int32}  (h0 : ¬ (¬ v1 < 0 ∧ ¬ M 9 6 ≤ v1)) : hc_M l G yX7_done cX7_done 2 (some .int) 2 [.ref (hc_ad G 0), .int v1] M (hc_pi (fun z M' => -1000001 = z ∧ M = M')) := by
  refine hc_M.of hG (by decide) [some (.ref (hc_ad G 0)), some (.int v1)] rfl (Nat.le_of_ble_eq_true rfl) ?_
  intro p e s m args below meth c C
  refine hc_aload_n C dX7_done_0 rfl rfl ?_
  refine hc_getR C fl_X7_26 rfl rfl dX7_done_1 ?_
  refine hc_iload_n C dX7_done_4 rfl rfl ?_
  refine hc_cV1i C mv_X7_202 (c_X3_hasDoing C.ok) rfl rfl rfl (Nat.le_of_ble_eq_true rfl) (hc_rr_rm (by decide)) ⟨Nat.zero_le _, Nat.zero_le _⟩ dX7_done_5 (fun r_5 M_5 h_5 => ?_)
  obtain ⟨rfl, rfl⟩ := h_5
  refine hc_if_ne C (tgt := 14) dX7_done_8 (by decide) (fun c_8 => ?_) (fun c_8 => ?_)
  · exact absurd (hb_f h0) c_8
  refine hc_ldc C kc_X7_64 dX7_done_11 ?_
  refine hc_iret C rfl dX7_done_13 ?_
  exact ⟨rfl, rfl⟩

set_option maxRecDepth 100000 in
set_option maxHeartbeats 4000000 in
theorem c_X7_latest_b {l : Launch} {G : hc_Geo} (hG : hc_ok G) {M : hc_Mem} {v1 : Int32}  (h0 : ¬ (¬ v1 < 0 ∧ ¬ M 9 6 ≤ v1)) : hc_M l G yX7_latest cX7_latest 2 (some .int) 2 [.ref (hc_ad G 0), .int v1] M (hc_pi (fun z M' => -1000001 = z ∧ M = M')) := by
  refine hc_M.of hG (by decide) [some (.ref (hc_ad G 0)), some (.int v1)] rfl (Nat.le_of_ble_eq_true rfl) ?_
  intro p e s m args below meth c C
  refine hc_aload_n C dX7_latest_0 rfl rfl ?_
  refine hc_getR C fl_X7_26 rfl rfl dX7_latest_1 ?_
  refine hc_iload_n C dX7_latest_4 rfl rfl ?_
  refine hc_cV1i C mv_X7_202 (c_X3_hasDoing C.ok) rfl rfl rfl (Nat.le_of_ble_eq_true rfl) (hc_rr_rm (by decide)) ⟨Nat.zero_le _, Nat.zero_le _⟩ dX7_latest_5 (fun r_5 M_5 h_5 => ?_)
  obtain ⟨rfl, rfl⟩ := h_5
  refine hc_if_ne C (tgt := 14) dX7_latest_8 (by decide) (fun c_8 => ?_) (fun c_8 => ?_)
  · exact absurd (hb_f h0) c_8
  refine hc_ldc C kc_X7_64 dX7_latest_11 ?_
  refine hc_iret C rfl dX7_latest_13 ?_
  exact ⟨rfl, rfl⟩

set_option maxRecDepth 100000 in
set_option maxHeartbeats 4000000 in
theorem c_X7_undo_0 {l : Launch} {G : hc_Geo} (hG : hc_ok G) {M : hc_Mem}  (h0 : M 42 3 = 0) : hc_M l G yX7_undo cX7_undo 1 (some .int) 1 [.ref (hc_ad G 0)] M (hc_pi (fun z M' => -1000002 = z ∧ M = M')) := by
  refine hc_M.of hG (by decide) [some (.ref (hc_ad G 0))] rfl (Nat.le_of_ble_eq_true rfl) ?_
  intro p e s m args below meth c C
  refine hc_aload_n C dX7_undo_0 rfl rfl ?_
  refine hc_getR C fl_X7_39 rfl rfl dX7_undo_1 ?_
  refine hc_getI C fl_X7_166 rfl rfl dX7_undo_4 ?_
  refine hc_if_ne C (tgt := 13) dX7_undo_7 (by decide) (fun c_7 => ?_) (fun c_7 => ?_)
  · exact absurd h0 c_7
  refine hc_ldc C kc_X7_127 dX7_undo_10 ?_
  refine hc_iret C rfl dX7_undo_12 ?_
  exact ⟨rfl, rfl⟩

set_option maxRecDepth 100000 in
set_option maxHeartbeats 4000000 in
theorem c_X7_fault {l : Launch} {G : hc_Geo} (hG : hc_ok G) {M : hc_Mem}  : hc_M l G yX7_fault cX7_fault 1 (some .int) 1 [.ref (hc_ad G 0)] M (hc_pi (fun z M' => M 0 7 = z ∧ M = M')) := by
  refine hc_M.of hG (by decide) [some (.ref (hc_ad G 0))] rfl (Nat.le_of_ble_eq_true rfl) ?_
  intro p e s m args below meth c C
  refine hc_aload_n C dX7_fault_0 rfl rfl ?_
  refine hc_getI C fl_X7_50 rfl rfl dX7_fault_1 ?_
  refine hc_iret C rfl dX7_fault_4 ?_
  exact ⟨rfl, rfl⟩

set_option maxRecDepth 100000 in
set_option maxHeartbeats 4000000 in
theorem c_X7_status {l : Launch} {G : hc_Geo} (hG : hc_ok G) {M : hc_Mem}  : hc_M l G yX7_status cX7_status 1 (some .int) 1 [.ref (hc_ad G 0)] M (hc_pi (fun z M' => M 0 8 = z ∧ M = M')) := by
  refine hc_M.of hG (by decide) [some (.ref (hc_ad G 0))] rfl (Nat.le_of_ble_eq_true rfl) ?_
  intro p e s m args below meth c C
  refine hc_aload_n C dX7_status_0 rfl rfl ?_
  refine hc_getI C fl_X7_54 rfl rfl dX7_status_1 ?_
  refine hc_iret C rfl dX7_status_4 ?_
  exact ⟨rfl, rfl⟩

set_option maxRecDepth 100000 in
set_option maxHeartbeats 4000000 in
theorem c_X7_image_b {l : Launch} {G : hc_Geo} (hG : hc_ok G) {M : hc_Mem} {k : Int32}  (h0 : ¬ (¬ k < 0 ∧ ¬ 1 < k)) : hc_M l G yX7_image cX7_image 2 (some .int) 2 [.ref (hc_ad G 0), .int k] M (hc_pi (fun z M' => -1000001 = z ∧ M = M')) := by
  refine hc_M.of hG (by decide) [some (.ref (hc_ad G 0)), some (.int k)] rfl (Nat.le_of_ble_eq_true rfl) ?_
  intro p e s m args below meth c C
  refine hc_iload_n C dX7_image_0 rfl rfl ?_
  refine hc_iconst C dX7_image_1 (v := 0) rfl ?_
  refine hc_iconst C dX7_image_2 (v := 1) rfl ?_
  refine hc_cS3i C ms_X7_97 (c_X7_isWithin C.ok) (Nat.le_of_ble_eq_true rfl) (hc_rr_rm (by decide)) ⟨Nat.zero_le _, Nat.zero_le _⟩ dX7_image_3 (fun r_3 M_3 h_3 => ?_)
  obtain ⟨rfl, rfl⟩ := h_3
  refine hc_if_ne C (tgt := 12) dX7_image_6 (by decide) (fun c_6 => ?_) (fun c_6 => ?_)
  · exact absurd (hb_f h0) c_6
  refine hc_ldc C kc_X7_64 dX7_image_9 ?_
  refine hc_iret C rfl dX7_image_11 ?_
  exact ⟨rfl, rfl⟩

set_option maxRecDepth 100000 in
set_option maxHeartbeats 4000000 in
theorem c_X7_image_n {l : Launch} {G : hc_Geo} (hG : hc_ok G) {M : hc_Mem} {k : Int32}  (h0 : ¬ k < 0 ∧ ¬ 1 < k) (h1 : M 9 0 = 0) : hc_M l G yX7_image cX7_image 2 (some .int) 2 [.ref (hc_ad G 0), .int k] M (hc_pi (fun z M' => -1000002 = z ∧ M = M')) := by
  refine hc_M.of hG (by decide) [some (.ref (hc_ad G 0)), some (.int k)] rfl (Nat.le_of_ble_eq_true rfl) ?_
  intro p e s m args below meth c C
  refine hc_iload_n C dX7_image_0 rfl rfl ?_
  refine hc_iconst C dX7_image_1 (v := 0) rfl ?_
  refine hc_iconst C dX7_image_2 (v := 1) rfl ?_
  refine hc_cS3i C ms_X7_97 (c_X7_isWithin C.ok) (Nat.le_of_ble_eq_true rfl) (hc_rr_rm (by decide)) ⟨Nat.zero_le _, Nat.zero_le _⟩ dX7_image_3 (fun r_3 M_3 h_3 => ?_)
  obtain ⟨rfl, rfl⟩ := h_3
  refine hc_if_ne C (tgt := 12) dX7_image_6 (by decide) (fun c_6 => ?_) (fun c_6 => ?_)
  rotate_left
  · exact absurd h0 (hb_z.mp c_6)
  refine hc_aload_n C dX7_image_12 rfl rfl ?_
  refine hc_getR C fl_X7_26 rfl rfl dX7_image_13 ?_
  refine hc_getI C fl_X7_123 rfl rfl dX7_image_16 ?_
  refine hc_if_ne C (tgt := 25) dX7_image_19 (by decide) (fun c_19 => ?_) (fun c_19 => ?_)
  · exact absurd h1 c_19
  refine hc_ldc C kc_X7_127 dX7_image_22 ?_
  refine hc_iret C rfl dX7_image_24 ?_
  exact ⟨rfl, rfl⟩

set_option maxRecDepth 100000 in
set_option maxHeartbeats 4000000 in
theorem c_X7_restore_b {l : Launch} {G : hc_Geo} (hG : hc_ok G) {M : hc_Mem} {k : Int32}  (h0 : ¬ (¬ k < 0 ∧ ¬ 1 < k)) : hc_M l G yX7_restore cX7_restore 3 (some .int) 2 [.ref (hc_ad G 0), .int k] M (hc_pi (fun z M' => -1000001 = z ∧ M = M')) := by
  refine hc_M.of hG (by decide) [some (.ref (hc_ad G 0)), some (.int k), none] rfl (Nat.le_of_ble_eq_true rfl) ?_
  intro p e s m args below meth c C
  refine hc_iload_n C dX7_restore_0 rfl rfl ?_
  refine hc_iconst C dX7_restore_1 (v := 0) rfl ?_
  refine hc_iconst C dX7_restore_2 (v := 1) rfl ?_
  refine hc_cS3i C ms_X7_97 (c_X7_isWithin C.ok) (Nat.le_of_ble_eq_true rfl) (hc_rr_rm (by decide)) ⟨Nat.zero_le _, Nat.zero_le _⟩ dX7_restore_3 (fun r_3 M_3 h_3 => ?_)
  obtain ⟨rfl, rfl⟩ := h_3
  refine hc_if_ne C (tgt := 12) dX7_restore_6 (by decide) (fun c_6 => ?_) (fun c_6 => ?_)
  · exact absurd (hb_f h0) c_6
  refine hc_ldc C kc_X7_64 dX7_restore_9 ?_
  refine hc_iret C rfl dX7_restore_11 ?_
  exact ⟨rfl, rfl⟩

set_option maxRecDepth 100000 in
set_option maxHeartbeats 4000000 in
theorem c_X7_imageAt_0 {l : Launch} {G : hc_Geo} (hG : hc_ok G) {M : hc_Mem}  : hc_M l G yX7_imageAt cX7_imageAt 2 (some (.object "HeedClock$House")) 1 [.ref (hc_ad G 0), .int 0] M (hc_pr (fun z M' => hc_ad G 20 = z ∧ M = M')) := by
  refine hc_M.of hG (by decide) [some (.ref (hc_ad G 0)), some (.int 0)] rfl (Nat.le_of_ble_eq_true rfl) ?_
  intro p e s m args below meth c C
  refine hc_iload_n C dX7_imageAt_0 rfl rfl ?_
  refine hc_if_ne C (tgt := 11) dX7_imageAt_1 (by decide) (fun c_1 => ?_) (fun c_1 => ?_)
  · exact absurd rfl c_1
  refine hc_aload_n C dX7_imageAt_4 rfl rfl ?_
  refine hc_getR C fl_X7_30 rfl rfl dX7_imageAt_5 ?_
  refine hc_goto C (tgt := 15) dX7_imageAt_8 (by decide) ?_
  refine hc_aret C rfl (Or.inl ⟨_, rfl⟩) dX7_imageAt_15 ?_
  exact ⟨rfl, rfl⟩

set_option maxRecDepth 100000 in
set_option maxHeartbeats 4000000 in
theorem c_X7_imageAt_1 {l : Launch} {G : hc_Geo} (hG : hc_ok G) {M : hc_Mem}  : hc_M l G yX7_imageAt cX7_imageAt 2 (some (.object "HeedClock$House")) 1 [.ref (hc_ad G 0), .int 1] M (hc_pr (fun z M' => hc_ad G 31 = z ∧ M = M')) := by
  refine hc_M.of hG (by decide) [some (.ref (hc_ad G 0)), some (.int 1)] rfl (Nat.le_of_ble_eq_true rfl) ?_
  intro p e s m args below meth c C
  refine hc_iload_n C dX7_imageAt_0 rfl rfl ?_
  refine hc_if_ne C (tgt := 11) dX7_imageAt_1 (by decide) (fun c_1 => ?_) (fun c_1 => ?_)
  rotate_left
  · exact absurd c_1 (by decide)
  refine hc_aload_n C dX7_imageAt_11 rfl rfl ?_
  refine hc_getR C fl_X7_33 rfl rfl dX7_imageAt_12 ?_
  refine hc_aret C rfl (Or.inl ⟨_, rfl⟩) dX7_imageAt_15 ?_
  exact ⟨rfl, rfl⟩

set_option maxRecDepth 100000 in
set_option maxHeartbeats 4000000 in
theorem c_X7_restore_n0 {l : Launch} {G : hc_Geo} (hG : hc_ok G) {M : hc_Mem}  (h1 : M 20 0 = 0) : hc_M l G yX7_restore cX7_restore 3 (some .int) 2 [.ref (hc_ad G 0), .int 0] M (hc_pi (fun z M' => -1000002 = z ∧ M = M')) := by
  refine hc_M.of hG (by decide) [some (.ref (hc_ad G 0)), some (.int 0), none] rfl (Nat.le_of_ble_eq_true rfl) ?_
  intro p e s m args below meth c C
  refine hc_iload_n C dX7_restore_0 rfl rfl ?_
  refine hc_iconst C dX7_restore_1 (v := 0) rfl ?_
  refine hc_iconst C dX7_restore_2 (v := 1) rfl ?_
  refine hc_cS3i C ms_X7_97 (c_X7_isWithin C.ok) (Nat.le_of_ble_eq_true rfl) (hc_rr_rm (by decide)) ⟨Nat.zero_le _, Nat.zero_le _⟩ dX7_restore_3 (fun r_3 M_3 h_3 => ?_)
  obtain ⟨rfl, rfl⟩ := h_3
  refine hc_if_ne C (tgt := 12) dX7_restore_6 (by decide) (fun c_6 => ?_) (fun c_6 => ?_)
  rotate_left
  · exact absurd (by decide) (hb_z.mp c_6)
  refine hc_aload_n C dX7_restore_12 rfl rfl ?_
  refine hc_iload_n C dX7_restore_13 rfl rfl ?_
  refine hc_cV1r C mv_X7_255 (c_X7_imageAt_0 C.ok) rfl rfl rfl (Nat.le_of_ble_eq_true rfl) (hc_rr_rm (by decide)) ⟨Nat.zero_le _, Nat.zero_le _⟩ dX7_restore_14 (fun r_14 M_14 h_14 => ?_)
  obtain ⟨rfl, rfl⟩ := h_14
  refine hc_astore_n2 C dX7_restore_17 rfl (by decide) rfl ?_
  refine hc_aload_n C dX7_restore_18 rfl rfl ?_
  refine hc_getI C fl_X7_123 rfl rfl dX7_restore_19 ?_
  refine hc_if_ne C (tgt := 28) dX7_restore_22 (by decide) (fun c_22 => ?_) (fun c_22 => ?_)
  · exact absurd h1 c_22
  refine hc_ldc C kc_X7_127 dX7_restore_25 ?_
  refine hc_iret C rfl dX7_restore_27 ?_
  exact ⟨rfl, rfl⟩

set_option maxRecDepth 100000 in
set_option maxHeartbeats 4000000 in
theorem c_X7_restore_n1 {l : Launch} {G : hc_Geo} (hG : hc_ok G) {M : hc_Mem}  (h1 : M 31 0 = 0) : hc_M l G yX7_restore cX7_restore 3 (some .int) 2 [.ref (hc_ad G 0), .int 1] M (hc_pi (fun z M' => -1000002 = z ∧ M = M')) := by
  refine hc_M.of hG (by decide) [some (.ref (hc_ad G 0)), some (.int 1), none] rfl (Nat.le_of_ble_eq_true rfl) ?_
  intro p e s m args below meth c C
  refine hc_iload_n C dX7_restore_0 rfl rfl ?_
  refine hc_iconst C dX7_restore_1 (v := 0) rfl ?_
  refine hc_iconst C dX7_restore_2 (v := 1) rfl ?_
  refine hc_cS3i C ms_X7_97 (c_X7_isWithin C.ok) (Nat.le_of_ble_eq_true rfl) (hc_rr_rm (by decide)) ⟨Nat.zero_le _, Nat.zero_le _⟩ dX7_restore_3 (fun r_3 M_3 h_3 => ?_)
  obtain ⟨rfl, rfl⟩ := h_3
  refine hc_if_ne C (tgt := 12) dX7_restore_6 (by decide) (fun c_6 => ?_) (fun c_6 => ?_)
  rotate_left
  · exact absurd (by decide) (hb_z.mp c_6)
  refine hc_aload_n C dX7_restore_12 rfl rfl ?_
  refine hc_iload_n C dX7_restore_13 rfl rfl ?_
  refine hc_cV1r C mv_X7_255 (c_X7_imageAt_1 C.ok) rfl rfl rfl (Nat.le_of_ble_eq_true rfl) (hc_rr_rm (by decide)) ⟨Nat.zero_le _, Nat.zero_le _⟩ dX7_restore_14 (fun r_14 M_14 h_14 => ?_)
  obtain ⟨rfl, rfl⟩ := h_14
  refine hc_astore_n2 C dX7_restore_17 rfl (by decide) rfl ?_
  refine hc_aload_n C dX7_restore_18 rfl rfl ?_
  refine hc_getI C fl_X7_123 rfl rfl dX7_restore_19 ?_
  refine hc_if_ne C (tgt := 28) dX7_restore_22 (by decide) (fun c_22 => ?_) (fun c_22 => ?_)
  · exact absurd h1 c_22
  refine hc_ldc C kc_X7_127 dX7_restore_25 ?_
  refine hc_iret C rfl dX7_restore_27 ?_
  exact ⟨rfl, rfl⟩

set_option maxRecDepth 100000 in
set_option maxHeartbeats 4000000 in
theorem c_X7_trace_n {l : Launch} {G : hc_Geo} (hG : hc_ok G) {M : hc_Mem} {i : Int32}  (h0 : ¬ (¬ i < 0 ∧ ¬ M 46 1 ≤ i)) : hc_M l G yX7_trace cX7_trace 2 (some .int) 1 [.ref (hc_ad G 0), .int i] M (hc_pi (fun z M' => -1000000 = z ∧ M = M')) := by
  refine hc_M.of hG (by decide) [some (.ref (hc_ad G 0)), some (.int i)] rfl (Nat.le_of_ble_eq_true rfl) ?_
  intro p e s m args below meth c C
  refine hc_iload_n C dX7_trace_0 rfl rfl ?_
  refine hc_if_lt C (tgt := 27) dX7_trace_1 (by decide) (fun c_1 => ?_) (fun c_1 => ?_)
  · refine hc_ldc C kc_X7_108 dX7_trace_27 ?_
    refine hc_iret C rfl dX7_trace_29 ?_
    exact ⟨rfl, rfl⟩
  · refine hc_iload_n C dX7_trace_4 rfl rfl ?_
    refine hc_aload_n C dX7_trace_5 rfl rfl ?_
    refine hc_getR C fl_X7_46 rfl rfl dX7_trace_6 ?_
    refine hc_getI C fl_X7_277 rfl rfl dX7_trace_9 ?_
    refine hc_icmp_ge C (tgt := 27) dX7_trace_12 (by decide) (fun c_12 => ?_) (fun c_12 => ?_)
    rotate_left
    · exact absurd ⟨c_1, c_12⟩ h0
    refine hc_ldc C kc_X7_108 dX7_trace_27 ?_
    refine hc_iret C rfl dX7_trace_29 ?_
    exact ⟨rfl, rfl⟩

set_option maxRecDepth 100000 in
set_option maxHeartbeats 4000000 in
theorem c_X7_trace_o {l : Launch} {G : hc_Geo} (hG : hc_ok G) {M : hc_Mem} {i : Nat}  (hi : i < 16) (h0 : ¬ M 46 1 ≤ nI i) : hc_M l G yX7_trace cX7_trace 2 (some .int) 1 [.ref (hc_ad G 0), .int (nI i)] M (hc_pi (fun z M' => M 47 i = z ∧ M = M')) := by
  refine hc_M.of hG (by decide) [some (.ref (hc_ad G 0)), some (.int (nI i))] rfl (Nat.le_of_ble_eq_true rfl) ?_
  intro p e s m args below meth c C
  refine hc_iload_n C dX7_trace_0 rfl rfl ?_
  refine hc_if_lt C (tgt := 27) dX7_trace_1 (by decide) (fun c_1 => ?_) (fun c_1 => ?_)
  · exact absurd c_1 (nI_pos (by omega))
  refine hc_iload_n C dX7_trace_4 rfl rfl ?_
  refine hc_aload_n C dX7_trace_5 rfl rfl ?_
  refine hc_getR C fl_X7_46 rfl rfl dX7_trace_6 ?_
  refine hc_getI C fl_X7_277 rfl rfl dX7_trace_9 ?_
  refine hc_icmp_ge C (tgt := 27) dX7_trace_12 (by decide) (fun c_12 => ?_) (fun c_12 => ?_)
  · exact absurd c_12 h0
  refine hc_aload_n C dX7_trace_15 rfl rfl ?_
  refine hc_getR C fl_X7_46 rfl rfl dX7_trace_16 ?_
  refine hc_getR C fl_X7_280 rfl rfl dX7_trace_19 ?_
  refine hc_iload_n C dX7_trace_22 rfl rfl ?_
  refine hc_ialdN C (j := i) rfl rfl (by omega) dX7_trace_23 ?_
  refine hc_goto C (tgt := 29) dX7_trace_24 (by decide) ?_
  refine hc_iret C rfl dX7_trace_29 ?_
  exact ⟨rfl, rfl⟩

def hc_bc1 (x : Int32) : Int32 := x - ((x.toUInt32 >>> ((1 : Int32).toUInt32 &&& Int32.toUInt32 31)).toInt32 &&& 1431655765)
def hc_bc2 (x : Int32) : Int32 := (x &&& 858993459) + ((x.toUInt32 >>> ((2 : Int32).toUInt32 &&& Int32.toUInt32 31)).toInt32 &&& 858993459)
def hc_bc3 (x : Int32) : Int32 := (x + (x.toUInt32 >>> ((4 : Int32).toUInt32 &&& Int32.toUInt32 31)).toInt32) &&& 252645135
def hc_bc4 (x : Int32) : Int32 := x + (x.toUInt32 >>> ((8 : Int32).toUInt32 &&& Int32.toUInt32 31)).toInt32
def hc_bc5 (x : Int32) : Int32 := x + (x.toUInt32 >>> ((16 : Int32).toUInt32 &&& Int32.toUInt32 31)).toInt32
/-- how many bits of an int are set, as the JDK counts them -/
def hc_bc (x : Int32) : Int32 := hc_bc5 (hc_bc4 (hc_bc3 (hc_bc2 (hc_bc1 x)))) &&& 63

set_option maxRecDepth 100000 in
set_option maxHeartbeats 4000000 in
theorem c_J6_bitCount_0f7a4 {l : Launch} {G : hc_Geo} (hG : hc_ok G) {M : hc_Mem} {x : Int32}  : hc_M l G yJ6_bitCount_0f7a4 cJ6_bitCount_0f7a4 1 (some .int) 1 [.int x] M (hc_pi (fun z M' => hc_bc x = z ∧ M = M')) := by
  refine hc_M.of hG (by decide) [some (.int x)] rfl (Nat.le_of_ble_eq_true rfl) ?_
  intro p e s m args below meth c C
  refine hc_iload_n C dJ6_bitCount_0f7a4_0 rfl rfl ?_
  refine hc_iload_n C dJ6_bitCount_0f7a4_1 rfl rfl ?_
  refine hc_iconst C dJ6_bitCount_0f7a4_2 (v := 1) rfl ?_
  refine hc_iushr C dJ6_bitCount_0f7a4_3 ?_
  refine hc_ldcw C kc_J6_265 dJ6_bitCount_0f7a4_4 ?_
  refine hc_iand C dJ6_bitCount_0f7a4_7 ?_
  refine hc_isub C dJ6_bitCount_0f7a4_8 ?_
  refine hc_istore_n0 C dJ6_bitCount_0f7a4_9 rfl (by decide) ?_
  refine hc_iload_n C dJ6_bitCount_0f7a4_10 rfl rfl ?_
  refine hc_ldcw C kc_J6_266 dJ6_bitCount_0f7a4_11 ?_
  refine hc_iand C dJ6_bitCount_0f7a4_14 ?_
  refine hc_iload_n C dJ6_bitCount_0f7a4_15 rfl rfl ?_
  refine hc_iconst C dJ6_bitCount_0f7a4_16 (v := 2) rfl ?_
  refine hc_iushr C dJ6_bitCount_0f7a4_17 ?_
  refine hc_ldcw C kc_J6_266 dJ6_bitCount_0f7a4_18 ?_
  refine hc_iand C dJ6_bitCount_0f7a4_21 ?_
  refine hc_iadd C dJ6_bitCount_0f7a4_22 ?_
  refine hc_istore_n0 C dJ6_bitCount_0f7a4_23 rfl (by decide) ?_
  refine hc_iload_n C dJ6_bitCount_0f7a4_24 rfl rfl ?_
  refine hc_iload_n C dJ6_bitCount_0f7a4_25 rfl rfl ?_
  refine hc_iconst C dJ6_bitCount_0f7a4_26 (v := 4) rfl ?_
  refine hc_iushr C dJ6_bitCount_0f7a4_27 ?_
  refine hc_iadd C dJ6_bitCount_0f7a4_28 ?_
  refine hc_ldcw C kc_J6_267 dJ6_bitCount_0f7a4_29 ?_
  refine hc_iand C dJ6_bitCount_0f7a4_32 ?_
  refine hc_istore_n0 C dJ6_bitCount_0f7a4_33 rfl (by decide) ?_
  refine hc_iload_n C dJ6_bitCount_0f7a4_34 rfl rfl ?_
  refine hc_iload_n C dJ6_bitCount_0f7a4_35 rfl rfl ?_
  refine hc_bipush C dJ6_bitCount_0f7a4_36 (v := 8) rfl ?_
  refine hc_iushr C dJ6_bitCount_0f7a4_38 ?_
  refine hc_iadd C dJ6_bitCount_0f7a4_39 ?_
  refine hc_istore_n0 C dJ6_bitCount_0f7a4_40 rfl (by decide) ?_
  refine hc_iload_n C dJ6_bitCount_0f7a4_41 rfl rfl ?_
  refine hc_iload_n C dJ6_bitCount_0f7a4_42 rfl rfl ?_
  refine hc_bipush C dJ6_bitCount_0f7a4_43 (v := 16) rfl ?_
  refine hc_iushr C dJ6_bitCount_0f7a4_45 ?_
  refine hc_iadd C dJ6_bitCount_0f7a4_46 ?_
  refine hc_istore_n0 C dJ6_bitCount_0f7a4_47 rfl (by decide) ?_
  refine hc_iload_n C dJ6_bitCount_0f7a4_48 rfl rfl ?_
  refine hc_bipush C dJ6_bitCount_0f7a4_49 (v := 63) rfl ?_
  refine hc_iand C dJ6_bitCount_0f7a4_51 ?_
  refine hc_iret C rfl dJ6_bitCount_0f7a4_52 ?_
  exact ⟨rfl, rfl⟩

def hc_pres (M : hc_Mem) : Nat → Nat
  | 0 => 0
  | j + 1 => hc_pres M j + (if M 2 j = -1 then 0 else 1)
def hc_icr (M : hc_Mem) : Nat → Int32
  | 0 => 0
  | e + 1 => if M 12 e = 0 then hc_icr M e ||| ((1 : Int32) <<< (nI e &&& 31)) else hc_icr M e

set_option maxRecDepth 100000 in
set_option maxHeartbeats 4000000 in
theorem lp_present {G : hc_Geo} {p : Program} {l : Launch} {e : Env} {d : Nat} {s : State} {m : MethodId} {args : Array Value} {below : List Frame} {meth : Method} {c : Code} {Q : State → Prop} (C : hc_Cx G hc_lay cX5_present 3 (some .int) yX5_present.cls p s m args meth c) {M : hc_Mem} (hd : 1 < d) 
    (kk : hc_W G hc_lay p l e (hc_rm d) s m args below meth c 3 0 0 Q 27 [some (.ref (hc_ad G 1)), some (.int (nI (hc_pres M 8))), some (.int (nI 8))] [] M) :
    ∀ (t : Nat) (i : Nat), i + t = 8 → hc_W G hc_lay p l e (hc_rm d) s m args below meth c 3 0 0 Q 4 [some (.ref (hc_ad G 1)), some (.int (nI (hc_pres M i))), some (.int (nI i))] [] M := by
  intro t
  induction t with
  | zero =>
    intro i hi
    refine hc_iload_n C dX5_present_4 rfl rfl ?_
    refine hc_bipush C dX5_present_5 (v := 8) rfl ?_
    refine hc_icmp_ge C (tgt := 27) dX5_present_7 (by decide) (fun c_7 => ?_) (fun c_7 => ?_)
    rotate_left
    · exact absurd (show (8 : Int32) ≤ nI i from by rw [show i = 8 by omega]; decide) c_7
    rw [show i = 8 by omega]
    exact kk
  | succ t ih =>
    intro i hi
    refine hc_iload_n C dX5_present_4 rfl rfl ?_
    refine hc_bipush C dX5_present_5 (v := 8) rfl ?_
    refine hc_icmp_ge C (tgt := 27) dX5_present_7 (by decide) (fun c_7 => ?_) (fun c_7 => ?_)
    · exact absurd (show nI 8 ≤ nI i from c_7) (nI_ge (show i < 8 by omega) (by omega))
    refine hc_aload_n C dX5_present_10 rfl rfl ?_
    refine hc_iload_n C dX5_present_11 rfl rfl ?_
    refine hc_cV1i C mv_X5_27 (c_X5_isMissing C.ok (show i < 8 by omega)) rfl rfl rfl (Nat.le_of_ble_eq_true rfl) (hc_rr_rm hd) ⟨Nat.zero_le _, Nat.zero_le _⟩ dX5_present_12 (fun r_12 M_12 h_12 => ?_)
    obtain ⟨rfl, rfl⟩ := h_12
    refine hc_if_ne C (tgt := 21) dX5_present_15 (by decide) (fun c_15 => ?_) (fun c_15 => ?_)
    · refine hc_iinc2 C (v := nI (i + 1)) dX5_present_21 (by decide) rfl rfl (nI_1 i) ?_
      refine hc_goto C (tgt := 4) dX5_present_24 (by decide) ?_
      have e1 := ih (i + 1) (by omega)
      first | (rw [hc_pres, if_pos (hb_nz.mp c_15)] at e1; exact e1) | (rw [hc_pres, if_neg (hb_z.mp (c_15))] at e1; exact e1)
    · refine hc_iinc1 C (v := nI (hc_pres M i + 1)) dX5_present_18 (by decide) rfl rfl (nI_1 _) ?_
      refine hc_iinc2 C (v := nI (i + 1)) dX5_present_21 (by decide) rfl rfl (nI_1 i) ?_
      refine hc_goto C (tgt := 4) dX5_present_24 (by decide) ?_
      have e1 := ih (i + 1) (by omega)
      first | (rw [hc_pres, if_pos (hb_nz.mp c_15)] at e1; exact e1) | (rw [hc_pres, if_neg (hb_z.mp (c_15))] at e1; exact e1)

set_option maxRecDepth 100000 in
set_option maxHeartbeats 4000000 in
theorem c_X5_present {l : Launch} {G : hc_Geo} (hG : hc_ok G) {M : hc_Mem}  : hc_M l G yX5_present cX5_present 3 (some .int) 2 [.ref (hc_ad G 1)] M (hc_pi (fun z M' => nI (hc_pres M 8) = z ∧ M = M')) := by
  refine hc_M.of hG (by decide) [some (.ref (hc_ad G 1)), none, none] rfl (Nat.le_of_ble_eq_true rfl) ?_
  intro p e s m args below meth c C
  refine hc_iconst C dX5_present_0 (v := 0) rfl ?_
  refine hc_istore_n1 C dX5_present_1 rfl (by decide) rfl ?_
  refine hc_iconst C dX5_present_2 (v := 0) rfl ?_
  refine hc_istore_n2 C dX5_present_3 rfl (by decide) rfl ?_
  refine lp_present C (by decide) ?_ 8 0 rfl
  refine hc_iload_n C dX5_present_27 rfl rfl ?_
  refine hc_iret C rfl dX5_present_28 ?_
  exact ⟨rfl, rfl⟩

set_option maxRecDepth 100000 in
set_option maxHeartbeats 4000000 in
theorem c_X3_isInClockRoom {l : Launch} {G : hc_Geo} (hG : hc_ok G) {M : hc_Mem} {j : Nat}  (hj : j < 6) : hc_M l G yX3_isInClockRoom cX3_isInClockRoom 2 (some .boolean) 1 [.ref (hc_ad G 9), .int (nI j)] M (hc_pi (fun z M' => hb (M 12 j = 0) = z ∧ M = M')) := by
  refine hc_M.of hG (by decide) [some (.ref (hc_ad G 9)), some (.int (nI j))] rfl (Nat.le_of_ble_eq_true rfl) ?_
  intro p e s m args below meth c C
  refine hc_aload_n C dX3_isInClockRoom_0 rfl rfl ?_
  refine hc_getR C fl_X3_39 rfl rfl dX3_isInClockRoom_1 ?_
  refine hc_iload_n C dX3_isInClockRoom_4 rfl rfl ?_
  refine hc_ialdN C (j := j) rfl rfl (by omega) dX3_isInClockRoom_5 ?_
  refine hc_if_ne C (tgt := 13) dX3_isInClockRoom_6 (by decide) (fun c_6 => ?_) (fun c_6 => ?_)
  · refine hc_iconst C dX3_isInClockRoom_13 (v := 0) rfl ?_
    refine hc_zret C rfl rfl dX3_isInClockRoom_14 ?_
    refine ⟨?_, rfl⟩
    first | exact hb_t (by simp_all) | exact hb_f (by simp_all)
  · refine hc_iconst C dX3_isInClockRoom_9 (v := 1) rfl ?_
    refine hc_goto C (tgt := 14) dX3_isInClockRoom_10 (by decide) ?_
    refine hc_zret C rfl rfl dX3_isInClockRoom_14 ?_
    refine ⟨?_, rfl⟩
    first | exact hb_t (by simp_all) | exact hb_f (by simp_all)

set_option maxRecDepth 100000 in
set_option maxHeartbeats 4000000 in
theorem lp_inClockRoom {G : hc_Geo} {p : Program} {l : Launch} {e : Env} {d : Nat} {s : State} {m : MethodId} {args : Array Value} {below : List Frame} {meth : Method} {c : Code} {Q : State → Prop} (C : hc_Cx G hc_lay cX3_inClockRoom 3 (some .int) yX3_inClockRoom.cls p s m args meth c) {M : hc_Mem} {E : Nat} (hd : 1 < d) (hE : M 9 5 = nI E) (hE6 : E ≤ 6) 
    (kk : hc_W G hc_lay p l e (hc_rm d) s m args below meth c 3 0 0 Q 32 [some (.ref (hc_ad G 9)), some (.int (hc_icr M E)), some (.int (nI E))] [] M) :
    ∀ (t : Nat) (i : Nat), i + t = E → hc_W G hc_lay p l e (hc_rm d) s m args below meth c 3 0 0 Q 4 [some (.ref (hc_ad G 9)), some (.int (hc_icr M i)), some (.int (nI i))] [] M := by
  intro t
  induction t with
  | zero =>
    intro i hi
    refine hc_iload_n C dX3_inClockRoom_4 rfl rfl ?_
    refine hc_aload_n C dX3_inClockRoom_5 rfl rfl ?_
    refine hc_getI C fl_X3_26 rfl rfl dX3_inClockRoom_6 ?_
    refine hc_icmp_ge C (tgt := 32) dX3_inClockRoom_9 (by decide) (fun c_9 => ?_) (fun c_9 => ?_)
    rotate_left
    · exact absurd (by rw [hE]; exact nI_le (show E ≤ i by omega) (by omega)) c_9
    rw [show i = E by omega]
    exact kk
  | succ t ih =>
    intro i hi
    refine hc_iload_n C dX3_inClockRoom_4 rfl rfl ?_
    refine hc_aload_n C dX3_inClockRoom_5 rfl rfl ?_
    refine hc_getI C fl_X3_26 rfl rfl dX3_inClockRoom_6 ?_
    refine hc_icmp_ge C (tgt := 32) dX3_inClockRoom_9 (by decide) (fun c_9 => ?_) (fun c_9 => ?_)
    · exact absurd (hE ▸ c_9) (nI_ge (show i < E by omega) (by omega))
    refine hc_aload_n C dX3_inClockRoom_12 rfl rfl ?_
    refine hc_iload_n C dX3_inClockRoom_13 rfl rfl ?_
    refine hc_cV1i C mv_X3_96 (c_X3_isInClockRoom C.ok (show i < 6 by omega)) rfl rfl rfl (Nat.le_of_ble_eq_true rfl) (hc_rr_rm hd) ⟨Nat.zero_le _, Nat.zero_le _⟩ dX3_inClockRoom_14 (fun r_14 M_14 h_14 => ?_)
    obtain ⟨rfl, rfl⟩ := h_14
    refine hc_if_eq C (tgt := 26) dX3_inClockRoom_17 (by decide) (fun c_17 => ?_) (fun c_17 => ?_)
    · refine hc_iinc2 C (v := nI (i + 1)) dX3_inClockRoom_26 (by decide) rfl rfl (nI_1 i) ?_
      refine hc_goto C (tgt := 4) dX3_inClockRoom_29 (by decide) ?_
      have e1 := ih (i + 1) (by omega)
      first | (rw [hc_icr, if_neg (hb_z.mp c_17)] at e1; exact e1) | (rw [hc_icr, if_pos (hb_nz.mp c_17)] at e1; exact e1)
    · refine hc_iload_n C dX3_inClockRoom_20 rfl rfl ?_
      refine hc_iconst C dX3_inClockRoom_21 (v := 1) rfl ?_
      refine hc_iload_n C dX3_inClockRoom_22 rfl rfl ?_
      refine hc_ishl C dX3_inClockRoom_23 ?_
      refine hc_ior C dX3_inClockRoom_24 ?_
      refine hc_istore_n1 C dX3_inClockRoom_25 rfl (by decide) rfl ?_
      refine hc_iinc2 C (v := nI (i + 1)) dX3_inClockRoom_26 (by decide) rfl rfl (nI_1 i) ?_
      refine hc_goto C (tgt := 4) dX3_inClockRoom_29 (by decide) ?_
      have e1 := ih (i + 1) (by omega)
      first | (rw [hc_icr, if_neg (hb_z.mp c_17)] at e1; exact e1) | (rw [hc_icr, if_pos (hb_nz.mp c_17)] at e1; exact e1)

set_option maxRecDepth 100000 in
set_option maxHeartbeats 4000000 in
theorem c_X3_inClockRoom {l : Launch} {G : hc_Geo} (hG : hc_ok G) {M : hc_Mem} {E : Nat}  (hE : M 9 5 = nI E) (hE6 : E ≤ 6) : hc_M l G yX3_inClockRoom cX3_inClockRoom 3 (some .int) 2 [.ref (hc_ad G 9)] M (hc_pi (fun z M' => hc_icr M E = z ∧ M = M')) := by
  refine hc_M.of hG (by decide) [some (.ref (hc_ad G 9)), none, none] rfl (Nat.le_of_ble_eq_true rfl) ?_
  intro p e s m args below meth c C
  refine hc_iconst C dX3_inClockRoom_0 (v := 0) rfl ?_
  refine hc_istore_n1 C dX3_inClockRoom_1 rfl (by decide) rfl ?_
  refine hc_iconst C dX3_inClockRoom_2 (v := 0) rfl ?_
  refine hc_istore_n2 C dX3_inClockRoom_3 rfl (by decide) rfl ?_
  refine lp_inClockRoom C (by decide) hE hE6 ?_ E 0 (by omega)
  refine hc_iload_n C dX3_inClockRoom_32 rfl rfl ?_
  refine hc_iret C rfl dX3_inClockRoom_33 ?_
  exact ⟨rfl, rfl⟩

set_option maxRecDepth 100000 in
set_option maxHeartbeats 4000000 in
theorem c_X7_count_0 {l : Launch} {G : hc_Geo} (hG : hc_ok G) {M : hc_Mem}  : hc_M l G yX7_count cX7_count 2 (some .int) 3 [.ref (hc_ad G 0), .int 0] M (hc_pi (fun z M' => nI (hc_pres M 8) = z ∧ M = M')) := by
  refine hc_M.of hG (by decide) [some (.ref (hc_ad G 0)), some (.int 0)] rfl (Nat.le_of_ble_eq_true rfl) ?_
  intro p e s m args below meth c C
  refine hc_iload_n C dX7_count_0 rfl rfl ?_
  refine hc_tableIn C (off := 47) (tgt := 48) dX7_count_1 (by decide) (by decide) rfl (by decide) ?_
  refine hc_aload_n C dX7_count_48 rfl rfl ?_
  refine hc_getR C fl_X7_10 rfl rfl dX7_count_49 ?_
  refine hc_cV0i C mv_X7_283 (c_X5_present C.ok) rfl rfl rfl (Nat.le_of_ble_eq_true rfl) (hc_rr_rm (by decide)) ⟨Nat.zero_le _, Nat.zero_le _⟩ dX7_count_52 (fun r_52 M_52 h_52 => ?_)
  obtain ⟨rfl, rfl⟩ := h_52
  refine hc_iret C rfl dX7_count_55 ?_
  exact ⟨rfl, rfl⟩

set_option maxRecDepth 100000 in
set_option maxHeartbeats 4000000 in
theorem c_X7_count_1 {l : Launch} {G : hc_Geo} (hG : hc_ok G) {M : hc_Mem}  : hc_M l G yX7_count cX7_count 2 (some .int) 3 [.ref (hc_ad G 0), .int 1] M (hc_pi (fun z M' => M 9 5 = z ∧ M = M')) := by
  refine hc_M.of hG (by decide) [some (.ref (hc_ad G 0)), some (.int 1)] rfl (Nat.le_of_ble_eq_true rfl) ?_
  intro p e s m args below meth c C
  refine hc_iload_n C dX7_count_0 rfl rfl ?_
  refine hc_tableIn C (off := 55) (tgt := 56) dX7_count_1 (by decide) (by decide) rfl (by decide) ?_
  refine hc_aload_n C dX7_count_56 rfl rfl ?_
  refine hc_getR C fl_X7_26 rfl rfl dX7_count_57 ?_
  refine hc_getI C fl_X7_120 rfl rfl dX7_count_60 ?_
  refine hc_iret C rfl dX7_count_63 ?_
  exact ⟨rfl, rfl⟩

set_option maxRecDepth 100000 in
set_option maxHeartbeats 4000000 in
theorem c_X7_count_2 {l : Launch} {G : hc_Geo} (hG : hc_ok G) {M : hc_Mem}  : hc_M l G yX7_count cX7_count 2 (some .int) 3 [.ref (hc_ad G 0), .int 2] M (hc_pi (fun z M' => M 9 6 = z ∧ M = M')) := by
  refine hc_M.of hG (by decide) [some (.ref (hc_ad G 0)), some (.int 2)] rfl (Nat.le_of_ble_eq_true rfl) ?_
  intro p e s m args below meth c C
  refine hc_iload_n C dX7_count_0 rfl rfl ?_
  refine hc_tableIn C (off := 63) (tgt := 64) dX7_count_1 (by decide) (by decide) rfl (by decide) ?_
  refine hc_aload_n C dX7_count_64 rfl rfl ?_
  refine hc_getR C fl_X7_26 rfl rfl dX7_count_65 ?_
  refine hc_getI C fl_X7_286 rfl rfl dX7_count_68 ?_
  refine hc_iret C rfl dX7_count_71 ?_
  exact ⟨rfl, rfl⟩

set_option maxRecDepth 100000 in
set_option maxHeartbeats 4000000 in
theorem c_X7_count_3 {l : Launch} {G : hc_Geo} (hG : hc_ok G) {M : hc_Mem}  : hc_M l G yX7_count cX7_count 2 (some .int) 3 [.ref (hc_ad G 0), .int 3] M (hc_pi (fun z M' => M 9 2 = z ∧ M = M')) := by
  refine hc_M.of hG (by decide) [some (.ref (hc_ad G 0)), some (.int 3)] rfl (Nat.le_of_ble_eq_true rfl) ?_
  intro p e s m args below meth c C
  refine hc_iload_n C dX7_count_0 rfl rfl ?_
  refine hc_tableIn C (off := 71) (tgt := 72) dX7_count_1 (by decide) (by decide) rfl (by decide) ?_
  refine hc_aload_n C dX7_count_72 rfl rfl ?_
  refine hc_getR C fl_X7_26 rfl rfl dX7_count_73 ?_
  refine hc_getI C fl_X7_128 rfl rfl dX7_count_76 ?_
  refine hc_iret C rfl dX7_count_79 ?_
  exact ⟨rfl, rfl⟩

set_option maxRecDepth 100000 in
set_option maxHeartbeats 4000000 in
theorem c_X7_count_4 {l : Launch} {G : hc_Geo} (hG : hc_ok G) {M : hc_Mem}  : hc_M l G yX7_count cX7_count 2 (some .int) 3 [.ref (hc_ad G 0), .int 4] M (hc_pi (fun z M' => hc_bc (M 9 4) = z ∧ M = M')) := by
  refine hc_M.of hG (by decide) [some (.ref (hc_ad G 0)), some (.int 4)] rfl (Nat.le_of_ble_eq_true rfl) ?_
  intro p e s m args below meth c C
  refine hc_iload_n C dX7_count_0 rfl rfl ?_
  refine hc_tableIn C (off := 79) (tgt := 80) dX7_count_1 (by decide) (by decide) rfl (by decide) ?_
  refine hc_aload_n C dX7_count_80 rfl rfl ?_
  refine hc_getR C fl_X7_26 rfl rfl dX7_count_81 ?_
  refine hc_getI C fl_X7_155 rfl rfl dX7_count_84 ?_
  refine hc_cS1i C ms_X7_158 (c_J6_bitCount_0f7a4 C.ok) (Nat.le_of_ble_eq_true rfl) (hc_rr_rm (by decide)) ⟨Nat.zero_le _, Nat.zero_le _⟩ dX7_count_87 (fun r_87 M_87 h_87 => ?_)
  obtain ⟨rfl, rfl⟩ := h_87
  refine hc_iret C rfl dX7_count_90 ?_
  exact ⟨rfl, rfl⟩

set_option maxRecDepth 100000 in
set_option maxHeartbeats 4000000 in
theorem c_X7_count_5 {l : Launch} {G : hc_Geo} (hG : hc_ok G) {M : hc_Mem} {E : Nat}  (hE : M 9 5 = nI E) (hE6 : E ≤ 6) : hc_M l G yX7_count cX7_count 2 (some .int) 3 [.ref (hc_ad G 0), .int 5] M (hc_pi (fun z M' => hc_bc (hc_icr M E) = z ∧ M = M')) := by
  refine hc_M.of hG (by decide) [some (.ref (hc_ad G 0)), some (.int 5)] rfl (Nat.le_of_ble_eq_true rfl) ?_
  intro p e s m args below meth c C
  refine hc_iload_n C dX7_count_0 rfl rfl ?_
  refine hc_tableIn C (off := 90) (tgt := 91) dX7_count_1 (by decide) (by decide) rfl (by decide) ?_
  refine hc_aload_n C dX7_count_91 rfl rfl ?_
  refine hc_getR C fl_X7_26 rfl rfl dX7_count_92 ?_
  refine hc_cV0i C mv_X7_289 (c_X3_inClockRoom C.ok hE hE6) rfl rfl rfl (Nat.le_of_ble_eq_true rfl) (hc_rr_rm (by decide)) ⟨Nat.zero_le _, Nat.zero_le _⟩ dX7_count_95 (fun r_95 M_95 h_95 => ?_)
  obtain ⟨rfl, rfl⟩ := h_95
  refine hc_cS1i C ms_X7_158 (c_J6_bitCount_0f7a4 C.ok) (Nat.le_of_ble_eq_true rfl) (hc_rr_rm (by decide)) ⟨Nat.zero_le _, Nat.zero_le _⟩ dX7_count_98 (fun r_98 M_98 h_98 => ?_)
  obtain ⟨rfl, rfl⟩ := h_98
  refine hc_iret C rfl dX7_count_101 ?_
  exact ⟨rfl, rfl⟩

set_option maxRecDepth 100000 in
set_option maxHeartbeats 4000000 in
theorem c_X7_count_6 {l : Launch} {G : hc_Geo} (hG : hc_ok G) {M : hc_Mem}  : hc_M l G yX7_count cX7_count 2 (some .int) 3 [.ref (hc_ad G 0), .int 6] M (hc_pi (fun z M' => M 42 3 = z ∧ M = M')) := by
  refine hc_M.of hG (by decide) [some (.ref (hc_ad G 0)), some (.int 6)] rfl (Nat.le_of_ble_eq_true rfl) ?_
  intro p e s m args below meth c C
  refine hc_iload_n C dX7_count_0 rfl rfl ?_
  refine hc_tableIn C (off := 101) (tgt := 102) dX7_count_1 (by decide) (by decide) rfl (by decide) ?_
  refine hc_aload_n C dX7_count_102 rfl rfl ?_
  refine hc_getR C fl_X7_39 rfl rfl dX7_count_103 ?_
  refine hc_getI C fl_X7_166 rfl rfl dX7_count_106 ?_
  refine hc_iret C rfl dX7_count_109 ?_
  exact ⟨rfl, rfl⟩

set_option maxRecDepth 100000 in
set_option maxHeartbeats 4000000 in
theorem c_X7_count_7 {l : Launch} {G : hc_Geo} (hG : hc_ok G) {M : hc_Mem}  : hc_M l G yX7_count cX7_count 2 (some .int) 3 [.ref (hc_ad G 0), .int 7] M (hc_pi (fun z M' => M 5 1 = z ∧ M = M')) := by
  refine hc_M.of hG (by decide) [some (.ref (hc_ad G 0)), some (.int 7)] rfl (Nat.le_of_ble_eq_true rfl) ?_
  intro p e s m args below meth c C
  refine hc_iload_n C dX7_count_0 rfl rfl ?_
  refine hc_tableIn C (off := 109) (tgt := 110) dX7_count_1 (by decide) (by decide) rfl (by decide) ?_
  refine hc_aload_n C dX7_count_110 rfl rfl ?_
  refine hc_getR C fl_X7_19 rfl rfl dX7_count_111 ?_
  refine hc_getI C fl_X7_292 rfl rfl dX7_count_114 ?_
  refine hc_iret C rfl dX7_count_117 ?_
  exact ⟨rfl, rfl⟩

set_option maxRecDepth 100000 in
set_option maxHeartbeats 4000000 in
theorem c_X7_count_d {l : Launch} {G : hc_Geo} (hG : hc_ok G) {M : hc_Mem} {k : Int32}  (h0 : k.toInt < 0 ∨ 7 < k.toInt) : hc_M l G yX7_count cX7_count 2 (some .int) 3 [.ref (hc_ad G 0), .int k] M (hc_pi (fun z M' => -1000001 = z ∧ M = M')) := by
  refine hc_M.of hG (by decide) [some (.ref (hc_ad G 0)), some (.int k)] rfl (Nat.le_of_ble_eq_true rfl) ?_
  intro p e s m args below meth c C
  refine hc_iload_n C dX7_count_0 rfl rfl ?_
  refine hc_tableOut C (tgt := 118) dX7_count_1 h0 (by decide) ?_
  refine hc_ldc C kc_X7_64 dX7_count_118 ?_
  refine hc_iret C rfl dX7_count_120 ?_
  exact ⟨rfl, rfl⟩

set_option maxRecDepth 100000 in
set_option maxHeartbeats 4000000 in
theorem c_X6_append_f {l : Launch} {G : hc_Geo} (hG : hc_ok G) {M : hc_Mem} {v : Int32}  (h0 : M 5 1 = 120) : hc_M l G yX6_append cX6_append 2 (some .int) 1 [.ref (hc_ad G 5), .int v] M (hc_pi (fun z M' => -1000003 = z ∧ M = M')) := by
  refine hc_M.of hG (by decide) [some (.ref (hc_ad G 5)), some (.int v)] rfl (Nat.le_of_ble_eq_true rfl) ?_
  intro p e s m args below meth c C
  refine hc_aload_n C dX6_append_0 rfl rfl ?_
  refine hc_getI C fl_X6_17 rfl rfl dX6_append_1 ?_
  refine hc_bipush C dX6_append_4 (v := 120) rfl ?_
  refine hc_icmp_lt C (tgt := 12) dX6_append_6 (by decide) (fun c_6 => ?_) (fun c_6 => ?_)
  · rw [h0] at c_6
    exact absurd c_6 (by decide)
  refine hc_ldc C kc_X6_42 dX6_append_9 ?_
  refine hc_iret C rfl dX6_append_11 ?_
  exact ⟨rfl, rfl⟩

set_option maxRecDepth 100000 in
set_option maxHeartbeats 4000000 in
theorem c_X6_append_o {l : Launch} {G : hc_Geo} (hG : hc_ok G) {M : hc_Mem} {v : Int32} {n : Nat}  (h0 : M 5 1 = nI n) (hn : n < 120) : hc_M l G yX6_append cX6_append 2 (some .int) 1 [.ref (hc_ad G 5), .int v] M (hc_pi (fun z M' => nI (n + 1) = z ∧ hc_ms (hc_ms M 6 n v) 5 1 (nI (n + 1)) = M')) := by
  refine hc_M.of hG (by decide) [some (.ref (hc_ad G 5)), some (.int v)] rfl (Nat.le_of_ble_eq_true rfl) ?_
  intro p e s m args below meth c C
  refine hc_aload_n C dX6_append_0 rfl rfl ?_
  refine hc_getI C fl_X6_17 rfl rfl dX6_append_1 ?_
  refine hc_bipush C dX6_append_4 (v := 120) rfl ?_
  refine hc_icmp_lt C (tgt := 12) dX6_append_6 (by decide) (fun c_6 => ?_) (fun c_6 => ?_)
  rotate_left
  · rw [h0] at c_6
    exact absurd (show nI n < nI 120 from nI_lt hn (by omega)) c_6
  refine hc_aload_n C dX6_append_12 rfl rfl ?_
  refine hc_getR C fl_X6_13 rfl rfl dX6_append_13 ?_
  refine hc_aload_n C dX6_append_16 rfl rfl ?_
  refine hc_getI C fl_X6_17 rfl rfl dX6_append_17 ?_
  refine hc_iload_n C dX6_append_20 rfl rfl ?_
  refine hc_iastN C (j := n) rfl h0 (by omega) dX6_append_21 ?_
  refine hc_aload_n C dX6_append_22 rfl rfl ?_
  refine hc_dup C dX6_append_23 rfl ?_
  refine hc_getI C fl_X6_17 rfl rfl dX6_append_24 ?_
  refine hc_iconst C dX6_append_27 (v := 1) rfl ?_
  refine hc_iadd C dX6_append_28 ?_
  refine hc_top (v := nI (n + 1)) (by rw [hc_ms_n (by decide), h0, nI_1]) ?_
  refine hc_putI C fl_X6_17 pl_4_1 rfl rfl dX6_append_29 ?_
  refine hc_aload_n C dX6_append_32 rfl rfl ?_
  refine hc_getI C fl_X6_17 rfl rfl dX6_append_33 ?_
  refine hc_iret C rfl dX6_append_36 ?_
  exact ⟨hc_ms_v.symm, rfl⟩

set_option maxRecDepth 100000 in
set_option maxHeartbeats 4000000 in
theorem c_X7_feed_b {l : Launch} {G : hc_Geo} (hG : hc_ok G) {M : hc_Mem} {v : Int32}  (h0 : ¬ (¬ v < 0 ∧ ¬ 255 < v)) : hc_M l G yX7_feed cX7_feed 2 (some .int) 2 [.ref (hc_ad G 0), .int v] M (hc_pi (fun z M' => -1000001 = z ∧ M = M')) := by
  refine hc_M.of hG (by decide) [some (.ref (hc_ad G 0)), some (.int v)] rfl (Nat.le_of_ble_eq_true rfl) ?_
  intro p e s m args below meth c C
  refine hc_iload_n C dX7_feed_0 rfl rfl ?_
  refine hc_iconst C dX7_feed_1 (v := 0) rfl ?_
  refine hc_sipush C dX7_feed_2 (v := 255) rfl ?_
  refine hc_cS3i C ms_X7_97 (c_X7_isWithin C.ok) (Nat.le_of_ble_eq_true rfl) (hc_rr_rm (by decide)) ⟨Nat.zero_le _, Nat.zero_le _⟩ dX7_feed_5 (fun r_5 M_5 h_5 => ?_)
  obtain ⟨rfl, rfl⟩ := h_5
  refine hc_if_ne C (tgt := 14) dX7_feed_8 (by decide) (fun c_8 => ?_) (fun c_8 => ?_)
  · exact absurd (hb_f h0) c_8
  refine hc_ldc C kc_X7_64 dX7_feed_11 ?_
  refine hc_iret C rfl dX7_feed_13 ?_
  exact ⟨rfl, rfl⟩

set_option maxRecDepth 100000 in
set_option maxHeartbeats 4000000 in
theorem c_X7_feed_f {l : Launch} {G : hc_Geo} (hG : hc_ok G) {M : hc_Mem} {v : Int32}  (h0 : ¬ v < 0 ∧ ¬ 255 < v) (h1 : M 5 1 = 120) : hc_M l G yX7_feed cX7_feed 2 (some .int) 2 [.ref (hc_ad G 0), .int v] M (hc_pi (fun z M' => -1000003 = z ∧ M = M')) := by
  refine hc_M.of hG (by decide) [some (.ref (hc_ad G 0)), some (.int v)] rfl (Nat.le_of_ble_eq_true rfl) ?_
  intro p e s m args below meth c C
  refine hc_iload_n C dX7_feed_0 rfl rfl ?_
  refine hc_iconst C dX7_feed_1 (v := 0) rfl ?_
  refine hc_sipush C dX7_feed_2 (v := 255) rfl ?_
  refine hc_cS3i C ms_X7_97 (c_X7_isWithin C.ok) (Nat.le_of_ble_eq_true rfl) (hc_rr_rm (by decide)) ⟨Nat.zero_le _, Nat.zero_le _⟩ dX7_feed_5 (fun r_5 M_5 h_5 => ?_)
  obtain ⟨rfl, rfl⟩ := h_5
  refine hc_if_ne C (tgt := 14) dX7_feed_8 (by decide) (fun c_8 => ?_) (fun c_8 => ?_)
  rotate_left
  · exact absurd h0 (hb_z.mp c_8)
  refine hc_aload_n C dX7_feed_14 rfl rfl ?_
  refine hc_getR C fl_X7_19 rfl rfl dX7_feed_15 ?_
  refine hc_iload_n C dX7_feed_18 rfl rfl ?_
  refine hc_cV1i C mv_X7_101 (c_X6_append_f C.ok h1) rfl rfl rfl (Nat.le_of_ble_eq_true rfl) (hc_rr_rm (by decide)) ⟨Nat.zero_le _, Nat.zero_le _⟩ dX7_feed_19 (fun r_19 M_19 h_19 => ?_)
  obtain ⟨rfl, rfl⟩ := h_19
  refine hc_iret C rfl dX7_feed_22 ?_
  exact ⟨rfl, rfl⟩

set_option maxRecDepth 100000 in
set_option maxHeartbeats 4000000 in
theorem c_X7_feed_o {l : Launch} {G : hc_Geo} (hG : hc_ok G) {M : hc_Mem} {v : Int32} {n : Nat}  (h0 : ¬ v < 0 ∧ ¬ 255 < v) (h1 : M 5 1 = nI n) (hn : n < 120) : hc_M l G yX7_feed cX7_feed 2 (some .int) 2 [.ref (hc_ad G 0), .int v] M (hc_pi (fun z M' => nI (n + 1) = z ∧ hc_ms (hc_ms M 6 n v) 5 1 (nI (n + 1)) = M')) := by
  refine hc_M.of hG (by decide) [some (.ref (hc_ad G 0)), some (.int v)] rfl (Nat.le_of_ble_eq_true rfl) ?_
  intro p e s m args below meth c C
  refine hc_iload_n C dX7_feed_0 rfl rfl ?_
  refine hc_iconst C dX7_feed_1 (v := 0) rfl ?_
  refine hc_sipush C dX7_feed_2 (v := 255) rfl ?_
  refine hc_cS3i C ms_X7_97 (c_X7_isWithin C.ok) (Nat.le_of_ble_eq_true rfl) (hc_rr_rm (by decide)) ⟨Nat.zero_le _, Nat.zero_le _⟩ dX7_feed_5 (fun r_5 M_5 h_5 => ?_)
  obtain ⟨rfl, rfl⟩ := h_5
  refine hc_if_ne C (tgt := 14) dX7_feed_8 (by decide) (fun c_8 => ?_) (fun c_8 => ?_)
  rotate_left
  · exact absurd h0 (hb_z.mp c_8)
  refine hc_aload_n C dX7_feed_14 rfl rfl ?_
  refine hc_getR C fl_X7_19 rfl rfl dX7_feed_15 ?_
  refine hc_iload_n C dX7_feed_18 rfl rfl ?_
  refine hc_cV1i C mv_X7_101 (c_X6_append_o C.ok h1 hn) rfl rfl rfl (Nat.le_of_ble_eq_true rfl) (hc_rr_rm (by decide)) ⟨Nat.zero_le _, Nat.zero_le _⟩ dX7_feed_19 (fun r_19 M_19 h_19 => ?_)
  obtain ⟨rfl, rfl⟩ := h_19
  refine hc_iret C rfl dX7_feed_22 ?_
  exact ⟨rfl, rfl⟩

set_option maxRecDepth 100000 in
set_option maxHeartbeats 4000000 in
theorem c_X6_byteHere_n {l : Launch} {G : hc_Geo} (hG : hc_ok G) {M : hc_Mem}  (h0 : ¬ (M 5 2 = 0 ∧ ¬ M 5 1 ≤ M 5 3)) : hc_M l G yX6_byteHere cX6_byteHere 1 (some .int) 1 [.ref (hc_ad G 5)] M (hc_pi (fun z M' => -1000000 = z ∧ M = M')) := by
  refine hc_M.of hG (by decide) [some (.ref (hc_ad G 5))] rfl (Nat.le_of_ble_eq_true rfl) ?_
  intro p e s m args below meth c C
  refine hc_aload_n C dX6_byteHere_0 rfl rfl ?_
  refine hc_getI C fl_X6_21 rfl rfl dX6_byteHere_1 ?_
  refine hc_if_ne C (tgt := 30) dX6_byteHere_4 (by decide) (fun c_4 => ?_) (fun c_4 => ?_)
  · refine hc_ldc C kc_X6_46 dX6_byteHere_30 ?_
    refine hc_iret C rfl dX6_byteHere_32 ?_
    exact ⟨rfl, rfl⟩
  · refine hc_aload_n C dX6_byteHere_7 rfl rfl ?_
    refine hc_getI C fl_X6_24 rfl rfl dX6_byteHere_8 ?_
    refine hc_aload_n C dX6_byteHere_11 rfl rfl ?_
    refine hc_getI C fl_X6_17 rfl rfl dX6_byteHere_12 ?_
    refine hc_icmp_ge C (tgt := 30) dX6_byteHere_15 (by decide) (fun c_15 => ?_) (fun c_15 => ?_)
    rotate_left
    · exact absurd ⟨c_4, c_15⟩ h0
    refine hc_ldc C kc_X6_46 dX6_byteHere_30 ?_
    refine hc_iret C rfl dX6_byteHere_32 ?_
    exact ⟨rfl, rfl⟩

set_option maxRecDepth 100000 in
set_option maxHeartbeats 4000000 in
theorem c_X6_readHouse_0 {l : Launch} {G : hc_Geo} (hG : hc_ok G) {M : hc_Mem}  (h0 : ¬ (M 5 2 = 0 ∧ ¬ M 5 1 ≤ M 5 3)) : hc_M l G yX6_readHouse cX6_readHouse 2 none 2 [.ref (hc_ad G 5)] M (hc_pv (fun M' => hc_ms M 5 2 1 = M')) := by
  refine hc_M.of hG (by decide) [some (.ref (hc_ad G 5)), none] rfl (Nat.le_of_ble_eq_true rfl) ?_
  intro p e s m args below meth c C
  refine hc_aload_n C dX6_readHouse_0 rfl rfl ?_
  refine hc_cV0i C mv_X6_47 (c_X6_byteHere_n C.ok h0) rfl rfl rfl (Nat.le_of_ble_eq_true rfl) (hc_rr_rm (by decide)) ⟨Nat.zero_le _, Nat.zero_le _⟩ dX6_readHouse_1 (fun r_1 M_1 h_1 => ?_)
  obtain ⟨rfl, rfl⟩ := h_1
  refine hc_bipush C dX6_readHouse_4 (v := 99) rfl ?_
  refine hc_icmp_eq C (tgt := 15) dX6_readHouse_6 (by decide) (fun c_6 => ?_) (fun c_6 => ?_)
  · exact absurd c_6 (by decide)
  refine hc_aload_n C dX6_readHouse_9 rfl rfl ?_
  refine hc_iconst C dX6_readHouse_10 (v := 1) rfl ?_
  refine hc_putI C fl_X6_21 pl_4_2 rfl rfl dX6_readHouse_11 ?_
  refine hc_vret C rfl dX6_readHouse_14 ?_
  rfl

set_option maxRecDepth 100000 in
set_option maxHeartbeats 4000000 in
theorem c_X6_read_0 {l : Launch} {G : hc_Geo} (hG : hc_ok G) {M : hc_Mem}  (h0 : M 5 1 = 0) : hc_M l G yX6_read cX6_read 1 (some .int) 3 [.ref (hc_ad G 5)] M (hc_pi (fun z M' => 0 = z ∧ hc_ms (hc_ms (hc_ms (hc_ms (hc_ms (hc_ms (hc_ms M 5 3 0) 5 2 0) 5 5 0) 5 6 0) 5 8 0) 5 2 1) 5 1 0 = M')) := by
  refine hc_M.of hG (by decide) [some (.ref (hc_ad G 5))] rfl (Nat.le_of_ble_eq_true rfl) ?_
  intro p e s m args below meth c C
  refine hc_aload_n C dX6_read_0 rfl rfl ?_
  refine hc_iconst C dX6_read_1 (v := 0) rfl ?_
  refine hc_putI C fl_X6_24 pl_4_3 rfl rfl dX6_read_2 ?_
  refine hc_aload_n C dX6_read_5 rfl rfl ?_
  refine hc_iconst C dX6_read_6 (v := 0) rfl ?_
  refine hc_putI C fl_X6_21 pl_4_2 rfl rfl dX6_read_7 ?_
  refine hc_aload_n C dX6_read_10 rfl rfl ?_
  refine hc_iconst C dX6_read_11 (v := 0) rfl ?_
  refine hc_putI C fl_X6_30 pl_4_5 rfl rfl dX6_read_12 ?_
  refine hc_aload_n C dX6_read_15 rfl rfl ?_
  refine hc_iconst C dX6_read_16 (v := 0) rfl ?_
  refine hc_putI C fl_X6_33 pl_4_6 rfl rfl dX6_read_17 ?_
  refine hc_aload_n C dX6_read_20 rfl rfl ?_
  refine hc_iconst C dX6_read_21 (v := 0) rfl ?_
  refine hc_putI C fl_X6_39 pl_4_8 rfl rfl dX6_read_22 ?_
  refine hc_aload_n C dX6_read_25 rfl rfl ?_
  refine hc_cV0v C mv_X6_43 (c_X6_readHouse_0 C.ok (by simp [hc_ms, hc_mf, upd, h0])) rfl rfl rfl (Nat.le_of_ble_eq_true rfl) (hc_rr_rm (by decide)) ⟨Nat.zero_le _, Nat.zero_le _⟩ dX6_read_26 (fun M_26 h_26 => ?_)
  obtain rfl := h_26
  refine hc_aload_n C dX6_read_29 rfl rfl ?_
  refine hc_iconst C dX6_read_30 (v := 0) rfl ?_
  refine hc_putI C fl_X6_17 pl_4_1 rfl rfl dX6_read_31 ?_
  refine hc_aload_n C dX6_read_34 rfl rfl ?_
  refine hc_getI C fl_X6_21 rfl rfl dX6_read_35 ?_
  refine hc_if_ne C (tgt := 46) dX6_read_38 (by decide) (fun c_38 => ?_) (fun c_38 => ?_)
  rotate_left
  · exact absurd c_38 (by simp [hc_ms, hc_mf, upd])
  refine hc_aload_n C dX6_read_46 rfl rfl ?_
  refine hc_getI C fl_X6_24 rfl rfl dX6_read_47 ?_
  refine hc_iret C rfl dX6_read_50 ?_
  exact ⟨by simp [hc_ms, hc_mf, upd], rfl⟩

set_option maxRecDepth 100000 in
set_option maxHeartbeats 4000000 in
theorem c_X7_house_0 {l : Launch} {G : hc_Geo} (hG : hc_ok G) {M : hc_Mem}  (h0 : M 5 1 = 0) : hc_M l G yX7_house cX7_house 2 (some .int) 4 [.ref (hc_ad G 0)] M (hc_pi (fun z M' => -1000100 = z ∧ hc_ms (hc_ms (hc_ms (hc_ms (hc_ms (hc_ms (hc_ms (hc_ms M 5 3 0) 5 2 0) 5 5 0) 5 6 0) 5 8 0) 5 2 1) 5 1 0) 0 7 1 = M')) := by
  refine hc_M.of hG (by decide) [some (.ref (hc_ad G 0)), none] rfl (Nat.le_of_ble_eq_true rfl) ?_
  intro p e s m args below meth c C
  refine hc_aload_n C dX7_house_0 rfl rfl ?_
  refine hc_getR C fl_X7_19 rfl rfl dX7_house_1 ?_
  refine hc_cV0i C mv_X7_104 (c_X6_read_0 C.ok h0) rfl rfl rfl (Nat.le_of_ble_eq_true rfl) (hc_rr_rm (by decide)) ⟨Nat.zero_le _, Nat.zero_le _⟩ dX7_house_4 (fun r_4 M_4 h_4 => ?_)
  obtain ⟨rfl, rfl⟩ := h_4
  refine hc_istore_n1 C dX7_house_7 rfl (by decide) rfl ?_
  refine hc_iload_n C dX7_house_8 rfl rfl ?_
  refine hc_ldc C kc_X7_108 dX7_house_9 ?_
  refine hc_icmp_eq C (tgt := 30) dX7_house_11 (by decide) (fun c_11 => ?_) (fun c_11 => ?_)
  · exact absurd c_11 (by decide)
  refine hc_aload_n C dX7_house_14 rfl rfl ?_
  refine hc_aload_n C dX7_house_15 rfl rfl ?_
  refine hc_getR C fl_X7_19 rfl rfl dX7_house_16 ?_
  refine hc_getI C fl_X7_109 rfl rfl dX7_house_19 ?_
  refine hc_top (v := 1) (by simp [hc_ms, hc_mf, upd]) ?_
  refine hc_putI C fl_X7_50 pl_5_7 rfl rfl dX7_house_22 ?_
  refine hc_ldc C kc_X7_112 dX7_house_25 ?_
  refine hc_iload_n C dX7_house_27 rfl rfl ?_
  refine hc_isub C dX7_house_28 ?_
  refine hc_iret C rfl dX7_house_29 ?_
  exact ⟨rfl, rfl⟩
