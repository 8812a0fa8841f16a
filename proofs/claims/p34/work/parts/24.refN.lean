set_option maxRecDepth 100000 in
set_option maxHeartbeats 4000000 in
theorem c_X8_in {l : Launch} {G : hc_Geo} (hG : hc_ok G) {M : hc_Mem} {v lo hi : Int32}  : hc_M l G yX8_in cX8_in 3 (some .boolean) 1 [.int v, .int lo, .int hi] M (hc_pi (fun z M' => hb (¬ v < lo ∧ ¬ hi < v) = z ∧ M = M')) := by
  refine hc_M.of hG (by decide) [some (.int v), some (.int lo), some (.int hi)] rfl (Nat.le_of_ble_eq_true rfl) ?_
  intro p e s m args below meth c C
  refine hc_iload_n C dX8_in_0 rfl rfl ?_
  refine hc_iload_n C dX8_in_1 rfl rfl ?_
  refine hc_icmp_lt C (tgt := 14) dX8_in_2 (by decide) (fun c_2 => ?_) (fun c_2 => ?_)
  · refine hc_iconst C dX8_in_14 (v := 0) rfl ?_
    refine hc_zret C rfl rfl dX8_in_15 ?_
    refine ⟨?_, rfl⟩
    first | exact hb_t (by simp_all) | exact hb_f (by simp_all)
  · refine hc_iload_n C dX8_in_5 rfl rfl ?_
    refine hc_iload_n C dX8_in_6 rfl rfl ?_
    refine hc_icmp_gt C (tgt := 14) dX8_in_7 (by decide) (fun c_7 => ?_) (fun c_7 => ?_)
    · refine hc_iconst C dX8_in_14 (v := 0) rfl ?_
      refine hc_zret C rfl rfl dX8_in_15 ?_
      refine ⟨?_, rfl⟩
      first | exact hb_t (by simp_all) | exact hb_f (by simp_all)
    · refine hc_iconst C dX8_in_10 (v := 1) rfl ?_
      refine hc_goto C (tgt := 15) dX8_in_11 (by decide) ?_
      refine hc_zret C rfl rfl dX8_in_15 ?_
      refine ⟨?_, rfl⟩
      first | exact hb_t (by simp_all) | exact hb_f (by simp_all)

set_option maxRecDepth 100000 in
set_option maxHeartbeats 4000000 in
theorem c_X8_found {l : Launch} {G : hc_Geo} (hG : hc_ok G) {M : hc_Mem} {f : Int32}  : hc_M l G yX8_found cX8_found 2 (some .int) 1 [.ref (hc_ad G 48), .int f] M (hc_pi (fun z M' => -1000010 - f = z ∧ hc_ms M 48 4 f = M')) := by
  refine hc_M.of hG (by decide) [some (.ref (hc_ad G 48)), some (.int f)] rfl (Nat.le_of_ble_eq_true rfl) ?_
  intro p e s m args below meth c C
  refine hc_aload_n C dX8_found_0 rfl rfl ?_
  refine hc_iload_n C dX8_found_1 rfl rfl ?_
  refine hc_putI C fl_X8_51 pl_6_4 rfl rfl dX8_found_2 ?_
  refine hc_ldc C kc_X8_55 dX8_found_5 ?_
  refine hc_iload_n C dX8_found_7 rfl rfl ?_
  refine hc_isub C dX8_found_8 ?_
  refine hc_iret C rfl dX8_found_9 ?_
  exact ⟨rfl, rfl⟩

set_option maxRecDepth 100000 in
set_option maxHeartbeats 4000000 in
theorem c_X8_well {l : Launch} {G : hc_Geo} (hG : hc_ok G) {M : hc_Mem} {f : Int32}  : hc_M l G yX8_well cX8_well 2 (some .int) 1 [.ref (hc_ad G 48), .int f] M (hc_pi (fun z M' => f = z ∧ hc_ms M 48 4 0 = M')) := by
  refine hc_M.of hG (by decide) [some (.ref (hc_ad G 48)), some (.int f)] rfl (Nat.le_of_ble_eq_true rfl) ?_
  intro p e s m args below meth c C
  refine hc_aload_n C dX8_well_0 rfl rfl ?_
  refine hc_iconst C dX8_well_1 (v := 0) rfl ?_
  refine hc_putI C fl_X8_51 pl_6_4 rfl rfl dX8_well_2 ?_
  refine hc_iload_n C dX8_well_5 rfl rfl ?_
  refine hc_iret C rfl dX8_well_6 ?_
  exact ⟨rfl, rfl⟩

set_option maxRecDepth 100000 in
set_option maxHeartbeats 4000000 in
theorem c_X8_isRow {l : Launch} {G : hc_Geo} (hG : hc_ok G) {M : hc_Mem} {r : Int32}  : hc_M l G yX8_isRow cX8_isRow 1 (some .boolean) 2 [.int r] M (hc_pi (fun z M' => hb (¬ r < 0 ∧ ¬ 8 ≤ r) = z ∧ M = M')) := by
  refine hc_M.of hG (by decide) [some (.int r)] rfl (Nat.le_of_ble_eq_true rfl) ?_
  intro p e s m args below meth c C
  refine hc_iload_n C dX8_isRow_0 rfl rfl ?_
  refine hc_iconst C dX8_isRow_1 (v := 0) rfl ?_
  refine hc_bipush C dX8_isRow_2 (v := 7) rfl ?_
  refine hc_cS3i C ms_X8_56 (c_X8_in C.ok) (Nat.le_of_ble_eq_true rfl) (hc_rr_rm (by decide)) ⟨Nat.zero_le _, Nat.zero_le _⟩ dX8_isRow_4 (fun r_4 M_4 h_4 => ?_)
  obtain ⟨rfl, rfl⟩ := h_4
  refine hc_zret C rfl hb_nar dX8_isRow_7 ?_
  exact ⟨hb_iff (by rw [hx_lt7]), rfl⟩

set_option maxRecDepth 100000 in
set_option maxHeartbeats 4000000 in
theorem c_X8_isMissing {l : Launch} {G : hc_Geo} (hG : hc_ok G) {M : hc_Mem} {j : Nat}  (hj : j < 8) : hc_M l G yX8_isMissing cX8_isMissing 2 (some .boolean) 1 [.ref (hc_ad G 48), .int (nI j)] M (hc_pi (fun z M' => hb (M 49 j = -1000000) = z ∧ M = M')) := by
  refine hc_M.of hG (by decide) [some (.ref (hc_ad G 48)), some (.int (nI j))] rfl (Nat.le_of_ble_eq_true rfl) ?_
  intro p e s m args below meth c C
  refine hc_aload_n C dX8_isMissing_0 rfl rfl ?_
  refine hc_getR C fl_X8_7 rfl rfl dX8_isMissing_1 ?_
  refine hc_iload_n C dX8_isMissing_4 rfl rfl ?_
  refine hc_ialdN C (j := j) rfl rfl (by omega) dX8_isMissing_5 ?_
  refine hc_ldc C kc_X8_50 dX8_isMissing_6 ?_
  refine hc_icmp_ne C (tgt := 15) dX8_isMissing_8 (by decide) (fun c_8 => ?_) (fun c_8 => ?_)
  · refine hc_iconst C dX8_isMissing_15 (v := 0) rfl ?_
    refine hc_zret C rfl rfl dX8_isMissing_16 ?_
    refine ⟨?_, rfl⟩
    first | exact hb_t (by simp_all) | exact hb_f (by simp_all)
  · refine hc_iconst C dX8_isMissing_11 (v := 1) rfl ?_
    refine hc_goto C (tgt := 16) dX8_isMissing_12 (by decide) ?_
    refine hc_zret C rfl rfl dX8_isMissing_16 ?_
    refine ⟨?_, rfl⟩
    first | exact hb_t (by simp_all) | exact hb_f (by simp_all)

set_option maxRecDepth 100000 in
set_option maxHeartbeats 4000000 in
theorem c_X8_isHouse {l : Launch} {G : hc_Geo} (hG : hc_ok G) {M : hc_Mem}  : hc_M l G yX8_isHouse cX8_isHouse 1 (some .boolean) 1 [.ref (hc_ad G 48)] M (hc_pi (fun z M' => hb (M 54 0 = 1) = z ∧ M = M')) := by
  refine hc_M.of hG (by decide) [some (.ref (hc_ad G 48))] rfl (Nat.le_of_ble_eq_true rfl) ?_
  intro p e s m args below meth c C
  refine hc_aload_n C dX8_isHouse_0 rfl rfl ?_
  refine hc_getR C fl_X8_25 rfl rfl dX8_isHouse_1 ?_
  refine hc_iconst C dX8_isHouse_4 (v := 0) rfl ?_
  refine hc_ialdN C (j := 0) rfl rfl (by decide) dX8_isHouse_5 ?_
  refine hc_iconst C dX8_isHouse_6 (v := 1) rfl ?_
  refine hc_icmp_ne C (tgt := 14) dX8_isHouse_7 (by decide) (fun c_7 => ?_) (fun c_7 => ?_)
  · refine hc_iconst C dX8_isHouse_14 (v := 0) rfl ?_
    refine hc_zret C rfl rfl dX8_isHouse_15 ?_
    refine ⟨?_, rfl⟩
    first | exact hb_t (by simp_all) | exact hb_f (by simp_all)
  · refine hc_iconst C dX8_isHouse_10 (v := 1) rfl ?_
    refine hc_goto C (tgt := 15) dX8_isHouse_11 (by decide) ?_
    refine hc_zret C rfl rfl dX8_isHouse_15 ?_
    refine ⟨?_, rfl⟩
    first | exact hb_t (by simp_all) | exact hb_f (by simp_all)

set_option maxRecDepth 100000 in
set_option maxHeartbeats 4000000 in
theorem c_X8_isEar {l : Launch} {G : hc_Geo} (hG : hc_ok G) {M : hc_Mem} {v : Int32} {E : Nat}  (hE : M 54 4 = nI E) (hE6 : E < 2 ^ 30) : hc_M l G yX8_isEar cX8_isEar 2 (some .boolean) 2 [.ref (hc_ad G 48), .int v] M (hc_pi (fun z M' => hb (¬ v < 0 ∧ ¬ M 54 4 ≤ v) = z ∧ M = M')) := by
  refine hc_M.of hG (by decide) [some (.ref (hc_ad G 48)), some (.int v)] rfl (Nat.le_of_ble_eq_true rfl) ?_
  intro p e s m args below meth c C
  refine hc_iload_n C dX8_isEar_0 rfl rfl ?_
  refine hc_iconst C dX8_isEar_1 (v := 0) rfl ?_
  refine hc_aload_n C dX8_isEar_2 rfl rfl ?_
  refine hc_getR C fl_X8_25 rfl rfl dX8_isEar_3 ?_
  refine hc_iconst C dX8_isEar_6 (v := 4) rfl ?_
  refine hc_ialdN C (j := 4) rfl rfl (by decide) dX8_isEar_7 ?_
  refine hc_iconst C dX8_isEar_8 (v := 1) rfl ?_
  refine hc_isub C dX8_isEar_9 ?_
  refine hc_cS3i C ms_X8_56 (c_X8_in C.ok) (Nat.le_of_ble_eq_true rfl) (hc_rr_rm (by decide)) ⟨Nat.zero_le _, Nat.zero_le _⟩ dX8_isEar_10 (fun r_10 M_10 h_10 => ?_)
  obtain ⟨rfl, rfl⟩ := h_10
  refine hc_zret C rfl hb_nar dX8_isEar_13 ?_
  exact ⟨hb_iff (by rw [hE, hx_pred hE6]), rfl⟩

set_option maxRecDepth 100000 in
set_option maxHeartbeats 4000000 in
theorem c_X8_isDoing {l : Launch} {G : hc_Geo} (hG : hc_ok G) {M : hc_Mem} {v : Int32} {E : Nat}  (hE : M 54 5 = nI E) (hE6 : E < 2 ^ 30) : hc_M l G yX8_isDoing cX8_isDoing 2 (some .boolean) 2 [.ref (hc_ad G 48), .int v] M (hc_pi (fun z M' => hb (¬ v < 0 ∧ ¬ M 54 5 ≤ v) = z ∧ M = M')) := by
  refine hc_M.of hG (by decide) [some (.ref (hc_ad G 48)), some (.int v)] rfl (Nat.le_of_ble_eq_true rfl) ?_
  intro p e s m args below meth c C
  refine hc_iload_n C dX8_isDoing_0 rfl rfl ?_
  refine hc_iconst C dX8_isDoing_1 (v := 0) rfl ?_
  refine hc_aload_n C dX8_isDoing_2 rfl rfl ?_
  refine hc_getR C fl_X8_25 rfl rfl dX8_isDoing_3 ?_
  refine hc_iconst C dX8_isDoing_6 (v := 5) rfl ?_
  refine hc_ialdN C (j := 5) rfl rfl (by decide) dX8_isDoing_7 ?_
  refine hc_iconst C dX8_isDoing_8 (v := 1) rfl ?_
  refine hc_isub C dX8_isDoing_9 ?_
  refine hc_cS3i C ms_X8_56 (c_X8_in C.ok) (Nat.le_of_ble_eq_true rfl) (hc_rr_rm (by decide)) ⟨Nat.zero_le _, Nat.zero_le _⟩ dX8_isDoing_10 (fun r_10 M_10 h_10 => ?_)
  obtain ⟨rfl, rfl⟩ := h_10
  refine hc_zret C rfl hb_nar dX8_isDoing_13 ?_
  exact ⟨hb_iff (by rw [hE, hx_pred hE6]), rfl⟩

set_option maxRecDepth 100000 in
set_option maxHeartbeats 4000000 in
theorem c_X8_quarters_n {l : Launch} {G : hc_Geo} (hG : hc_ok G) {M : hc_Mem} {v1 : Int32}  (h0 : ¬ M 54 0 = 1) : hc_M l G yX8_quarters cX8_quarters 3 (some .int) 2 [.ref (hc_ad G 48), .int v1] M (hc_pi (fun z M' => -1000002 = z ∧ M = M')) := by
  refine hc_M.of hG (by decide) [some (.ref (hc_ad G 48)), some (.int v1), none] rfl (Nat.le_of_ble_eq_true rfl) ?_
  intro p e s m args below meth c C
  refine hc_aload_n C dX8_quarters_0 rfl rfl ?_
  refine hc_cV0i C mv_X8_171 (c_X8_isHouse C.ok) rfl rfl rfl (Nat.le_of_ble_eq_true rfl) (hc_rr_rm (by decide)) ⟨Nat.zero_le _, Nat.zero_le _⟩ dX8_quarters_1 (fun r_1 M_1 h_1 => ?_)
  obtain ⟨rfl, rfl⟩ := h_1
  refine hc_if_ne C (tgt := 10) dX8_quarters_4 (by decide) (fun c_4 => ?_) (fun c_4 => ?_)
  · exact absurd (hb_f h0) c_4
  refine hc_ldc C kc_X8_174 dX8_quarters_7 ?_
  refine hc_iret C rfl dX8_quarters_9 ?_
  exact ⟨rfl, rfl⟩

set_option maxRecDepth 100000 in
set_option maxHeartbeats 4000000 in
theorem c_X8_wool_n {l : Launch} {G : hc_Geo} (hG : hc_ok G) {M : hc_Mem} {v1 : Int32}  (h0 : ¬ M 54 0 = 1) : hc_M l G yX8_wool cX8_wool 3 (some .int) 2 [.ref (hc_ad G 48), .int v1] M (hc_pi (fun z M' => -1000002 = z ∧ M = M')) := by
  refine hc_M.of hG (by decide) [some (.ref (hc_ad G 48)), some (.int v1), none] rfl (Nat.le_of_ble_eq_true rfl) ?_
  intro p e s m args below meth c C
  refine hc_aload_n C dX8_wool_0 rfl rfl ?_
  refine hc_cV0i C mv_X8_171 (c_X8_isHouse C.ok) rfl rfl rfl (Nat.le_of_ble_eq_true rfl) (hc_rr_rm (by decide)) ⟨Nat.zero_le _, Nat.zero_le _⟩ dX8_wool_1 (fun r_1 M_1 h_1 => ?_)
  obtain ⟨rfl, rfl⟩ := h_1
  refine hc_if_ne C (tgt := 10) dX8_wool_4 (by decide) (fun c_4 => ?_) (fun c_4 => ?_)
  · exact absurd (hb_f h0) c_4
  refine hc_ldc C kc_X8_174 dX8_wool_7 ?_
  refine hc_iret C rfl dX8_wool_9 ?_
  exact ⟨rfl, rfl⟩

set_option maxRecDepth 100000 in
set_option maxHeartbeats 4000000 in
theorem c_X8_clock_n {l : Launch} {G : hc_Geo} (hG : hc_ok G) {M : hc_Mem} {v1 : Int32}  (h0 : ¬ M 54 0 = 1) : hc_M l G yX8_clock cX8_clock 2 (some .int) 2 [.ref (hc_ad G 48), .int v1] M (hc_pi (fun z M' => -1000002 = z ∧ M = M')) := by
  refine hc_M.of hG (by decide) [some (.ref (hc_ad G 48)), some (.int v1)] rfl (Nat.le_of_ble_eq_true rfl) ?_
  intro p e s m args below meth c C
  refine hc_aload_n C dX8_clock_0 rfl rfl ?_
  refine hc_cV0i C mv_X8_171 (c_X8_isHouse C.ok) rfl rfl rfl (Nat.le_of_ble_eq_true rfl) (hc_rr_rm (by decide)) ⟨Nat.zero_le _, Nat.zero_le _⟩ dX8_clock_1 (fun r_1 M_1 h_1 => ?_)
  obtain ⟨rfl, rfl⟩ := h_1
  refine hc_if_ne C (tgt := 10) dX8_clock_4 (by decide) (fun c_4 => ?_) (fun c_4 => ?_)
  · exact absurd (hb_f h0) c_4
  refine hc_ldc C kc_X8_174 dX8_clock_7 ?_
  refine hc_iret C rfl dX8_clock_9 ?_
  exact ⟨rfl, rfl⟩

set_option maxRecDepth 100000 in
set_option maxHeartbeats 4000000 in
theorem c_X8_ahead_n {l : Launch} {G : hc_Geo} (hG : hc_ok G) {M : hc_Mem} {v1 : Int32}  (h0 : ¬ M 54 0 = 1) : hc_M l G yX8_ahead cX8_ahead 2 (some .int) 2 [.ref (hc_ad G 48), .int v1] M (hc_pi (fun z M' => -1000002 = z ∧ M = M')) := by
  refine hc_M.of hG (by decide) [some (.ref (hc_ad G 48)), some (.int v1)] rfl (Nat.le_of_ble_eq_true rfl) ?_
  intro p e s m args below meth c C
  refine hc_aload_n C dX8_ahead_0 rfl rfl ?_
  refine hc_cV0i C mv_X8_171 (c_X8_isHouse C.ok) rfl rfl rfl (Nat.le_of_ble_eq_true rfl) (hc_rr_rm (by decide)) ⟨Nat.zero_le _, Nat.zero_le _⟩ dX8_ahead_1 (fun r_1 M_1 h_1 => ?_)
  obtain ⟨rfl, rfl⟩ := h_1
  refine hc_if_ne C (tgt := 10) dX8_ahead_4 (by decide) (fun c_4 => ?_) (fun c_4 => ?_)
  · exact absurd (hb_f h0) c_4
  refine hc_ldc C kc_X8_174 dX8_ahead_7 ?_
  refine hc_iret C rfl dX8_ahead_9 ?_
  exact ⟨rfl, rfl⟩

set_option maxRecDepth 100000 in
set_option maxHeartbeats 4000000 in
theorem c_X8_whenShows_n {l : Launch} {G : hc_Geo} (hG : hc_ok G) {M : hc_Mem} {v1 : Int32}  (h0 : ¬ M 54 0 = 1) : hc_M l G yX8_whenShows cX8_whenShows 3 (some .int) 2 [.ref (hc_ad G 48), .int v1] M (hc_pi (fun z M' => -1000002 = z ∧ M = M')) := by
  refine hc_M.of hG (by decide) [some (.ref (hc_ad G 48)), some (.int v1), none] rfl (Nat.le_of_ble_eq_true rfl) ?_
  intro p e s m args below meth c C
  refine hc_aload_n C dX8_whenShows_0 rfl rfl ?_
  refine hc_cV0i C mv_X8_171 (c_X8_isHouse C.ok) rfl rfl rfl (Nat.le_of_ble_eq_true rfl) (hc_rr_rm (by decide)) ⟨Nat.zero_le _, Nat.zero_le _⟩ dX8_whenShows_1 (fun r_1 M_1 h_1 => ?_)
  obtain ⟨rfl, rfl⟩ := h_1
  refine hc_if_ne C (tgt := 10) dX8_whenShows_4 (by decide) (fun c_4 => ?_) (fun c_4 => ?_)
  · exact absurd (hb_f h0) c_4
  refine hc_ldc C kc_X8_174 dX8_whenShows_7 ?_
  refine hc_iret C rfl dX8_whenShows_9 ?_
  exact ⟨rfl, rfl⟩

set_option maxRecDepth 100000 in
set_option maxHeartbeats 4000000 in
theorem c_X8_late_n {l : Launch} {G : hc_Geo} (hG : hc_ok G) {M : hc_Mem}  (h0 : ¬ M 54 0 = 1) : hc_M l G yX8_late cX8_late 4 (some .int) 2 [.ref (hc_ad G 48)] M (hc_pi (fun z M' => -1000002 = z ∧ M = M')) := by
  refine hc_M.of hG (by decide) [some (.ref (hc_ad G 48)), none, none, none] rfl (Nat.le_of_ble_eq_true rfl) ?_
  intro p e s m args below meth c C
  refine hc_aload_n C dX8_late_0 rfl rfl ?_
  refine hc_cV0i C mv_X8_171 (c_X8_isHouse C.ok) rfl rfl rfl (Nat.le_of_ble_eq_true rfl) (hc_rr_rm (by decide)) ⟨Nat.zero_le _, Nat.zero_le _⟩ dX8_late_1 (fun r_1 M_1 h_1 => ?_)
  obtain ⟨rfl, rfl⟩ := h_1
  refine hc_if_ne C (tgt := 10) dX8_late_4 (by decide) (fun c_4 => ?_) (fun c_4 => ?_)
  · exact absurd (hb_f h0) c_4
  refine hc_ldc C kc_X8_174 dX8_late_7 ?_
  refine hc_iret C rfl dX8_late_9 ?_
  exact ⟨rfl, rfl⟩

set_option maxRecDepth 100000 in
set_option maxHeartbeats 4000000 in
theorem c_X8_toHush_n {l : Launch} {G : hc_Geo} (hG : hc_ok G) {M : hc_Mem} {v1 v2 v3 : Int32}  (h0 : ¬ M 54 0 = 1) : hc_M l G yX8_toHush cX8_toHush 8 (some .int) 2 [.ref (hc_ad G 48), .int v1, .int v2, .int v3] M (hc_pi (fun z M' => -1000002 = z ∧ M = M')) := by
  refine hc_M.of hG (by decide) [some (.ref (hc_ad G 48)), some (.int v1), some (.int v2), some (.int v3), none, none, none, none] rfl (Nat.le_of_ble_eq_true rfl) ?_
  intro p e s m args below meth c C
  refine hc_aload_n C dX8_toHush_0 rfl rfl ?_
  refine hc_cV0i C mv_X8_171 (c_X8_isHouse C.ok) rfl rfl rfl (Nat.le_of_ble_eq_true rfl) (hc_rr_rm (by decide)) ⟨Nat.zero_le _, Nat.zero_le _⟩ dX8_toHush_1 (fun r_1 M_1 h_1 => ?_)
  obtain ⟨rfl, rfl⟩ := h_1
  refine hc_if_ne C (tgt := 10) dX8_toHush_4 (by decide) (fun c_4 => ?_) (fun c_4 => ?_)
  · exact absurd (hb_f h0) c_4
  refine hc_ldc C kc_X8_174 dX8_toHush_7 ?_
  refine hc_iret C rfl dX8_toHush_9 ?_
  exact ⟨rfl, rfl⟩

set_option maxRecDepth 100000 in
set_option maxHeartbeats 4000000 in
theorem c_X8_toCall_n {l : Launch} {G : hc_Geo} (hG : hc_ok G) {M : hc_Mem} {v1 v2 v3 : Int32}  (h0 : ¬ M 54 0 = 1) : hc_M l G yX8_toCall cX8_toCall 7 (some .int) 2 [.ref (hc_ad G 48), .int v1, .int v2, .int v3] M (hc_pi (fun z M' => -1000002 = z ∧ M = M')) := by
  refine hc_M.of hG (by decide) [some (.ref (hc_ad G 48)), some (.int v1), some (.int v2), some (.int v3), none, none, none] rfl (Nat.le_of_ble_eq_true rfl) ?_
  intro p e s m args below meth c C
  refine hc_aload_n C dX8_toCall_0 rfl rfl ?_
  refine hc_cV0i C mv_X8_171 (c_X8_isHouse C.ok) rfl rfl rfl (Nat.le_of_ble_eq_true rfl) (hc_rr_rm (by decide)) ⟨Nat.zero_le _, Nat.zero_le _⟩ dX8_toCall_1 (fun r_1 M_1 h_1 => ?_)
  obtain ⟨rfl, rfl⟩ := h_1
  refine hc_if_ne C (tgt := 10) dX8_toCall_4 (by decide) (fun c_4 => ?_) (fun c_4 => ?_)
  · exact absurd (hb_f h0) c_4
  refine hc_ldc C kc_X8_174 dX8_toCall_7 ?_
  refine hc_iret C rfl dX8_toCall_9 ?_
  exact ⟨rfl, rfl⟩

set_option maxRecDepth 100000 in
set_option maxHeartbeats 4000000 in
theorem c_X8_who_n {l : Launch} {G : hc_Geo} (hG : hc_ok G) {M : hc_Mem} {v1 v2 v3 v4 : Int32}  (h0 : ¬ M 54 0 = 1) : hc_M l G yX8_who cX8_who 9 (some .int) 2 [.ref (hc_ad G 48), .int v1, .int v2, .int v3, .int v4] M (hc_pi (fun z M' => -1000002 = z ∧ M = M')) := by
  refine hc_M.of hG (by decide) [some (.ref (hc_ad G 48)), some (.int v1), some (.int v2), some (.int v3), some (.int v4), none, none, none, none] rfl (Nat.le_of_ble_eq_true rfl) ?_
  intro p e s m args below meth c C
  refine hc_aload_n C dX8_who_0 rfl rfl ?_
  refine hc_cV0i C mv_X8_171 (c_X8_isHouse C.ok) rfl rfl rfl (Nat.le_of_ble_eq_true rfl) (hc_rr_rm (by decide)) ⟨Nat.zero_le _, Nat.zero_le _⟩ dX8_who_1 (fun r_1 M_1 h_1 => ?_)
  obtain ⟨rfl, rfl⟩ := h_1
  refine hc_if_ne C (tgt := 10) dX8_who_4 (by decide) (fun c_4 => ?_) (fun c_4 => ?_)
  · exact absurd (hb_f h0) c_4
  refine hc_ldc C kc_X8_174 dX8_who_7 ?_
  refine hc_iret C rfl dX8_who_9 ?_
  exact ⟨rfl, rfl⟩

set_option maxRecDepth 100000 in
set_option maxHeartbeats 4000000 in
theorem c_X8_odds_n {l : Launch} {G : hc_Geo} (hG : hc_ok G) {M : hc_Mem} {v1 v2 v3 : Int32}  (h0 : ¬ M 54 0 = 1) : hc_M l G yX8_odds cX8_odds 10 (some .int) 2 [.ref (hc_ad G 48), .int v1, .int v2, .int v3] M (hc_pi (fun z M' => -1000002 = z ∧ M = M')) := by
  refine hc_M.of hG (by decide) [some (.ref (hc_ad G 48)), some (.int v1), some (.int v2), some (.int v3), none, none, none, none, none, none] rfl (Nat.le_of_ble_eq_true rfl) ?_
  intro p e s m args below meth c C
  refine hc_aload_n C dX8_odds_0 rfl rfl ?_
  refine hc_cV0i C mv_X8_171 (c_X8_isHouse C.ok) rfl rfl rfl (Nat.le_of_ble_eq_true rfl) (hc_rr_rm (by decide)) ⟨Nat.zero_le _, Nat.zero_le _⟩ dX8_odds_1 (fun r_1 M_1 h_1 => ?_)
  obtain ⟨rfl, rfl⟩ := h_1
  refine hc_if_ne C (tgt := 10) dX8_odds_4 (by decide) (fun c_4 => ?_) (fun c_4 => ?_)
  · exact absurd (hb_f h0) c_4
  refine hc_ldc C kc_X8_174 dX8_odds_7 ?_
  refine hc_iret C rfl dX8_odds_9 ?_
  exact ⟨rfl, rfl⟩

set_option maxRecDepth 100000 in
set_option maxHeartbeats 4000000 in
theorem c_X8_go_b {l : Launch} {G : hc_Geo} (hG : hc_ok G) {M : hc_Mem} {v1 v2 : Int32} {E : Nat}  (hE : M 54 4 = nI E) (hE6 : E < 2 ^ 30) (h0 : ¬ (¬ v1 < 0 ∧ ¬ M 54 4 ≤ v1)) : hc_M l G yX8_go cX8_go 4 (some .int) 3 [.ref (hc_ad G 48), .int v1, .int v2] M (hc_pi (fun z M' => -1000001 = z ∧ M = M')) := by
  refine hc_M.of hG (by decide) [some (.ref (hc_ad G 48)), some (.int v1), some (.int v2), none] rfl (Nat.le_of_ble_eq_true rfl) ?_
  intro p e s m args below meth c C
  refine hc_aload_n C dX8_go_0 rfl rfl ?_
  refine hc_iload_n C dX8_go_1 rfl rfl ?_
  refine hc_cV1i C mv_X8_178 (c_X8_isEar C.ok hE hE6) rfl rfl rfl (Nat.le_of_ble_eq_true rfl) (hc_rr_rm (by decide)) ⟨Nat.zero_le _, Nat.zero_le _⟩ dX8_go_2 (fun r_2 M_2 h_2 => ?_)
  obtain ⟨rfl, rfl⟩ := h_2
  refine hc_if_eq C (tgt := 17) dX8_go_5 (by decide) (fun c_5 => ?_) (fun c_5 => ?_)
  rotate_left
  · exact absurd (hb_f h0) c_5
  refine hc_ldc C kc_X8_64 dX8_go_17 ?_
  refine hc_iret C rfl dX8_go_19 ?_
  exact ⟨rfl, rfl⟩

set_option maxRecDepth 100000 in
set_option maxHeartbeats 4000000 in
theorem c_X8_hush_b {l : Launch} {G : hc_Geo} (hG : hc_ok G) {M : hc_Mem} {v1 v2 : Int32} {E : Nat}  (hE : M 54 4 = nI E) (hE6 : E < 2 ^ 30) (h0 : ¬ (¬ v1 < 0 ∧ ¬ M 54 4 ≤ v1)) : hc_M l G yX8_hush cX8_hush 3 (some .int) 3 [.ref (hc_ad G 48), .int v1, .int v2] M (hc_pi (fun z M' => -1000001 = z ∧ M = M')) := by
  refine hc_M.of hG (by decide) [some (.ref (hc_ad G 48)), some (.int v1), some (.int v2)] rfl (Nat.le_of_ble_eq_true rfl) ?_
  intro p e s m args below meth c C
  refine hc_aload_n C dX8_hush_0 rfl rfl ?_
  refine hc_iload_n C dX8_hush_1 rfl rfl ?_
  refine hc_cV1i C mv_X8_178 (c_X8_isEar C.ok hE hE6) rfl rfl rfl (Nat.le_of_ble_eq_true rfl) (hc_rr_rm (by decide)) ⟨Nat.zero_le _, Nat.zero_le _⟩ dX8_hush_2 (fun r_2 M_2 h_2 => ?_)
  obtain ⟨rfl, rfl⟩ := h_2
  refine hc_if_eq C (tgt := 17) dX8_hush_5 (by decide) (fun c_5 => ?_) (fun c_5 => ?_)
  rotate_left
  · exact absurd (hb_f h0) c_5
  refine hc_ldc C kc_X8_64 dX8_hush_17 ?_
  refine hc_iret C rfl dX8_hush_19 ?_
  exact ⟨rfl, rfl⟩

set_option maxRecDepth 100000 in
set_option maxHeartbeats 4000000 in
theorem c_X8_heed_b {l : Launch} {G : hc_Geo} (hG : hc_ok G) {M : hc_Mem} {v1 v2 v3 v4 : Int32} {E : Nat}  (hE : M 54 4 = nI E) (hE6 : E < 2 ^ 30) (h0 : ¬ (¬ v1 < 0 ∧ ¬ M 54 4 ≤ v1)) : hc_M l G yX8_heed cX8_heed 7 (some .int) 3 [.ref (hc_ad G 48), .int v1, .int v2, .int v3, .int v4] M (hc_pi (fun z M' => -1000001 = z ∧ M = M')) := by
  refine hc_M.of hG (by decide) [some (.ref (hc_ad G 48)), some (.int v1), some (.int v2), some (.int v3), some (.int v4), none, none] rfl (Nat.le_of_ble_eq_true rfl) ?_
  intro p e s m args below meth c C
  refine hc_aload_n C dX8_heed_0 rfl rfl ?_
  refine hc_iload_n C dX8_heed_1 rfl rfl ?_
  refine hc_cV1i C mv_X8_178 (c_X8_isEar C.ok hE hE6) rfl rfl rfl (Nat.le_of_ble_eq_true rfl) (hc_rr_rm (by decide)) ⟨Nat.zero_le _, Nat.zero_le _⟩ dX8_heed_2 (fun r_2 M_2 h_2 => ?_)
  obtain ⟨rfl, rfl⟩ := h_2
  refine hc_if_eq C (tgt := 26) dX8_heed_5 (by decide) (fun c_5 => ?_) (fun c_5 => ?_)
  rotate_left
  · exact absurd (hb_f h0) c_5
  refine hc_ldc C kc_X8_64 dX8_heed_26 ?_
  refine hc_iret C rfl dX8_heed_28 ?_
  exact ⟨rfl, rfl⟩

set_option maxRecDepth 100000 in
set_option maxHeartbeats 4000000 in
theorem c_X8_older_b {l : Launch} {G : hc_Geo} (hG : hc_ok G) {M : hc_Mem} {v1 v2 v3 : Int32} {E : Nat}  (hE : M 54 4 = nI E) (hE6 : E < 2 ^ 30) (h0 : ¬ (¬ v1 < 0 ∧ ¬ M 54 4 ≤ v1)) : hc_M l G yX8_older cX8_older 4 (some .int) 3 [.ref (hc_ad G 48), .int v1, .int v2, .int v3] M (hc_pi (fun z M' => -1000001 = z ∧ M = M')) := by
  refine hc_M.of hG (by decide) [some (.ref (hc_ad G 48)), some (.int v1), some (.int v2), some (.int v3)] rfl (Nat.le_of_ble_eq_true rfl) ?_
  intro p e s m args below meth c C
  refine hc_aload_n C dX8_older_0 rfl rfl ?_
  refine hc_iload_n C dX8_older_1 rfl rfl ?_
  refine hc_cV1i C mv_X8_178 (c_X8_isEar C.ok hE hE6) rfl rfl rfl (Nat.le_of_ble_eq_true rfl) (hc_rr_rm (by decide)) ⟨Nat.zero_le _, Nat.zero_le _⟩ dX8_older_2 (fun r_2 M_2 h_2 => ?_)
  obtain ⟨rfl, rfl⟩ := h_2
  refine hc_if_eq C (tgt := 31) dX8_older_5 (by decide) (fun c_5 => ?_) (fun c_5 => ?_)
  rotate_left
  · exact absurd (hb_f h0) c_5
  refine hc_ldc C kc_X8_64 dX8_older_31 ?_
  refine hc_iret C rfl dX8_older_33 ?_
  exact ⟨rfl, rfl⟩

set_option maxRecDepth 100000 in
set_option maxHeartbeats 4000000 in
theorem c_X8_as_b {l : Launch} {G : hc_Geo} (hG : hc_ok G) {M : hc_Mem} {v1 v2 : Int32} {E : Nat}  (hE : M 54 4 = nI E) (hE6 : E < 2 ^ 30) (h0 : ¬ (¬ v1 < 0 ∧ ¬ M 54 4 ≤ v1)) : hc_M l G yX8_as cX8_as 5 (some .int) 3 [.ref (hc_ad G 48), .int v1, .int v2] M (hc_pi (fun z M' => -1000001 = z ∧ M = M')) := by
  refine hc_M.of hG (by decide) [some (.ref (hc_ad G 48)), some (.int v1), some (.int v2), none, none] rfl (Nat.le_of_ble_eq_true rfl) ?_
  intro p e s m args below meth c C
  refine hc_aload_n C dX8_as_0 rfl rfl ?_
  refine hc_iload_n C dX8_as_1 rfl rfl ?_
  refine hc_cV1i C mv_X8_178 (c_X8_isEar C.ok hE hE6) rfl rfl rfl (Nat.le_of_ble_eq_true rfl) (hc_rr_rm (by decide)) ⟨Nat.zero_le _, Nat.zero_le _⟩ dX8_as_2 (fun r_2 M_2 h_2 => ?_)
  obtain ⟨rfl, rfl⟩ := h_2
  refine hc_if_eq C (tgt := 17) dX8_as_5 (by decide) (fun c_5 => ?_) (fun c_5 => ?_)
  rotate_left
  · exact absurd (hb_f h0) c_5
  refine hc_ldc C kc_X8_64 dX8_as_17 ?_
  refine hc_iret C rfl dX8_as_19 ?_
  exact ⟨rfl, rfl⟩

set_option maxRecDepth 100000 in
set_option maxHeartbeats 4000000 in
theorem c_X8_ask_b {l : Launch} {G : hc_Geo} (hG : hc_ok G) {M : hc_Mem} {v1 v2 : Int32} {E : Nat}  (hE : M 54 4 = nI E) (hE6 : E < 2 ^ 30) (h0 : ¬ (¬ v1 < 0 ∧ ¬ M 54 4 ≤ v1)) : hc_M l G yX8_ask cX8_ask 4 (some .int) 3 [.ref (hc_ad G 48), .int v1, .int v2] M (hc_pi (fun z M' => -1000001 = z ∧ M = M')) := by
  refine hc_M.of hG (by decide) [some (.ref (hc_ad G 48)), some (.int v1), some (.int v2), none] rfl (Nat.le_of_ble_eq_true rfl) ?_
  intro p e s m args below meth c C
  refine hc_aload_n C dX8_ask_0 rfl rfl ?_
  refine hc_iload_n C dX8_ask_1 rfl rfl ?_
  refine hc_cV1i C mv_X8_178 (c_X8_isEar C.ok hE hE6) rfl rfl rfl (Nat.le_of_ble_eq_true rfl) (hc_rr_rm (by decide)) ⟨Nat.zero_le _, Nat.zero_le _⟩ dX8_ask_2 (fun r_2 M_2 h_2 => ?_)
  obtain ⟨rfl, rfl⟩ := h_2
  refine hc_if_eq C (tgt := 17) dX8_ask_5 (by decide) (fun c_5 => ?_) (fun c_5 => ?_)
  rotate_left
  · exact absurd (hb_f h0) c_5
  refine hc_ldc C kc_X8_64 dX8_ask_17 ?_
  refine hc_iret C rfl dX8_ask_19 ?_
  exact ⟨rfl, rfl⟩

set_option maxRecDepth 100000 in
set_option maxHeartbeats 4000000 in
theorem c_X8_kind_b {l : Launch} {G : hc_Geo} (hG : hc_ok G) {M : hc_Mem} {v1 : Int32} {E : Nat}  (hE : M 54 4 = nI E) (hE6 : E < 2 ^ 30) (h0 : ¬ (¬ v1 < 0 ∧ ¬ M 54 4 ≤ v1)) : hc_M l G yX8_kind cX8_kind 2 (some .int) 3 [.ref (hc_ad G 48), .int v1] M (hc_pi (fun z M' => -1000001 = z ∧ M = M')) := by
  refine hc_M.of hG (by decide) [some (.ref (hc_ad G 48)), some (.int v1)] rfl (Nat.le_of_ble_eq_true rfl) ?_
  intro p e s m args below meth c C
  refine hc_aload_n C dX8_kind_0 rfl rfl ?_
  refine hc_iload_n C dX8_kind_1 rfl rfl ?_
  refine hc_cV1i C mv_X8_178 (c_X8_isEar C.ok hE hE6) rfl rfl rfl (Nat.le_of_ble_eq_true rfl) (hc_rr_rm (by decide)) ⟨Nat.zero_le _, Nat.zero_le _⟩ dX8_kind_2 (fun r_2 M_2 h_2 => ?_)
  obtain ⟨rfl, rfl⟩ := h_2
  refine hc_if_eq C (tgt := 16) dX8_kind_5 (by decide) (fun c_5 => ?_) (fun c_5 => ?_)
  rotate_left
  · exact absurd (hb_f h0) c_5
  refine hc_ldc C kc_X8_64 dX8_kind_16 ?_
  refine hc_iret C rfl dX8_kind_18 ?_
  exact ⟨rfl, rfl⟩

set_option maxRecDepth 100000 in
set_option maxHeartbeats 4000000 in
theorem c_X8_ear_b {l : Launch} {G : hc_Geo} (hG : hc_ok G) {M : hc_Mem} {v1 v2 : Int32} {E : Nat}  (hE : M 54 4 = nI E) (hE6 : E < 2 ^ 30) (h0 : ¬ (¬ v1 < 0 ∧ ¬ M 54 4 ≤ v1)) : hc_M l G yX8_ear cX8_ear 4 (some .int) 3 [.ref (hc_ad G 48), .int v1, .int v2] M (hc_pi (fun z M' => -1000001 = z ∧ M = M')) := by
  refine hc_M.of hG (by decide) [some (.ref (hc_ad G 48)), some (.int v1), some (.int v2), none] rfl (Nat.le_of_ble_eq_true rfl) ?_
  intro p e s m args below meth c C
  refine hc_aload_n C dX8_ear_0 rfl rfl ?_
  refine hc_iload_n C dX8_ear_1 rfl rfl ?_
  refine hc_cV1i C mv_X8_178 (c_X8_isEar C.ok hE hE6) rfl rfl rfl (Nat.le_of_ble_eq_true rfl) (hc_rr_rm (by decide)) ⟨Nat.zero_le _, Nat.zero_le _⟩ dX8_ear_2 (fun r_2 M_2 h_2 => ?_)
  obtain ⟨rfl, rfl⟩ := h_2
  refine hc_if_ne C (tgt := 11) dX8_ear_5 (by decide) (fun c_5 => ?_) (fun c_5 => ?_)
  · exact absurd (hb_f h0) c_5
  refine hc_ldc C kc_X8_64 dX8_ear_8 ?_
  refine hc_iret C rfl dX8_ear_10 ?_
  exact ⟨rfl, rfl⟩

set_option maxRecDepth 100000 in
set_option maxHeartbeats 4000000 in
theorem c_X8_done_b {l : Launch} {G : hc_Geo} (hG : hc_ok G) {M : hc_Mem} {v1 : Int32} {E : Nat}  (hE : M 54 5 = nI E) (hE6 : E < 2 ^ 30) (h0 : ¬ (¬ v1 < 0 ∧ ¬ M 54 5 ≤ v1)) : hc_M l G yX8_done cX8_done 2 (some .int) 3 [.ref (hc_ad G 48), .int v1] M (hc_pi (fun z M' => -1000001 = z ∧ M = M')) := by
  refine hc_M.of hG (by decide) [some (.ref (hc_ad G 48)), some (.int v1)] rfl (Nat.le_of_ble_eq_true rfl) ?_
  intro p e s m args below meth c C
  refine hc_aload_n C dX8_done_0 rfl rfl ?_
  refine hc_iload_n C dX8_done_1 rfl rfl ?_
  refine hc_cV1i C mv_X8_194 (c_X8_isDoing C.ok hE hE6) rfl rfl rfl (Nat.le_of_ble_eq_true rfl) (hc_rr_rm (by decide)) ⟨Nat.zero_le _, Nat.zero_le _⟩ dX8_done_2 (fun r_2 M_2 h_2 => ?_)
  obtain ⟨rfl, rfl⟩ := h_2
  refine hc_if_ne C (tgt := 11) dX8_done_5 (by decide) (fun c_5 => ?_) (fun c_5 => ?_)
  · exact absurd (hb_f h0) c_5
  refine hc_ldc C kc_X8_64 dX8_done_8 ?_
  refine hc_iret C rfl dX8_done_10 ?_
  exact ⟨rfl, rfl⟩

set_option maxRecDepth 100000 in
set_option maxHeartbeats 4000000 in
theorem c_X8_latest_b {l : Launch} {G : hc_Geo} (hG : hc_ok G) {M : hc_Mem} {v1 : Int32} {E : Nat}  (hE : M 54 5 = nI E) (hE6 : E < 2 ^ 30) (h0 : ¬ (¬ v1 < 0 ∧ ¬ M 54 5 ≤ v1)) : hc_M l G yX8_latest cX8_latest 6 (some .int) 3 [.ref (hc_ad G 48), .int v1] M (hc_pi (fun z M' => -1000001 = z ∧ M = M')) := by
  refine hc_M.of hG (by decide) [some (.ref (hc_ad G 48)), some (.int v1), none, none, none, none] rfl (Nat.le_of_ble_eq_true rfl) ?_
  intro p e s m args below meth c C
  refine hc_aload_n C dX8_latest_0 rfl rfl ?_
  refine hc_iload_n C dX8_latest_1 rfl rfl ?_
  refine hc_cV1i C mv_X8_194 (c_X8_isDoing C.ok hE hE6) rfl rfl rfl (Nat.le_of_ble_eq_true rfl) (hc_rr_rm (by decide)) ⟨Nat.zero_le _, Nat.zero_le _⟩ dX8_latest_2 (fun r_2 M_2 h_2 => ?_)
  obtain ⟨rfl, rfl⟩ := h_2
  refine hc_if_ne C (tgt := 11) dX8_latest_5 (by decide) (fun c_5 => ?_) (fun c_5 => ?_)
  · exact absurd (hb_f h0) c_5
  refine hc_ldc C kc_X8_64 dX8_latest_8 ?_
  refine hc_iret C rfl dX8_latest_10 ?_
  exact ⟨rfl, rfl⟩

set_option maxRecDepth 100000 in
set_option maxHeartbeats 4000000 in
theorem c_X8_undo_0 {l : Launch} {G : hc_Geo} (hG : hc_ok G) {M : hc_Mem}  (h0 : M 48 16 = 0) : hc_M l G yX8_undo cX8_undo 1 (some .int) 1 [.ref (hc_ad G 48)] M (hc_pi (fun z M' => -1000002 = z ∧ M = M')) := by
  refine hc_M.of hG (by decide) [some (.ref (hc_ad G 48))] rfl (Nat.le_of_ble_eq_true rfl) ?_
  intro p e s m args below meth c C
  refine hc_aload_n C dX8_undo_0 rfl rfl ?_
  refine hc_getI C fl_X8_138 rfl rfl dX8_undo_1 ?_
  refine hc_if_ne C (tgt := 10) dX8_undo_4 (by decide) (fun c_4 => ?_) (fun c_4 => ?_)
  · exact absurd h0 c_4
  refine hc_ldc C kc_X8_174 dX8_undo_7 ?_
  refine hc_iret C rfl dX8_undo_9 ?_
  exact ⟨rfl, rfl⟩

set_option maxRecDepth 100000 in
set_option maxHeartbeats 4000000 in
theorem c_X8_fault {l : Launch} {G : hc_Geo} (hG : hc_ok G) {M : hc_Mem}  : hc_M l G yX8_fault cX8_fault 1 (some .int) 1 [.ref (hc_ad G 48)] M (hc_pi (fun z M' => M 48 7 = z ∧ M = M')) := by
  refine hc_M.of hG (by decide) [some (.ref (hc_ad G 48))] rfl (Nat.le_of_ble_eq_true rfl) ?_
  intro p e s m args below meth c C
  refine hc_aload_n C dX8_fault_0 rfl rfl ?_
  refine hc_getI C fl_X8_108 rfl rfl dX8_fault_1 ?_
  refine hc_iret C rfl dX8_fault_4 ?_
  exact ⟨rfl, rfl⟩

set_option maxRecDepth 100000 in
set_option maxHeartbeats 4000000 in
theorem c_X8_status {l : Launch} {G : hc_Geo} (hG : hc_ok G) {M : hc_Mem}  : hc_M l G yX8_status cX8_status 1 (some .int) 1 [.ref (hc_ad G 48)] M (hc_pi (fun z M' => M 48 4 = z ∧ M = M')) := by
  refine hc_M.of hG (by decide) [some (.ref (hc_ad G 48))] rfl (Nat.le_of_ble_eq_true rfl) ?_
  intro p e s m args below meth c C
  refine hc_aload_n C dX8_status_0 rfl rfl ?_
  refine hc_getI C fl_X8_51 rfl rfl dX8_status_1 ?_
  refine hc_iret C rfl dX8_status_4 ?_
  exact ⟨rfl, rfl⟩

set_option maxRecDepth 100000 in
set_option maxHeartbeats 4000000 in
theorem c_X8_image_b {l : Launch} {G : hc_Geo} (hG : hc_ok G) {M : hc_Mem} {k : Int32}  (h0 : ¬ (¬ k < 0 ∧ ¬ 1 < k)) : hc_M l G yX8_image cX8_image 2 (some .int) 2 [.ref (hc_ad G 48), .int k] M (hc_pi (fun z M' => -1000001 = z ∧ M = M')) := by
  refine hc_M.of hG (by decide) [some (.ref (hc_ad G 48)), some (.int k)] rfl (Nat.le_of_ble_eq_true rfl) ?_
  intro p e s m args below meth c C
  refine hc_iload_n C dX8_image_0 rfl rfl ?_
  refine hc_iconst C dX8_image_1 (v := 0) rfl ?_
  refine hc_iconst C dX8_image_2 (v := 1) rfl ?_
  refine hc_cS3i C ms_X8_56 (c_X8_in C.ok) (Nat.le_of_ble_eq_true rfl) (hc_rr_rm (by decide)) ⟨Nat.zero_le _, Nat.zero_le _⟩ dX8_image_3 (fun r_3 M_3 h_3 => ?_)
  obtain ⟨rfl, rfl⟩ := h_3
  refine hc_if_ne C (tgt := 12) dX8_image_6 (by decide) (fun c_6 => ?_) (fun c_6 => ?_)
  · exact absurd (hb_f h0) c_6
  refine hc_ldc C kc_X8_64 dX8_image_9 ?_
  refine hc_iret C rfl dX8_image_11 ?_
  exact ⟨rfl, rfl⟩

set_option maxRecDepth 100000 in
set_option maxHeartbeats 4000000 in
theorem c_X8_image_n {l : Launch} {G : hc_Geo} (hG : hc_ok G) {M : hc_Mem} {k : Int32}  (h0 : ¬ k < 0 ∧ ¬ 1 < k) (h1 : ¬ M 54 0 = 1) : hc_M l G yX8_image cX8_image 2 (some .int) 2 [.ref (hc_ad G 48), .int k] M (hc_pi (fun z M' => -1000002 = z ∧ M = M')) := by
  refine hc_M.of hG (by decide) [some (.ref (hc_ad G 48)), some (.int k)] rfl (Nat.le_of_ble_eq_true rfl) ?_
  intro p e s m args below meth c C
  refine hc_iload_n C dX8_image_0 rfl rfl ?_
  refine hc_iconst C dX8_image_1 (v := 0) rfl ?_
  refine hc_iconst C dX8_image_2 (v := 1) rfl ?_
  refine hc_cS3i C ms_X8_56 (c_X8_in C.ok) (Nat.le_of_ble_eq_true rfl) (hc_rr_rm (by decide)) ⟨Nat.zero_le _, Nat.zero_le _⟩ dX8_image_3 (fun r_3 M_3 h_3 => ?_)
  obtain ⟨rfl, rfl⟩ := h_3
  refine hc_if_ne C (tgt := 12) dX8_image_6 (by decide) (fun c_6 => ?_) (fun c_6 => ?_)
  rotate_left
  · exact absurd h0 (hb_z.mp c_6)
  refine hc_aload_n C dX8_image_12 rfl rfl ?_
  refine hc_cV0i C mv_X8_171 (c_X8_isHouse C.ok) rfl rfl rfl (Nat.le_of_ble_eq_true rfl) (hc_rr_rm (by decide)) ⟨Nat.zero_le _, Nat.zero_le _⟩ dX8_image_13 (fun r_13 M_13 h_13 => ?_)
  obtain ⟨rfl, rfl⟩ := h_13
  refine hc_if_ne C (tgt := 22) dX8_image_16 (by decide) (fun c_16 => ?_) (fun c_16 => ?_)
  · exact absurd (hb_f h1) c_16
  refine hc_ldc C kc_X8_174 dX8_image_19 ?_
  refine hc_iret C rfl dX8_image_21 ?_
  exact ⟨rfl, rfl⟩

set_option maxRecDepth 100000 in
set_option maxHeartbeats 4000000 in
theorem c_X8_restore_b {l : Launch} {G : hc_Geo} (hG : hc_ok G) {M : hc_Mem} {k : Int32}  (h0 : ¬ (¬ k < 0 ∧ ¬ 1 < k)) : hc_M l G yX8_restore cX8_restore 2 (some .int) 2 [.ref (hc_ad G 48), .int k] M (hc_pi (fun z M' => -1000001 = z ∧ M = M')) := by
  refine hc_M.of hG (by decide) [some (.ref (hc_ad G 48)), some (.int k)] rfl (Nat.le_of_ble_eq_true rfl) ?_
  intro p e s m args below meth c C
  refine hc_iload_n C dX8_restore_0 rfl rfl ?_
  refine hc_iconst C dX8_restore_1 (v := 0) rfl ?_
  refine hc_iconst C dX8_restore_2 (v := 1) rfl ?_
  refine hc_cS3i C ms_X8_56 (c_X8_in C.ok) (Nat.le_of_ble_eq_true rfl) (hc_rr_rm (by decide)) ⟨Nat.zero_le _, Nat.zero_le _⟩ dX8_restore_3 (fun r_3 M_3 h_3 => ?_)
  obtain ⟨rfl, rfl⟩ := h_3
  refine hc_if_ne C (tgt := 12) dX8_restore_6 (by decide) (fun c_6 => ?_) (fun c_6 => ?_)
  · exact absurd (hb_f h0) c_6
  refine hc_ldc C kc_X8_64 dX8_restore_9 ?_
  refine hc_iret C rfl dX8_restore_11 ?_
  exact ⟨rfl, rfl⟩

set_option maxRecDepth 100000 in
set_option maxHeartbeats 4000000 in
theorem c_X8_restore_n {l : Launch} {G : hc_Geo} (hG : hc_ok G) {M : hc_Mem} {k : Nat}  (hk : k < 2) (h1 : M 58 k = 0) : hc_M l G yX8_restore cX8_restore 2 (some .int) 2 [.ref (hc_ad G 48), .int (nI k)] M (hc_pi (fun z M' => -1000002 = z ∧ M = M')) := by
  refine hc_M.of hG (by decide) [some (.ref (hc_ad G 48)), some (.int (nI k))] rfl (Nat.le_of_ble_eq_true rfl) ?_
  intro p e s m args below meth c C
  refine hc_iload_n C dX8_restore_0 rfl rfl ?_
  refine hc_iconst C dX8_restore_1 (v := 0) rfl ?_
  refine hc_iconst C dX8_restore_2 (v := 1) rfl ?_
  refine hc_cS3i C ms_X8_56 (c_X8_in C.ok) (Nat.le_of_ble_eq_true rfl) (hc_rr_rm (by decide)) ⟨Nat.zero_le _, Nat.zero_le _⟩ dX8_restore_3 (fun r_3 M_3 h_3 => ?_)
  obtain ⟨rfl, rfl⟩ := h_3
  refine hc_if_ne C (tgt := 12) dX8_restore_6 (by decide) (fun c_6 => ?_) (fun c_6 => ?_)
  rotate_left
  · exact absurd ⟨nI_pos (by omega), show ¬ nI 1 < nI k from nI_nlt (show k ≤ 1 by omega) (by omega)⟩ (hb_z.mp c_6)
  refine hc_aload_n C dX8_restore_12 rfl rfl ?_
  refine hc_getR C fl_X8_37 rfl rfl dX8_restore_13 ?_
  refine hc_iload_n C dX8_restore_16 rfl rfl ?_
  refine hc_zaldN C (j := k) rfl rfl (by omega) dX8_restore_17 ?_
  refine hc_if_ne C (tgt := 24) dX8_restore_18 (by decide) (fun c_18 => ?_) (fun c_18 => ?_)
  · exact absurd h1 c_18
  refine hc_ldc C kc_X8_174 dX8_restore_21 ?_
  refine hc_iret C rfl dX8_restore_23 ?_
  exact ⟨rfl, rfl⟩

set_option maxRecDepth 100000 in
set_option maxHeartbeats 4000000 in
theorem c_X8_trace_n {l : Launch} {G : hc_Geo} (hG : hc_ok G) {M : hc_Mem} {i : Int32} {n : Nat}  (hn : M 48 22 = nI n) (hn6 : n ≤ 16) (h0 : ¬ (¬ i < 0 ∧ ¬ M 48 22 ≤ i)) : hc_M l G yX8_trace cX8_trace 2 (some .int) 2 [.ref (hc_ad G 48), .int i] M (hc_pi (fun z M' => -1000000 = z ∧ M = M')) := by
  refine hc_M.of hG (by decide) [some (.ref (hc_ad G 48)), some (.int i)] rfl (Nat.le_of_ble_eq_true rfl) ?_
  intro p e s m args below meth c C
  refine hc_iload_n C dX8_trace_0 rfl rfl ?_
  refine hc_iconst C dX8_trace_1 (v := 0) rfl ?_
  refine hc_aload_n C dX8_trace_2 rfl rfl ?_
  refine hc_getI C fl_X8_209 rfl rfl dX8_trace_3 ?_
  refine hc_iconst C dX8_trace_6 (v := 1) rfl ?_
  refine hc_isub C dX8_trace_7 ?_
  refine hc_cS3i C ms_X8_56 (c_X8_in C.ok) (Nat.le_of_ble_eq_true rfl) (hc_rr_rm (by decide)) ⟨Nat.zero_le _, Nat.zero_le _⟩ dX8_trace_8 (fun r_8 M_8 h_8 => ?_)
  obtain ⟨rfl, rfl⟩ := h_8
  refine hc_if_eq C (tgt := 23) dX8_trace_11 (by decide) (fun c_11 => ?_) (fun c_11 => ?_)
  rotate_left
  · exact absurd (hb_z.mpr (by rw [hn, hx_pred (by omega), ← hn]; exact h0)) c_11
  refine hc_ldc C kc_X8_50 dX8_trace_23 ?_
  refine hc_iret C rfl dX8_trace_25 ?_
  exact ⟨rfl, rfl⟩

set_option maxRecDepth 100000 in
set_option maxHeartbeats 4000000 in
theorem c_X8_trace_o {l : Launch} {G : hc_Geo} (hG : hc_ok G) {M : hc_Mem} {i n : Nat}  (hn : M 48 22 = nI n) (hn6 : n ≤ 16) (hi : i < n) : hc_M l G yX8_trace cX8_trace 2 (some .int) 2 [.ref (hc_ad G 48), .int (nI i)] M (hc_pi (fun z M' => M 61 i = z ∧ M = M')) := by
  refine hc_M.of hG (by decide) [some (.ref (hc_ad G 48)), some (.int (nI i))] rfl (Nat.le_of_ble_eq_true rfl) ?_
  intro p e s m args below meth c C
  refine hc_iload_n C dX8_trace_0 rfl rfl ?_
  refine hc_iconst C dX8_trace_1 (v := 0) rfl ?_
  refine hc_aload_n C dX8_trace_2 rfl rfl ?_
  refine hc_getI C fl_X8_209 rfl rfl dX8_trace_3 ?_
  refine hc_iconst C dX8_trace_6 (v := 1) rfl ?_
  refine hc_isub C dX8_trace_7 ?_
  refine hc_cS3i C ms_X8_56 (c_X8_in C.ok) (Nat.le_of_ble_eq_true rfl) (hc_rr_rm (by decide)) ⟨Nat.zero_le _, Nat.zero_le _⟩ dX8_trace_8 (fun r_8 M_8 h_8 => ?_)
  obtain ⟨rfl, rfl⟩ := h_8
  refine hc_if_eq C (tgt := 23) dX8_trace_11 (by decide) (fun c_11 => ?_) (fun c_11 => ?_)
  · exact absurd (show _ ∧ _ from ⟨nI_pos (by omega), by rw [hn, hx_pred (by omega)]; exact nI_ge hi (by omega)⟩) (hb_z.mp c_11)
  refine hc_aload_n C dX8_trace_14 rfl rfl ?_
  refine hc_getR C fl_X8_47 rfl rfl dX8_trace_15 ?_
  refine hc_iload_n C dX8_trace_18 rfl rfl ?_
  refine hc_ialdN C (j := i) rfl rfl (by omega) dX8_trace_19 ?_
  refine hc_goto C (tgt := 25) dX8_trace_20 (by decide) ?_
  refine hc_iret C rfl dX8_trace_25 ?_
  exact ⟨rfl, rfl⟩

def hc_presR (M : hc_Mem) : Nat → Nat
  | 0 => 0
  | j + 1 => hc_presR M j + (if M 49 j = -1000000 then 0 else 1)
def hc_hs (M : hc_Mem) : Nat → Int32
  | 0 => 0
  | e + 1 => hc_hs M e + M 54 (6 + 7 * e + 5)
def hc_in0 (M : hc_Mem) : Nat → Nat
  | 0 => 0
  | e + 1 => hc_in0 M e + (if M 54 (6 + 7 * e + 2) = 0 then 1 else 0)

set_option maxRecDepth 100000 in
set_option maxHeartbeats 4000000 in
theorem lp_R_count0 {G : hc_Geo} {p : Program} {l : Launch} {e : Env} {d : Nat} {s : State} {m : MethodId} {args : Array Value} {below : List Frame} {meth : Method} {c : Code} {Q : State → Prop} (C : hc_Cx G hc_lay cX8_count 4 (some .int) yX8_count.cls p s m args meth c) {M : hc_Mem} (hd : 1 < d) 
    (kk : hc_W G hc_lay p l e (hc_rm d) s m args below meth c 4 0 0 Q 78 [some (.ref (hc_ad G 48)), some (.int 0), some (.int (nI (hc_presR M 8))), some (.int (nI 8))] [] M) :
    ∀ (t : Nat) (i : Nat), i + t = 8 → hc_W G hc_lay p l e (hc_rm d) s m args below meth c 4 0 0 Q 50 [some (.ref (hc_ad G 48)), some (.int 0), some (.int (nI (hc_presR M i))), some (.int (nI i))] [] M := by
  intro t
  induction t with
  | zero =>
    intro i hi
    refine hc_iload_n C dX8_count_50 rfl rfl ?_
    refine hc_bipush C dX8_count_51 (v := 8) rfl ?_
    refine hc_icmp_ge C (tgt := 78) dX8_count_53 (by decide) (fun c_53 => ?_) (fun c_53 => ?_)
    rotate_left
    · exact absurd (show (8 : Int32) ≤ nI i from by rw [show i = 8 by omega]; decide) c_53
    rw [show i = 8 by omega]
    exact kk
  | succ t ih =>
    intro i hi
    refine hc_iload_n C dX8_count_50 rfl rfl ?_
    refine hc_bipush C dX8_count_51 (v := 8) rfl ?_
    refine hc_icmp_ge C (tgt := 78) dX8_count_53 (by decide) (fun c_53 => ?_) (fun c_53 => ?_)
    · exact absurd (show nI 8 ≤ nI i from c_53) (nI_ge (show i < 8 by omega) (by omega))
    refine hc_iload_n C dX8_count_56 rfl rfl ?_
    refine hc_aload_n C dX8_count_57 rfl rfl ?_
    refine hc_iload_n C dX8_count_58 rfl rfl ?_
    refine hc_cV1i C mv_X8_72 (c_X8_isMissing C.ok (show i < 8 by omega)) rfl rfl rfl (Nat.le_of_ble_eq_true rfl) (hc_rr_rm hd) ⟨Nat.zero_le _, Nat.zero_le _⟩ dX8_count_59 (fun r_59 M_59 h_59 => ?_)
    obtain ⟨rfl, rfl⟩ := h_59
    refine hc_if_eq C (tgt := 69) dX8_count_62 (by decide) (fun c_62 => ?_) (fun c_62 => ?_)
    · refine hc_iconst C dX8_count_69 (v := 1) rfl ?_
      refine hc_iadd C dX8_count_70 ?_
      refine hc_top (v := nI (hc_presR M (i + 1))) ?_ ?_
      · first | (rw [hc_presR, if_neg (hb_z.mp c_62)]; exact nI_1 _) | (rw [hc_presR, if_pos (hb_nz.mp c_62)]; exact Int32.add_zero _)
      refine hc_istore_n2 C dX8_count_71 rfl (by decide) rfl ?_
      refine hc_iinc3 C (v := nI (i + 1)) dX8_count_72 (by decide) rfl rfl (nI_1 i) ?_
      refine hc_goto C (tgt := 50) dX8_count_75 (by decide) ?_
      exact ih (i + 1) (by omega)
    · refine hc_iconst C dX8_count_65 (v := 0) rfl ?_
      refine hc_goto C (tgt := 70) dX8_count_66 (by decide) ?_
      refine hc_iadd C dX8_count_70 ?_
      refine hc_top (v := nI (hc_presR M (i + 1))) ?_ ?_
      · first | (rw [hc_presR, if_neg (hb_z.mp c_62)]; exact nI_1 _) | (rw [hc_presR, if_pos (hb_nz.mp c_62)]; exact Int32.add_zero _)
      refine hc_istore_n2 C dX8_count_71 rfl (by decide) rfl ?_
      refine hc_iinc3 C (v := nI (i + 1)) dX8_count_72 (by decide) rfl rfl (nI_1 i) ?_
      refine hc_goto C (tgt := 50) dX8_count_75 (by decide) ?_
      exact ih (i + 1) (by omega)

set_option maxRecDepth 100000 in
set_option maxHeartbeats 4000000 in
theorem lp_R_hushed {G : hc_Geo} {p : Program} {l : Launch} {e : Env} {d : Nat} {s : State} {m : MethodId} {args : Array Value} {below : List Frame} {meth : Method} {c : Code} {Q : State → Prop} (C : hc_Cx G hc_lay cX8_hushed 3 (some .int) yX8_hushed.cls p s m args meth c) {M : hc_Mem} {E : Nat} (hE : M 54 4 = nI E) (hE6 : E ≤ 6) 
    (kk : hc_W G hc_lay p l e (hc_rm d) s m args below meth c 3 0 0 Q 37 [some (.ref (hc_ad G 48)), some (.int (hc_hs M E)), some (.int (nI E))] [] M) :
    ∀ (t : Nat) (i : Nat), i + t = E → hc_W G hc_lay p l e (hc_rm d) s m args below meth c 3 0 0 Q 4 [some (.ref (hc_ad G 48)), some (.int (hc_hs M i)), some (.int (nI i))] [] M := by
  intro t
  induction t with
  | zero =>
    intro i hi
    refine hc_iload_n C dX8_hushed_4 rfl rfl ?_
    refine hc_aload_n C dX8_hushed_5 rfl rfl ?_
    refine hc_getR C fl_X8_25 rfl rfl dX8_hushed_6 ?_
    refine hc_iconst C dX8_hushed_9 (v := 4) rfl ?_
    refine hc_ialdN C (j := 4) rfl rfl (by decide) dX8_hushed_10 ?_
    refine hc_icmp_ge C (tgt := 37) dX8_hushed_11 (by decide) (fun c_11 => ?_) (fun c_11 => ?_)
    rotate_left
    · exact absurd (by rw [hE]; exact nI_le (show E ≤ i by omega) (by omega)) c_11
    rw [show i = E by omega]
    exact kk
  | succ t ih =>
    intro i hi
    refine hc_iload_n C dX8_hushed_4 rfl rfl ?_
    refine hc_aload_n C dX8_hushed_5 rfl rfl ?_
    refine hc_getR C fl_X8_25 rfl rfl dX8_hushed_6 ?_
    refine hc_iconst C dX8_hushed_9 (v := 4) rfl ?_
    refine hc_ialdN C (j := 4) rfl rfl (by decide) dX8_hushed_10 ?_
    refine hc_icmp_ge C (tgt := 37) dX8_hushed_11 (by decide) (fun c_11 => ?_) (fun c_11 => ?_)
    · exact absurd (hE ▸ c_11) (nI_ge (show i < E by omega) (by omega))
    refine hc_iload_n C dX8_hushed_14 rfl rfl ?_
    refine hc_aload_n C dX8_hushed_15 rfl rfl ?_
    refine hc_getR C fl_X8_25 rfl rfl dX8_hushed_16 ?_
    refine hc_bipush C dX8_hushed_19 (v := 6) rfl ?_
    refine hc_bipush C dX8_hushed_21 (v := 7) rfl ?_
    refine hc_iload_n C dX8_hushed_23 rfl rfl ?_
    refine hc_imul C dX8_hushed_24 ?_
    refine hc_iadd C dX8_hushed_25 ?_
    refine hc_iconst C dX8_hushed_26 (v := 5) rfl ?_
    refine hc_iadd C dX8_hushed_27 ?_
    refine hc_ialdN C (j := (6 + 7 * i + 5)) rfl (hx_67 i 5) (by omega) dX8_hushed_28 ?_
    refine hc_iadd C dX8_hushed_29 ?_
    refine hc_istore_n1 C dX8_hushed_30 rfl (by decide) rfl ?_
    refine hc_iinc2 C (v := nI (i + 1)) dX8_hushed_31 (by decide) rfl rfl (nI_1 i) ?_
    refine hc_goto C (tgt := 4) dX8_hushed_34 (by decide) ?_
    exact ih (i + 1) (by omega)

set_option maxRecDepth 100000 in
set_option maxHeartbeats 4000000 in
theorem c_X8_hushed {l : Launch} {G : hc_Geo} (hG : hc_ok G) {M : hc_Mem} {E : Nat}  (hE : M 54 4 = nI E) (hE6 : E ≤ 6) : hc_M l G yX8_hushed cX8_hushed 3 (some .int) 1 [.ref (hc_ad G 48)] M (hc_pi (fun z M' => hc_hs M E = z ∧ M = M')) := by
  refine hc_M.of hG (by decide) [some (.ref (hc_ad G 48)), none, none] rfl (Nat.le_of_ble_eq_true rfl) ?_
  intro p e s m args below meth c C
  refine hc_iconst C dX8_hushed_0 (v := 0) rfl ?_
  refine hc_istore_n1 C dX8_hushed_1 rfl (by decide) rfl ?_
  refine hc_iconst C dX8_hushed_2 (v := 0) rfl ?_
  refine hc_istore_n2 C dX8_hushed_3 rfl (by decide) rfl ?_
  refine lp_R_hushed C hE hE6 ?_ E 0 (by omega)
  refine hc_iload_n C dX8_hushed_37 rfl rfl ?_
  refine hc_iret C rfl dX8_hushed_38 ?_
  exact ⟨rfl, rfl⟩

set_option maxRecDepth 100000 in
set_option maxHeartbeats 4000000 in
theorem lp_R_count5 {G : hc_Geo} {p : Program} {l : Launch} {e : Env} {d : Nat} {s : State} {m : MethodId} {args : Array Value} {below : List Frame} {meth : Method} {c : Code} {Q : State → Prop} (C : hc_Cx G hc_lay cX8_count 4 (some .int) yX8_count.cls p s m args meth c) {M : hc_Mem} {E : Nat} (hE : M 54 4 = nI E) (hE6 : E ≤ 6) 
    (kk : hc_W G hc_lay p l e (hc_rm d) s m args below meth c 4 0 0 Q 149 [some (.ref (hc_ad G 48)), some (.int 5), some (.int (nI (hc_in0 M E))), some (.int (nI E))] [] M) :
    ∀ (t : Nat) (i : Nat), i + t = E → hc_W G hc_lay p l e (hc_rm d) s m args below meth c 4 0 0 Q 108 [some (.ref (hc_ad G 48)), some (.int 5), some (.int (nI (hc_in0 M i))), some (.int (nI i))] [] M := by
  intro t
  induction t with
  | zero =>
    intro i hi
    refine hc_iload_n C dX8_count_108 rfl rfl ?_
    refine hc_aload_n C dX8_count_109 rfl rfl ?_
    refine hc_getR C fl_X8_25 rfl rfl dX8_count_110 ?_
    refine hc_iconst C dX8_count_113 (v := 4) rfl ?_
    refine hc_ialdN C (j := 4) rfl rfl (by decide) dX8_count_114 ?_
    refine hc_icmp_ge C (tgt := 149) dX8_count_115 (by decide) (fun c_115 => ?_) (fun c_115 => ?_)
    rotate_left
    · exact absurd (by rw [hE]; exact nI_le (show E ≤ i by omega) (by omega)) c_115
    rw [show i = E by omega]
    exact kk
  | succ t ih =>
    intro i hi
    refine hc_iload_n C dX8_count_108 rfl rfl ?_
    refine hc_aload_n C dX8_count_109 rfl rfl ?_
    refine hc_getR C fl_X8_25 rfl rfl dX8_count_110 ?_
    refine hc_iconst C dX8_count_113 (v := 4) rfl ?_
    refine hc_ialdN C (j := 4) rfl rfl (by decide) dX8_count_114 ?_
    refine hc_icmp_ge C (tgt := 149) dX8_count_115 (by decide) (fun c_115 => ?_) (fun c_115 => ?_)
    · exact absurd (hE ▸ c_115) (nI_ge (show i < E by omega) (by omega))
    refine hc_iload_n C dX8_count_118 rfl rfl ?_
    refine hc_aload_n C dX8_count_119 rfl rfl ?_
    refine hc_getR C fl_X8_25 rfl rfl dX8_count_120 ?_
    refine hc_bipush C dX8_count_123 (v := 6) rfl ?_
    refine hc_bipush C dX8_count_125 (v := 7) rfl ?_
    refine hc_iload_n C dX8_count_127 rfl rfl ?_
    refine hc_imul C dX8_count_128 ?_
    refine hc_iadd C dX8_count_129 ?_
    refine hc_iconst C dX8_count_130 (v := 2) rfl ?_
    refine hc_iadd C dX8_count_131 ?_
    refine hc_ialdN C (j := (6 + 7 * i + 2)) rfl (hx_67 i 2) (by omega) dX8_count_132 ?_
    refine hc_if_ne C (tgt := 140) dX8_count_133 (by decide) (fun c_133 => ?_) (fun c_133 => ?_)
    · refine hc_iconst C dX8_count_140 (v := 0) rfl ?_
      refine hc_iadd C dX8_count_141 ?_
      refine hc_top (v := nI (hc_in0 M (i + 1))) ?_ ?_
      · first | (rw [hc_in0, if_pos (c_133)]; exact nI_1 _) | (rw [hc_in0, if_neg c_133]; exact Int32.add_zero _)
      refine hc_istore_n2 C dX8_count_142 rfl (by decide) rfl ?_
      refine hc_iinc3 C (v := nI (i + 1)) dX8_count_143 (by decide) rfl rfl (nI_1 i) ?_
      refine hc_goto C (tgt := 108) dX8_count_146 (by decide) ?_
      exact ih (i + 1) (by omega)
    · refine hc_iconst C dX8_count_136 (v := 1) rfl ?_
      refine hc_goto C (tgt := 141) dX8_count_137 (by decide) ?_
      refine hc_iadd C dX8_count_141 ?_
      refine hc_top (v := nI (hc_in0 M (i + 1))) ?_ ?_
      · first | (rw [hc_in0, if_pos (c_133)]; exact nI_1 _) | (rw [hc_in0, if_neg c_133]; exact Int32.add_zero _)
      refine hc_istore_n2 C dX8_count_142 rfl (by decide) rfl ?_
      refine hc_iinc3 C (v := nI (i + 1)) dX8_count_143 (by decide) rfl rfl (nI_1 i) ?_
      refine hc_goto C (tgt := 108) dX8_count_146 (by decide) ?_
      exact ih (i + 1) (by omega)

set_option maxRecDepth 100000 in
set_option maxHeartbeats 4000000 in
theorem c_X8_count_0 {l : Launch} {G : hc_Geo} (hG : hc_ok G) {M : hc_Mem}  : hc_M l G yX8_count cX8_count 4 (some .int) 3 [.ref (hc_ad G 48), .int 0] M (hc_pi (fun z M' => nI (hc_presR M 8) = z ∧ M = M')) := by
  refine hc_M.of hG (by decide) [some (.ref (hc_ad G 48)), some (.int 0), none, none] rfl (Nat.le_of_ble_eq_true rfl) ?_
  intro p e s m args below meth c C
  refine hc_iconst C dX8_count_0 (v := 0) rfl ?_
  refine hc_istore_n2 C dX8_count_1 rfl (by decide) rfl ?_
  refine hc_iload_n C dX8_count_2 rfl rfl ?_
  refine hc_tableIn C (off := 45) (tgt := 48) dX8_count_3 (by decide) (by decide) rfl (by decide) ?_
  refine hc_iconst C dX8_count_48 (v := 0) rfl ?_
  refine hc_istore_n3 C dX8_count_49 rfl (by decide) rfl ?_
  refine lp_R_count0 C (by decide) ?_ 8 0 rfl
  refine hc_iload_n C dX8_count_78 rfl rfl ?_
  refine hc_iret C rfl dX8_count_79 ?_
  exact ⟨rfl, rfl⟩

set_option maxRecDepth 100000 in
set_option maxHeartbeats 4000000 in
theorem c_X8_count_1 {l : Launch} {G : hc_Geo} (hG : hc_ok G) {M : hc_Mem}  : hc_M l G yX8_count cX8_count 4 (some .int) 3 [.ref (hc_ad G 48), .int 1] M (hc_pi (fun z M' => M 54 4 = z ∧ M = M')) := by
  refine hc_M.of hG (by decide) [some (.ref (hc_ad G 48)), some (.int 1), none, none] rfl (Nat.le_of_ble_eq_true rfl) ?_
  intro p e s m args below meth c C
  refine hc_iconst C dX8_count_0 (v := 0) rfl ?_
  refine hc_istore_n2 C dX8_count_1 rfl (by decide) rfl ?_
  refine hc_iload_n C dX8_count_2 rfl rfl ?_
  refine hc_tableIn C (off := 77) (tgt := 80) dX8_count_3 (by decide) (by decide) rfl (by decide) ?_
  refine hc_aload_n C dX8_count_80 rfl rfl ?_
  refine hc_getR C fl_X8_25 rfl rfl dX8_count_81 ?_
  refine hc_iconst C dX8_count_84 (v := 4) rfl ?_
  refine hc_ialdN C (j := 4) rfl rfl (by decide) dX8_count_85 ?_
  refine hc_iret C rfl dX8_count_86 ?_
  exact ⟨rfl, rfl⟩

set_option maxRecDepth 100000 in
set_option maxHeartbeats 4000000 in
theorem c_X8_count_2 {l : Launch} {G : hc_Geo} (hG : hc_ok G) {M : hc_Mem}  : hc_M l G yX8_count cX8_count 4 (some .int) 3 [.ref (hc_ad G 48), .int 2] M (hc_pi (fun z M' => M 54 5 = z ∧ M = M')) := by
  refine hc_M.of hG (by decide) [some (.ref (hc_ad G 48)), some (.int 2), none, none] rfl (Nat.le_of_ble_eq_true rfl) ?_
  intro p e s m args below meth c C
  refine hc_iconst C dX8_count_0 (v := 0) rfl ?_
  refine hc_istore_n2 C dX8_count_1 rfl (by decide) rfl ?_
  refine hc_iload_n C dX8_count_2 rfl rfl ?_
  refine hc_tableIn C (off := 84) (tgt := 87) dX8_count_3 (by decide) (by decide) rfl (by decide) ?_
  refine hc_aload_n C dX8_count_87 rfl rfl ?_
  refine hc_getR C fl_X8_25 rfl rfl dX8_count_88 ?_
  refine hc_iconst C dX8_count_91 (v := 5) rfl ?_
  refine hc_ialdN C (j := 5) rfl rfl (by decide) dX8_count_92 ?_
  refine hc_iret C rfl dX8_count_93 ?_
  exact ⟨rfl, rfl⟩

set_option maxRecDepth 100000 in
set_option maxHeartbeats 4000000 in
theorem c_X8_count_3 {l : Launch} {G : hc_Geo} (hG : hc_ok G) {M : hc_Mem}  : hc_M l G yX8_count cX8_count 4 (some .int) 3 [.ref (hc_ad G 48), .int 3] M (hc_pi (fun z M' => M 54 2 = z ∧ M = M')) := by
  refine hc_M.of hG (by decide) [some (.ref (hc_ad G 48)), some (.int 3), none, none] rfl (Nat.le_of_ble_eq_true rfl) ?_
  intro p e s m args below meth c C
  refine hc_iconst C dX8_count_0 (v := 0) rfl ?_
  refine hc_istore_n2 C dX8_count_1 rfl (by decide) rfl ?_
  refine hc_iload_n C dX8_count_2 rfl rfl ?_
  refine hc_tableIn C (off := 91) (tgt := 94) dX8_count_3 (by decide) (by decide) rfl (by decide) ?_
  refine hc_aload_n C dX8_count_94 rfl rfl ?_
  refine hc_getR C fl_X8_25 rfl rfl dX8_count_95 ?_
  refine hc_iconst C dX8_count_98 (v := 2) rfl ?_
  refine hc_ialdN C (j := 2) rfl rfl (by decide) dX8_count_99 ?_
  refine hc_iret C rfl dX8_count_100 ?_
  exact ⟨rfl, rfl⟩

set_option maxRecDepth 100000 in
set_option maxHeartbeats 4000000 in
theorem c_X8_count_4 {l : Launch} {G : hc_Geo} (hG : hc_ok G) {M : hc_Mem} {E : Nat}  (hE : M 54 4 = nI E) (hE6 : E ≤ 6) : hc_M l G yX8_count cX8_count 4 (some .int) 3 [.ref (hc_ad G 48), .int 4] M (hc_pi (fun z M' => hc_hs M E = z ∧ M = M')) := by
  refine hc_M.of hG (by decide) [some (.ref (hc_ad G 48)), some (.int 4), none, none] rfl (Nat.le_of_ble_eq_true rfl) ?_
  intro p e s m args below meth c C
  refine hc_iconst C dX8_count_0 (v := 0) rfl ?_
  refine hc_istore_n2 C dX8_count_1 rfl (by decide) rfl ?_
  refine hc_iload_n C dX8_count_2 rfl rfl ?_
  refine hc_tableIn C (off := 98) (tgt := 101) dX8_count_3 (by decide) (by decide) rfl (by decide) ?_
  refine hc_aload_n C dX8_count_101 rfl rfl ?_
  refine hc_cV0i C mv_X8_181 (c_X8_hushed C.ok hE hE6) rfl rfl rfl (Nat.le_of_ble_eq_true rfl) (hc_rr_rm (by decide)) ⟨Nat.zero_le _, Nat.zero_le _⟩ dX8_count_102 (fun r_102 M_102 h_102 => ?_)
  obtain ⟨rfl, rfl⟩ := h_102
  refine hc_iret C rfl dX8_count_105 ?_
  exact ⟨rfl, rfl⟩

set_option maxRecDepth 100000 in
set_option maxHeartbeats 4000000 in
theorem c_X8_count_5 {l : Launch} {G : hc_Geo} (hG : hc_ok G) {M : hc_Mem} {E : Nat}  (hE : M 54 4 = nI E) (hE6 : E ≤ 6) : hc_M l G yX8_count cX8_count 4 (some .int) 3 [.ref (hc_ad G 48), .int 5] M (hc_pi (fun z M' => nI (hc_in0 M E) = z ∧ M = M')) := by
  refine hc_M.of hG (by decide) [some (.ref (hc_ad G 48)), some (.int 5), none, none] rfl (Nat.le_of_ble_eq_true rfl) ?_
  intro p e s m args below meth c C
  refine hc_iconst C dX8_count_0 (v := 0) rfl ?_
  refine hc_istore_n2 C dX8_count_1 rfl (by decide) rfl ?_
  refine hc_iload_n C dX8_count_2 rfl rfl ?_
  refine hc_tableIn C (off := 103) (tgt := 106) dX8_count_3 (by decide) (by decide) rfl (by decide) ?_
  refine hc_iconst C dX8_count_106 (v := 0) rfl ?_
  refine hc_istore_n3 C dX8_count_107 rfl (by decide) rfl ?_
  refine lp_R_count5 C hE hE6 ?_ E 0 (by omega)
  refine hc_iload_n C dX8_count_149 rfl rfl ?_
  refine hc_iret C rfl dX8_count_150 ?_
  exact ⟨rfl, rfl⟩

set_option maxRecDepth 100000 in
set_option maxHeartbeats 4000000 in
theorem c_X8_count_6 {l : Launch} {G : hc_Geo} (hG : hc_ok G) {M : hc_Mem}  : hc_M l G yX8_count cX8_count 4 (some .int) 3 [.ref (hc_ad G 48), .int 6] M (hc_pi (fun z M' => M 48 16 = z ∧ M = M')) := by
  refine hc_M.of hG (by decide) [some (.ref (hc_ad G 48)), some (.int 6), none, none] rfl (Nat.le_of_ble_eq_true rfl) ?_
  intro p e s m args below meth c C
  refine hc_iconst C dX8_count_0 (v := 0) rfl ?_
  refine hc_istore_n2 C dX8_count_1 rfl (by decide) rfl ?_
  refine hc_iload_n C dX8_count_2 rfl rfl ?_
  refine hc_tableIn C (off := 148) (tgt := 151) dX8_count_3 (by decide) (by decide) rfl (by decide) ?_
  refine hc_aload_n C dX8_count_151 rfl rfl ?_
  refine hc_getI C fl_X8_138 rfl rfl dX8_count_152 ?_
  refine hc_iret C rfl dX8_count_155 ?_
  exact ⟨rfl, rfl⟩

set_option maxRecDepth 100000 in
set_option maxHeartbeats 4000000 in
theorem c_X8_count_7 {l : Launch} {G : hc_Geo} (hG : hc_ok G) {M : hc_Mem}  : hc_M l G yX8_count cX8_count 4 (some .int) 3 [.ref (hc_ad G 48), .int 7] M (hc_pi (fun z M' => M 48 6 = z ∧ M = M')) := by
  refine hc_M.of hG (by decide) [some (.ref (hc_ad G 48)), some (.int 7), none, none] rfl (Nat.le_of_ble_eq_true rfl) ?_
  intro p e s m args below meth c C
  refine hc_iconst C dX8_count_0 (v := 0) rfl ?_
  refine hc_istore_n2 C dX8_count_1 rfl (by decide) rfl ?_
  refine hc_iload_n C dX8_count_2 rfl rfl ?_
  refine hc_tableIn C (off := 153) (tgt := 156) dX8_count_3 (by decide) (by decide) rfl (by decide) ?_
  refine hc_aload_n C dX8_count_156 rfl rfl ?_
  refine hc_getI C fl_X8_82 rfl rfl dX8_count_157 ?_
  refine hc_iret C rfl dX8_count_160 ?_
  exact ⟨rfl, rfl⟩

set_option maxRecDepth 100000 in
set_option maxHeartbeats 4000000 in
theorem c_X8_count_d {l : Launch} {G : hc_Geo} (hG : hc_ok G) {M : hc_Mem} {k : Int32}  (h0 : k.toInt < 0 ∨ 7 < k.toInt) : hc_M l G yX8_count cX8_count 4 (some .int) 3 [.ref (hc_ad G 48), .int k] M (hc_pi (fun z M' => -1000001 = z ∧ M = M')) := by
  refine hc_M.of hG (by decide) [some (.ref (hc_ad G 48)), some (.int k), none, none] rfl (Nat.le_of_ble_eq_true rfl) ?_
  intro p e s m args below meth c C
  refine hc_iconst C dX8_count_0 (v := 0) rfl ?_
  refine hc_istore_n2 C dX8_count_1 rfl (by decide) rfl ?_
  refine hc_iload_n C dX8_count_2 rfl rfl ?_
  refine hc_tableOut C (tgt := 161) dX8_count_3 h0 (by decide) ?_
  refine hc_ldc C kc_X8_64 dX8_count_161 ?_
  refine hc_iret C rfl dX8_count_163 ?_
  exact ⟨rfl, rfl⟩

set_option maxRecDepth 100000 in
set_option maxHeartbeats 4000000 in
theorem c_X8_row_b {l : Launch} {G : hc_Geo} (hG : hc_ok G) {M : hc_Mem} {r la n : Int32}  (h0 : ¬ ((¬ r < 0 ∧ ¬ 8 ≤ r) ∧ (¬ la < 0 ∧ ¬ 2 < la) ∧ n ≤ 40)) : hc_M l G yX8_row cX8_row 5 (some .int) 4 [.ref (hc_ad G 48), .int r, .int la, .int n] M (hc_pi (fun z M' => -1000001 = z ∧ M = M')) := by
  refine hc_M.of hG (by decide) [some (.ref (hc_ad G 48)), some (.int r), some (.int la), some (.int n), none] rfl (Nat.le_of_ble_eq_true rfl) ?_
  intro p e s m args below meth c C
  refine hc_iload_n C dX8_row_0 rfl rfl ?_
  refine hc_cS1i C ms_X8_60 (c_X8_isRow C.ok) (Nat.le_of_ble_eq_true rfl) (hc_rr_rm (by decide)) ⟨Nat.zero_le _, Nat.zero_le _⟩ dX8_row_1 (fun r_1 M_1 h_1 => ?_)
  obtain ⟨rfl, rfl⟩ := h_1
  refine hc_if_eq C (tgt := 22) dX8_row_4 (by decide) (fun c_4 => ?_) (fun c_4 => ?_)
  · refine hc_ldc C kc_X8_64 dX8_row_22 ?_
    refine hc_iret C rfl dX8_row_24 ?_
    exact ⟨rfl, rfl⟩
  · refine hc_iload_n C dX8_row_7 rfl rfl ?_
    refine hc_iconst C dX8_row_8 (v := 0) rfl ?_
    refine hc_iconst C dX8_row_9 (v := 2) rfl ?_
    refine hc_cS3i C ms_X8_56 (c_X8_in C.ok) (Nat.le_of_ble_eq_true rfl) (hc_rr_rm (by decide)) ⟨Nat.zero_le _, Nat.zero_le _⟩ dX8_row_10 (fun r_10 M_10 h_10 => ?_)
    obtain ⟨rfl, rfl⟩ := h_10
    refine hc_if_eq C (tgt := 22) dX8_row_13 (by decide) (fun c_13 => ?_) (fun c_13 => ?_)
    · refine hc_ldc C kc_X8_64 dX8_row_22 ?_
      refine hc_iret C rfl dX8_row_24 ?_
      exact ⟨rfl, rfl⟩
    · refine hc_iload_n C dX8_row_16 rfl rfl ?_
      refine hc_bipush C dX8_row_17 (v := 40) rfl ?_
      refine hc_icmp_le C (tgt := 25) dX8_row_19 (by decide) (fun c_19 => ?_) (fun c_19 => ?_)
      · exact absurd ⟨hb_nz.mp c_4, hb_nz.mp c_13, c_19⟩ h0
      refine hc_ldc C kc_X8_64 dX8_row_22 ?_
      refine hc_iret C rfl dX8_row_24 ?_
      exact ⟨rfl, rfl⟩

set_option maxRecDepth 100000 in
set_option maxHeartbeats 4000000 in
theorem c_X8_row_s {l : Launch} {G : hc_Geo} (hG : hc_ok G) {M : hc_Mem} {r la n : Int32}  (h1 : ¬ r < 0 ∧ ¬ 8 ≤ r) (h2 : ¬ la < 0 ∧ ¬ 2 < la) (h3 : n ≤ 40) (h4 : ¬ 0 ≤ n) : hc_M l G yX8_row cX8_row 5 (some .int) 4 [.ref (hc_ad G 48), .int r, .int la, .int n] M (hc_pi (fun z M' => -1000014 = z ∧ hc_ms M 48 4 4 = M')) := by
  refine hc_M.of hG (by decide) [some (.ref (hc_ad G 48)), some (.int r), some (.int la), some (.int n), none] rfl (Nat.le_of_ble_eq_true rfl) ?_
  intro p e s m args below meth c C
  refine hc_iload_n C dX8_row_0 rfl rfl ?_
  refine hc_cS1i C ms_X8_60 (c_X8_isRow C.ok) (Nat.le_of_ble_eq_true rfl) (hc_rr_rm (by decide)) ⟨Nat.zero_le _, Nat.zero_le _⟩ dX8_row_1 (fun r_1 M_1 h_1 => ?_)
  obtain ⟨rfl, rfl⟩ := h_1
  refine hc_if_eq C (tgt := 22) dX8_row_4 (by decide) (fun c_4 => ?_) (fun c_4 => ?_)
  · exact absurd h1 (hb_z.mp c_4)
  refine hc_iload_n C dX8_row_7 rfl rfl ?_
  refine hc_iconst C dX8_row_8 (v := 0) rfl ?_
  refine hc_iconst C dX8_row_9 (v := 2) rfl ?_
  refine hc_cS3i C ms_X8_56 (c_X8_in C.ok) (Nat.le_of_ble_eq_true rfl) (hc_rr_rm (by decide)) ⟨Nat.zero_le _, Nat.zero_le _⟩ dX8_row_10 (fun r_10 M_10 h_10 => ?_)
  obtain ⟨rfl, rfl⟩ := h_10
  refine hc_if_eq C (tgt := 22) dX8_row_13 (by decide) (fun c_13 => ?_) (fun c_13 => ?_)
  · exact absurd h2 (hb_z.mp c_13)
  refine hc_iload_n C dX8_row_16 rfl rfl ?_
  refine hc_bipush C dX8_row_17 (v := 40) rfl ?_
  refine hc_icmp_le C (tgt := 25) dX8_row_19 (by decide) (fun c_19 => ?_) (fun c_19 => ?_)
  rotate_left
  · exact absurd h3 c_19
  refine hc_iload_n C dX8_row_25 rfl rfl ?_
  refine hc_if_ge C (tgt := 35) dX8_row_26 (by decide) (fun c_26 => ?_) (fun c_26 => ?_)
  · exact absurd c_26 h4
  refine hc_aload_n C dX8_row_29 rfl rfl ?_
  refine hc_iconst C dX8_row_30 (v := 4) rfl ?_
  refine hc_cV1i C mv_X8_65 (c_X8_found C.ok) rfl rfl rfl (Nat.le_of_ble_eq_true rfl) (hc_rr_rm (by decide)) ⟨Nat.zero_le _, Nat.zero_le _⟩ dX8_row_31 (fun r_31 M_31 h_31 => ?_)
  obtain ⟨rfl, rfl⟩ := h_31
  refine hc_iret C rfl dX8_row_34 ?_
  exact ⟨rfl, rfl⟩

set_option maxRecDepth 100000 in
set_option maxHeartbeats 4000000 in
theorem lp_R_row {G : hc_Geo} {p : Program} {l : Launch} {e : Env} {d : Nat} {s : State} {m : MethodId} {args : Array Value} {below : List Frame} {meth : Method} {c : Code} {Q : State → Prop} (C : hc_Cx G hc_lay cX8_row 5 (some .int) yX8_row.cls p s m args meth c) {M : hc_Mem} {j n : Nat} {la : Int32} (hj : j < 8) 
    (kk : hc_W G hc_lay p l e (hc_rm d) s m args below meth c 5 0 0 Q 78 [some (.ref (hc_ad G 48)), some (.int (nI j)), some (.int la), some (.int (nI n)), some (.int (nI 40))] [] (hc_mf M 51 (fun x => if 40 * j ≤ x ∧ x < 40 * j + 40 then 0 else M 51 x))) :
    ∀ (t : Nat) (i : Nat), i + t = 40 → hc_W G hc_lay p l e (hc_rm d) s m args below meth c 5 0 0 Q 52 [some (.ref (hc_ad G 48)), some (.int (nI j)), some (.int la), some (.int (nI n)), some (.int (nI i))] [] (hc_mf M 51 (fun x => if 40 * j ≤ x ∧ x < 40 * j + i then 0 else M 51 x)) := by
  intro t
  induction t with
  | zero =>
    intro i hi
    refine hc_iload C dX8_row_52 rfl ?_
    refine hc_bipush C dX8_row_54 (v := 40) rfl ?_
    refine hc_icmp_ge C (tgt := 78) dX8_row_56 (by decide) (fun c_56 => ?_) (fun c_56 => ?_)
    rotate_left
    · exact absurd (show (40 : Int32) ≤ nI i from by rw [show i = 40 by omega]; decide) c_56
    rw [show i = 40 by omega]
    exact kk
  | succ t ih =>
    intro i hi
    refine hc_iload C dX8_row_52 rfl ?_
    refine hc_bipush C dX8_row_54 (v := 40) rfl ?_
    refine hc_icmp_ge C (tgt := 78) dX8_row_56 (by decide) (fun c_56 => ?_) (fun c_56 => ?_)
    · exact absurd (show nI 40 ≤ nI i from c_56) (nI_ge (show i < 40 by omega) (by omega))
    refine hc_aload_n C dX8_row_59 rfl rfl ?_
    refine hc_getR C fl_X8_16 rfl rfl dX8_row_60 ?_
    refine hc_bipush C dX8_row_63 (v := 40) rfl ?_
    refine hc_iload_n C dX8_row_65 rfl rfl ?_
    refine hc_imul C dX8_row_66 ?_
    refine hc_iload C dX8_row_67 rfl ?_
    refine hc_iadd C dX8_row_69 ?_
    refine hc_iconst C dX8_row_70 (v := 0) rfl ?_
    refine hc_iastN C (j := (40 * j + i)) rfl (show (40 : Int32) * nI j + nI i = nI (40 * j + i) by rw [show (40 : Int32) = nI 40 from rfl, pk_mul, nI_add]) (by omega) dX8_row_71 ?_
    refine hc_iinc4 C (v := nI (i + 1)) dX8_row_72 (by decide) rfl rfl (nI_1 i) ?_
    refine hc_goto C (tgt := 52) dX8_row_75 (by decide) ?_
    refine hc_mem ?_ (ih (i + 1) (by omega))
    funext q
    by_cases hq : q = 51
    · subst hq
      simp only [hc_ms_s, hc_mf_s]
      funext x
      by_cases hx : x = 40 * j + i
      · subst hx
        rw [if_pos (by omega)]
        simp [upd]
      · have e1 : (40 * j ≤ x ∧ x < 40 * j + (i + 1)) ↔ (40 * j ≤ x ∧ x < 40 * j + i) := by omega
        simp only [upd, hx, if_false, e1]
    · simp only [hc_ms_n hq, hc_mf_n hq]

set_option maxRecDepth 100000 in
set_option maxHeartbeats 4000000 in
theorem c_X8_row_o {l : Launch} {G : hc_Geo} (hG : hc_ok G) {M : hc_Mem} {j n : Nat} {la : Int32}  (hj : j < 8) (h2 : ¬ la < 0 ∧ ¬ 2 < la) (hn : n ≤ 40) : hc_M l G yX8_row cX8_row 5 (some .int) 4 [.ref (hc_ad G 48), .int (nI j), .int la, .int (nI n)] M (hc_pi (fun z M' => nI n = z ∧ hc_ms (hc_mf (hc_ms (hc_ms M 49 j la) 50 j (nI n)) 51 (fun x => if 40 * j ≤ x ∧ x < 40 * j + 40 then 0 else M 51 x)) 48 4 0 = M')) := by
  refine hc_M.of hG (by decide) [some (.ref (hc_ad G 48)), some (.int (nI j)), some (.int la), some (.int (nI n)), none] rfl (Nat.le_of_ble_eq_true rfl) ?_
  intro p e s m args below meth c C
  refine hc_iload_n C dX8_row_0 rfl rfl ?_
  refine hc_cS1i C ms_X8_60 (c_X8_isRow C.ok) (Nat.le_of_ble_eq_true rfl) (hc_rr_rm (by decide)) ⟨Nat.zero_le _, Nat.zero_le _⟩ dX8_row_1 (fun r_1 M_1 h_1 => ?_)
  obtain ⟨rfl, rfl⟩ := h_1
  refine hc_if_eq C (tgt := 22) dX8_row_4 (by decide) (fun c_4 => ?_) (fun c_4 => ?_)
  · exact absurd (hx_row (show j < 8 by omega)) (hb_z.mp c_4)
  refine hc_iload_n C dX8_row_7 rfl rfl ?_
  refine hc_iconst C dX8_row_8 (v := 0) rfl ?_
  refine hc_iconst C dX8_row_9 (v := 2) rfl ?_
  refine hc_cS3i C ms_X8_56 (c_X8_in C.ok) (Nat.le_of_ble_eq_true rfl) (hc_rr_rm (by decide)) ⟨Nat.zero_le _, Nat.zero_le _⟩ dX8_row_10 (fun r_10 M_10 h_10 => ?_)
  obtain ⟨rfl, rfl⟩ := h_10
  refine hc_if_eq C (tgt := 22) dX8_row_13 (by decide) (fun c_13 => ?_) (fun c_13 => ?_)
  · exact absurd h2 (hb_z.mp c_13)
  refine hc_iload_n C dX8_row_16 rfl rfl ?_
  refine hc_bipush C dX8_row_17 (v := 40) rfl ?_
  refine hc_icmp_le C (tgt := 25) dX8_row_19 (by decide) (fun c_19 => ?_) (fun c_19 => ?_)
  rotate_left
  · exact absurd (show nI n ≤ nI 40 from nI_le hn (by omega)) c_19
  refine hc_iload_n C dX8_row_25 rfl rfl ?_
  refine hc_if_ge C (tgt := 35) dX8_row_26 (by decide) (fun c_26 => ?_) (fun c_26 => ?_)
  rotate_left
  · exact absurd (nI_pos' (by omega)) c_26
  refine hc_aload_n C dX8_row_35 rfl rfl ?_
  refine hc_getR C fl_X8_7 rfl rfl dX8_row_36 ?_
  refine hc_iload_n C dX8_row_39 rfl rfl ?_
  refine hc_iload_n C dX8_row_40 rfl rfl ?_
  refine hc_iastN C (j := j) rfl rfl (by omega) dX8_row_41 ?_
  refine hc_aload_n C dX8_row_42 rfl rfl ?_
  refine hc_getR C fl_X8_13 rfl rfl dX8_row_43 ?_
  refine hc_iload_n C dX8_row_46 rfl rfl ?_
  refine hc_iload_n C dX8_row_47 rfl rfl ?_
  refine hc_iastN C (j := j) rfl rfl (by omega) dX8_row_48 ?_
  refine hc_iconst C dX8_row_49 (v := 0) rfl ?_
  refine hc_istore4 C dX8_row_50 (by decide) rfl ?_
  refine hc_mem ?_ (lp_R_row (M := hc_ms (hc_ms M 49 j la) 50 j (nI n)) C hj ?_ 40 0 rfl)
  · funext q
    by_cases hq : q = 51
    · subst hq
      rw [hc_mf_s]
      funext x
      rw [if_neg (by omega)]
    · rw [hc_mf_n hq]
  refine hc_aload_n C dX8_row_78 rfl rfl ?_
  refine hc_iload_n C dX8_row_79 rfl rfl ?_
  refine hc_cV1i C mv_X8_69 (c_X8_well C.ok) rfl rfl rfl (Nat.le_of_ble_eq_true rfl) (hc_rr_rm (by decide)) ⟨Nat.zero_le _, Nat.zero_le _⟩ dX8_row_80 (fun r_80 M_80 h_80 => ?_)
  obtain ⟨rfl, rfl⟩ := h_80
  refine hc_iret C rfl dX8_row_83 ?_
  exact ⟨rfl, rfl⟩

set_option maxRecDepth 100000 in
set_option maxHeartbeats 4000000 in
theorem c_X8_set_b {l : Launch} {G : hc_Geo} (hG : hc_ok G) {M : hc_Mem} {r i v : Int32}  (h0 : ¬ (¬ r < 0 ∧ ¬ 8 ≤ r)) : hc_M l G yX8_set cX8_set 4 (some .int) 3 [.ref (hc_ad G 48), .int r, .int i, .int v] M (hc_pi (fun z M' => -1000001 = z ∧ M = M')) := by
  refine hc_M.of hG (by decide) [some (.ref (hc_ad G 48)), some (.int r), some (.int i), some (.int v)] rfl (Nat.le_of_ble_eq_true rfl) ?_
  intro p e s m args below meth c C
  refine hc_iload_n C dX8_set_0 rfl rfl ?_
  refine hc_cS1i C ms_X8_60 (c_X8_isRow C.ok) (Nat.le_of_ble_eq_true rfl) (hc_rr_rm (by decide)) ⟨Nat.zero_le _, Nat.zero_le _⟩ dX8_set_1 (fun r_1 M_1 h_1 => ?_)
  obtain ⟨rfl, rfl⟩ := h_1
  refine hc_if_ne C (tgt := 10) dX8_set_4 (by decide) (fun c_4 => ?_) (fun c_4 => ?_)
  · exact absurd (hb_f h0) c_4
  refine hc_ldc C kc_X8_64 dX8_set_7 ?_
  refine hc_iret C rfl dX8_set_9 ?_
  exact ⟨rfl, rfl⟩

set_option maxRecDepth 100000 in
set_option maxHeartbeats 4000000 in
theorem c_X8_set_n {l : Launch} {G : hc_Geo} (hG : hc_ok G) {M : hc_Mem} {j : Nat} {i v : Int32}  (hj : j < 8) (h1 : M 49 j = -1000000) : hc_M l G yX8_set cX8_set 4 (some .int) 3 [.ref (hc_ad G 48), .int (nI j), .int i, .int v] M (hc_pi (fun z M' => -1000011 = z ∧ hc_ms M 48 4 1 = M')) := by
  refine hc_M.of hG (by decide) [some (.ref (hc_ad G 48)), some (.int (nI j)), some (.int i), some (.int v)] rfl (Nat.le_of_ble_eq_true rfl) ?_
  intro p e s m args below meth c C
  refine hc_iload_n C dX8_set_0 rfl rfl ?_
  refine hc_cS1i C ms_X8_60 (c_X8_isRow C.ok) (Nat.le_of_ble_eq_true rfl) (hc_rr_rm (by decide)) ⟨Nat.zero_le _, Nat.zero_le _⟩ dX8_set_1 (fun r_1 M_1 h_1 => ?_)
  obtain ⟨rfl, rfl⟩ := h_1
  refine hc_if_ne C (tgt := 10) dX8_set_4 (by decide) (fun c_4 => ?_) (fun c_4 => ?_)
  rotate_left
  · exact absurd (hx_row (show j < 8 by omega)) (hb_z.mp c_4)
  refine hc_aload_n C dX8_set_10 rfl rfl ?_
  refine hc_iload_n C dX8_set_11 rfl rfl ?_
  refine hc_cV1i C mv_X8_72 (c_X8_isMissing C.ok hj) rfl rfl rfl (Nat.le_of_ble_eq_true rfl) (hc_rr_rm (by decide)) ⟨Nat.zero_le _, Nat.zero_le _⟩ dX8_set_12 (fun r_12 M_12 h_12 => ?_)
  obtain ⟨rfl, rfl⟩ := h_12
  refine hc_if_eq C (tgt := 24) dX8_set_15 (by decide) (fun c_15 => ?_) (fun c_15 => ?_)
  · exact absurd h1 (hb_z.mp c_15)
  refine hc_aload_n C dX8_set_18 rfl rfl ?_
  refine hc_iconst C dX8_set_19 (v := 1) rfl ?_
  refine hc_cV1i C mv_X8_65 (c_X8_found C.ok) rfl rfl rfl (Nat.le_of_ble_eq_true rfl) (hc_rr_rm (by decide)) ⟨Nat.zero_le _, Nat.zero_le _⟩ dX8_set_20 (fun r_20 M_20 h_20 => ?_)
  obtain ⟨rfl, rfl⟩ := h_20
  refine hc_iret C rfl dX8_set_23 ?_
  exact ⟨rfl, rfl⟩

set_option maxRecDepth 100000 in
set_option maxHeartbeats 4000000 in
theorem c_X8_copy_b {l : Launch} {G : hc_Geo} (hG : hc_ok G) {M : hc_Mem} {a i b j n : Int32}  (h0 : ¬ ((¬ a < 0 ∧ ¬ 8 ≤ a) ∧ (¬ b < 0 ∧ ¬ 8 ≤ b))) : hc_M l G yX8_copy cX8_copy 7 (some .int) 3 [.ref (hc_ad G 48), .int a, .int i, .int b, .int j, .int n] M (hc_pi (fun z M' => -1000001 = z ∧ M = M')) := by
  refine hc_M.of hG (by decide) [some (.ref (hc_ad G 48)), some (.int a), some (.int i), some (.int b), some (.int j), some (.int n), none] rfl (Nat.le_of_ble_eq_true rfl) ?_
  intro p e s m args below meth c C
  refine hc_iload_n C dX8_copy_0 rfl rfl ?_
  refine hc_cS1i C ms_X8_60 (c_X8_isRow C.ok) (Nat.le_of_ble_eq_true rfl) (hc_rr_rm (by decide)) ⟨Nat.zero_le _, Nat.zero_le _⟩ dX8_copy_1 (fun r_1 M_1 h_1 => ?_)
  obtain ⟨rfl, rfl⟩ := h_1
  refine hc_if_eq C (tgt := 14) dX8_copy_4 (by decide) (fun c_4 => ?_) (fun c_4 => ?_)
  · refine hc_ldc C kc_X8_64 dX8_copy_14 ?_
    refine hc_iret C rfl dX8_copy_16 ?_
    exact ⟨rfl, rfl⟩
  · refine hc_iload_n C dX8_copy_7 rfl rfl ?_
    refine hc_cS1i C ms_X8_60 (c_X8_isRow C.ok) (Nat.le_of_ble_eq_true rfl) (hc_rr_rm (by decide)) ⟨Nat.zero_le _, Nat.zero_le _⟩ dX8_copy_8 (fun r_8 M_8 h_8 => ?_)
    obtain ⟨rfl, rfl⟩ := h_8
    refine hc_if_ne C (tgt := 17) dX8_copy_11 (by decide) (fun c_11 => ?_) (fun c_11 => ?_)
    · exact absurd ⟨hb_nz.mp c_4, hb_nz.mp c_11⟩ h0
    refine hc_ldc C kc_X8_64 dX8_copy_14 ?_
    refine hc_iret C rfl dX8_copy_16 ?_
    exact ⟨rfl, rfl⟩

set_option maxRecDepth 100000 in
set_option maxHeartbeats 4000000 in
theorem c_X8_copy_n {l : Launch} {G : hc_Geo} (hG : hc_ok G) {M : hc_Mem} {a b : Nat} {i j n : Int32}  (ha : a < 8) (hb : b < 8) (h1 : M 49 a = -1000000 ∨ M 49 b = -1000000) : hc_M l G yX8_copy cX8_copy 7 (some .int) 3 [.ref (hc_ad G 48), .int (nI a), .int i, .int (nI b), .int j, .int n] M (hc_pi (fun z M' => -1000011 = z ∧ hc_ms M 48 4 1 = M')) := by
  refine hc_M.of hG (by decide) [some (.ref (hc_ad G 48)), some (.int (nI a)), some (.int i), some (.int (nI b)), some (.int j), some (.int n), none] rfl (Nat.le_of_ble_eq_true rfl) ?_
  intro p e s m args below meth c C
  refine hc_iload_n C dX8_copy_0 rfl rfl ?_
  refine hc_cS1i C ms_X8_60 (c_X8_isRow C.ok) (Nat.le_of_ble_eq_true rfl) (hc_rr_rm (by decide)) ⟨Nat.zero_le _, Nat.zero_le _⟩ dX8_copy_1 (fun r_1 M_1 h_1 => ?_)
  obtain ⟨rfl, rfl⟩ := h_1
  refine hc_if_eq C (tgt := 14) dX8_copy_4 (by decide) (fun c_4 => ?_) (fun c_4 => ?_)
  · exact absurd (hx_row (show a < 8 by omega)) (hb_z.mp c_4)
  refine hc_iload_n C dX8_copy_7 rfl rfl ?_
  refine hc_cS1i C ms_X8_60 (c_X8_isRow C.ok) (Nat.le_of_ble_eq_true rfl) (hc_rr_rm (by decide)) ⟨Nat.zero_le _, Nat.zero_le _⟩ dX8_copy_8 (fun r_8 M_8 h_8 => ?_)
  obtain ⟨rfl, rfl⟩ := h_8
  refine hc_if_ne C (tgt := 17) dX8_copy_11 (by decide) (fun c_11 => ?_) (fun c_11 => ?_)
  rotate_left
  · exact absurd (hx_row (show b < 8 by omega)) (hb_z.mp c_11)
  refine hc_aload_n C dX8_copy_17 rfl rfl ?_
  refine hc_iload_n C dX8_copy_18 rfl rfl ?_
  refine hc_cV1i C mv_X8_72 (c_X8_isMissing C.ok ha) rfl rfl rfl (Nat.le_of_ble_eq_true rfl) (hc_rr_rm (by decide)) ⟨Nat.zero_le _, Nat.zero_le _⟩ dX8_copy_19 (fun r_19 M_19 h_19 => ?_)
  obtain ⟨rfl, rfl⟩ := h_19
  refine hc_if_ne C (tgt := 33) dX8_copy_22 (by decide) (fun c_22 => ?_) (fun c_22 => ?_)
  · refine hc_aload_n C dX8_copy_33 rfl rfl ?_
    refine hc_iconst C dX8_copy_34 (v := 1) rfl ?_
    refine hc_cV1i C mv_X8_65 (c_X8_found C.ok) rfl rfl rfl (Nat.le_of_ble_eq_true rfl) (hc_rr_rm (by decide)) ⟨Nat.zero_le _, Nat.zero_le _⟩ dX8_copy_35 (fun r_35 M_35 h_35 => ?_)
    obtain ⟨rfl, rfl⟩ := h_35
    refine hc_iret C rfl dX8_copy_38 ?_
    exact ⟨rfl, rfl⟩
  · refine hc_aload_n C dX8_copy_25 rfl rfl ?_
    refine hc_iload_n C dX8_copy_26 rfl rfl ?_
    refine hc_cV1i C mv_X8_72 (c_X8_isMissing C.ok hb) rfl rfl rfl (Nat.le_of_ble_eq_true rfl) (hc_rr_rm (by decide)) ⟨Nat.zero_le _, Nat.zero_le _⟩ dX8_copy_27 (fun r_27 M_27 h_27 => ?_)
    obtain ⟨rfl, rfl⟩ := h_27
    refine hc_if_eq C (tgt := 39) dX8_copy_30 (by decide) (fun c_30 => ?_) (fun c_30 => ?_)
    · exact absurd h1 (fun q => q.elim (hb_z.mp (c_22)) (hb_z.mp c_30))
    refine hc_aload_n C dX8_copy_33 rfl rfl ?_
    refine hc_iconst C dX8_copy_34 (v := 1) rfl ?_
    refine hc_cV1i C mv_X8_65 (c_X8_found C.ok) rfl rfl rfl (Nat.le_of_ble_eq_true rfl) (hc_rr_rm (by decide)) ⟨Nat.zero_le _, Nat.zero_le _⟩ dX8_copy_35 (fun r_35 M_35 h_35 => ?_)
    obtain ⟨rfl, rfl⟩ := h_35
    refine hc_iret C rfl dX8_copy_38 ?_
    exact ⟨rfl, rfl⟩

set_option maxRecDepth 100000 in
set_option maxHeartbeats 4000000 in
theorem c_X8_drop_b {l : Launch} {G : hc_Geo} (hG : hc_ok G) {M : hc_Mem} {r : Int32}  (h0 : ¬ (¬ r < 0 ∧ ¬ 8 ≤ r)) : hc_M l G yX8_drop cX8_drop 2 (some .int) 3 [.ref (hc_ad G 48), .int r] M (hc_pi (fun z M' => -1000001 = z ∧ M = M')) := by
  refine hc_M.of hG (by decide) [some (.ref (hc_ad G 48)), some (.int r)] rfl (Nat.le_of_ble_eq_true rfl) ?_
  intro p e s m args below meth c C
  refine hc_iload_n C dX8_drop_0 rfl rfl ?_
  refine hc_cS1i C ms_X8_60 (c_X8_isRow C.ok) (Nat.le_of_ble_eq_true rfl) (hc_rr_rm (by decide)) ⟨Nat.zero_le _, Nat.zero_le _⟩ dX8_drop_1 (fun r_1 M_1 h_1 => ?_)
  obtain ⟨rfl, rfl⟩ := h_1
  refine hc_if_ne C (tgt := 10) dX8_drop_4 (by decide) (fun c_4 => ?_) (fun c_4 => ?_)
  · exact absurd (hb_f h0) c_4
  refine hc_ldc C kc_X8_64 dX8_drop_7 ?_
  refine hc_iret C rfl dX8_drop_9 ?_
  exact ⟨rfl, rfl⟩

set_option maxRecDepth 100000 in
set_option maxHeartbeats 4000000 in
theorem c_X8_drop_n {l : Launch} {G : hc_Geo} (hG : hc_ok G) {M : hc_Mem} {j : Nat}  (hj : j < 8) (h1 : M 49 j = -1000000) : hc_M l G yX8_drop cX8_drop 2 (some .int) 3 [.ref (hc_ad G 48), .int (nI j)] M (hc_pi (fun z M' => -1000011 = z ∧ hc_ms M 48 4 1 = M')) := by
  refine hc_M.of hG (by decide) [some (.ref (hc_ad G 48)), some (.int (nI j))] rfl (Nat.le_of_ble_eq_true rfl) ?_
  intro p e s m args below meth c C
  refine hc_iload_n C dX8_drop_0 rfl rfl ?_
  refine hc_cS1i C ms_X8_60 (c_X8_isRow C.ok) (Nat.le_of_ble_eq_true rfl) (hc_rr_rm (by decide)) ⟨Nat.zero_le _, Nat.zero_le _⟩ dX8_drop_1 (fun r_1 M_1 h_1 => ?_)
  obtain ⟨rfl, rfl⟩ := h_1
  refine hc_if_ne C (tgt := 10) dX8_drop_4 (by decide) (fun c_4 => ?_) (fun c_4 => ?_)
  rotate_left
  · exact absurd (hx_row (show j < 8 by omega)) (hb_z.mp c_4)
  refine hc_aload_n C dX8_drop_10 rfl rfl ?_
  refine hc_iload_n C dX8_drop_11 rfl rfl ?_
  refine hc_cV1i C mv_X8_72 (c_X8_isMissing C.ok hj) rfl rfl rfl (Nat.le_of_ble_eq_true rfl) (hc_rr_rm (by decide)) ⟨Nat.zero_le _, Nat.zero_le _⟩ dX8_drop_12 (fun r_12 M_12 h_12 => ?_)
  obtain ⟨rfl, rfl⟩ := h_12
  refine hc_if_eq C (tgt := 24) dX8_drop_15 (by decide) (fun c_15 => ?_) (fun c_15 => ?_)
  · exact absurd h1 (hb_z.mp c_15)
  refine hc_aload_n C dX8_drop_18 rfl rfl ?_
  refine hc_iconst C dX8_drop_19 (v := 1) rfl ?_
  refine hc_cV1i C mv_X8_65 (c_X8_found C.ok) rfl rfl rfl (Nat.le_of_ble_eq_true rfl) (hc_rr_rm (by decide)) ⟨Nat.zero_le _, Nat.zero_le _⟩ dX8_drop_20 (fun r_20 M_20 h_20 => ?_)
  obtain ⟨rfl, rfl⟩ := h_20
  refine hc_iret C rfl dX8_drop_23 ?_
  exact ⟨rfl, rfl⟩

set_option maxRecDepth 100000 in
set_option maxHeartbeats 4000000 in
theorem c_X8_feed_b {l : Launch} {G : hc_Geo} (hG : hc_ok G) {M : hc_Mem} {v : Int32}  (h0 : ¬ (¬ v < 0 ∧ ¬ 255 < v)) : hc_M l G yX8_feed cX8_feed 2 (some .int) 2 [.ref (hc_ad G 48), .int v] M (hc_pi (fun z M' => -1000001 = z ∧ M = M')) := by
  refine hc_M.of hG (by decide) [some (.ref (hc_ad G 48)), some (.int v)] rfl (Nat.le_of_ble_eq_true rfl) ?_
  intro p e s m args below meth c C
  refine hc_iload_n C dX8_feed_0 rfl rfl ?_
  refine hc_iconst C dX8_feed_1 (v := 0) rfl ?_
  refine hc_sipush C dX8_feed_2 (v := 255) rfl ?_
  refine hc_cS3i C ms_X8_56 (c_X8_in C.ok) (Nat.le_of_ble_eq_true rfl) (hc_rr_rm (by decide)) ⟨Nat.zero_le _, Nat.zero_le _⟩ dX8_feed_5 (fun r_5 M_5 h_5 => ?_)
  obtain ⟨rfl, rfl⟩ := h_5
  refine hc_if_ne C (tgt := 14) dX8_feed_8 (by decide) (fun c_8 => ?_) (fun c_8 => ?_)
  · exact absurd (hb_f h0) c_8
  refine hc_ldc C kc_X8_64 dX8_feed_11 ?_
  refine hc_iret C rfl dX8_feed_13 ?_
  exact ⟨rfl, rfl⟩

set_option maxRecDepth 100000 in
set_option maxHeartbeats 4000000 in
theorem c_X8_feed_f {l : Launch} {G : hc_Geo} (hG : hc_ok G) {M : hc_Mem} {v : Int32}  (h0 : ¬ v < 0 ∧ ¬ 255 < v) (h1 : M 48 6 = 120) : hc_M l G yX8_feed cX8_feed 2 (some .int) 2 [.ref (hc_ad G 48), .int v] M (hc_pi (fun z M' => -1000003 = z ∧ M = M')) := by
  refine hc_M.of hG (by decide) [some (.ref (hc_ad G 48)), some (.int v)] rfl (Nat.le_of_ble_eq_true rfl) ?_
  intro p e s m args below meth c C
  refine hc_iload_n C dX8_feed_0 rfl rfl ?_
  refine hc_iconst C dX8_feed_1 (v := 0) rfl ?_
  refine hc_sipush C dX8_feed_2 (v := 255) rfl ?_
  refine hc_cS3i C ms_X8_56 (c_X8_in C.ok) (Nat.le_of_ble_eq_true rfl) (hc_rr_rm (by decide)) ⟨Nat.zero_le _, Nat.zero_le _⟩ dX8_feed_5 (fun r_5 M_5 h_5 => ?_)
  obtain ⟨rfl, rfl⟩ := h_5
  refine hc_if_ne C (tgt := 14) dX8_feed_8 (by decide) (fun c_8 => ?_) (fun c_8 => ?_)
  rotate_left
  · exact absurd h0 (hb_z.mp c_8)
  refine hc_aload_n C dX8_feed_14 rfl rfl ?_
  refine hc_getI C fl_X8_82 rfl rfl dX8_feed_15 ?_
  refine hc_bipush C dX8_feed_18 (v := 120) rfl ?_
  refine hc_icmp_ne C (tgt := 26) dX8_feed_20 (by decide) (fun c_20 => ?_) (fun c_20 => ?_)
  · exact absurd h1 c_20
  refine hc_ldc C kc_X8_85 dX8_feed_23 ?_
  refine hc_iret C rfl dX8_feed_25 ?_
  exact ⟨rfl, rfl⟩

set_option maxRecDepth 100000 in
set_option maxHeartbeats 4000000 in
theorem c_X8_feed_o {l : Launch} {G : hc_Geo} (hG : hc_ok G) {M : hc_Mem} {v : Int32} {n : Nat}  (h0 : ¬ v < 0 ∧ ¬ 255 < v) (h1 : M 48 6 = nI n) (hn : n < 120) : hc_M l G yX8_feed cX8_feed 2 (some .int) 2 [.ref (hc_ad G 48), .int v] M (hc_pi (fun z M' => nI (n + 1) = z ∧ hc_ms (hc_ms M 53 n v) 48 6 (nI (n + 1)) = M')) := by
  refine hc_M.of hG (by decide) [some (.ref (hc_ad G 48)), some (.int v)] rfl (Nat.le_of_ble_eq_true rfl) ?_
  intro p e s m args below meth c C
  refine hc_iload_n C dX8_feed_0 rfl rfl ?_
  refine hc_iconst C dX8_feed_1 (v := 0) rfl ?_
  refine hc_sipush C dX8_feed_2 (v := 255) rfl ?_
  refine hc_cS3i C ms_X8_56 (c_X8_in C.ok) (Nat.le_of_ble_eq_true rfl) (hc_rr_rm (by decide)) ⟨Nat.zero_le _, Nat.zero_le _⟩ dX8_feed_5 (fun r_5 M_5 h_5 => ?_)
  obtain ⟨rfl, rfl⟩ := h_5
  refine hc_if_ne C (tgt := 14) dX8_feed_8 (by decide) (fun c_8 => ?_) (fun c_8 => ?_)
  rotate_left
  · exact absurd h0 (hb_z.mp c_8)
  refine hc_aload_n C dX8_feed_14 rfl rfl ?_
  refine hc_getI C fl_X8_82 rfl rfl dX8_feed_15 ?_
  refine hc_bipush C dX8_feed_18 (v := 120) rfl ?_
  refine hc_icmp_ne C (tgt := 26) dX8_feed_20 (by decide) (fun c_20 => ?_) (fun c_20 => ?_)
  rotate_left
  · exact absurd (show nI n = nI 120 from h1 ▸ c_20) (fun q => by have := (nI_eq (by omega) (by omega)).mp q; omega)
  refine hc_aload_n C dX8_feed_26 rfl rfl ?_
  refine hc_getR C fl_X8_22 rfl rfl dX8_feed_27 ?_
  refine hc_aload_n C dX8_feed_30 rfl rfl ?_
  refine hc_getI C fl_X8_82 rfl rfl dX8_feed_31 ?_
  refine hc_iload_n C dX8_feed_34 rfl rfl ?_
  refine hc_iastN C (j := n) rfl h1 (by omega) dX8_feed_35 ?_
  refine hc_aload_n C dX8_feed_36 rfl rfl ?_
  refine hc_dup C dX8_feed_37 rfl ?_
  refine hc_getI C fl_X8_82 rfl rfl dX8_feed_38 ?_
  refine hc_iconst C dX8_feed_41 (v := 1) rfl ?_
  refine hc_iadd C dX8_feed_42 ?_
  refine hc_top (v := nI (n + 1)) (by rw [hc_ms_n (by decide), h1, nI_1]) ?_
  refine hc_putI C fl_X8_82 pl_6_6 rfl rfl dX8_feed_43 ?_
  refine hc_aload_n C dX8_feed_46 rfl rfl ?_
  refine hc_getI C fl_X8_82 rfl rfl dX8_feed_47 ?_
  refine hc_iret C rfl dX8_feed_50 ?_
  exact ⟨hc_ms_v.symm, rfl⟩

set_option maxRecDepth 100000 in
set_option maxHeartbeats 4000000 in
theorem c_X8_byteAt_n {l : Launch} {G : hc_Geo} (hG : hc_ok G) {M : hc_Mem} {i : Int32}  (h0 : M 48 6 ≤ i) : hc_M l G yX8_byteAt cX8_byteAt 2 (some .int) 1 [.ref (hc_ad G 48), .int i] M (hc_pi (fun z M' => -1 = z ∧ M = M')) := by
  refine hc_M.of hG (by decide) [some (.ref (hc_ad G 48)), some (.int i)] rfl (Nat.le_of_ble_eq_true rfl) ?_
  intro p e s m args below meth c C
  refine hc_iload_n C dX8_byteAt_0 rfl rfl ?_
  refine hc_aload_n C dX8_byteAt_1 rfl rfl ?_
  refine hc_getI C fl_X8_82 rfl rfl dX8_byteAt_2 ?_
  refine hc_icmp_ge C (tgt := 17) dX8_byteAt_5 (by decide) (fun c_5 => ?_) (fun c_5 => ?_)
  rotate_left
  · exact absurd h0 c_5
  refine hc_iconst C dX8_byteAt_17 (v := (-1)) rfl ?_
  refine hc_iret C rfl dX8_byteAt_18 ?_
  exact ⟨rfl, rfl⟩

set_option maxRecDepth 100000 in
set_option maxHeartbeats 4000000 in
theorem c_X8_isWell {l : Launch} {G : hc_Geo} (hG : hc_ok G) {M : hc_Mem}  : hc_M l G yX8_isWell cX8_isWell 1 (some .boolean) 1 [.ref (hc_ad G 48)] M (hc_pi (fun z M' => hb (¬ 0 ≤ M 48 8) = z ∧ M = M')) := by
  refine hc_M.of hG (by decide) [some (.ref (hc_ad G 48))] rfl (Nat.le_of_ble_eq_true rfl) ?_
  intro p e s m args below meth c C
  refine hc_aload_n C dX8_isWell_0 rfl rfl ?_
  refine hc_getI C fl_X8_101 rfl rfl dX8_isWell_1 ?_
  refine hc_if_ge C (tgt := 11) dX8_isWell_4 (by decide) (fun c_4 => ?_) (fun c_4 => ?_)
  · refine hc_iconst C dX8_isWell_11 (v := 0) rfl ?_
    refine hc_zret C rfl rfl dX8_isWell_12 ?_
    refine ⟨?_, rfl⟩
    first | exact hb_t (by simp_all) | exact hb_f (by simp_all)
  · refine hc_iconst C dX8_isWell_7 (v := 1) rfl ?_
    refine hc_goto C (tgt := 12) dX8_isWell_8 (by decide) ?_
    refine hc_zret C rfl rfl dX8_isWell_12 ?_
    refine ⟨?_, rfl⟩
    first | exact hb_t (by simp_all) | exact hb_f (by simp_all)

set_option maxRecDepth 100000 in
set_option maxHeartbeats 4000000 in
theorem c_X8_advances_e {l : Launch} {G : hc_Geo} (hG : hc_ok G) {M : hc_Mem}  (h0 : M 48 6 ≤ M 48 9) : hc_M l G yX8_advances cX8_advances 2 none 2 [.ref (hc_ad G 48)] M (hc_pv (fun M' => hc_ms (hc_ms (hc_ms (hc_ms M 48 10 (M 48 9)) 48 12 (-1)) 48 11 0) 48 9 (M 48 9 + 0) = M')) := by
  refine hc_M.of hG (by decide) [some (.ref (hc_ad G 48)), none] rfl (Nat.le_of_ble_eq_true rfl) ?_
  intro p e s m args below meth c C
  refine hc_aload_n C dX8_advances_0 rfl rfl ?_
  refine hc_aload_n C dX8_advances_1 rfl rfl ?_
  refine hc_getI C fl_X8_86 rfl rfl dX8_advances_2 ?_
  refine hc_putI C fl_X8_89 pl_6_10 rfl rfl dX8_advances_5 ?_
  refine hc_aload_n C dX8_advances_8 rfl rfl ?_
  refine hc_aload_n C dX8_advances_9 rfl rfl ?_
  refine hc_getI C fl_X8_86 rfl rfl dX8_advances_10 ?_
  refine hc_cV1i C mv_X8_92 (c_X8_byteAt_n C.ok (by simpa [hc_ms, hc_mf, upd] using h0)) rfl rfl rfl (Nat.le_of_ble_eq_true rfl) (hc_rr_rm (by decide)) ⟨Nat.zero_le _, Nat.zero_le _⟩ dX8_advances_13 (fun r_13 M_13 h_13 => ?_)
  obtain ⟨rfl, rfl⟩ := h_13
  refine hc_istore_n1 C dX8_advances_16 rfl (by decide) rfl ?_
  refine hc_aload_n C dX8_advances_17 rfl rfl ?_
  refine hc_iload_n C dX8_advances_18 rfl rfl ?_
  refine hc_putI C fl_X8_95 pl_6_12 rfl rfl dX8_advances_19 ?_
  refine hc_iload_n C dX8_advances_22 rfl rfl ?_
  refine hc_bipush C dX8_advances_23 (v := 48) rfl ?_
  refine hc_bipush C dX8_advances_25 (v := 57) rfl ?_
  refine hc_cS3i C ms_X8_56 (c_X8_in C.ok) (Nat.le_of_ble_eq_true rfl) (hc_rr_rm (by decide)) ⟨Nat.zero_le _, Nat.zero_le _⟩ dX8_advances_27 (fun r_27 M_27 h_27 => ?_)
  obtain ⟨rfl, rfl⟩ := h_27
  refine hc_if_eq C (tgt := 135) dX8_advances_30 (by decide) (fun c_30 => ?_) (fun c_30 => ?_)
  rotate_left
  · exact absurd (hb_z.mpr (by decide)) c_30
  refine hc_aload_n C dX8_advances_135 rfl rfl ?_
  refine hc_iload_n C dX8_advances_136 rfl rfl ?_
  refine hc_if_ge C (tgt := 144) dX8_advances_137 (by decide) (fun c_137 => ?_) (fun c_137 => ?_)
  · exact absurd c_137 (by decide)
  refine hc_iconst C dX8_advances_140 (v := 0) rfl ?_
  refine hc_goto C (tgt := 180) dX8_advances_141 (by decide) ?_
  refine hc_putI C fl_X8_98 pl_6_11 rfl rfl dX8_advances_180 ?_
  refine hc_aload_n C dX8_advances_183 rfl rfl ?_
  refine hc_dup C dX8_advances_184 rfl ?_
  refine hc_getI C fl_X8_86 rfl rfl dX8_advances_185 ?_
  refine hc_aload_n C dX8_advances_188 rfl rfl ?_
  refine hc_getI C fl_X8_98 rfl rfl dX8_advances_189 ?_
  refine hc_if_ne C (tgt := 199) dX8_advances_192 (by decide) (fun c_192 => ?_) (fun c_192 => ?_)
  · exact (c_192 (by simp [hc_ms, hc_mf, upd])).elim
  refine hc_iconst C dX8_advances_195 (v := 0) rfl ?_
  refine hc_goto C (tgt := 200) dX8_advances_196 (by decide) ?_
  refine hc_top2 (v := M 48 9) (by simp [hc_ms, hc_mf, upd]) ?_
  refine hc_iadd C dX8_advances_200 ?_
  refine hc_putI C fl_X8_86 pl_6_9 rfl rfl dX8_advances_201 ?_
  refine hc_vret C rfl dX8_advances_204 ?_
  rfl

set_option maxRecDepth 100000 in
set_option maxHeartbeats 4000000 in
theorem c_X8_takes_x {l : Launch} {G : hc_Geo} (hG : hc_ok G) {M : hc_Mem} {b k : Int32}  (h0 : 0 ≤ M 48 8) : hc_M l G yX8_takes cX8_takes 4 (some .int) 2 [.ref (hc_ad G 48), .int b, .int k] M (hc_pi (fun z M' => 0 = z ∧ M = M')) := by
  refine hc_M.of hG (by decide) [some (.ref (hc_ad G 48)), some (.int b), some (.int k), none] rfl (Nat.le_of_ble_eq_true rfl) ?_
  intro p e s m args below meth c C
  refine hc_aload_n C dX8_takes_0 rfl rfl ?_
  refine hc_cV0i C mv_X8_104 (c_X8_isWell C.ok) rfl rfl rfl (Nat.le_of_ble_eq_true rfl) (hc_rr_rm (by decide)) ⟨Nat.zero_le _, Nat.zero_le _⟩ dX8_takes_1 (fun r_1 M_1 h_1 => ?_)
  obtain ⟨rfl, rfl⟩ := h_1
  refine hc_if_ne C (tgt := 9) dX8_takes_4 (by decide) (fun c_4 => ?_) (fun c_4 => ?_)
  · exact absurd (hb_f (not_not_intro h0)) c_4
  refine hc_iconst C dX8_takes_7 (v := 0) rfl ?_
  refine hc_iret C rfl dX8_takes_8 ?_
  exact ⟨rfl, rfl⟩

set_option maxRecDepth 100000 in
set_option maxHeartbeats 4000000 in
theorem c_X8_takes_f {l : Launch} {G : hc_Geo} (hG : hc_ok G) {M : hc_Mem} {k : Int32}  (h0 : ¬ 0 ≤ M 48 8) : hc_M l G yX8_takes cX8_takes 4 (some .int) 2 [.ref (hc_ad G 48), .int 0, .int k] M (hc_pi (fun z M' => 0 = z ∧ hc_ms (hc_ms M 48 8 (M 48 10)) 48 7 k = M')) := by
  refine hc_M.of hG (by decide) [some (.ref (hc_ad G 48)), some (.int 0), some (.int k), none] rfl (Nat.le_of_ble_eq_true rfl) ?_
  intro p e s m args below meth c C
  refine hc_aload_n C dX8_takes_0 rfl rfl ?_
  refine hc_cV0i C mv_X8_104 (c_X8_isWell C.ok) rfl rfl rfl (Nat.le_of_ble_eq_true rfl) (hc_rr_rm (by decide)) ⟨Nat.zero_le _, Nat.zero_le _⟩ dX8_takes_1 (fun r_1 M_1 h_1 => ?_)
  obtain ⟨rfl, rfl⟩ := h_1
  refine hc_if_ne C (tgt := 9) dX8_takes_4 (by decide) (fun c_4 => ?_) (fun c_4 => ?_)
  rotate_left
  · exact absurd h0 (hb_z.mp c_4)
  refine hc_iload_n C dX8_takes_9 rfl rfl ?_
  refine hc_if_ne C (tgt := 28) dX8_takes_10 (by decide) (fun c_10 => ?_) (fun c_10 => ?_)
  · exact absurd rfl c_10
  refine hc_aload_n C dX8_takes_13 rfl rfl ?_
  refine hc_aload_n C dX8_takes_14 rfl rfl ?_
  refine hc_getI C fl_X8_89 rfl rfl dX8_takes_15 ?_
  refine hc_putI C fl_X8_101 pl_6_8 rfl rfl dX8_takes_18 ?_
  refine hc_aload_n C dX8_takes_21 rfl rfl ?_
  refine hc_iload_n C dX8_takes_22 rfl rfl ?_
  refine hc_putI C fl_X8_108 pl_6_7 rfl rfl dX8_takes_23 ?_
  refine hc_iconst C dX8_takes_26 (v := 0) rfl ?_
  refine hc_iret C rfl dX8_takes_27 ?_
  exact ⟨rfl, rfl⟩

set_option maxRecDepth 100000 in
set_option maxHeartbeats 4000000 in
theorem c_X8_figure_x {l : Launch} {G : hc_Geo} (hG : hc_ok G) {M : hc_Mem} {a b : Int32}  (h0 : 0 ≤ M 48 8) : hc_M l G yX8_figure cX8_figure 3 (some .int) 3 [.ref (hc_ad G 48), .int a, .int b] M (hc_pi (fun z M' => 0 = z ∧ M = M')) := by
  refine hc_M.of hG (by decide) [some (.ref (hc_ad G 48)), some (.int a), some (.int b)] rfl (Nat.le_of_ble_eq_true rfl) ?_
  intro p e s m args below meth c C
  refine hc_aload_n C dX8_figure_0 rfl rfl ?_
  refine hc_cV0i C mv_X8_104 (c_X8_isWell C.ok) rfl rfl rfl (Nat.le_of_ble_eq_true rfl) (hc_rr_rm (by decide)) ⟨Nat.zero_le _, Nat.zero_le _⟩ dX8_figure_1 (fun r_1 M_1 h_1 => ?_)
  obtain ⟨rfl, rfl⟩ := h_1
  refine hc_if_eq C (tgt := 22) dX8_figure_4 (by decide) (fun c_4 => ?_) (fun c_4 => ?_)
  rotate_left
  · exact absurd (hb_z.mpr (not_not_intro h0)) c_4
  refine hc_aload_n C dX8_figure_22 rfl rfl ?_
  refine hc_aload_n C dX8_figure_23 rfl rfl ?_
  refine hc_getI C fl_X8_95 rfl rfl dX8_figure_24 ?_
  refine hc_iload_n C dX8_figure_27 rfl rfl ?_
  refine hc_iload_n C dX8_figure_28 rfl rfl ?_
  refine hc_cS3i C ms_X8_56 (c_X8_in C.ok) (Nat.le_of_ble_eq_true rfl) (hc_rr_rm (by decide)) ⟨Nat.zero_le _, Nat.zero_le _⟩ dX8_figure_29 (fun r_29 M_29 h_29 => ?_)
  obtain ⟨rfl, rfl⟩ := h_29
  refine hc_iconst C dX8_figure_32 (v := 2) rfl ?_
  refine hc_cV2i C mv_X8_114 (c_X8_takes_x C.ok h0) rfl rfl rfl (Nat.le_of_ble_eq_true rfl) (hc_rr_rm (by decide)) ⟨Nat.zero_le _, Nat.zero_le _⟩ dX8_figure_33 (fun r_33 M_33 h_33 => ?_)
  obtain ⟨rfl, rfl⟩ := h_33
  refine hc_iret C rfl dX8_figure_36 ?_
  exact ⟨rfl, rfl⟩

set_option maxRecDepth 100000 in
set_option maxHeartbeats 4000000 in
theorem lp_R_house0 {G : hc_Geo} {p : Program} {l : Launch} {e : Env} {d : Nat} {s : State} {m : MethodId} {args : Array Value} {below : List Frame} {meth : Method} {c : Code} {Q : State → Prop} (C : hc_Cx G hc_lay cX8_house 2 (some .int) yX8_house.cls p s m args meth c) {M : hc_Mem} 
    (kk : hc_W G hc_lay p l e (hc_rm d) s m args below meth c 2 0 0 Q 21 [some (.ref (hc_ad G 48)), some (.int (nI 68))] [] (hc_mf M 55 (fun x => if x < 68 then 0 else M 55 x))) :
    ∀ (t : Nat) (i : Nat), i + t = 68 → hc_W G hc_lay p l e (hc_rm d) s m args below meth c 2 0 0 Q 2 [some (.ref (hc_ad G 48)), some (.int (nI i))] [] (hc_mf M 55 (fun x => if x < i then 0 else M 55 x)) := by
  intro t
  induction t with
  | zero =>
    intro i hi
    refine hc_iload_n C dX8_house_2 rfl rfl ?_
    refine hc_bipush C dX8_house_3 (v := 68) rfl ?_
    refine hc_icmp_ge C (tgt := 21) dX8_house_5 (by decide) (fun c_5 => ?_) (fun c_5 => ?_)
    rotate_left
    · exact absurd (show (68 : Int32) ≤ nI i from by rw [show i = 68 by omega]; decide) c_5
    rw [show i = 68 by omega]
    exact kk
  | succ t ih =>
    intro i hi
    refine hc_iload_n C dX8_house_2 rfl rfl ?_
    refine hc_bipush C dX8_house_3 (v := 68) rfl ?_
    refine hc_icmp_ge C (tgt := 21) dX8_house_5 (by decide) (fun c_5 => ?_) (fun c_5 => ?_)
    · exact absurd (show nI 68 ≤ nI i from c_5) (nI_ge (show i < 68 by omega) (by omega))
    refine hc_aload_n C dX8_house_8 rfl rfl ?_
    refine hc_getR C fl_X8_28 rfl rfl dX8_house_9 ?_
    refine hc_iload_n C dX8_house_12 rfl rfl ?_
    refine hc_iconst C dX8_house_13 (v := 0) rfl ?_
    refine hc_iastN C (j := i) rfl rfl (by omega) dX8_house_14 ?_
    refine hc_iinc1 C (v := nI (i + 1)) dX8_house_15 (by decide) rfl rfl (nI_1 i) ?_
    refine hc_goto C (tgt := 2) dX8_house_18 (by decide) ?_
    refine hc_mem ?_ (ih (i + 1) (by omega))
    funext q
    by_cases hq : q = 55
    · subst hq
      simp only [hc_ms_s, hc_mf_s]
      funext x
      by_cases hx : x = i
      · subst hx
        rw [if_pos (by omega)]
        simp [upd]
      · have e1 : (x < i + 1) ↔ (x < i) := by omega
        simp only [upd, hx, if_false, e1]
    · simp only [hc_ms_n hq, hc_mf_n hq]

set_option maxRecDepth 100000 in
set_option maxHeartbeats 4000000 in
theorem c_X8_house_0 {l : Launch} {G : hc_Geo} (hG : hc_ok G) {M : hc_Mem}  (h0 : M 48 6 = 0) : hc_M l G yX8_house cX8_house 2 (some .int) 4 [.ref (hc_ad G 48)] M (hc_pi (fun z M' => z = -1000100)) := by
  refine hc_M.of hG (by decide) [some (.ref (hc_ad G 48)), none] rfl (Nat.le_of_ble_eq_true rfl) ?_
  intro p e s m args below meth c C
  refine hc_iconst C dX8_house_0 (v := 0) rfl ?_
  refine hc_istore_n1 C dX8_house_1 rfl (by decide) rfl ?_
  refine hc_mem ?_ (lp_R_house0 (M := M) C ?_ 68 0 rfl)
  · funext q
    by_cases hq : q = 55
    · subst hq
      rw [hc_mf_s]
      funext x
      rw [if_neg (by omega)]
    · rw [hc_mf_n hq]
  refine hc_aload_n C dX8_house_21 rfl rfl ?_
  refine hc_iconst C dX8_house_22 (v := 0) rfl ?_
  refine hc_putI C fl_X8_86 pl_6_9 rfl rfl dX8_house_23 ?_
  refine hc_aload_n C dX8_house_26 rfl rfl ?_
  refine hc_iconst C dX8_house_27 (v := (-1)) rfl ?_
  refine hc_putI C fl_X8_101 pl_6_8 rfl rfl dX8_house_28 ?_
  refine hc_aload_n C dX8_house_31 rfl rfl ?_
  refine hc_cV0v C mv_X8_111 (c_X8_advances_e C.ok (by simp [hc_ms, hc_mf, upd, h0])) rfl rfl rfl (Nat.le_of_ble_eq_true rfl) (hc_rr_rm (by decide)) ⟨Nat.zero_le _, Nat.zero_le _⟩ dX8_house_32 (fun M_32 h_32 => ?_)
  obtain rfl := h_32
  refine hc_aload_n C dX8_house_35 rfl rfl ?_
  refine hc_aload_n C dX8_house_36 rfl rfl ?_
  refine hc_getI C fl_X8_98 rfl rfl dX8_house_37 ?_
  refine hc_iconst C dX8_house_40 (v := 1) rfl ?_
  refine hc_icmp_ne C (tgt := 57) dX8_house_41 (by decide) (fun c_41 => ?_) (fun c_41 => ?_)
  rotate_left
  · exact absurd c_41 (by simp [hc_ms, hc_mf, upd])
  refine hc_iconst C dX8_house_57 (v := 0) rfl ?_
  refine hc_iconst C dX8_house_58 (v := 1) rfl ?_
  refine hc_cV2i C mv_X8_114 (c_X8_takes_f C.ok (by simp [hc_ms, hc_mf, upd])) rfl rfl rfl (Nat.le_of_ble_eq_true rfl) (hc_rr_rm (by decide)) ⟨Nat.zero_le _, Nat.zero_le _⟩ dX8_house_59 (fun r_59 M_59 h_59 => ?_)
  obtain ⟨rfl, rfl⟩ := h_59
  refine hc_pop C dX8_house_62 rfl ?_
  refine hc_aload_n C dX8_house_63 rfl rfl ?_
  refine hc_getR C fl_X8_28 rfl rfl dX8_house_64 ?_
  refine hc_iconst C dX8_house_67 (v := 1) rfl ?_
  refine hc_aload_n C dX8_house_68 rfl rfl ?_
  refine hc_iconst C dX8_house_69 (v := 0) rfl ?_
  refine hc_bipush C dX8_house_70 (v := 12) rfl ?_
  refine hc_cV2i C mv_X8_118 (c_X8_figure_x C.ok (by simp [hc_ms, hc_mf, upd])) rfl rfl rfl (Nat.le_of_ble_eq_true rfl) (hc_rr_rm (by decide)) ⟨Nat.zero_le _, Nat.zero_le _⟩ dX8_house_72 (fun r_72 M_72 h_72 => ?_)
  obtain ⟨rfl, rfl⟩ := h_72
  refine hc_iastN C (j := 1) rfl rfl (by decide) dX8_house_75 ?_
  refine hc_aload_n C dX8_house_76 rfl rfl ?_
  refine hc_aload_n C dX8_house_77 rfl rfl ?_
  refine hc_getI C fl_X8_98 rfl rfl dX8_house_78 ?_
  refine hc_iconst C dX8_house_81 (v := 4) rfl ?_
  refine hc_icmp_ne C (tgt := 89) dX8_house_82 (by decide) (fun c_82 => ?_) (fun c_82 => ?_)
  rotate_left
  · exact absurd c_82 (by simp [hc_ms, hc_mf, upd])
  refine hc_iconst C dX8_house_89 (v := 0) rfl ?_
  refine hc_iconst C dX8_house_90 (v := 1) rfl ?_
  refine hc_cV2i C mv_X8_114 (c_X8_takes_x C.ok (by simp [hc_ms, hc_mf, upd])) rfl rfl rfl (Nat.le_of_ble_eq_true rfl) (hc_rr_rm (by decide)) ⟨Nat.zero_le _, Nat.zero_le _⟩ dX8_house_91 (fun r_91 M_91 h_91 => ?_)
  obtain ⟨rfl, rfl⟩ := h_91
  refine hc_pop C dX8_house_94 rfl ?_
  refine hc_aload_n C dX8_house_95 rfl rfl ?_
  refine hc_cV0i C mv_X8_104 (c_X8_isWell C.ok) rfl rfl rfl (Nat.le_of_ble_eq_true rfl) (hc_rr_rm (by decide)) ⟨Nat.zero_le _, Nat.zero_le _⟩ dX8_house_96 (fun r_96 M_96 h_96 => ?_)
  obtain ⟨rfl, rfl⟩ := h_96
  refine hc_if_eq C (tgt := 127) dX8_house_99 (by decide) (fun c_99 => ?_) (fun c_99 => ?_)
  rotate_left
  · exact absurd (hb_nz.mp c_99) (by simp [hc_ms, hc_mf, upd])
  refine hc_aload_n C dX8_house_127 rfl rfl ?_
  refine hc_cV0i C mv_X8_104 (c_X8_isWell C.ok) rfl rfl rfl (Nat.le_of_ble_eq_true rfl) (hc_rr_rm (by decide)) ⟨Nat.zero_le _, Nat.zero_le _⟩ dX8_house_128 (fun r_128 M_128 h_128 => ?_)
  obtain ⟨rfl, rfl⟩ := h_128
  refine hc_if_eq C (tgt := 158) dX8_house_131 (by decide) (fun c_131 => ?_) (fun c_131 => ?_)
  rotate_left
  · exact absurd (hb_nz.mp c_131) (by simp [hc_ms, hc_mf, upd])
  refine hc_aload_n C dX8_house_158 rfl rfl ?_
  refine hc_cV0i C mv_X8_104 (c_X8_isWell C.ok) rfl rfl rfl (Nat.le_of_ble_eq_true rfl) (hc_rr_rm (by decide)) ⟨Nat.zero_le _, Nat.zero_le _⟩ dX8_house_159 (fun r_159 M_159 h_159 => ?_)
  obtain ⟨rfl, rfl⟩ := h_159
  refine hc_if_eq C (tgt := 179) dX8_house_162 (by decide) (fun c_162 => ?_) (fun c_162 => ?_)
  rotate_left
  · exact absurd (hb_nz.mp c_162) (by simp [hc_ms, hc_mf, upd])
  refine hc_aload_n C dX8_house_179 rfl rfl ?_
  refine hc_iconst C dX8_house_180 (v := 0) rfl ?_
  refine hc_putI C fl_X8_82 pl_6_6 rfl rfl dX8_house_181 ?_
  refine hc_aload_n C dX8_house_184 rfl rfl ?_
  refine hc_cV0i C mv_X8_104 (c_X8_isWell C.ok) rfl rfl rfl (Nat.le_of_ble_eq_true rfl) (hc_rr_rm (by decide)) ⟨Nat.zero_le _, Nat.zero_le _⟩ dX8_house_185 (fun r_185 M_185 h_185 => ?_)
  obtain ⟨rfl, rfl⟩ := h_185
  refine hc_if_ne C (tgt := 199) dX8_house_188 (by decide) (fun c_188 => ?_) (fun c_188 => ?_)
  · exact absurd (hb_nz.mp c_188) (by simp [hc_ms, hc_mf, upd])
  refine hc_ldc C kc_X8_133 dX8_house_191 ?_
  refine hc_aload_n C dX8_house_193 rfl rfl ?_
  refine hc_getI C fl_X8_101 rfl rfl dX8_house_194 ?_
  refine hc_isub C dX8_house_197 ?_
  refine hc_iret C rfl dX8_house_198 ?_
  show _ = _
  simp [hc_ms, hc_mf, upd]
