set_option maxRecDepth 100000 in
set_option maxHeartbeats 4000000 in
theorem c_J7_rangeCheck_23922 {l : Launch} {G : hc_Geo} (hG : hc_ok G) {M : hc_Mem} {n a b : Int32}  (h1 : a ≤ b) (h2 : 0 ≤ a) (h3 : b ≤ n) : hc_M l G yJ7_rangeCheck_23922 cJ7_rangeCheck_23922 3 none 1 [.int n, .int a, .int b] M (hc_pv (fun M' => M = M')) := by
  refine hc_M.of hG (by decide) [some (.int n), some (.int a), some (.int b)] rfl (Nat.le_of_ble_eq_true rfl) ?_
  intro p e s m args below meth c C
  refine hc_iload_n C dJ7_rangeCheck_23922_0 rfl rfl ?_
  refine hc_iload_n C dJ7_rangeCheck_23922_1 rfl rfl ?_
  refine hc_icmp_le C (tgt := 46) dJ7_rangeCheck_23922_2 (by decide) (fun c_2 => ?_) (fun c_2 => ?_)
  rotate_left
  · exact absurd h1 c_2
  refine hc_iload_n C dJ7_rangeCheck_23922_46 rfl rfl ?_
  refine hc_if_ge C (tgt := 59) dJ7_rangeCheck_23922_47 (by decide) (fun c_47 => ?_) (fun c_47 => ?_)
  rotate_left
  · exact absurd h2 c_47
  refine hc_iload_n C dJ7_rangeCheck_23922_59 rfl rfl ?_
  refine hc_iload_n C dJ7_rangeCheck_23922_60 rfl rfl ?_
  refine hc_icmp_le C (tgt := 73) dJ7_rangeCheck_23922_61 (by decide) (fun c_61 => ?_) (fun c_61 => ?_)
  rotate_left
  · exact absurd h3 c_61
  refine hc_vret C rfl dJ7_rangeCheck_23922_73 ?_
  rfl

set_option maxRecDepth 100000 in
set_option maxHeartbeats 4000000 in
theorem lp_fill4 {G : hc_Geo} {p : Program} {l : Launch} {e : Env} {d : Nat} {s : State} {m : MethodId} {args : Array Value} {below : List Frame} {meth : Method} {c : Code} {Q : State → Prop} (C : hc_Cx G hc_lay cJ7_fill_fda19 5 none yJ7_fill_fda19.cls p s m args meth c) {k n a b : Nat} {v : Int32} {M : hc_Mem} (hy : hc_lay[k]? = some (.inl (false, n))) (hb : b ≤ n) (hn : n < 2 ^ 31)
    (kk : hc_W G hc_lay p l e (hc_rm d) s m args below meth c 5 0 0 Q 27 [some (.ref (hc_ad G k)), some (.int (nI a)), some (.int (nI b)), some (.int v), some (.int (nI b))] [] (hc_mf M k (fun j => if a ≤ j ∧ j < b then v else M k j))) :
    ∀ (t i : Nat), i + t = b → a ≤ i → hc_W G hc_lay p l e (hc_rm d) s m args below meth c 5 0 0 Q 10 [some (.ref (hc_ad G k)), some (.int (nI a)), some (.int (nI b)), some (.int v), some (.int (nI i))] [] (hc_mf M k (fun j => if a ≤ j ∧ j < i then v else M k j)) := by
  intro t
  induction t with
  | zero =>
    intro i hi ha
    refine hc_iload C dJ7_fill_fda19_10 rfl ?_
    refine hc_iload_n C dJ7_fill_fda19_12 rfl rfl ?_
    refine hc_icmp_ge C (tgt := 27) dJ7_fill_fda19_13 (by decide) (fun c_13 => ?_) (fun c_13 => ?_)
    rotate_left
    · exact absurd (nI_le (show b ≤ i by omega) (by omega)) c_13
    rw [show i = b by omega]
    exact kk
  | succ t ih =>
    intro i hi ha
    refine hc_iload C dJ7_fill_fda19_10 rfl ?_
    refine hc_iload_n C dJ7_fill_fda19_12 rfl rfl ?_
    refine hc_icmp_ge C (tgt := 27) dJ7_fill_fda19_13 (by decide) (fun c_13 => ?_) (fun c_13 => ?_)
    · exact absurd c_13 (nI_ge (show i < b by omega) (by omega))
    refine hc_aload_n C dJ7_fill_fda19_16 rfl rfl ?_
    refine hc_iload C dJ7_fill_fda19_17 rfl ?_
    refine hc_iload_n C dJ7_fill_fda19_19 rfl rfl ?_
    refine hc_iast C hy (vp_in_nI (show i < n by omega) hn) dJ7_fill_fda19_20 ?_
    refine hc_iinc4 C (v := nI (i + 1)) dJ7_fill_fda19_21 (by decide) rfl rfl (nI_1 i) ?_
    refine hc_goto C (tgt := 10) dJ7_fill_fda19_24 (by decide) ?_
    refine hc_mem ?_ (ih (i + 1) (by omega) (by omega))
    funext q
    by_cases hq : q = k
    · subst hq
      simp only [hc_ms_s, hc_mf_s, nI_clamp (show i < 2 ^ 31 by omega)]
      funext j
      by_cases hj : j = i
      · subst hj
        simp [upd, ha]
      · have e : (a ≤ j ∧ j < i + 1) ↔ (a ≤ j ∧ j < i) := by omega
        simp only [upd, hj, if_false, e]
    · simp only [hc_ms_n hq, hc_mf_n hq]

set_option maxRecDepth 100000 in
set_option maxHeartbeats 4000000 in
theorem c_J7_fill_fda19 {l : Launch} {G : hc_Geo} (hG : hc_ok G) {M : hc_Mem} {k n a b : Nat} {v : Int32}  (hy : hc_lay[k]? = some (.inl (false, n))) (hab : a ≤ b) (hb : b ≤ n) : hc_M l G yJ7_fill_fda19 cJ7_fill_fda19 5 none 2 [.ref (hc_ad G k), .int (nI a), .int (nI b), .int v] M (hc_pv (fun M' => hc_mf M k (fun j => if a ≤ j ∧ j < b then v else M k j) = M')) := by
  refine hc_M.of hG (by decide) [some (.ref (hc_ad G k)), some (.int (nI a)), some (.int (nI b)), some (.int v), none] rfl (Nat.le_of_ble_eq_true rfl) ?_
  intro p e s m args below meth c C
  refine hc_aload_n C dJ7_fill_fda19_0 rfl rfl ?_
  refine hc_alen C hy (v := nI n) rfl dJ7_fill_fda19_1 ?_
  refine hc_iload_n C dJ7_fill_fda19_2 rfl rfl ?_
  refine hc_iload_n C dJ7_fill_fda19_3 rfl rfl ?_
  refine hc_cS3v C ms_J7_13 (c_J7_rangeCheck_23922 C.ok (nI_le hab (by have := hc_lay_sm hy; omega)) (nI_pos' (by have := hc_lay_sm hy; omega)) (nI_le hb (hc_lay_sm hy))) (Nat.le_of_ble_eq_true rfl) (hc_rr_rm (by decide)) ⟨Nat.zero_le _, Nat.zero_le _⟩ dJ7_fill_fda19_4 (fun M_4 h_4 => ?_)
  obtain rfl := h_4
  refine hc_iload_n C dJ7_fill_fda19_7 rfl rfl ?_
  refine hc_istore4 C dJ7_fill_fda19_8 (by decide) rfl ?_
  refine hc_mem ?_ (lp_fill4 (M := M) (v := v) C hy hb (hc_lay_sm hy) ?_ (b - a) a (by omega) (Nat.le_refl a))
  rotate_left
  · exact hc_vret C rfl dJ7_fill_fda19_27 rfl
  funext q
  by_cases hq : q = k
  · subst hq
    rw [hc_mf_s]
    funext j
    rw [if_neg (by omega)]
  · rw [hc_mf_n hq]

set_option maxRecDepth 100000 in
set_option maxHeartbeats 4000000 in
theorem c_X5_isRow {l : Launch} {G : hc_Geo} (hG : hc_ok G) {M : hc_Mem} {r : Int32}  : hc_M l G yX5_isRow cX5_isRow 1 (some .boolean) 1 [.int r] M (hc_pi (fun z M' => hb (¬ r < 0 ∧ ¬ 8 ≤ r) = z ∧ M = M')) := by
  refine hc_M.of hG (by decide) [some (.int r)] rfl (Nat.le_of_ble_eq_true rfl) ?_
  intro p e s m args below meth c C
  refine hc_iload_n C dX5_isRow_0 rfl rfl ?_
  refine hc_if_lt C (tgt := 14) dX5_isRow_1 (by decide) (fun c_1 => ?_) (fun c_1 => ?_)
  · refine hc_iconst C dX5_isRow_14 (v := 0) rfl ?_
    refine hc_zret C rfl rfl dX5_isRow_15 ?_
    refine ⟨?_, rfl⟩
    first | exact hb_t (by simp_all) | exact hb_f (by simp_all)
  · refine hc_iload_n C dX5_isRow_4 rfl rfl ?_
    refine hc_bipush C dX5_isRow_5 (v := 8) rfl ?_
    refine hc_icmp_ge C (tgt := 14) dX5_isRow_7 (by decide) (fun c_7 => ?_) (fun c_7 => ?_)
    · refine hc_iconst C dX5_isRow_14 (v := 0) rfl ?_
      refine hc_zret C rfl rfl dX5_isRow_15 ?_
      refine ⟨?_, rfl⟩
      first | exact hb_t (by simp_all) | exact hb_f (by simp_all)
    · refine hc_iconst C dX5_isRow_10 (v := 1) rfl ?_
      refine hc_goto C (tgt := 15) dX5_isRow_11 (by decide) ?_
      refine hc_zret C rfl rfl dX5_isRow_15 ?_
      refine ⟨?_, rfl⟩
      first | exact hb_t (by simp_all) | exact hb_f (by simp_all)

set_option maxRecDepth 100000 in
set_option maxHeartbeats 4000000 in
theorem c_X5_isLane {l : Launch} {G : hc_Geo} (hG : hc_ok G) {M : hc_Mem} {r : Int32}  : hc_M l G yX5_isLane cX5_isLane 1 (some .boolean) 1 [.int r] M (hc_pi (fun z M' => hb (¬ r < 0 ∧ ¬ 2 < r) = z ∧ M = M')) := by
  refine hc_M.of hG (by decide) [some (.int r)] rfl (Nat.le_of_ble_eq_true rfl) ?_
  intro p e s m args below meth c C
  refine hc_iload_n C dX5_isLane_0 rfl rfl ?_
  refine hc_if_lt C (tgt := 13) dX5_isLane_1 (by decide) (fun c_1 => ?_) (fun c_1 => ?_)
  · refine hc_iconst C dX5_isLane_13 (v := 0) rfl ?_
    refine hc_zret C rfl rfl dX5_isLane_14 ?_
    refine ⟨?_, rfl⟩
    first | exact hb_t (by simp_all) | exact hb_f (by simp_all)
  · refine hc_iload_n C dX5_isLane_4 rfl rfl ?_
    refine hc_iconst C dX5_isLane_5 (v := 2) rfl ?_
    refine hc_icmp_gt C (tgt := 13) dX5_isLane_6 (by decide) (fun c_6 => ?_) (fun c_6 => ?_)
    · refine hc_iconst C dX5_isLane_13 (v := 0) rfl ?_
      refine hc_zret C rfl rfl dX5_isLane_14 ?_
      refine ⟨?_, rfl⟩
      first | exact hb_t (by simp_all) | exact hb_f (by simp_all)
    · refine hc_iconst C dX5_isLane_9 (v := 1) rfl ?_
      refine hc_goto C (tgt := 14) dX5_isLane_10 (by decide) ?_
      refine hc_zret C rfl rfl dX5_isLane_14 ?_
      refine ⟨?_, rfl⟩
      first | exact hb_t (by simp_all) | exact hb_f (by simp_all)

set_option maxRecDepth 100000 in
set_option maxHeartbeats 4000000 in
theorem c_X5_isMissing {l : Launch} {G : hc_Geo} (hG : hc_ok G) {M : hc_Mem} {j : Nat}  (hj : j < 8) : hc_M l G yX5_isMissing cX5_isMissing 2 (some .boolean) 1 [.ref (hc_ad G 1), .int (nI j)] M (hc_pi (fun z M' => hb (M 2 j = -1) = z ∧ M = M')) := by
  refine hc_M.of hG (by decide) [some (.ref (hc_ad G 1)), some (.int (nI j))] rfl (Nat.le_of_ble_eq_true rfl) ?_
  intro p e s m args below meth c C
  refine hc_aload_n C dX5_isMissing_0 rfl rfl ?_
  refine hc_getR C fl_X5_11 rfl rfl dX5_isMissing_1 ?_
  refine hc_iload_n C dX5_isMissing_4 rfl rfl ?_
  refine hc_ialdN C (j := j) rfl rfl (by omega) dX5_isMissing_5 ?_
  refine hc_iconst C dX5_isMissing_6 (v := (-1)) rfl ?_
  refine hc_icmp_ne C (tgt := 14) dX5_isMissing_7 (by decide) (fun c_7 => ?_) (fun c_7 => ?_)
  · refine hc_iconst C dX5_isMissing_14 (v := 0) rfl ?_
    refine hc_zret C rfl rfl dX5_isMissing_15 ?_
    refine ⟨?_, rfl⟩
    first | exact hb_t (by simp_all) | exact hb_f (by simp_all)
  · refine hc_iconst C dX5_isMissing_10 (v := 1) rfl ?_
    refine hc_goto C (tgt := 15) dX5_isMissing_11 (by decide) ?_
    refine hc_zret C rfl rfl dX5_isMissing_15 ?_
    refine ⟨?_, rfl⟩
    first | exact hb_t (by simp_all) | exact hb_f (by simp_all)

set_option maxRecDepth 100000 in
set_option maxHeartbeats 4000000 in
theorem c_X5_hasPlaces {l : Launch} {G : hc_Geo} (hG : hc_ok G) {M : hc_Mem} {j : Nat} {i n : Int32}  (hj : j < 8) : hc_M l G yX5_hasPlaces cX5_hasPlaces 4 (some .boolean) 1 [.ref (hc_ad G 1), .int (nI j), .int i, .int n] M (hc_pi (fun z M' => hb (¬ i < 0 ∧ ¬ n < 0 ∧ ¬ M 3 j < i ∧ ¬ M 3 j - i < n) = z ∧ M = M')) := by
  refine hc_M.of hG (by decide) [some (.ref (hc_ad G 1)), some (.int (nI j)), some (.int i), some (.int n)] rfl (Nat.le_of_ble_eq_true rfl) ?_
  intro p e s m args below meth c C
  refine hc_iload_n C dX5_hasPlaces_0 rfl rfl ?_
  refine hc_if_lt C (tgt := 34) dX5_hasPlaces_1 (by decide) (fun c_1 => ?_) (fun c_1 => ?_)
  · refine hc_iconst C dX5_hasPlaces_34 (v := 0) rfl ?_
    refine hc_zret C rfl rfl dX5_hasPlaces_35 ?_
    refine ⟨?_, rfl⟩
    first | exact hb_t (by simp_all) | exact hb_f (by simp_all)
  · refine hc_iload_n C dX5_hasPlaces_4 rfl rfl ?_
    refine hc_if_lt C (tgt := 34) dX5_hasPlaces_5 (by decide) (fun c_5 => ?_) (fun c_5 => ?_)
    · refine hc_iconst C dX5_hasPlaces_34 (v := 0) rfl ?_
      refine hc_zret C rfl rfl dX5_hasPlaces_35 ?_
      refine ⟨?_, rfl⟩
      first | exact hb_t (by simp_all) | exact hb_f (by simp_all)
    · refine hc_iload_n C dX5_hasPlaces_8 rfl rfl ?_
      refine hc_aload_n C dX5_hasPlaces_9 rfl rfl ?_
      refine hc_getR C fl_X5_15 rfl rfl dX5_hasPlaces_10 ?_
      refine hc_iload_n C dX5_hasPlaces_13 rfl rfl ?_
      refine hc_ialdN C (j := j) rfl rfl (by omega) dX5_hasPlaces_14 ?_
      refine hc_icmp_gt C (tgt := 34) dX5_hasPlaces_15 (by decide) (fun c_15 => ?_) (fun c_15 => ?_)
      · refine hc_iconst C dX5_hasPlaces_34 (v := 0) rfl ?_
        refine hc_zret C rfl rfl dX5_hasPlaces_35 ?_
        refine ⟨?_, rfl⟩
        first | exact hb_t (by simp_all) | exact hb_f (by simp_all)
      · refine hc_iload_n C dX5_hasPlaces_18 rfl rfl ?_
        refine hc_aload_n C dX5_hasPlaces_19 rfl rfl ?_
        refine hc_getR C fl_X5_15 rfl rfl dX5_hasPlaces_20 ?_
        refine hc_iload_n C dX5_hasPlaces_23 rfl rfl ?_
        refine hc_ialdN C (j := j) rfl rfl (by omega) dX5_hasPlaces_24 ?_
        refine hc_iload_n C dX5_hasPlaces_25 rfl rfl ?_
        refine hc_isub C dX5_hasPlaces_26 ?_
        refine hc_icmp_gt C (tgt := 34) dX5_hasPlaces_27 (by decide) (fun c_27 => ?_) (fun c_27 => ?_)
        · refine hc_iconst C dX5_hasPlaces_34 (v := 0) rfl ?_
          refine hc_zret C rfl rfl dX5_hasPlaces_35 ?_
          refine ⟨?_, rfl⟩
          first | exact hb_t (by simp_all) | exact hb_f (by simp_all)
        · refine hc_iconst C dX5_hasPlaces_30 (v := 1) rfl ?_
          refine hc_goto C (tgt := 35) dX5_hasPlaces_31 (by decide) ?_
          refine hc_zret C rfl rfl dX5_hasPlaces_35 ?_
          refine ⟨?_, rfl⟩
          first | exact hb_t (by simp_all) | exact hb_f (by simp_all)

set_option maxRecDepth 100000 in
set_option maxHeartbeats 4000000 in
theorem c_X5_findingOf {l : Launch} {G : hc_Geo} (hG : hc_ok G) {M : hc_Mem} {j : Nat} {i n : Int32}  (hj : j < 8) : hc_M l G yX5_findingOf cX5_findingOf 4 (some .int) 2 [.ref (hc_ad G 1), .int (nI j), .int i, .int n] M (hc_pi (fun z M' => (if M 2 j = -1 then 1 else if ¬ i < 0 ∧ ¬ n < 0 ∧ ¬ M 3 j < i ∧ ¬ M 3 j - i < n then 0 else 2) = z ∧ M = M')) := by
  refine hc_M.of hG (by decide) [some (.ref (hc_ad G 1)), some (.int (nI j)), some (.int i), some (.int n)] rfl (Nat.le_of_ble_eq_true rfl) ?_
  intro p e s m args below meth c C
  refine hc_aload_n C dX5_findingOf_0 rfl rfl ?_
  refine hc_iload_n C dX5_findingOf_1 rfl rfl ?_
  refine hc_cV1i C mv_X5_27 (c_X5_isMissing C.ok hj) rfl rfl rfl (Nat.le_of_ble_eq_true rfl) (hc_rr_rm (by decide)) ⟨Nat.zero_le _, Nat.zero_le _⟩ dX5_findingOf_2 (fun r_2 M_2 h_2 => ?_)
  obtain ⟨rfl, rfl⟩ := h_2
  refine hc_if_eq C (tgt := 10) dX5_findingOf_5 (by decide) (fun c_5 => ?_) (fun c_5 => ?_)
  · refine hc_aload_n C dX5_findingOf_10 rfl rfl ?_
    refine hc_iload_n C dX5_findingOf_11 rfl rfl ?_
    refine hc_iload_n C dX5_findingOf_12 rfl rfl ?_
    refine hc_iload_n C dX5_findingOf_13 rfl rfl ?_
    refine hc_cV3i C mv_X5_31 (c_X5_hasPlaces C.ok hj) rfl rfl rfl (Nat.le_of_ble_eq_true rfl) (hc_rr_rm (by decide)) ⟨Nat.zero_le _, Nat.zero_le _⟩ dX5_findingOf_14 (fun r_14 M_14 h_14 => ?_)
    obtain ⟨rfl, rfl⟩ := h_14
    refine hc_if_eq C (tgt := 24) dX5_findingOf_17 (by decide) (fun c_17 => ?_) (fun c_17 => ?_)
    · have e0 : (if M 2 j = -1 then (1 : Int32) else if ¬ i < 0 ∧ ¬ n < 0 ∧ ¬ M 3 j < i ∧ ¬ M 3 j - i < n then 0 else 2) = 2 := by rw [if_neg (hb_z.mp c_5), if_neg (hb_z.mp c_17)]
      refine hc_iconst C dX5_findingOf_24 (v := 2) rfl ?_
      refine hc_iret C rfl dX5_findingOf_25 ?_
      exact ⟨e0, rfl⟩
    · have e0 : (if M 2 j = -1 then (1 : Int32) else if ¬ i < 0 ∧ ¬ n < 0 ∧ ¬ M 3 j < i ∧ ¬ M 3 j - i < n then 0 else 2) = 0 := by rw [if_neg (hb_z.mp c_5), if_pos (hb_nz.mp c_17)]
      refine hc_iconst C dX5_findingOf_20 (v := 0) rfl ?_
      refine hc_goto C (tgt := 25) dX5_findingOf_21 (by decide) ?_
      refine hc_iret C rfl dX5_findingOf_25 ?_
      exact ⟨e0, rfl⟩
  · refine hc_iconst C dX5_findingOf_8 (v := 1) rfl ?_
    refine hc_iret C rfl dX5_findingOf_9 ?_
    exact ⟨if_pos (hb_nz.mp c_5), rfl⟩

set_option maxRecDepth 100000 in
set_option maxHeartbeats 4000000 in
theorem c_X5_findingOfCopy {l : Launch} {G : hc_Geo} (hG : hc_ok G) {M : hc_Mem} {a b : Nat} {i j n : Int32}  (ha : a < 8) (hb : b < 8) : hc_M l G yX5_findingOfCopy cX5_findingOfCopy 6 (some .int) 2 [.ref (hc_ad G 1), .int (nI a), .int i, .int (nI b), .int j, .int n] M (hc_pi (fun z M' => (if M 2 a = -1 ∨ M 2 b = -1 then 1 else if M 2 a ≠ M 2 b then 5 else if (¬ i < 0 ∧ ¬ n < 0 ∧ ¬ M 3 a < i ∧ ¬ M 3 a - i < n) ∧ (¬ j < 0 ∧ ¬ n < 0 ∧ ¬ M 3 b < j ∧ ¬ M 3 b - j < n) then 0 else 2) = z ∧ M = M')) := by
  refine hc_M.of hG (by decide) [some (.ref (hc_ad G 1)), some (.int (nI a)), some (.int i), some (.int (nI b)), some (.int j), some (.int n)] rfl (Nat.le_of_ble_eq_true rfl) ?_
  intro p e s m args below meth c C
  refine hc_aload_n C dX5_findingOfCopy_0 rfl rfl ?_
  refine hc_iload_n C dX5_findingOfCopy_1 rfl rfl ?_
  refine hc_cV1i C mv_X5_27 (c_X5_isMissing C.ok ha) rfl rfl rfl (Nat.le_of_ble_eq_true rfl) (hc_rr_rm (by decide)) ⟨Nat.zero_le _, Nat.zero_le _⟩ dX5_findingOfCopy_2 (fun r_2 M_2 h_2 => ?_)
  obtain ⟨rfl, rfl⟩ := h_2
  refine hc_if_ne C (tgt := 16) dX5_findingOfCopy_5 (by decide) (fun c_5 => ?_) (fun c_5 => ?_)
  · refine hc_iconst C dX5_findingOfCopy_16 (v := 1) rfl ?_
    refine hc_iret C rfl dX5_findingOfCopy_17 ?_
    first | exact ⟨if_pos (Or.inl (hb_nz.mp c_5)), rfl⟩ | exact ⟨if_pos (Or.inr (hb_nz.mp c_13)), rfl⟩
  · refine hc_aload_n C dX5_findingOfCopy_8 rfl rfl ?_
    refine hc_iload_n C dX5_findingOfCopy_9 rfl rfl ?_
    refine hc_cV1i C mv_X5_27 (c_X5_isMissing C.ok hb) rfl rfl rfl (Nat.le_of_ble_eq_true rfl) (hc_rr_rm (by decide)) ⟨Nat.zero_le _, Nat.zero_le _⟩ dX5_findingOfCopy_10 (fun r_10 M_10 h_10 => ?_)
    obtain ⟨rfl, rfl⟩ := h_10
    refine hc_if_eq C (tgt := 18) dX5_findingOfCopy_13 (by decide) (fun c_13 => ?_) (fun c_13 => ?_)
    · refine hc_aload_n C dX5_findingOfCopy_18 rfl rfl ?_
      refine hc_getR C fl_X5_11 rfl rfl dX5_findingOfCopy_19 ?_
      refine hc_iload_n C dX5_findingOfCopy_22 rfl rfl ?_
      refine hc_ialdN C (j := a) rfl rfl ha dX5_findingOfCopy_23 ?_
      refine hc_aload_n C dX5_findingOfCopy_24 rfl rfl ?_
      refine hc_getR C fl_X5_11 rfl rfl dX5_findingOfCopy_25 ?_
      refine hc_iload_n C dX5_findingOfCopy_28 rfl rfl ?_
      refine hc_ialdN C (j := b) rfl rfl hb dX5_findingOfCopy_29 ?_
      refine hc_icmp_eq C (tgt := 35) dX5_findingOfCopy_30 (by decide) (fun c_30 => ?_) (fun c_30 => ?_)
      · refine hc_aload_n C dX5_findingOfCopy_35 rfl rfl ?_
        refine hc_iload_n C dX5_findingOfCopy_36 rfl rfl ?_
        refine hc_iload_n C dX5_findingOfCopy_37 rfl rfl ?_
        refine hc_iload C dX5_findingOfCopy_38 rfl ?_
        refine hc_cV3i C mv_X5_31 (c_X5_hasPlaces C.ok ha) rfl rfl rfl (Nat.le_of_ble_eq_true rfl) (hc_rr_rm (by decide)) ⟨Nat.zero_le _, Nat.zero_le _⟩ dX5_findingOfCopy_40 (fun r_40 M_40 h_40 => ?_)
        obtain ⟨rfl, rfl⟩ := h_40
        refine hc_if_eq C (tgt := 62) dX5_findingOfCopy_43 (by decide) (fun c_43 => ?_) (fun c_43 => ?_)
        · refine hc_iconst C dX5_findingOfCopy_62 (v := 2) rfl ?_
          refine hc_iret C rfl dX5_findingOfCopy_63 ?_
          refine ⟨(if_neg (fun q => q.elim (hb_z.mp (c_5)) (hb_z.mp c_13))).trans ((if_neg (fun q => q c_30)).trans ?_), rfl⟩
          first | exact if_neg (fun q => hb_z.mp c_43 q.1) | exact if_neg (fun q => hb_z.mp c_55 q.2) | exact if_pos ⟨hb_nz.mp c_43, hb_nz.mp c_55⟩
        · refine hc_aload_n C dX5_findingOfCopy_46 rfl rfl ?_
          refine hc_iload_n C dX5_findingOfCopy_47 rfl rfl ?_
          refine hc_iload C dX5_findingOfCopy_48 rfl ?_
          refine hc_iload C dX5_findingOfCopy_50 rfl ?_
          refine hc_cV3i C mv_X5_31 (c_X5_hasPlaces C.ok hb) rfl rfl rfl (Nat.le_of_ble_eq_true rfl) (hc_rr_rm (by decide)) ⟨Nat.zero_le _, Nat.zero_le _⟩ dX5_findingOfCopy_52 (fun r_52 M_52 h_52 => ?_)
          obtain ⟨rfl, rfl⟩ := h_52
          refine hc_if_eq C (tgt := 62) dX5_findingOfCopy_55 (by decide) (fun c_55 => ?_) (fun c_55 => ?_)
          · refine hc_iconst C dX5_findingOfCopy_62 (v := 2) rfl ?_
            refine hc_iret C rfl dX5_findingOfCopy_63 ?_
            refine ⟨(if_neg (fun q => q.elim (hb_z.mp (c_5)) (hb_z.mp c_13))).trans ((if_neg (fun q => q c_30)).trans ?_), rfl⟩
            first | exact if_neg (fun q => hb_z.mp c_43 q.1) | exact if_neg (fun q => hb_z.mp c_55 q.2) | exact if_pos ⟨hb_nz.mp c_43, hb_nz.mp c_55⟩
          · refine hc_iconst C dX5_findingOfCopy_58 (v := 0) rfl ?_
            refine hc_goto C (tgt := 63) dX5_findingOfCopy_59 (by decide) ?_
            refine hc_iret C rfl dX5_findingOfCopy_63 ?_
            refine ⟨(if_neg (fun q => q.elim (hb_z.mp (c_5)) (hb_z.mp c_13))).trans ((if_neg (fun q => q c_30)).trans ?_), rfl⟩
            first | exact if_neg (fun q => hb_z.mp c_43 q.1) | exact if_neg (fun q => hb_z.mp c_55 q.2) | exact if_pos ⟨hb_nz.mp c_43, hb_nz.mp c_55⟩
      · refine hc_iconst C dX5_findingOfCopy_33 (v := 5) rfl ?_
        refine hc_iret C rfl dX5_findingOfCopy_34 ?_
        exact ⟨(if_neg (fun q => q.elim (hb_z.mp (c_5)) (hb_z.mp c_13))).trans (if_pos c_30), rfl⟩
    · refine hc_iconst C dX5_findingOfCopy_16 (v := 1) rfl ?_
      refine hc_iret C rfl dX5_findingOfCopy_17 ?_
      first | exact ⟨if_pos (Or.inl (hb_nz.mp c_5)), rfl⟩ | exact ⟨if_pos (Or.inr (hb_nz.mp c_13)), rfl⟩

set_option maxRecDepth 100000 in
set_option maxHeartbeats 4000000 in
theorem c_X5_make {l : Launch} {G : hc_Geo} (hG : hc_ok G) {M : hc_Mem} {j : Nat} {la n : Int32}  (hj : j < 8) : hc_M l G yX5_make cX5_make 5 none 3 [.ref (hc_ad G 1), .int (nI j), .int la, .int n] M (hc_pv (fun M' => hc_mf (hc_ms (hc_ms M 2 j la) 3 j n) 4 (fun i => if 40 * j ≤ i ∧ i < 40 * j + 40 then 0 else M 4 i) = M')) := by
  refine hc_M.of hG (by decide) [some (.ref (hc_ad G 1)), some (.int (nI j)), some (.int la), some (.int n), none] rfl (Nat.le_of_ble_eq_true rfl) ?_
  intro p e s m args below meth c C
  refine hc_iload_n C dX5_make_0 rfl rfl ?_
  refine hc_bipush C dX5_make_1 (v := 40) rfl ?_
  refine hc_imul C dX5_make_3 ?_
  refine hc_top (show nI j * 40 = nI (40 * j) by rw [show (40 : Int32) = nI 40 from rfl, pk_mul, Nat.mul_comm]) ?_
  refine hc_istore4 C dX5_make_4 (by decide) rfl ?_
  refine hc_aload_n C dX5_make_6 rfl rfl ?_
  refine hc_getR C fl_X5_11 rfl rfl dX5_make_7 ?_
  refine hc_iload_n C dX5_make_10 rfl rfl ?_
  refine hc_iload_n C dX5_make_11 rfl rfl ?_
  refine hc_iastN C (j := j) rfl rfl (by omega) dX5_make_12 ?_
  refine hc_aload_n C dX5_make_13 rfl rfl ?_
  refine hc_getR C fl_X5_15 rfl rfl dX5_make_14 ?_
  refine hc_iload_n C dX5_make_17 rfl rfl ?_
  refine hc_iload_n C dX5_make_18 rfl rfl ?_
  refine hc_iastN C (j := j) rfl rfl (by omega) dX5_make_19 ?_
  refine hc_aload_n C dX5_make_20 rfl rfl ?_
  refine hc_getR C fl_X5_18 rfl rfl dX5_make_21 ?_
  refine hc_iload C dX5_make_24 rfl ?_
  refine hc_iload C dX5_make_26 rfl ?_
  refine hc_bipush C dX5_make_28 (v := 40) rfl ?_
  refine hc_iadd C dX5_make_30 ?_
  refine hc_top (show nI (40 * j) + 40 = nI (40 * j + 40) by rw [show (40 : Int32) = nI 40 from rfl, nI_add]) ?_
  refine hc_iconst C dX5_make_31 (v := 0) rfl ?_
  refine hc_cS4v C ms_X5_35 (c_J7_fill_fda19 C.ok rfl (by omega) (by omega)) (Nat.le_of_ble_eq_true rfl) (hc_rr_rm (by decide)) ⟨Nat.zero_le _, Nat.zero_le _⟩ dX5_make_32 (fun M_32 h_32 => ?_)
  obtain rfl := h_32
  refine hc_vret C rfl dX5_make_35 ?_
  rfl

set_option maxRecDepth 100000 in
set_option maxHeartbeats 4000000 in
theorem c_X5_remove {l : Launch} {G : hc_Geo} (hG : hc_ok G) {M : hc_Mem} {j : Nat}  (hj : j < 8) : hc_M l G yX5_remove cX5_remove 3 (some .int) 1 [.ref (hc_ad G 1), .int (nI j)] M (hc_pi (fun z M' => M 3 j = z ∧ hc_ms (hc_ms M 2 j (-1)) 3 j 0 = M')) := by
  refine hc_M.of hG (by decide) [some (.ref (hc_ad G 1)), some (.int (nI j)), none] rfl (Nat.le_of_ble_eq_true rfl) ?_
  intro p e s m args below meth c C
  refine hc_aload_n C dX5_remove_0 rfl rfl ?_
  refine hc_getR C fl_X5_15 rfl rfl dX5_remove_1 ?_
  refine hc_iload_n C dX5_remove_4 rfl rfl ?_
  refine hc_ialdN C (j := j) rfl rfl (by omega) dX5_remove_5 ?_
  refine hc_istore_n2 C dX5_remove_6 rfl (by decide) rfl ?_
  refine hc_aload_n C dX5_remove_7 rfl rfl ?_
  refine hc_getR C fl_X5_11 rfl rfl dX5_remove_8 ?_
  refine hc_iload_n C dX5_remove_11 rfl rfl ?_
  refine hc_iconst C dX5_remove_12 (v := (-1)) rfl ?_
  refine hc_iastN C (j := j) rfl rfl (by omega) dX5_remove_13 ?_
  refine hc_aload_n C dX5_remove_14 rfl rfl ?_
  refine hc_getR C fl_X5_15 rfl rfl dX5_remove_15 ?_
  refine hc_iload_n C dX5_remove_18 rfl rfl ?_
  refine hc_iconst C dX5_remove_19 (v := 0) rfl ?_
  refine hc_iastN C (j := j) rfl rfl (by omega) dX5_remove_20 ?_
  refine hc_iload_n C dX5_remove_21 rfl rfl ?_
  refine hc_iret C rfl dX5_remove_22 ?_
  exact ⟨rfl, rfl⟩

/-- a number cut to a lane -/
def hc_cut (v la : Int32) : Int32 := if la = 0 then v.toInt8.toInt32 else if la = 1 then v.toInt16.toInt32 else v

set_option maxRecDepth 100000 in
set_option maxHeartbeats 4000000 in
theorem c_X5_cutToLane {l : Launch} {G : hc_Geo} (hG : hc_ok G) {M : hc_Mem} {v la : Int32}  : hc_M l G yX5_cutToLane cX5_cutToLane 2 (some .int) 1 [.int v, .int la] M (hc_pi (fun z M' => hc_cut v la = z ∧ M = M')) := by
  refine hc_M.of hG (by decide) [some (.int v), some (.int la)] rfl (Nat.le_of_ble_eq_true rfl) ?_
  intro p e s m args below meth c C
  refine hc_iload_n C dX5_cutToLane_0 rfl rfl ?_
  refine hc_if_ne C (tgt := 7) dX5_cutToLane_1 (by decide) (fun c_1 => ?_) (fun c_1 => ?_)
  · refine hc_iload_n C dX5_cutToLane_7 rfl rfl ?_
    refine hc_iconst C dX5_cutToLane_8 (v := 1) rfl ?_
    refine hc_icmp_ne C (tgt := 17) dX5_cutToLane_9 (by decide) (fun c_9 => ?_) (fun c_9 => ?_)
    · refine hc_iload_n C dX5_cutToLane_17 rfl rfl ?_
      refine hc_iret C rfl dX5_cutToLane_18 ?_
      refine ⟨?_, rfl⟩
      unfold hc_cut
      simp_all
    · refine hc_iload_n C dX5_cutToLane_12 rfl rfl ?_
      refine hc_i2s C dX5_cutToLane_13 ?_
      refine hc_goto C (tgt := 18) dX5_cutToLane_14 (by decide) ?_
      refine hc_iret C rfl dX5_cutToLane_18 ?_
      refine ⟨?_, rfl⟩
      unfold hc_cut
      simp_all
  · refine hc_iload_n C dX5_cutToLane_4 rfl rfl ?_
    refine hc_i2b C dX5_cutToLane_5 ?_
    refine hc_iret C rfl dX5_cutToLane_6 ?_
    refine ⟨?_, rfl⟩
    unfold hc_cut
    simp_all

set_option maxRecDepth 100000 in
set_option maxHeartbeats 4000000 in
theorem c_X5_put {l : Launch} {G : hc_Geo} (hG : hc_ok G) {M : hc_Mem} {j i : Nat} {v : Int32}  (hj : j < 8) (hi : i < 40) : hc_M l G yX5_put cX5_put 5 (some .int) 2 [.ref (hc_ad G 1), .int (nI j), .int (nI i), .int v] M (hc_pi (fun z M' => hc_cut v (M 2 j) = z ∧ hc_ms M 4 (40 * j + i) (hc_cut v (M 2 j)) = M')) := by
  refine hc_M.of hG (by decide) [some (.ref (hc_ad G 1)), some (.int (nI j)), some (.int (nI i)), some (.int v), none] rfl (Nat.le_of_ble_eq_true rfl) ?_
  intro p e s m args below meth c C
  refine hc_iload_n C dX5_put_0 rfl rfl ?_
  refine hc_aload_n C dX5_put_1 rfl rfl ?_
  refine hc_getR C fl_X5_11 rfl rfl dX5_put_2 ?_
  refine hc_iload_n C dX5_put_5 rfl rfl ?_
  refine hc_ialdN C (j := j) rfl rfl (by omega) dX5_put_6 ?_
  refine hc_cS2i C ms_X5_38 (c_X5_cutToLane C.ok) (Nat.le_of_ble_eq_true rfl) (hc_rr_rm (by decide)) ⟨Nat.zero_le _, Nat.zero_le _⟩ dX5_put_7 (fun r_7 M_7 h_7 => ?_)
  obtain ⟨rfl, rfl⟩ := h_7
  refine hc_istore4 C dX5_put_10 (by decide) rfl ?_
  refine hc_aload_n C dX5_put_12 rfl rfl ?_
  refine hc_getR C fl_X5_18 rfl rfl dX5_put_13 ?_
  refine hc_iload_n C dX5_put_16 rfl rfl ?_
  refine hc_bipush C dX5_put_17 (v := 40) rfl ?_
  refine hc_imul C dX5_put_19 ?_
  refine hc_iload_n C dX5_put_20 rfl rfl ?_
  refine hc_iadd C dX5_put_21 ?_
  refine hc_top (show nI j * 40 + nI i = nI (40 * j + i) by rw [show (40 : Int32) = nI 40 from rfl, pk_mul, nI_add, Nat.mul_comm]) ?_
  refine hc_iload C dX5_put_22 rfl ?_
  refine hc_iastN C (j := (40 * j + i)) rfl rfl (by omega) dX5_put_24 ?_
  refine hc_iload C dX5_put_25 rfl ?_
  refine hc_iret C rfl dX5_put_27 ?_
  exact ⟨rfl, rfl⟩

set_option maxRecDepth 100000 in
set_option maxHeartbeats 4000000 in
theorem c_X5_item {l : Launch} {G : hc_Geo} (hG : hc_ok G) {M : hc_Mem} {j i : Nat}  (hj : j < 8) (hi : i < 40) : hc_M l G yX5_item cX5_item 3 (some .int) 1 [.ref (hc_ad G 1), .int (nI j), .int (nI i)] M (hc_pi (fun z M' => M 4 (40 * j + i) = z ∧ M = M')) := by
  refine hc_M.of hG (by decide) [some (.ref (hc_ad G 1)), some (.int (nI j)), some (.int (nI i))] rfl (Nat.le_of_ble_eq_true rfl) ?_
  intro p e s m args below meth c C
  refine hc_aload_n C dX5_item_0 rfl rfl ?_
  refine hc_getR C fl_X5_18 rfl rfl dX5_item_1 ?_
  refine hc_iload_n C dX5_item_4 rfl rfl ?_
  refine hc_bipush C dX5_item_5 (v := 40) rfl ?_
  refine hc_imul C dX5_item_7 ?_
  refine hc_iload_n C dX5_item_8 rfl rfl ?_
  refine hc_iadd C dX5_item_9 ?_
  refine hc_top (show nI j * 40 + nI i = nI (40 * j + i) by rw [show (40 : Int32) = nI 40 from rfl, pk_mul, nI_add, Nat.mul_comm]) ?_
  refine hc_ialdN C (j := (40 * j + i)) rfl rfl (by omega) dX5_item_10 ?_
  refine hc_iret C rfl dX5_item_11 ?_
  exact ⟨rfl, rfl⟩

set_option maxRecDepth 100000 in
set_option maxHeartbeats 4000000 in
theorem c_X5_move {l : Launch} {G : hc_Geo} (hG : hc_ok G) {M : hc_Mem} {a i b j n : Nat}  (ha : a < 8) (hb : b < 8) (hi : i + n ≤ 40) (hj : j + n ≤ 40) : hc_M l G yX5_move cX5_move 6 none 1 [.ref (hc_ad G 1), .int (nI a), .int (nI i), .int (nI b), .int (nI j), .int (nI n)] M (hc_pv (fun M' => hc_mf M 4 (va_cpy (M 4) (M 4) (40 * a + i) (40 * b + j) n) = M')) := by
  refine hc_M.of hG (by decide) [some (.ref (hc_ad G 1)), some (.int (nI a)), some (.int (nI i)), some (.int (nI b)), some (.int (nI j)), some (.int (nI n))] rfl (Nat.le_of_ble_eq_true rfl) ?_
  intro p e s m args below meth c C
  refine hc_aload_n C dX5_move_0 rfl rfl ?_
  refine hc_getR C fl_X5_18 rfl rfl dX5_move_1 ?_
  refine hc_iload_n C dX5_move_4 rfl rfl ?_
  refine hc_bipush C dX5_move_5 (v := 40) rfl ?_
  refine hc_imul C dX5_move_7 ?_
  refine hc_iload_n C dX5_move_8 rfl rfl ?_
  refine hc_iadd C dX5_move_9 ?_
  refine hc_top (show nI a * 40 + nI i = nI (40 * a + i) by rw [show (40 : Int32) = nI 40 from rfl, pk_mul, nI_add, Nat.mul_comm]) ?_
  refine hc_aload_n C dX5_move_10 rfl rfl ?_
  refine hc_getR C fl_X5_18 rfl rfl dX5_move_11 ?_
  refine hc_iload_n C dX5_move_14 rfl rfl ?_
  refine hc_bipush C dX5_move_15 (v := 40) rfl ?_
  refine hc_imul C dX5_move_17 ?_
  refine hc_iload C dX5_move_18 rfl ?_
  refine hc_iadd C dX5_move_20 ?_
  refine hc_top (show nI b * 40 + nI j = nI (40 * b + j) by rw [show (40 : Int32) = nI 40 from rfl, pk_mul, nI_add, Nat.mul_comm]) ?_
  refine hc_iload C dX5_move_21 rfl ?_
  refine hc_copy C ac_X5_42 ac_nat ac_sta ac_ini rfl rfl (nI_pos (by omega)) (nI_pos (by omega)) (nI_pos (by omega)) (by rw [nI_clamp (by omega), nI_clamp (by omega)]; omega) (by rw [nI_clamp (by omega), nI_clamp (by omega)]; omega) (by decide) (Nat.le_of_ble_eq_true rfl) dX5_move_23 ?_
  refine hc_vret C rfl dX5_move_26 ?_
  show _ = _
  rw [nI_clamp (by omega), nI_clamp (by omega), nI_clamp (by omega)]

set_option maxRecDepth 100000 in
set_option maxHeartbeats 4000000 in
theorem c_X7_found {l : Launch} {G : hc_Geo} (hG : hc_ok G) {M : hc_Mem} {f : Int32}  : hc_M l G yX7_found cX7_found 2 (some .int) 1 [.ref (hc_ad G 0), .int f] M (hc_pi (fun z M' => -1000010 - f = z ∧ hc_ms M 0 8 f = M')) := by
  refine hc_M.of hG (by decide) [some (.ref (hc_ad G 0)), some (.int f)] rfl (Nat.le_of_ble_eq_true rfl) ?_
  intro p e s m args below meth c C
  refine hc_aload_n C dX7_found_0 rfl rfl ?_
  refine hc_iload_n C dX7_found_1 rfl rfl ?_
  refine hc_putI C fl_X7_54 pl_5_8 rfl rfl dX7_found_2 ?_
  refine hc_ldcw C kc_X7_295 dX7_found_5 ?_
  refine hc_iload_n C dX7_found_8 rfl rfl ?_
  refine hc_isub C dX7_found_9 ?_
  refine hc_iret C rfl dX7_found_10 ?_
  exact ⟨rfl, rfl⟩

set_option maxRecDepth 100000 in
set_option maxHeartbeats 4000000 in
theorem c_X7_foundNothing {l : Launch} {G : hc_Geo} (hG : hc_ok G) {M : hc_Mem} {f : Int32}  : hc_M l G yX7_foundNothing cX7_foundNothing 2 (some .int) 1 [.ref (hc_ad G 0), .int f] M (hc_pi (fun z M' => f = z ∧ hc_ms M 0 8 0 = M')) := by
  refine hc_M.of hG (by decide) [some (.ref (hc_ad G 0)), some (.int f)] rfl (Nat.le_of_ble_eq_true rfl) ?_
  intro p e s m args below meth c C
  refine hc_aload_n C dX7_foundNothing_0 rfl rfl ?_
  refine hc_iconst C dX7_foundNothing_1 (v := 0) rfl ?_
  refine hc_putI C fl_X7_54 pl_5_8 rfl rfl dX7_foundNothing_2 ?_
  refine hc_iload_n C dX7_foundNothing_5 rfl rfl ?_
  refine hc_iret C rfl dX7_foundNothing_6 ?_
  exact ⟨rfl, rfl⟩
