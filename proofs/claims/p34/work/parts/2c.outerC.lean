/-! THE CALLS of the class, where a house stands -/
theorem hx_ear {M : hc_Mem} {E e0 : Nat} (hE : M 9 5 = nI E) (hE6 : E ≤ 6) (he : e0 < E) : ¬ nI e0 < 0 ∧ ¬ M 9 5 ≤ nI e0 := ⟨nI_pos (by omega), by rw [hE]; exact nI_ge he (by omega)⟩
def hQs (M : hc_Mem) (E q k : Nat) : Nat → hc_Mem
  | 0 => M
  | i + 1 => hKp (hPass (hQs M E q k i) E (q + i)) (min 24 (k + i)) 0 0 0
theorem hPass_n {M : hc_Mem} {E q a : Nat} (h : a ≠ 9) (h2 : a ≠ 15) (h3 : a ≠ 19) : hPass M E q a = M a := by
  unfold hPass hGrow
  rw [hc_ms_n h3, hc_ms_n h, hc_ms_n h, hc_mf_n h2]
theorem hPass_9 {M : hc_Mem} {E q j : Nat} (h2 : j ≠ 2) (h3 : j ≠ 3) : hPass M E q 9 j = M 9 j := by
  unfold hPass hGrow
  rw [hc_ms_n (by decide), hc_ms_j h2, hc_ms_j h3, hc_mf_n (by decide)]
theorem hPass_92 {M : hc_Mem} {E q : Nat} : hPass M E q 9 2 = nI (q + 1) := by
  unfold hPass
  rw [hc_ms_n (by decide), hc_ms_v]
theorem hKp_42 {M : hc_Mem} {k : Nat} {d e b : Int32} (hk : k ≤ 24) : hKp M k d e b 42 3 = nI (min 24 (k + 1)) := by
  unfold hKp
  split
  · unfold hK1; rw [hc_ms_v]; congr 1; omega
  · unfold hK1; rw [hc_ms_v]; congr 1; omega
theorem hQs_inv {M : hc_Mem} {E q k : Nat} (hE : M 9 5 = nI E) (hq : M 9 2 = nI q) (hk : M 42 3 = nI k) (hk24 : k ≤ 24) : ∀ i : Nat, hQs M E q k i 9 5 = nI E ∧ hQs M E q k i 9 2 = nI (q + i) ∧ hQs M E q k i 42 3 = nI (min 24 (k + i)) := by
  intro i
  induction i with
  | zero => exact ⟨hE, hq, by rw [show min 24 (k + 0) = k by omega]; exact hk⟩
  | succ i ih =>
    refine ⟨?_, ?_, ?_⟩
    · show hKp _ _ _ _ _ 9 5 = _
      rw [hKp_n (by omega), hPass_9 (by decide) (by decide)]; exact ih.1
    · show hKp _ _ _ _ _ 9 2 = _
      rw [hKp_n (by omega), hPass_92]; rfl
    · show hKp _ _ _ _ _ 42 3 = _
      rw [hKp_42 (by omega)]; congr 1; omega
def hMow (set what : Int32) : Int32 := if set = -1000000 then -1000000 else if what = 0 then hc_bc set else set

set_option maxRecDepth 100000 in
set_option maxHeartbeats 4000000 in
theorem c_X7_quarters_b {l : Launch} {G : hc_Geo} (hG : hc_ok G) {M : hc_Mem} {n : Int32}  (h1 : ¬ M 9 0 = 0) (h0 : ¬ (¬ n < 1 ∧ ¬ 20 < n)) : hc_M l G yX7_quarters cX7_quarters 3 (some .int) 2 [.ref (hc_ad G 0), .int n] M (hc_pi (fun z M' => -1000001 = z ∧ M = M')) := by
  refine hc_M.of hG (by decide) [some (.ref (hc_ad G 0)), some (.int n), none] rfl (Nat.le_of_ble_eq_true rfl) ?_
  intro p e s m args below meth c C
  refine hc_aload_n C dX7_quarters_0 rfl rfl ?_
  refine hc_getR C fl_X7_26 rfl rfl dX7_quarters_1 ?_
  refine hc_getI C fl_X7_123 rfl rfl dX7_quarters_4 ?_
  refine hc_if_ne C (tgt := 13) dX7_quarters_7 (by decide) (fun c_7 => ?_) (fun c_7 => ?_)
  rotate_left
  · exact absurd c_7 h1
  refine hc_iload_n C dX7_quarters_13 rfl rfl ?_
  refine hc_iconst C dX7_quarters_14 (v := 1) rfl ?_
  refine hc_bipush C dX7_quarters_15 (v := 20) rfl ?_
  refine hc_cS3i C ms_X7_97 (c_X7_isWithin C.ok) (Nat.le_of_ble_eq_true rfl) (hc_rr_rm (by decide)) ⟨Nat.zero_le _, Nat.zero_le _⟩ dX7_quarters_17 (fun r_17 M_17 h_17 => ?_)
  obtain ⟨rfl, rfl⟩ := h_17
  refine hc_if_ne C (tgt := 26) dX7_quarters_20 (by decide) (fun c_20 => ?_) (fun c_20 => ?_)
  · exact absurd (hb_f h0) c_20
  refine hc_ldc C kc_X7_64 dX7_quarters_23 ?_
  refine hc_iret C rfl dX7_quarters_25 ?_
  exact ⟨rfl, rfl⟩

set_option maxRecDepth 100000 in
set_option maxHeartbeats 4000000 in
theorem c_X7_quarters_f {l : Launch} {G : hc_Geo} (hG : hc_ok G) {M : hc_Mem} {n q : Nat}  (h1 : ¬ M 9 0 = 0) (h0 : ¬ nI n < 1 ∧ ¬ 20 < nI n) (hn : n ≤ 20) (hq : M 9 2 = nI q) (hq9 : q ≤ 999) (hF : 999 < q + n) : hc_M l G yX7_quarters cX7_quarters 3 (some .int) 2 [.ref (hc_ad G 0), .int (nI n)] M (hc_pi (fun z M' => -1000003 = z ∧ M = M')) := by
  refine hc_M.of hG (by decide) [some (.ref (hc_ad G 0)), some (.int (nI n)), none] rfl (Nat.le_of_ble_eq_true rfl) ?_
  intro p e s m args below meth c C
  refine hc_aload_n C dX7_quarters_0 rfl rfl ?_
  refine hc_getR C fl_X7_26 rfl rfl dX7_quarters_1 ?_
  refine hc_getI C fl_X7_123 rfl rfl dX7_quarters_4 ?_
  refine hc_if_ne C (tgt := 13) dX7_quarters_7 (by decide) (fun c_7 => ?_) (fun c_7 => ?_)
  rotate_left
  · exact absurd c_7 h1
  refine hc_iload_n C dX7_quarters_13 rfl rfl ?_
  refine hc_iconst C dX7_quarters_14 (v := 1) rfl ?_
  refine hc_bipush C dX7_quarters_15 (v := 20) rfl ?_
  refine hc_cS3i C ms_X7_97 (c_X7_isWithin C.ok) (Nat.le_of_ble_eq_true rfl) (hc_rr_rm (by decide)) ⟨Nat.zero_le _, Nat.zero_le _⟩ dX7_quarters_17 (fun r_17 M_17 h_17 => ?_)
  obtain ⟨rfl, rfl⟩ := h_17
  refine hc_if_ne C (tgt := 26) dX7_quarters_20 (by decide) (fun c_20 => ?_) (fun c_20 => ?_)
  rotate_left
  · exact absurd h0 (hb_z.mp c_20)
  refine hc_aload_n C dX7_quarters_26 rfl rfl ?_
  refine hc_getR C fl_X7_26 rfl rfl dX7_quarters_27 ?_
  refine hc_getI C fl_X7_128 rfl rfl dX7_quarters_30 ?_
  refine hc_iload_n C dX7_quarters_33 rfl rfl ?_
  refine hc_iadd C dX7_quarters_34 ?_
  refine hc_sipush C dX7_quarters_35 (v := 999) rfl ?_
  refine hc_icmp_le C (tgt := 44) dX7_quarters_38 (by decide) (fun c_38 => ?_) (fun c_38 => ?_)
  · rw [hq, nI_add] at c_38
    exact absurd (show nI (q + n) ≤ nI 999 from c_38) (nI_ge (by omega) (by omega))
  refine hc_ldc C kc_X7_131 dX7_quarters_41 ?_
  refine hc_iret C rfl dX7_quarters_43 ?_
  exact ⟨rfl, rfl⟩

set_option maxRecDepth 100000 in
set_option maxHeartbeats 4000000 in
theorem lp_quarters {G : hc_Geo} {p : Program} {l : Launch} {e : Env} {d : Nat} {s : State} {m : MethodId} {args : Array Value} {below : List Frame} {meth : Method} {c : Code} {Q : State → Prop} (C : hc_Cx G hc_lay cX7_quarters 3 (some .int) yX7_quarters.cls p s m args meth c) {M : hc_Mem} {E q k n : Nat} (hd : 4 < d) (hn : n ≤ 20) (hqn : q + n ≤ 999) (hE : M 9 5 = nI E) (hE6 : E ≤ 6) (hq : M 9 2 = nI q) (hk : M 42 3 = nI k) (hk24 : k ≤ 24) 
    (kk : hc_W G hc_lay p l e (hc_rm d) s m args below meth c 3 0 0 Q 74 [some (.ref (hc_ad G 0)), some (.int (nI n)), some (.int (nI n))] [] (hQs M E q k n)) :
    ∀ (t : Nat) (i : Nat), i + t = n → hc_W G hc_lay p l e (hc_rm d) s m args below meth c 3 0 0 Q 46 [some (.ref (hc_ad G 0)), some (.int (nI n)), some (.int (nI i))] [] (hQs M E q k i) := by
  intro t
  induction t with
  | zero =>
    intro i hi
    refine hc_iload_n C dX7_quarters_46 rfl rfl ?_
    refine hc_iload_n C dX7_quarters_47 rfl rfl ?_
    refine hc_icmp_ge C (tgt := 74) dX7_quarters_48 (by decide) (fun c_48 => ?_) (fun c_48 => ?_)
    rotate_left
    · exact absurd (nI_le (show n ≤ i by omega) (by omega)) c_48
    rw [show i = n by omega]
    exact kk
  | succ t ih =>
    intro i hi
    have hinv := hQs_inv hE hq hk hk24 i
    refine hc_iload_n C dX7_quarters_46 rfl rfl ?_
    refine hc_iload_n C dX7_quarters_47 rfl rfl ?_
    refine hc_icmp_ge C (tgt := 74) dX7_quarters_48 (by decide) (fun c_48 => ?_) (fun c_48 => ?_)
    · exact absurd c_48 (nI_ge (show i < n by omega) (by omega))
    refine hc_aload_n C dX7_quarters_51 rfl rfl ?_
    refine hc_getR C fl_X7_26 rfl rfl dX7_quarters_52 ?_
    refine hc_cV0v C mv_X7_132 (c_X3_passQuarter C.ok hinv.1 hE6 hinv.2.1 (by omega)) rfl rfl rfl (Nat.le_of_ble_eq_true rfl) (hc_rr_rm hd) ⟨Nat.zero_le _, Nat.zero_le _⟩ dX7_quarters_55 (fun M_55 h_55 => ?_)
    obtain rfl := h_55
    refine hc_aload_n C dX7_quarters_58 rfl rfl ?_
    refine hc_getR C fl_X7_39 rfl rfl dX7_quarters_59 ?_
    refine hc_iconst C dX7_quarters_62 (v := 0) rfl ?_
    refine hc_iconst C dX7_quarters_63 (v := 0) rfl ?_
    refine hc_iconst C dX7_quarters_64 (v := 0) rfl ?_
    refine hc_cV3v C mv_X7_135 (c_X0_keep C.ok (show _ = _ by rw [hPass_n (by decide) (by decide) (by decide)]; exact hinv.2.2) (by omega)) rfl rfl rfl (Nat.le_of_ble_eq_true rfl) (hc_rr_rm (Nat.lt_trans (by decide) hd)) ⟨Nat.zero_le _, Nat.zero_le _⟩ dX7_quarters_65 (fun M_65 h_65 => ?_)
    obtain rfl := h_65
    refine hc_iinc2 C (v := nI (i + 1)) dX7_quarters_68 (by decide) rfl rfl (nI_1 i) ?_
    refine hc_goto C (tgt := 46) dX7_quarters_71 (by decide) ?_
    exact ih (i + 1) (by omega)

set_option maxRecDepth 100000 in
set_option maxHeartbeats 4000000 in
theorem c_X7_quarters_o {l : Launch} {G : hc_Geo} (hG : hc_ok G) {M : hc_Mem} {E q k n : Nat}  (h1 : ¬ M 9 0 = 0) (h0 : ¬ nI n < 1 ∧ ¬ 20 < nI n) (hn : n ≤ 20) (hqn : q + n ≤ 999) (hE : M 9 5 = nI E) (hE6 : E ≤ 6) (hq : M 9 2 = nI q) (hk : M 42 3 = nI k) (hk24 : k ≤ 24) : hc_M l G yX7_quarters cX7_quarters 3 (some .int) 5 [.ref (hc_ad G 0), .int (nI n)] M (hc_pi (fun z M' => hQs M E q k n 9 3 = z ∧ hQs M E q k n = M')) := by
  refine hc_M.of hG (by decide) [some (.ref (hc_ad G 0)), some (.int (nI n)), none] rfl (Nat.le_of_ble_eq_true rfl) ?_
  intro p e s m args below meth c C
  refine hc_aload_n C dX7_quarters_0 rfl rfl ?_
  refine hc_getR C fl_X7_26 rfl rfl dX7_quarters_1 ?_
  refine hc_getI C fl_X7_123 rfl rfl dX7_quarters_4 ?_
  refine hc_if_ne C (tgt := 13) dX7_quarters_7 (by decide) (fun c_7 => ?_) (fun c_7 => ?_)
  rotate_left
  · exact absurd c_7 h1
  refine hc_iload_n C dX7_quarters_13 rfl rfl ?_
  refine hc_iconst C dX7_quarters_14 (v := 1) rfl ?_
  refine hc_bipush C dX7_quarters_15 (v := 20) rfl ?_
  refine hc_cS3i C ms_X7_97 (c_X7_isWithin C.ok) (Nat.le_of_ble_eq_true rfl) (hc_rr_rm (by decide)) ⟨Nat.zero_le _, Nat.zero_le _⟩ dX7_quarters_17 (fun r_17 M_17 h_17 => ?_)
  obtain ⟨rfl, rfl⟩ := h_17
  refine hc_if_ne C (tgt := 26) dX7_quarters_20 (by decide) (fun c_20 => ?_) (fun c_20 => ?_)
  rotate_left
  · exact absurd h0 (hb_z.mp c_20)
  refine hc_aload_n C dX7_quarters_26 rfl rfl ?_
  refine hc_getR C fl_X7_26 rfl rfl dX7_quarters_27 ?_
  refine hc_getI C fl_X7_128 rfl rfl dX7_quarters_30 ?_
  refine hc_iload_n C dX7_quarters_33 rfl rfl ?_
  refine hc_iadd C dX7_quarters_34 ?_
  refine hc_sipush C dX7_quarters_35 (v := 999) rfl ?_
  refine hc_icmp_le C (tgt := 44) dX7_quarters_38 (by decide) (fun c_38 => ?_) (fun c_38 => ?_)
  rotate_left
  · rw [hq, nI_add] at c_38
    exact absurd (show nI (q + n) ≤ nI 999 from nI_le (by omega) (by omega)) c_38
  refine hc_iconst C dX7_quarters_44 (v := 0) rfl ?_
  refine hc_istore_n2 C dX7_quarters_45 rfl (by decide) rfl ?_
  refine lp_quarters C (by decide) hn hqn hE hE6 hq hk hk24 ?_ n 0 (by omega)
  refine hc_aload_n C dX7_quarters_74 rfl rfl ?_
  refine hc_getR C fl_X7_26 rfl rfl dX7_quarters_75 ?_
  refine hc_getI C fl_X7_138 rfl rfl dX7_quarters_78 ?_
  refine hc_iret C rfl dX7_quarters_81 ?_
  exact ⟨rfl, rfl⟩

set_option maxRecDepth 100000 in
set_option maxHeartbeats 4000000 in
theorem c_X7_go_b2 {l : Launch} {G : hc_Geo} (hG : hc_ok G) {M : hc_Mem} {E e0 : Nat} {v : Int32}  (hE : M 9 5 = nI E) (hE6 : E ≤ 6) (he : e0 < E) (h0 : ¬ (¬ v < 0 ∧ ¬ 3 < v)) : hc_M l G yX7_go cX7_go 4 (some .int) 2 [.ref (hc_ad G 0), .int (nI e0), .int v] M (hc_pi (fun z M' => -1000001 = z ∧ M = M')) := by
  refine hc_M.of hG (by decide) [some (.ref (hc_ad G 0)), some (.int (nI e0)), some (.int v), none] rfl (Nat.le_of_ble_eq_true rfl) ?_
  intro p e s m args below meth c C
  refine hc_aload_n C dX7_go_0 rfl rfl ?_
  refine hc_getR C fl_X7_26 rfl rfl dX7_go_1 ?_
  refine hc_iload_n C dX7_go_4 rfl rfl ?_
  refine hc_cV1i C mv_X7_141 (c_X3_hasEar C.ok) rfl rfl rfl (Nat.le_of_ble_eq_true rfl) (hc_rr_rm (by decide)) ⟨Nat.zero_le _, Nat.zero_le _⟩ dX7_go_5 (fun r_5 M_5 h_5 => ?_)
  obtain ⟨rfl, rfl⟩ := h_5
  refine hc_if_eq C (tgt := 20) dX7_go_8 (by decide) (fun c_8 => ?_) (fun c_8 => ?_)
  · exact absurd (hx_ear hE hE6 he) (hb_z.mp c_8)
  refine hc_iload_n C dX7_go_11 rfl rfl ?_
  refine hc_iconst C dX7_go_12 (v := 0) rfl ?_
  refine hc_iconst C dX7_go_13 (v := 3) rfl ?_
  refine hc_cS3i C ms_X7_97 (c_X7_isWithin C.ok) (Nat.le_of_ble_eq_true rfl) (hc_rr_rm (by decide)) ⟨Nat.zero_le _, Nat.zero_le _⟩ dX7_go_14 (fun r_14 M_14 h_14 => ?_)
  obtain ⟨rfl, rfl⟩ := h_14
  refine hc_if_ne C (tgt := 23) dX7_go_17 (by decide) (fun c_17 => ?_) (fun c_17 => ?_)
  · exact absurd (hb_f h0) c_17
  refine hc_ldc C kc_X7_64 dX7_go_20 ?_
  refine hc_iret C rfl dX7_go_22 ?_
  exact ⟨rfl, rfl⟩

set_option maxRecDepth 100000 in
set_option maxHeartbeats 4000000 in
theorem c_X7_go_s {l : Launch} {G : hc_Geo} (hG : hc_ok G) {M : hc_Mem} {E e0 : Nat} {v : Int32}  (hE : M 9 5 = nI E) (hE6 : E ≤ 6) (he : e0 < E) (h0 : ¬ v < 0 ∧ ¬ 3 < v) (h2 : M 12 e0 = v) : hc_M l G yX7_go cX7_go 4 (some .int) 2 [.ref (hc_ad G 0), .int (nI e0), .int v] M (hc_pi (fun z M' => -1000002 = z ∧ M = M')) := by
  refine hc_M.of hG (by decide) [some (.ref (hc_ad G 0)), some (.int (nI e0)), some (.int v), none] rfl (Nat.le_of_ble_eq_true rfl) ?_
  intro p e s m args below meth c C
  refine hc_aload_n C dX7_go_0 rfl rfl ?_
  refine hc_getR C fl_X7_26 rfl rfl dX7_go_1 ?_
  refine hc_iload_n C dX7_go_4 rfl rfl ?_
  refine hc_cV1i C mv_X7_141 (c_X3_hasEar C.ok) rfl rfl rfl (Nat.le_of_ble_eq_true rfl) (hc_rr_rm (by decide)) ⟨Nat.zero_le _, Nat.zero_le _⟩ dX7_go_5 (fun r_5 M_5 h_5 => ?_)
  obtain ⟨rfl, rfl⟩ := h_5
  refine hc_if_eq C (tgt := 20) dX7_go_8 (by decide) (fun c_8 => ?_) (fun c_8 => ?_)
  · exact absurd (hx_ear hE hE6 he) (hb_z.mp c_8)
  refine hc_iload_n C dX7_go_11 rfl rfl ?_
  refine hc_iconst C dX7_go_12 (v := 0) rfl ?_
  refine hc_iconst C dX7_go_13 (v := 3) rfl ?_
  refine hc_cS3i C ms_X7_97 (c_X7_isWithin C.ok) (Nat.le_of_ble_eq_true rfl) (hc_rr_rm (by decide)) ⟨Nat.zero_le _, Nat.zero_le _⟩ dX7_go_14 (fun r_14 M_14 h_14 => ?_)
  obtain ⟨rfl, rfl⟩ := h_14
  refine hc_if_ne C (tgt := 23) dX7_go_17 (by decide) (fun c_17 => ?_) (fun c_17 => ?_)
  rotate_left
  · exact absurd h0 (hb_z.mp c_17)
  refine hc_aload_n C dX7_go_23 rfl rfl ?_
  refine hc_getR C fl_X7_26 rfl rfl dX7_go_24 ?_
  refine hc_getR C fl_X7_144 rfl rfl dX7_go_27 ?_
  refine hc_iload_n C dX7_go_30 rfl rfl ?_
  refine hc_ialdN C (j := e0) rfl rfl (by omega) dX7_go_31 ?_
  refine hc_istore_n3 C dX7_go_32 rfl (by decide) rfl ?_
  refine hc_iload_n C dX7_go_33 rfl rfl ?_
  refine hc_iload_n C dX7_go_34 rfl rfl ?_
  refine hc_icmp_ne C (tgt := 41) dX7_go_35 (by decide) (fun c_35 => ?_) (fun c_35 => ?_)
  · exact absurd h2 c_35
  refine hc_ldc C kc_X7_127 dX7_go_38 ?_
  refine hc_iret C rfl dX7_go_40 ?_
  exact ⟨rfl, rfl⟩

set_option maxRecDepth 100000 in
set_option maxHeartbeats 4000000 in
theorem c_X7_go_o {l : Launch} {G : hc_Geo} (hG : hc_ok G) {M : hc_Mem} {E e0 k : Nat} {v : Int32}  (hE : M 9 5 = nI E) (hE6 : E ≤ 6) (he : e0 < E) (hk : M 42 3 = nI k) (hk24 : k ≤ 24) (h0 : ¬ v < 0 ∧ ¬ 3 < v) (h2 : ¬ M 12 e0 = v) : hc_M l G yX7_go cX7_go 4 (some .int) 3 [.ref (hc_ad G 0), .int (nI e0), .int v] M (hc_pi (fun z M' => M 12 e0 = z ∧ hc_ms (hKp M k 1 (nI e0) (M 12 e0)) 12 e0 v = M')) := by
  refine hc_M.of hG (by decide) [some (.ref (hc_ad G 0)), some (.int (nI e0)), some (.int v), none] rfl (Nat.le_of_ble_eq_true rfl) ?_
  intro p e s m args below meth c C
  refine hc_aload_n C dX7_go_0 rfl rfl ?_
  refine hc_getR C fl_X7_26 rfl rfl dX7_go_1 ?_
  refine hc_iload_n C dX7_go_4 rfl rfl ?_
  refine hc_cV1i C mv_X7_141 (c_X3_hasEar C.ok) rfl rfl rfl (Nat.le_of_ble_eq_true rfl) (hc_rr_rm (by decide)) ⟨Nat.zero_le _, Nat.zero_le _⟩ dX7_go_5 (fun r_5 M_5 h_5 => ?_)
  obtain ⟨rfl, rfl⟩ := h_5
  refine hc_if_eq C (tgt := 20) dX7_go_8 (by decide) (fun c_8 => ?_) (fun c_8 => ?_)
  · exact absurd (hx_ear hE hE6 he) (hb_z.mp c_8)
  refine hc_iload_n C dX7_go_11 rfl rfl ?_
  refine hc_iconst C dX7_go_12 (v := 0) rfl ?_
  refine hc_iconst C dX7_go_13 (v := 3) rfl ?_
  refine hc_cS3i C ms_X7_97 (c_X7_isWithin C.ok) (Nat.le_of_ble_eq_true rfl) (hc_rr_rm (by decide)) ⟨Nat.zero_le _, Nat.zero_le _⟩ dX7_go_14 (fun r_14 M_14 h_14 => ?_)
  obtain ⟨rfl, rfl⟩ := h_14
  refine hc_if_ne C (tgt := 23) dX7_go_17 (by decide) (fun c_17 => ?_) (fun c_17 => ?_)
  rotate_left
  · exact absurd h0 (hb_z.mp c_17)
  refine hc_aload_n C dX7_go_23 rfl rfl ?_
  refine hc_getR C fl_X7_26 rfl rfl dX7_go_24 ?_
  refine hc_getR C fl_X7_144 rfl rfl dX7_go_27 ?_
  refine hc_iload_n C dX7_go_30 rfl rfl ?_
  refine hc_ialdN C (j := e0) rfl rfl (by omega) dX7_go_31 ?_
  refine hc_istore_n3 C dX7_go_32 rfl (by decide) rfl ?_
  refine hc_iload_n C dX7_go_33 rfl rfl ?_
  refine hc_iload_n C dX7_go_34 rfl rfl ?_
  refine hc_icmp_ne C (tgt := 41) dX7_go_35 (by decide) (fun c_35 => ?_) (fun c_35 => ?_)
  rotate_left
  · exact absurd c_35 h2
  refine hc_aload_n C dX7_go_41 rfl rfl ?_
  refine hc_getR C fl_X7_39 rfl rfl dX7_go_42 ?_
  refine hc_iconst C dX7_go_45 (v := 1) rfl ?_
  refine hc_iload_n C dX7_go_46 rfl rfl ?_
  refine hc_iload_n C dX7_go_47 rfl rfl ?_
  refine hc_cV3v C mv_X7_135 (c_X0_keep C.ok hk hk24) rfl rfl rfl (Nat.le_of_ble_eq_true rfl) (hc_rr_rm (by decide)) ⟨Nat.zero_le _, Nat.zero_le _⟩ dX7_go_48 (fun M_48 h_48 => ?_)
  obtain rfl := h_48
  refine hc_aload_n C dX7_go_51 rfl rfl ?_
  refine hc_getR C fl_X7_26 rfl rfl dX7_go_52 ?_
  refine hc_getR C fl_X7_144 rfl rfl dX7_go_55 ?_
  refine hc_iload_n C dX7_go_58 rfl rfl ?_
  refine hc_iload_n C dX7_go_59 rfl rfl ?_
  refine hc_iastN C (j := e0) rfl rfl (by omega) dX7_go_60 ?_
  refine hc_iload_n C dX7_go_61 rfl rfl ?_
  refine hc_iret C rfl dX7_go_62 ?_
  exact ⟨rfl, rfl⟩

set_option maxRecDepth 100000 in
set_option maxHeartbeats 4000000 in
theorem c_X7_hush_b2 {l : Launch} {G : hc_Geo} (hG : hc_ok G) {M : hc_Mem} {E e0 : Nat} {v : Int32}  (hE : M 9 5 = nI E) (hE6 : E ≤ 6) (he : e0 < E) (h0 : ¬ (¬ v < 0 ∧ ¬ 1 < v)) : hc_M l G yX7_hush cX7_hush 3 (some .int) 2 [.ref (hc_ad G 0), .int (nI e0), .int v] M (hc_pi (fun z M' => -1000001 = z ∧ M = M')) := by
  refine hc_M.of hG (by decide) [some (.ref (hc_ad G 0)), some (.int (nI e0)), some (.int v)] rfl (Nat.le_of_ble_eq_true rfl) ?_
  intro p e s m args below meth c C
  refine hc_aload_n C dX7_hush_0 rfl rfl ?_
  refine hc_getR C fl_X7_26 rfl rfl dX7_hush_1 ?_
  refine hc_iload_n C dX7_hush_4 rfl rfl ?_
  refine hc_cV1i C mv_X7_141 (c_X3_hasEar C.ok) rfl rfl rfl (Nat.le_of_ble_eq_true rfl) (hc_rr_rm (by decide)) ⟨Nat.zero_le _, Nat.zero_le _⟩ dX7_hush_5 (fun r_5 M_5 h_5 => ?_)
  obtain ⟨rfl, rfl⟩ := h_5
  refine hc_if_eq C (tgt := 20) dX7_hush_8 (by decide) (fun c_8 => ?_) (fun c_8 => ?_)
  · exact absurd (hx_ear hE hE6 he) (hb_z.mp c_8)
  refine hc_iload_n C dX7_hush_11 rfl rfl ?_
  refine hc_iconst C dX7_hush_12 (v := 0) rfl ?_
  refine hc_iconst C dX7_hush_13 (v := 1) rfl ?_
  refine hc_cS3i C ms_X7_97 (c_X7_isWithin C.ok) (Nat.le_of_ble_eq_true rfl) (hc_rr_rm (by decide)) ⟨Nat.zero_le _, Nat.zero_le _⟩ dX7_hush_14 (fun r_14 M_14 h_14 => ?_)
  obtain ⟨rfl, rfl⟩ := h_14
  refine hc_if_ne C (tgt := 23) dX7_hush_17 (by decide) (fun c_17 => ?_) (fun c_17 => ?_)
  · exact absurd (hb_f h0) c_17
  refine hc_ldc C kc_X7_64 dX7_hush_20 ?_
  refine hc_iret C rfl dX7_hush_22 ?_
  exact ⟨rfl, rfl⟩

set_option maxRecDepth 100000 in
set_option maxHeartbeats 4000000 in
theorem c_X7_hush_s0 {l : Launch} {G : hc_Geo} (hG : hc_ok G) {M : hc_Mem} {E e0 : Nat}  (hE : M 9 5 = nI E) (hE6 : E ≤ 6) (he : e0 < E) (h2 : ¬ hIn (M 9 4) (nI e0)) : hc_M l G yX7_hush cX7_hush 3 (some .int) 3 [.ref (hc_ad G 0), .int (nI e0), .int 0] M (hc_pi (fun z M' => -1000002 = z ∧ M = M')) := by
  refine hc_M.of hG (by decide) [some (.ref (hc_ad G 0)), some (.int (nI e0)), some (.int 0)] rfl (Nat.le_of_ble_eq_true rfl) ?_
  intro p e s m args below meth c C
  refine hc_aload_n C dX7_hush_0 rfl rfl ?_
  refine hc_getR C fl_X7_26 rfl rfl dX7_hush_1 ?_
  refine hc_iload_n C dX7_hush_4 rfl rfl ?_
  refine hc_cV1i C mv_X7_141 (c_X3_hasEar C.ok) rfl rfl rfl (Nat.le_of_ble_eq_true rfl) (hc_rr_rm (by decide)) ⟨Nat.zero_le _, Nat.zero_le _⟩ dX7_hush_5 (fun r_5 M_5 h_5 => ?_)
  obtain ⟨rfl, rfl⟩ := h_5
  refine hc_if_eq C (tgt := 20) dX7_hush_8 (by decide) (fun c_8 => ?_) (fun c_8 => ?_)
  · exact absurd (hx_ear hE hE6 he) (hb_z.mp c_8)
  refine hc_iload_n C dX7_hush_11 rfl rfl ?_
  refine hc_iconst C dX7_hush_12 (v := 0) rfl ?_
  refine hc_iconst C dX7_hush_13 (v := 1) rfl ?_
  refine hc_cS3i C ms_X7_97 (c_X7_isWithin C.ok) (Nat.le_of_ble_eq_true rfl) (hc_rr_rm (by decide)) ⟨Nat.zero_le _, Nat.zero_le _⟩ dX7_hush_14 (fun r_14 M_14 h_14 => ?_)
  obtain ⟨rfl, rfl⟩ := h_14
  refine hc_if_ne C (tgt := 23) dX7_hush_17 (by decide) (fun c_17 => ?_) (fun c_17 => ?_)
  rotate_left
  · exact absurd (by decide) (hb_z.mp c_17)
  refine hc_aload_n C dX7_hush_23 rfl rfl ?_
  refine hc_getR C fl_X7_26 rfl rfl dX7_hush_24 ?_
  refine hc_iload_n C dX7_hush_27 rfl rfl ?_
  refine hc_cV1i C mv_X7_148 (c_X3_isHushed C.ok) rfl rfl rfl (Nat.le_of_ble_eq_true rfl) (hc_rr_rm (by decide)) ⟨Nat.zero_le _, Nat.zero_le _⟩ dX7_hush_28 (fun r_28 M_28 h_28 => ?_)
  obtain ⟨rfl, rfl⟩ := h_28
  refine hc_iload_n C dX7_hush_31 rfl rfl ?_
  refine hc_iconst C dX7_hush_32 (v := 1) rfl ?_
  refine hc_icmp_ne C (tgt := 40) dX7_hush_33 (by decide) (fun c_33 => ?_) (fun c_33 => ?_)
  rotate_left
  · exact absurd c_33 (by decide)
  refine hc_iconst C dX7_hush_40 (v := 0) rfl ?_
  refine hc_icmp_ne C (tgt := 47) dX7_hush_41 (by decide) (fun c_41 => ?_) (fun c_41 => ?_)
  · exact absurd (hb_f h2) c_41
  refine hc_ldc C kc_X7_127 dX7_hush_44 ?_
  refine hc_iret C rfl dX7_hush_46 ?_
  exact ⟨rfl, rfl⟩

set_option maxRecDepth 100000 in
set_option maxHeartbeats 4000000 in
theorem c_X7_hush_o0 {l : Launch} {G : hc_Geo} (hG : hc_ok G) {M : hc_Mem} {E e0 k : Nat}  (hE : M 9 5 = nI E) (hE6 : E ≤ 6) (he : e0 < E) (hk : M 42 3 = nI k) (hk24 : k ≤ 24) (h2 : hIn (M 9 4) (nI e0)) : hc_M l G yX7_hush cX7_hush 3 (some .int) 3 [.ref (hc_ad G 0), .int (nI e0), .int 0] M (hc_pi (fun z M' => hc_bc (M 9 4 &&& (((1 : Int32) <<< (nI e0 &&& 31)) ^^^ -1)) = z ∧ hc_ms (hKp M k 2 (nI e0) 1) 9 4 (M 9 4 &&& (((1 : Int32) <<< (nI e0 &&& 31)) ^^^ -1)) = M')) := by
  refine hc_M.of hG (by decide) [some (.ref (hc_ad G 0)), some (.int (nI e0)), some (.int 0)] rfl (Nat.le_of_ble_eq_true rfl) ?_
  intro p e s m args below meth c C
  refine hc_aload_n C dX7_hush_0 rfl rfl ?_
  refine hc_getR C fl_X7_26 rfl rfl dX7_hush_1 ?_
  refine hc_iload_n C dX7_hush_4 rfl rfl ?_
  refine hc_cV1i C mv_X7_141 (c_X3_hasEar C.ok) rfl rfl rfl (Nat.le_of_ble_eq_true rfl) (hc_rr_rm (by decide)) ⟨Nat.zero_le _, Nat.zero_le _⟩ dX7_hush_5 (fun r_5 M_5 h_5 => ?_)
  obtain ⟨rfl, rfl⟩ := h_5
  refine hc_if_eq C (tgt := 20) dX7_hush_8 (by decide) (fun c_8 => ?_) (fun c_8 => ?_)
  · exact absurd (hx_ear hE hE6 he) (hb_z.mp c_8)
  refine hc_iload_n C dX7_hush_11 rfl rfl ?_
  refine hc_iconst C dX7_hush_12 (v := 0) rfl ?_
  refine hc_iconst C dX7_hush_13 (v := 1) rfl ?_
  refine hc_cS3i C ms_X7_97 (c_X7_isWithin C.ok) (Nat.le_of_ble_eq_true rfl) (hc_rr_rm (by decide)) ⟨Nat.zero_le _, Nat.zero_le _⟩ dX7_hush_14 (fun r_14 M_14 h_14 => ?_)
  obtain ⟨rfl, rfl⟩ := h_14
  refine hc_if_ne C (tgt := 23) dX7_hush_17 (by decide) (fun c_17 => ?_) (fun c_17 => ?_)
  rotate_left
  · exact absurd (by decide) (hb_z.mp c_17)
  refine hc_aload_n C dX7_hush_23 rfl rfl ?_
  refine hc_getR C fl_X7_26 rfl rfl dX7_hush_24 ?_
  refine hc_iload_n C dX7_hush_27 rfl rfl ?_
  refine hc_cV1i C mv_X7_148 (c_X3_isHushed C.ok) rfl rfl rfl (Nat.le_of_ble_eq_true rfl) (hc_rr_rm (by decide)) ⟨Nat.zero_le _, Nat.zero_le _⟩ dX7_hush_28 (fun r_28 M_28 h_28 => ?_)
  obtain ⟨rfl, rfl⟩ := h_28
  refine hc_iload_n C dX7_hush_31 rfl rfl ?_
  refine hc_iconst C dX7_hush_32 (v := 1) rfl ?_
  refine hc_icmp_ne C (tgt := 40) dX7_hush_33 (by decide) (fun c_33 => ?_) (fun c_33 => ?_)
  rotate_left
  · exact absurd c_33 (by decide)
  refine hc_iconst C dX7_hush_40 (v := 0) rfl ?_
  refine hc_icmp_ne C (tgt := 47) dX7_hush_41 (by decide) (fun c_41 => ?_) (fun c_41 => ?_)
  rotate_left
  · exact absurd c_41 (fun z => hb_z.mp z h2)
  refine hc_aload_n C dX7_hush_47 rfl rfl ?_
  refine hc_getR C fl_X7_39 rfl rfl dX7_hush_48 ?_
  refine hc_iconst C dX7_hush_51 (v := 2) rfl ?_
  refine hc_iload_n C dX7_hush_52 rfl rfl ?_
  refine hc_iconst C dX7_hush_53 (v := 1) rfl ?_
  refine hc_iload_n C dX7_hush_54 rfl rfl ?_
  refine hc_isub C dX7_hush_55 ?_
  refine hc_top (v := 1) (by decide) ?_
  refine hc_cV3v C mv_X7_135 (c_X0_keep C.ok hk hk24) rfl rfl rfl (Nat.le_of_ble_eq_true rfl) (hc_rr_rm (by decide)) ⟨Nat.zero_le _, Nat.zero_le _⟩ dX7_hush_56 (fun M_56 h_56 => ?_)
  obtain rfl := h_56
  refine hc_aload_n C dX7_hush_59 rfl rfl ?_
  refine hc_getR C fl_X7_26 rfl rfl dX7_hush_60 ?_
  refine hc_iload_n C dX7_hush_63 rfl rfl ?_
  refine hc_iload_n C dX7_hush_64 rfl rfl ?_
  refine hc_iconst C dX7_hush_65 (v := 1) rfl ?_
  refine hc_icmp_ne C (tgt := 73) dX7_hush_66 (by decide) (fun c_66 => ?_) (fun c_66 => ?_)
  rotate_left
  · exact absurd c_66 (by decide)
  refine hc_iconst C dX7_hush_73 (v := 0) rfl ?_
  refine hc_cV2v C mv_X7_151 (c_X3_setHushed_0 C.ok) rfl rfl rfl (Nat.le_of_ble_eq_true rfl) (hc_rr_rm (by decide)) ⟨Nat.zero_le _, Nat.zero_le _⟩ dX7_hush_74 (fun M_74 h_74 => ?_)
  obtain rfl := h_74
  simp only [hKp_n (show (9 : Nat) < 42 ∨ 45 < 9 from Or.inl (by decide))]
  refine hc_aload_n C dX7_hush_77 rfl rfl ?_
  refine hc_getR C fl_X7_26 rfl rfl dX7_hush_78 ?_
  refine hc_getI C fl_X7_155 rfl rfl dX7_hush_81 ?_
  refine hc_top (v := (M 9 4 &&& (((1 : Int32) <<< (nI e0 &&& 31)) ^^^ -1))) hc_ms_v ?_
  refine hc_cS1i C ms_X7_158 (c_J6_bitCount_0f7a4 C.ok) (Nat.le_of_ble_eq_true rfl) (hc_rr_rm (by decide)) ⟨Nat.zero_le _, Nat.zero_le _⟩ dX7_hush_84 (fun r_84 M_84 h_84 => ?_)
  obtain ⟨rfl, rfl⟩ := h_84
  refine hc_iret C rfl dX7_hush_87 ?_
  exact ⟨rfl, rfl⟩

set_option maxRecDepth 100000 in
set_option maxHeartbeats 4000000 in
theorem c_X7_hush_s1 {l : Launch} {G : hc_Geo} (hG : hc_ok G) {M : hc_Mem} {E e0 : Nat}  (hE : M 9 5 = nI E) (hE6 : E ≤ 6) (he : e0 < E) (h2 : hIn (M 9 4) (nI e0)) : hc_M l G yX7_hush cX7_hush 3 (some .int) 3 [.ref (hc_ad G 0), .int (nI e0), .int 1] M (hc_pi (fun z M' => -1000002 = z ∧ M = M')) := by
  refine hc_M.of hG (by decide) [some (.ref (hc_ad G 0)), some (.int (nI e0)), some (.int 1)] rfl (Nat.le_of_ble_eq_true rfl) ?_
  intro p e s m args below meth c C
  refine hc_aload_n C dX7_hush_0 rfl rfl ?_
  refine hc_getR C fl_X7_26 rfl rfl dX7_hush_1 ?_
  refine hc_iload_n C dX7_hush_4 rfl rfl ?_
  refine hc_cV1i C mv_X7_141 (c_X3_hasEar C.ok) rfl rfl rfl (Nat.le_of_ble_eq_true rfl) (hc_rr_rm (by decide)) ⟨Nat.zero_le _, Nat.zero_le _⟩ dX7_hush_5 (fun r_5 M_5 h_5 => ?_)
  obtain ⟨rfl, rfl⟩ := h_5
  refine hc_if_eq C (tgt := 20) dX7_hush_8 (by decide) (fun c_8 => ?_) (fun c_8 => ?_)
  · exact absurd (hx_ear hE hE6 he) (hb_z.mp c_8)
  refine hc_iload_n C dX7_hush_11 rfl rfl ?_
  refine hc_iconst C dX7_hush_12 (v := 0) rfl ?_
  refine hc_iconst C dX7_hush_13 (v := 1) rfl ?_
  refine hc_cS3i C ms_X7_97 (c_X7_isWithin C.ok) (Nat.le_of_ble_eq_true rfl) (hc_rr_rm (by decide)) ⟨Nat.zero_le _, Nat.zero_le _⟩ dX7_hush_14 (fun r_14 M_14 h_14 => ?_)
  obtain ⟨rfl, rfl⟩ := h_14
  refine hc_if_ne C (tgt := 23) dX7_hush_17 (by decide) (fun c_17 => ?_) (fun c_17 => ?_)
  rotate_left
  · exact absurd (by decide) (hb_z.mp c_17)
  refine hc_aload_n C dX7_hush_23 rfl rfl ?_
  refine hc_getR C fl_X7_26 rfl rfl dX7_hush_24 ?_
  refine hc_iload_n C dX7_hush_27 rfl rfl ?_
  refine hc_cV1i C mv_X7_148 (c_X3_isHushed C.ok) rfl rfl rfl (Nat.le_of_ble_eq_true rfl) (hc_rr_rm (by decide)) ⟨Nat.zero_le _, Nat.zero_le _⟩ dX7_hush_28 (fun r_28 M_28 h_28 => ?_)
  obtain ⟨rfl, rfl⟩ := h_28
  refine hc_iload_n C dX7_hush_31 rfl rfl ?_
  refine hc_iconst C dX7_hush_32 (v := 1) rfl ?_
  refine hc_icmp_ne C (tgt := 40) dX7_hush_33 (by decide) (fun c_33 => ?_) (fun c_33 => ?_)
  · exact absurd rfl c_33
  refine hc_iconst C dX7_hush_36 (v := 1) rfl ?_
  refine hc_goto C (tgt := 41) dX7_hush_37 (by decide) ?_
  refine hc_icmp_ne C (tgt := 47) dX7_hush_41 (by decide) (fun c_41 => ?_) (fun c_41 => ?_)
  · exact absurd (hb_t h2) c_41
  refine hc_ldc C kc_X7_127 dX7_hush_44 ?_
  refine hc_iret C rfl dX7_hush_46 ?_
  exact ⟨rfl, rfl⟩

set_option maxRecDepth 100000 in
set_option maxHeartbeats 4000000 in
theorem c_X7_hush_o1 {l : Launch} {G : hc_Geo} (hG : hc_ok G) {M : hc_Mem} {E e0 k : Nat}  (hE : M 9 5 = nI E) (hE6 : E ≤ 6) (he : e0 < E) (hk : M 42 3 = nI k) (hk24 : k ≤ 24) (h2 : ¬ hIn (M 9 4) (nI e0)) : hc_M l G yX7_hush cX7_hush 3 (some .int) 3 [.ref (hc_ad G 0), .int (nI e0), .int 1] M (hc_pi (fun z M' => hc_bc (M 9 4 ||| ((1 : Int32) <<< (nI e0 &&& 31))) = z ∧ hc_ms (hKp M k 2 (nI e0) 0) 9 4 (M 9 4 ||| ((1 : Int32) <<< (nI e0 &&& 31))) = M')) := by
  refine hc_M.of hG (by decide) [some (.ref (hc_ad G 0)), some (.int (nI e0)), some (.int 1)] rfl (Nat.le_of_ble_eq_true rfl) ?_
  intro p e s m args below meth c C
  refine hc_aload_n C dX7_hush_0 rfl rfl ?_
  refine hc_getR C fl_X7_26 rfl rfl dX7_hush_1 ?_
  refine hc_iload_n C dX7_hush_4 rfl rfl ?_
  refine hc_cV1i C mv_X7_141 (c_X3_hasEar C.ok) rfl rfl rfl (Nat.le_of_ble_eq_true rfl) (hc_rr_rm (by decide)) ⟨Nat.zero_le _, Nat.zero_le _⟩ dX7_hush_5 (fun r_5 M_5 h_5 => ?_)
  obtain ⟨rfl, rfl⟩ := h_5
  refine hc_if_eq C (tgt := 20) dX7_hush_8 (by decide) (fun c_8 => ?_) (fun c_8 => ?_)
  · exact absurd (hx_ear hE hE6 he) (hb_z.mp c_8)
  refine hc_iload_n C dX7_hush_11 rfl rfl ?_
  refine hc_iconst C dX7_hush_12 (v := 0) rfl ?_
  refine hc_iconst C dX7_hush_13 (v := 1) rfl ?_
  refine hc_cS3i C ms_X7_97 (c_X7_isWithin C.ok) (Nat.le_of_ble_eq_true rfl) (hc_rr_rm (by decide)) ⟨Nat.zero_le _, Nat.zero_le _⟩ dX7_hush_14 (fun r_14 M_14 h_14 => ?_)
  obtain ⟨rfl, rfl⟩ := h_14
  refine hc_if_ne C (tgt := 23) dX7_hush_17 (by decide) (fun c_17 => ?_) (fun c_17 => ?_)
  rotate_left
  · exact absurd (by decide) (hb_z.mp c_17)
  refine hc_aload_n C dX7_hush_23 rfl rfl ?_
  refine hc_getR C fl_X7_26 rfl rfl dX7_hush_24 ?_
  refine hc_iload_n C dX7_hush_27 rfl rfl ?_
  refine hc_cV1i C mv_X7_148 (c_X3_isHushed C.ok) rfl rfl rfl (Nat.le_of_ble_eq_true rfl) (hc_rr_rm (by decide)) ⟨Nat.zero_le _, Nat.zero_le _⟩ dX7_hush_28 (fun r_28 M_28 h_28 => ?_)
  obtain ⟨rfl, rfl⟩ := h_28
  refine hc_iload_n C dX7_hush_31 rfl rfl ?_
  refine hc_iconst C dX7_hush_32 (v := 1) rfl ?_
  refine hc_icmp_ne C (tgt := 40) dX7_hush_33 (by decide) (fun c_33 => ?_) (fun c_33 => ?_)
  · exact absurd rfl c_33
  refine hc_iconst C dX7_hush_36 (v := 1) rfl ?_
  refine hc_goto C (tgt := 41) dX7_hush_37 (by decide) ?_
  refine hc_icmp_ne C (tgt := 47) dX7_hush_41 (by decide) (fun c_41 => ?_) (fun c_41 => ?_)
  rotate_left
  · exact absurd c_41 (fun z => h2 (hb_o.mp z))
  refine hc_aload_n C dX7_hush_47 rfl rfl ?_
  refine hc_getR C fl_X7_39 rfl rfl dX7_hush_48 ?_
  refine hc_iconst C dX7_hush_51 (v := 2) rfl ?_
  refine hc_iload_n C dX7_hush_52 rfl rfl ?_
  refine hc_iconst C dX7_hush_53 (v := 1) rfl ?_
  refine hc_iload_n C dX7_hush_54 rfl rfl ?_
  refine hc_isub C dX7_hush_55 ?_
  refine hc_top (v := 0) (by decide) ?_
  refine hc_cV3v C mv_X7_135 (c_X0_keep C.ok hk hk24) rfl rfl rfl (Nat.le_of_ble_eq_true rfl) (hc_rr_rm (by decide)) ⟨Nat.zero_le _, Nat.zero_le _⟩ dX7_hush_56 (fun M_56 h_56 => ?_)
  obtain rfl := h_56
  refine hc_aload_n C dX7_hush_59 rfl rfl ?_
  refine hc_getR C fl_X7_26 rfl rfl dX7_hush_60 ?_
  refine hc_iload_n C dX7_hush_63 rfl rfl ?_
  refine hc_iload_n C dX7_hush_64 rfl rfl ?_
  refine hc_iconst C dX7_hush_65 (v := 1) rfl ?_
  refine hc_icmp_ne C (tgt := 73) dX7_hush_66 (by decide) (fun c_66 => ?_) (fun c_66 => ?_)
  · exact absurd rfl c_66
  refine hc_iconst C dX7_hush_69 (v := 1) rfl ?_
  refine hc_goto C (tgt := 74) dX7_hush_70 (by decide) ?_
  refine hc_cV2v C mv_X7_151 (c_X3_setHushed_1 C.ok) rfl rfl rfl (Nat.le_of_ble_eq_true rfl) (hc_rr_rm (by decide)) ⟨Nat.zero_le _, Nat.zero_le _⟩ dX7_hush_74 (fun M_74 h_74 => ?_)
  obtain rfl := h_74
  simp only [hKp_n (show (9 : Nat) < 42 ∨ 45 < 9 from Or.inl (by decide))]
  refine hc_aload_n C dX7_hush_77 rfl rfl ?_
  refine hc_getR C fl_X7_26 rfl rfl dX7_hush_78 ?_
  refine hc_getI C fl_X7_155 rfl rfl dX7_hush_81 ?_
  refine hc_top (v := (M 9 4 ||| ((1 : Int32) <<< (nI e0 &&& 31)))) hc_ms_v ?_
  refine hc_cS1i C ms_X7_158 (c_J6_bitCount_0f7a4 C.ok) (Nat.le_of_ble_eq_true rfl) (hc_rr_rm (by decide)) ⟨Nat.zero_le _, Nat.zero_le _⟩ dX7_hush_84 (fun r_84 M_84 h_84 => ?_)
  obtain ⟨rfl, rfl⟩ := h_84
  refine hc_iret C rfl dX7_hush_87 ?_
  exact ⟨rfl, rfl⟩

set_option maxRecDepth 100000 in
set_option maxHeartbeats 4000000 in
theorem c_X7_wool_b {l : Launch} {G : hc_Geo} (hG : hc_ok G) {M : hc_Mem} {v : Int32}  (h1 : ¬ M 9 0 = 0) (h0 : ¬ (¬ v < 0 ∧ ¬ 12 < v)) : hc_M l G yX7_wool cX7_wool 3 (some .int) 3 [.ref (hc_ad G 0), .int v] M (hc_pi (fun z M' => -1000001 = z ∧ M = M')) := by
  refine hc_M.of hG (by decide) [some (.ref (hc_ad G 0)), some (.int v), none] rfl (Nat.le_of_ble_eq_true rfl) ?_
  intro p e s m args below meth c C
  refine hc_aload_n C dX7_wool_0 rfl rfl ?_
  refine hc_getR C fl_X7_26 rfl rfl dX7_wool_1 ?_
  refine hc_getI C fl_X7_123 rfl rfl dX7_wool_4 ?_
  refine hc_if_ne C (tgt := 13) dX7_wool_7 (by decide) (fun c_7 => ?_) (fun c_7 => ?_)
  rotate_left
  · exact absurd c_7 h1
  refine hc_iload_n C dX7_wool_13 rfl rfl ?_
  refine hc_iconst C dX7_wool_14 (v := 0) rfl ?_
  refine hc_bipush C dX7_wool_15 (v := 12) rfl ?_
  refine hc_cS3i C ms_X7_97 (c_X7_isWithin C.ok) (Nat.le_of_ble_eq_true rfl) (hc_rr_rm (by decide)) ⟨Nat.zero_le _, Nat.zero_le _⟩ dX7_wool_17 (fun r_17 M_17 h_17 => ?_)
  obtain ⟨rfl, rfl⟩ := h_17
  refine hc_if_ne C (tgt := 26) dX7_wool_20 (by decide) (fun c_20 => ?_) (fun c_20 => ?_)
  · exact absurd (hb_f h0) c_20
  refine hc_ldc C kc_X7_64 dX7_wool_23 ?_
  refine hc_iret C rfl dX7_wool_25 ?_
  exact ⟨rfl, rfl⟩

set_option maxRecDepth 100000 in
set_option maxHeartbeats 4000000 in
theorem c_X7_wool_o {l : Launch} {G : hc_Geo} (hG : hc_ok G) {M : hc_Mem} {k : Nat} {v : Int32}  (h1 : ¬ M 9 0 = 0) (hk : M 42 3 = nI k) (hk24 : k ≤ 24) (h0 : ¬ v < 0 ∧ ¬ 12 < v) : hc_M l G yX7_wool cX7_wool 3 (some .int) 3 [.ref (hc_ad G 0), .int v] M (hc_pi (fun z M' => M 9 1 = z ∧ hc_ms (hKp M k 3 0 (M 9 1)) 9 1 v = M')) := by
  refine hc_M.of hG (by decide) [some (.ref (hc_ad G 0)), some (.int v), none] rfl (Nat.le_of_ble_eq_true rfl) ?_
  intro p e s m args below meth c C
  refine hc_aload_n C dX7_wool_0 rfl rfl ?_
  refine hc_getR C fl_X7_26 rfl rfl dX7_wool_1 ?_
  refine hc_getI C fl_X7_123 rfl rfl dX7_wool_4 ?_
  refine hc_if_ne C (tgt := 13) dX7_wool_7 (by decide) (fun c_7 => ?_) (fun c_7 => ?_)
  rotate_left
  · exact absurd c_7 h1
  refine hc_iload_n C dX7_wool_13 rfl rfl ?_
  refine hc_iconst C dX7_wool_14 (v := 0) rfl ?_
  refine hc_bipush C dX7_wool_15 (v := 12) rfl ?_
  refine hc_cS3i C ms_X7_97 (c_X7_isWithin C.ok) (Nat.le_of_ble_eq_true rfl) (hc_rr_rm (by decide)) ⟨Nat.zero_le _, Nat.zero_le _⟩ dX7_wool_17 (fun r_17 M_17 h_17 => ?_)
  obtain ⟨rfl, rfl⟩ := h_17
  refine hc_if_ne C (tgt := 26) dX7_wool_20 (by decide) (fun c_20 => ?_) (fun c_20 => ?_)
  rotate_left
  · exact absurd h0 (hb_z.mp c_20)
  refine hc_aload_n C dX7_wool_26 rfl rfl ?_
  refine hc_getR C fl_X7_26 rfl rfl dX7_wool_27 ?_
  refine hc_getI C fl_X7_163 rfl rfl dX7_wool_30 ?_
  refine hc_istore_n2 C dX7_wool_33 rfl (by decide) rfl ?_
  refine hc_aload_n C dX7_wool_34 rfl rfl ?_
  refine hc_getR C fl_X7_39 rfl rfl dX7_wool_35 ?_
  refine hc_iconst C dX7_wool_38 (v := 3) rfl ?_
  refine hc_iconst C dX7_wool_39 (v := 0) rfl ?_
  refine hc_iload_n C dX7_wool_40 rfl rfl ?_
  refine hc_cV3v C mv_X7_135 (c_X0_keep C.ok hk hk24) rfl rfl rfl (Nat.le_of_ble_eq_true rfl) (hc_rr_rm (by decide)) ⟨Nat.zero_le _, Nat.zero_le _⟩ dX7_wool_41 (fun M_41 h_41 => ?_)
  obtain rfl := h_41
  refine hc_aload_n C dX7_wool_44 rfl rfl ?_
  refine hc_getR C fl_X7_26 rfl rfl dX7_wool_45 ?_
  refine hc_iload_n C dX7_wool_48 rfl rfl ?_
  refine hc_putI C fl_X7_163 pl_2_1 rfl rfl dX7_wool_49 ?_
  refine hc_iload_n C dX7_wool_52 rfl rfl ?_
  refine hc_iret C rfl dX7_wool_53 ?_
  exact ⟨rfl, rfl⟩

set_option maxRecDepth 100000 in
set_option maxHeartbeats 4000000 in
theorem c_X0_takeBack_1 {l : Launch} {G : hc_Geo} (hG : hc_ok G) {M : hc_Mem} {k w0 : Nat}  (hk : M 42 3 = nI (k + 1)) (hk24 : k < 24) (hd1 : M 43 k = 1) (hw : M 44 k = nI w0) (hw6 : w0 < 6) : hc_M l G yX0_takeBackLatest cX0_takeBackLatest 3 none 4 [.ref (hc_ad G 42), .ref (hc_ad G 9)] M (hc_pv (fun M' => hc_ms (hc_ms M 42 3 (nI k)) 12 w0 (M 45 k) = M')) := by
  refine hc_M.of hG (by decide) [some (.ref (hc_ad G 42)), some (.ref (hc_ad G 9)), none] rfl (Nat.le_of_ble_eq_true rfl) ?_
  intro p e s m args below meth c C
  refine hc_aload_n C dX0_takeBackLatest_0 rfl rfl ?_
  refine hc_getI C fl_X0_19 rfl rfl dX0_takeBackLatest_1 ?_
  refine hc_if_gt C (tgt := 8) dX0_takeBackLatest_4 (by decide) (fun c_4 => ?_) (fun c_4 => ?_)
  rotate_left
  · exact absurd (by rw [hk]; exact (show nI 0 < nI (k + 1) from nI_lt (by omega) (by omega))) c_4
  refine hc_aload_n C dX0_takeBackLatest_8 rfl rfl ?_
  refine hc_dup C dX0_takeBackLatest_9 rfl ?_
  refine hc_getI C fl_X0_19 rfl rfl dX0_takeBackLatest_10 ?_
  refine hc_iconst C dX0_takeBackLatest_13 (v := 1) rfl ?_
  refine hc_isub C dX0_takeBackLatest_14 ?_
  refine hc_top (v := nI k) (show M 42 3 - 1 = nI k by rw [hk, nI_pred]) ?_
  refine hc_putI C fl_X0_19 pl_0_3 rfl rfl dX0_takeBackLatest_15 ?_
  refine hc_aload_n C dX0_takeBackLatest_18 rfl rfl ?_
  refine hc_getR C fl_X0_16 rfl rfl dX0_takeBackLatest_19 ?_
  refine hc_aload_n C dX0_takeBackLatest_22 rfl rfl ?_
  refine hc_getI C fl_X0_19 rfl rfl dX0_takeBackLatest_23 ?_
  refine hc_ialdN C (j := k) rfl hc_ms_v (by omega) dX0_takeBackLatest_26 ?_
  refine hc_istore_n2 C dX0_takeBackLatest_27 rfl (by decide) rfl ?_
  refine hc_aload_n C dX0_takeBackLatest_28 rfl rfl ?_
  refine hc_getR C fl_X0_9 rfl rfl dX0_takeBackLatest_29 ?_
  refine hc_aload_n C dX0_takeBackLatest_32 rfl rfl ?_
  refine hc_getI C fl_X0_19 rfl rfl dX0_takeBackLatest_33 ?_
  refine hc_ialdN C (j := k) rfl hc_ms_v (by omega) dX0_takeBackLatest_36 ?_
  refine hc_top (v := 1) hd1 ?_
  refine hc_tableIn C (off := 27) (tgt := 64) dX0_takeBackLatest_37 (by decide) (by decide) rfl (by decide) ?_
  refine hc_aload_n C dX0_takeBackLatest_64 rfl rfl ?_
  refine hc_getR C fl_X0_32 rfl rfl dX0_takeBackLatest_65 ?_
  refine hc_aload_n C dX0_takeBackLatest_68 rfl rfl ?_
  refine hc_getR C fl_X0_13 rfl rfl dX0_takeBackLatest_69 ?_
  refine hc_aload_n C dX0_takeBackLatest_72 rfl rfl ?_
  refine hc_getI C fl_X0_19 rfl rfl dX0_takeBackLatest_73 ?_
  refine hc_ialdN C (j := k) rfl hc_ms_v (by omega) dX0_takeBackLatest_76 ?_
  refine hc_iload_n C dX0_takeBackLatest_77 rfl rfl ?_
  refine hc_iastN C (j := w0) rfl hw (by omega) dX0_takeBackLatest_78 ?_
  refine hc_goto C (tgt := 120) dX0_takeBackLatest_79 (by decide) ?_
  refine hc_vret C rfl dX0_takeBackLatest_120 ?_
  rfl

set_option maxRecDepth 100000 in
set_option maxHeartbeats 4000000 in
theorem c_X7_undo_1o {l : Launch} {G : hc_Geo} (hG : hc_ok G) {M : hc_Mem} {k w0 : Nat}  (hk : M 42 3 = nI (k + 1)) (hk24 : k < 24) (hd1 : M 43 k = 1) (hw : M 44 k = nI w0) (hw6 : w0 < 6) : hc_M l G yX7_undo cX7_undo 1 (some .int) 5 [.ref (hc_ad G 0)] M (hc_pi (fun z M' => nI k = z ∧ hc_ms (hc_ms M 42 3 (nI k)) 12 w0 (M 45 k) = M')) := by
  refine hc_M.of hG (by decide) [some (.ref (hc_ad G 0))] rfl (Nat.le_of_ble_eq_true rfl) ?_
  intro p e s m args below meth c C
  refine hc_aload_n C dX7_undo_0 rfl rfl ?_
  refine hc_getR C fl_X7_39 rfl rfl dX7_undo_1 ?_
  refine hc_getI C fl_X7_166 rfl rfl dX7_undo_4 ?_
  refine hc_if_ne C (tgt := 13) dX7_undo_7 (by decide) (fun c_7 => ?_) (fun c_7 => ?_)
  rotate_left
  · exact absurd (show nI (k + 1) = nI 0 from hk ▸ c_7) (fun q => by have := (nI_eq (by omega) (by decide)).mp q; omega)
  refine hc_aload_n C dX7_undo_13 rfl rfl ?_
  refine hc_getR C fl_X7_39 rfl rfl dX7_undo_14 ?_
  refine hc_aload_n C dX7_undo_17 rfl rfl ?_
  refine hc_getR C fl_X7_26 rfl rfl dX7_undo_18 ?_
  refine hc_cV1v C mv_X7_169 (c_X0_takeBack_1 C.ok hk hk24 hd1 hw hw6) rfl rfl rfl (Nat.le_of_ble_eq_true rfl) (hc_rr_rm (by decide)) ⟨Nat.zero_le _, Nat.zero_le _⟩ dX7_undo_21 (fun M_21 h_21 => ?_)
  obtain rfl := h_21
  refine hc_aload_n C dX7_undo_24 rfl rfl ?_
  refine hc_getR C fl_X7_39 rfl rfl dX7_undo_25 ?_
  refine hc_getI C fl_X7_166 rfl rfl dX7_undo_28 ?_
  refine hc_top (v := nI k) (by simp [hc_ms, hc_mf, upd, hBack, hGrow]) ?_
  refine hc_iret C rfl dX7_undo_31 ?_
  exact ⟨rfl, rfl⟩

set_option maxRecDepth 100000 in
set_option maxHeartbeats 4000000 in
theorem c_X0_takeBack_21 {l : Launch} {G : hc_Geo} (hG : hc_ok G) {M : hc_Mem} {k : Nat}  (hk : M 42 3 = nI (k + 1)) (hk24 : k < 24) (hd1 : M 43 k = 2) (hb1 : M 45 k = 1) : hc_M l G yX0_takeBackLatest cX0_takeBackLatest 3 none 4 [.ref (hc_ad G 42), .ref (hc_ad G 9)] M (hc_pv (fun M' => hc_ms (hc_ms M 42 3 (nI k)) 9 4 (M 9 4 ||| ((1 : Int32) <<< (M 44 k &&& 31))) = M')) := by
  refine hc_M.of hG (by decide) [some (.ref (hc_ad G 42)), some (.ref (hc_ad G 9)), none] rfl (Nat.le_of_ble_eq_true rfl) ?_
  intro p e s m args below meth c C
  refine hc_aload_n C dX0_takeBackLatest_0 rfl rfl ?_
  refine hc_getI C fl_X0_19 rfl rfl dX0_takeBackLatest_1 ?_
  refine hc_if_gt C (tgt := 8) dX0_takeBackLatest_4 (by decide) (fun c_4 => ?_) (fun c_4 => ?_)
  rotate_left
  · exact absurd (by rw [hk]; exact (show nI 0 < nI (k + 1) from nI_lt (by omega) (by omega))) c_4
  refine hc_aload_n C dX0_takeBackLatest_8 rfl rfl ?_
  refine hc_dup C dX0_takeBackLatest_9 rfl ?_
  refine hc_getI C fl_X0_19 rfl rfl dX0_takeBackLatest_10 ?_
  refine hc_iconst C dX0_takeBackLatest_13 (v := 1) rfl ?_
  refine hc_isub C dX0_takeBackLatest_14 ?_
  refine hc_top (v := nI k) (show M 42 3 - 1 = nI k by rw [hk, nI_pred]) ?_
  refine hc_putI C fl_X0_19 pl_0_3 rfl rfl dX0_takeBackLatest_15 ?_
  refine hc_aload_n C dX0_takeBackLatest_18 rfl rfl ?_
  refine hc_getR C fl_X0_16 rfl rfl dX0_takeBackLatest_19 ?_
  refine hc_aload_n C dX0_takeBackLatest_22 rfl rfl ?_
  refine hc_getI C fl_X0_19 rfl rfl dX0_takeBackLatest_23 ?_
  refine hc_ialdN C (j := k) rfl hc_ms_v (by omega) dX0_takeBackLatest_26 ?_
  refine hc_istore_n2 C dX0_takeBackLatest_27 rfl (by decide) rfl ?_
  refine hc_aload_n C dX0_takeBackLatest_28 rfl rfl ?_
  refine hc_getR C fl_X0_9 rfl rfl dX0_takeBackLatest_29 ?_
  refine hc_aload_n C dX0_takeBackLatest_32 rfl rfl ?_
  refine hc_getI C fl_X0_19 rfl rfl dX0_takeBackLatest_33 ?_
  refine hc_ialdN C (j := k) rfl hc_ms_v (by omega) dX0_takeBackLatest_36 ?_
  refine hc_top (v := 2) hd1 ?_
  refine hc_tableIn C (off := 45) (tgt := 82) dX0_takeBackLatest_37 (by decide) (by decide) rfl (by decide) ?_
  refine hc_aload_n C dX0_takeBackLatest_82 rfl rfl ?_
  refine hc_aload_n C dX0_takeBackLatest_83 rfl rfl ?_
  refine hc_getR C fl_X0_13 rfl rfl dX0_takeBackLatest_84 ?_
  refine hc_aload_n C dX0_takeBackLatest_87 rfl rfl ?_
  refine hc_getI C fl_X0_19 rfl rfl dX0_takeBackLatest_88 ?_
  refine hc_ialdN C (j := k) rfl hc_ms_v (by omega) dX0_takeBackLatest_91 ?_
  refine hc_iload_n C dX0_takeBackLatest_92 rfl rfl ?_
  refine hc_iconst C dX0_takeBackLatest_93 (v := 1) rfl ?_
  refine hc_icmp_ne C (tgt := 101) dX0_takeBackLatest_94 (by decide) (fun c_94 => ?_) (fun c_94 => ?_)
  · exact absurd (show _ = _ from hb1) c_94
  refine hc_iconst C dX0_takeBackLatest_97 (v := 1) rfl ?_
  refine hc_goto C (tgt := 102) dX0_takeBackLatest_98 (by decide) ?_
  refine hc_cV2v C mv_X0_37 (c_X3_setHushed_1 C.ok) rfl rfl rfl (Nat.le_of_ble_eq_true rfl) (hc_rr_rm (by decide)) ⟨Nat.zero_le _, Nat.zero_le _⟩ dX0_takeBackLatest_102 (fun M_102 h_102 => ?_)
  obtain rfl := h_102
  refine hc_goto C (tgt := 120) dX0_takeBackLatest_105 (by decide) ?_
  refine hc_vret C rfl dX0_takeBackLatest_120 ?_
  rfl

set_option maxRecDepth 100000 in
set_option maxHeartbeats 4000000 in
theorem c_X7_undo_21o {l : Launch} {G : hc_Geo} (hG : hc_ok G) {M : hc_Mem} {k : Nat}  (hk : M 42 3 = nI (k + 1)) (hk24 : k < 24) (hd1 : M 43 k = 2) (hb1 : M 45 k = 1) : hc_M l G yX7_undo cX7_undo 1 (some .int) 5 [.ref (hc_ad G 0)] M (hc_pi (fun z M' => nI k = z ∧ hc_ms (hc_ms M 42 3 (nI k)) 9 4 (M 9 4 ||| ((1 : Int32) <<< (M 44 k &&& 31))) = M')) := by
  refine hc_M.of hG (by decide) [some (.ref (hc_ad G 0))] rfl (Nat.le_of_ble_eq_true rfl) ?_
  intro p e s m args below meth c C
  refine hc_aload_n C dX7_undo_0 rfl rfl ?_
  refine hc_getR C fl_X7_39 rfl rfl dX7_undo_1 ?_
  refine hc_getI C fl_X7_166 rfl rfl dX7_undo_4 ?_
  refine hc_if_ne C (tgt := 13) dX7_undo_7 (by decide) (fun c_7 => ?_) (fun c_7 => ?_)
  rotate_left
  · exact absurd (show nI (k + 1) = nI 0 from hk ▸ c_7) (fun q => by have := (nI_eq (by omega) (by decide)).mp q; omega)
  refine hc_aload_n C dX7_undo_13 rfl rfl ?_
  refine hc_getR C fl_X7_39 rfl rfl dX7_undo_14 ?_
  refine hc_aload_n C dX7_undo_17 rfl rfl ?_
  refine hc_getR C fl_X7_26 rfl rfl dX7_undo_18 ?_
  refine hc_cV1v C mv_X7_169 (c_X0_takeBack_21 C.ok hk hk24 hd1 hb1) rfl rfl rfl (Nat.le_of_ble_eq_true rfl) (hc_rr_rm (by decide)) ⟨Nat.zero_le _, Nat.zero_le _⟩ dX7_undo_21 (fun M_21 h_21 => ?_)
  obtain rfl := h_21
  refine hc_aload_n C dX7_undo_24 rfl rfl ?_
  refine hc_getR C fl_X7_39 rfl rfl dX7_undo_25 ?_
  refine hc_getI C fl_X7_166 rfl rfl dX7_undo_28 ?_
  refine hc_top (v := nI k) (by simp [hc_ms, hc_mf, upd, hBack, hGrow]) ?_
  refine hc_iret C rfl dX7_undo_31 ?_
  exact ⟨rfl, rfl⟩

set_option maxRecDepth 100000 in
set_option maxHeartbeats 4000000 in
theorem c_X0_takeBack_20 {l : Launch} {G : hc_Geo} (hG : hc_ok G) {M : hc_Mem} {k : Nat}  (hk : M 42 3 = nI (k + 1)) (hk24 : k < 24) (hd1 : M 43 k = 2) (hb1 : ¬ M 45 k = 1) : hc_M l G yX0_takeBackLatest cX0_takeBackLatest 3 none 4 [.ref (hc_ad G 42), .ref (hc_ad G 9)] M (hc_pv (fun M' => hc_ms (hc_ms M 42 3 (nI k)) 9 4 (M 9 4 &&& (((1 : Int32) <<< (M 44 k &&& 31)) ^^^ -1)) = M')) := by
  refine hc_M.of hG (by decide) [some (.ref (hc_ad G 42)), some (.ref (hc_ad G 9)), none] rfl (Nat.le_of_ble_eq_true rfl) ?_
  intro p e s m args below meth c C
  refine hc_aload_n C dX0_takeBackLatest_0 rfl rfl ?_
  refine hc_getI C fl_X0_19 rfl rfl dX0_takeBackLatest_1 ?_
  refine hc_if_gt C (tgt := 8) dX0_takeBackLatest_4 (by decide) (fun c_4 => ?_) (fun c_4 => ?_)
  rotate_left
  · exact absurd (by rw [hk]; exact (show nI 0 < nI (k + 1) from nI_lt (by omega) (by omega))) c_4
  refine hc_aload_n C dX0_takeBackLatest_8 rfl rfl ?_
  refine hc_dup C dX0_takeBackLatest_9 rfl ?_
  refine hc_getI C fl_X0_19 rfl rfl dX0_takeBackLatest_10 ?_
  refine hc_iconst C dX0_takeBackLatest_13 (v := 1) rfl ?_
  refine hc_isub C dX0_takeBackLatest_14 ?_
  refine hc_top (v := nI k) (show M 42 3 - 1 = nI k by rw [hk, nI_pred]) ?_
  refine hc_putI C fl_X0_19 pl_0_3 rfl rfl dX0_takeBackLatest_15 ?_
  refine hc_aload_n C dX0_takeBackLatest_18 rfl rfl ?_
  refine hc_getR C fl_X0_16 rfl rfl dX0_takeBackLatest_19 ?_
  refine hc_aload_n C dX0_takeBackLatest_22 rfl rfl ?_
  refine hc_getI C fl_X0_19 rfl rfl dX0_takeBackLatest_23 ?_
  refine hc_ialdN C (j := k) rfl hc_ms_v (by omega) dX0_takeBackLatest_26 ?_
  refine hc_istore_n2 C dX0_takeBackLatest_27 rfl (by decide) rfl ?_
  refine hc_aload_n C dX0_takeBackLatest_28 rfl rfl ?_
  refine hc_getR C fl_X0_9 rfl rfl dX0_takeBackLatest_29 ?_
  refine hc_aload_n C dX0_takeBackLatest_32 rfl rfl ?_
  refine hc_getI C fl_X0_19 rfl rfl dX0_takeBackLatest_33 ?_
  refine hc_ialdN C (j := k) rfl hc_ms_v (by omega) dX0_takeBackLatest_36 ?_
  refine hc_top (v := 2) hd1 ?_
  refine hc_tableIn C (off := 45) (tgt := 82) dX0_takeBackLatest_37 (by decide) (by decide) rfl (by decide) ?_
  refine hc_aload_n C dX0_takeBackLatest_82 rfl rfl ?_
  refine hc_aload_n C dX0_takeBackLatest_83 rfl rfl ?_
  refine hc_getR C fl_X0_13 rfl rfl dX0_takeBackLatest_84 ?_
  refine hc_aload_n C dX0_takeBackLatest_87 rfl rfl ?_
  refine hc_getI C fl_X0_19 rfl rfl dX0_takeBackLatest_88 ?_
  refine hc_ialdN C (j := k) rfl hc_ms_v (by omega) dX0_takeBackLatest_91 ?_
  refine hc_iload_n C dX0_takeBackLatest_92 rfl rfl ?_
  refine hc_iconst C dX0_takeBackLatest_93 (v := 1) rfl ?_
  refine hc_icmp_ne C (tgt := 101) dX0_takeBackLatest_94 (by decide) (fun c_94 => ?_) (fun c_94 => ?_)
  rotate_left
  · exact absurd (show _ = _ from c_94) hb1
  refine hc_iconst C dX0_takeBackLatest_101 (v := 0) rfl ?_
  refine hc_cV2v C mv_X0_37 (c_X3_setHushed_0 C.ok) rfl rfl rfl (Nat.le_of_ble_eq_true rfl) (hc_rr_rm (by decide)) ⟨Nat.zero_le _, Nat.zero_le _⟩ dX0_takeBackLatest_102 (fun M_102 h_102 => ?_)
  obtain rfl := h_102
  refine hc_goto C (tgt := 120) dX0_takeBackLatest_105 (by decide) ?_
  refine hc_vret C rfl dX0_takeBackLatest_120 ?_
  rfl

set_option maxRecDepth 100000 in
set_option maxHeartbeats 4000000 in
theorem c_X7_undo_20o {l : Launch} {G : hc_Geo} (hG : hc_ok G) {M : hc_Mem} {k : Nat}  (hk : M 42 3 = nI (k + 1)) (hk24 : k < 24) (hd1 : M 43 k = 2) (hb1 : ¬ M 45 k = 1) : hc_M l G yX7_undo cX7_undo 1 (some .int) 5 [.ref (hc_ad G 0)] M (hc_pi (fun z M' => nI k = z ∧ hc_ms (hc_ms M 42 3 (nI k)) 9 4 (M 9 4 &&& (((1 : Int32) <<< (M 44 k &&& 31)) ^^^ -1)) = M')) := by
  refine hc_M.of hG (by decide) [some (.ref (hc_ad G 0))] rfl (Nat.le_of_ble_eq_true rfl) ?_
  intro p e s m args below meth c C
  refine hc_aload_n C dX7_undo_0 rfl rfl ?_
  refine hc_getR C fl_X7_39 rfl rfl dX7_undo_1 ?_
  refine hc_getI C fl_X7_166 rfl rfl dX7_undo_4 ?_
  refine hc_if_ne C (tgt := 13) dX7_undo_7 (by decide) (fun c_7 => ?_) (fun c_7 => ?_)
  rotate_left
  · exact absurd (show nI (k + 1) = nI 0 from hk ▸ c_7) (fun q => by have := (nI_eq (by omega) (by decide)).mp q; omega)
  refine hc_aload_n C dX7_undo_13 rfl rfl ?_
  refine hc_getR C fl_X7_39 rfl rfl dX7_undo_14 ?_
  refine hc_aload_n C dX7_undo_17 rfl rfl ?_
  refine hc_getR C fl_X7_26 rfl rfl dX7_undo_18 ?_
  refine hc_cV1v C mv_X7_169 (c_X0_takeBack_20 C.ok hk hk24 hd1 hb1) rfl rfl rfl (Nat.le_of_ble_eq_true rfl) (hc_rr_rm (by decide)) ⟨Nat.zero_le _, Nat.zero_le _⟩ dX7_undo_21 (fun M_21 h_21 => ?_)
  obtain rfl := h_21
  refine hc_aload_n C dX7_undo_24 rfl rfl ?_
  refine hc_getR C fl_X7_39 rfl rfl dX7_undo_25 ?_
  refine hc_getI C fl_X7_166 rfl rfl dX7_undo_28 ?_
  refine hc_top (v := nI k) (by simp [hc_ms, hc_mf, upd, hBack, hGrow]) ?_
  refine hc_iret C rfl dX7_undo_31 ?_
  exact ⟨rfl, rfl⟩

set_option maxRecDepth 100000 in
set_option maxHeartbeats 4000000 in
theorem c_X0_takeBack_3 {l : Launch} {G : hc_Geo} (hG : hc_ok G) {M : hc_Mem} {k : Nat}  (hk : M 42 3 = nI (k + 1)) (hk24 : k < 24) (hd1 : M 43 k = 3) : hc_M l G yX0_takeBackLatest cX0_takeBackLatest 3 none 4 [.ref (hc_ad G 42), .ref (hc_ad G 9)] M (hc_pv (fun M' => hc_ms (hc_ms M 42 3 (nI k)) 9 1 (M 45 k) = M')) := by
  refine hc_M.of hG (by decide) [some (.ref (hc_ad G 42)), some (.ref (hc_ad G 9)), none] rfl (Nat.le_of_ble_eq_true rfl) ?_
  intro p e s m args below meth c C
  refine hc_aload_n C dX0_takeBackLatest_0 rfl rfl ?_
  refine hc_getI C fl_X0_19 rfl rfl dX0_takeBackLatest_1 ?_
  refine hc_if_gt C (tgt := 8) dX0_takeBackLatest_4 (by decide) (fun c_4 => ?_) (fun c_4 => ?_)
  rotate_left
  · exact absurd (by rw [hk]; exact (show nI 0 < nI (k + 1) from nI_lt (by omega) (by omega))) c_4
  refine hc_aload_n C dX0_takeBackLatest_8 rfl rfl ?_
  refine hc_dup C dX0_takeBackLatest_9 rfl ?_
  refine hc_getI C fl_X0_19 rfl rfl dX0_takeBackLatest_10 ?_
  refine hc_iconst C dX0_takeBackLatest_13 (v := 1) rfl ?_
  refine hc_isub C dX0_takeBackLatest_14 ?_
  refine hc_top (v := nI k) (show M 42 3 - 1 = nI k by rw [hk, nI_pred]) ?_
  refine hc_putI C fl_X0_19 pl_0_3 rfl rfl dX0_takeBackLatest_15 ?_
  refine hc_aload_n C dX0_takeBackLatest_18 rfl rfl ?_
  refine hc_getR C fl_X0_16 rfl rfl dX0_takeBackLatest_19 ?_
  refine hc_aload_n C dX0_takeBackLatest_22 rfl rfl ?_
  refine hc_getI C fl_X0_19 rfl rfl dX0_takeBackLatest_23 ?_
  refine hc_ialdN C (j := k) rfl hc_ms_v (by omega) dX0_takeBackLatest_26 ?_
  refine hc_istore_n2 C dX0_takeBackLatest_27 rfl (by decide) rfl ?_
  refine hc_aload_n C dX0_takeBackLatest_28 rfl rfl ?_
  refine hc_getR C fl_X0_9 rfl rfl dX0_takeBackLatest_29 ?_
  refine hc_aload_n C dX0_takeBackLatest_32 rfl rfl ?_
  refine hc_getI C fl_X0_19 rfl rfl dX0_takeBackLatest_33 ?_
  refine hc_ialdN C (j := k) rfl hc_ms_v (by omega) dX0_takeBackLatest_36 ?_
  refine hc_top (v := 3) hd1 ?_
  refine hc_tableIn C (off := 71) (tgt := 108) dX0_takeBackLatest_37 (by decide) (by decide) rfl (by decide) ?_
  refine hc_aload_n C dX0_takeBackLatest_108 rfl rfl ?_
  refine hc_iload_n C dX0_takeBackLatest_109 rfl rfl ?_
  refine hc_putI C fl_X0_41 pl_2_1 rfl rfl dX0_takeBackLatest_110 ?_
  refine hc_goto C (tgt := 120) dX0_takeBackLatest_113 (by decide) ?_
  refine hc_vret C rfl dX0_takeBackLatest_120 ?_
  rfl

set_option maxRecDepth 100000 in
set_option maxHeartbeats 4000000 in
theorem c_X7_undo_3o {l : Launch} {G : hc_Geo} (hG : hc_ok G) {M : hc_Mem} {k : Nat}  (hk : M 42 3 = nI (k + 1)) (hk24 : k < 24) (hd1 : M 43 k = 3) : hc_M l G yX7_undo cX7_undo 1 (some .int) 5 [.ref (hc_ad G 0)] M (hc_pi (fun z M' => nI k = z ∧ hc_ms (hc_ms M 42 3 (nI k)) 9 1 (M 45 k) = M')) := by
  refine hc_M.of hG (by decide) [some (.ref (hc_ad G 0))] rfl (Nat.le_of_ble_eq_true rfl) ?_
  intro p e s m args below meth c C
  refine hc_aload_n C dX7_undo_0 rfl rfl ?_
  refine hc_getR C fl_X7_39 rfl rfl dX7_undo_1 ?_
  refine hc_getI C fl_X7_166 rfl rfl dX7_undo_4 ?_
  refine hc_if_ne C (tgt := 13) dX7_undo_7 (by decide) (fun c_7 => ?_) (fun c_7 => ?_)
  rotate_left
  · exact absurd (show nI (k + 1) = nI 0 from hk ▸ c_7) (fun q => by have := (nI_eq (by omega) (by decide)).mp q; omega)
  refine hc_aload_n C dX7_undo_13 rfl rfl ?_
  refine hc_getR C fl_X7_39 rfl rfl dX7_undo_14 ?_
  refine hc_aload_n C dX7_undo_17 rfl rfl ?_
  refine hc_getR C fl_X7_26 rfl rfl dX7_undo_18 ?_
  refine hc_cV1v C mv_X7_169 (c_X0_takeBack_3 C.ok hk hk24 hd1) rfl rfl rfl (Nat.le_of_ble_eq_true rfl) (hc_rr_rm (by decide)) ⟨Nat.zero_le _, Nat.zero_le _⟩ dX7_undo_21 (fun M_21 h_21 => ?_)
  obtain rfl := h_21
  refine hc_aload_n C dX7_undo_24 rfl rfl ?_
  refine hc_getR C fl_X7_39 rfl rfl dX7_undo_25 ?_
  refine hc_getI C fl_X7_166 rfl rfl dX7_undo_28 ?_
  refine hc_top (v := nI k) (by simp [hc_ms, hc_mf, upd, hBack, hGrow]) ?_
  refine hc_iret C rfl dX7_undo_31 ?_
  exact ⟨rfl, rfl⟩

set_option maxRecDepth 100000 in
set_option maxHeartbeats 4000000 in
theorem c_X0_takeBack_0 {l : Launch} {G : hc_Geo} (hG : hc_ok G) {M : hc_Mem} {k E q : Nat}  (hk : M 42 3 = nI (k + 1)) (hk24 : k < 24) (hd1 : M 43 k = 0) (hE : M 9 5 = nI E) (hE6 : E ≤ 6) (hq : M 9 2 = nI (q + 1)) (hq9 : q < 999) : hc_M l G yX0_takeBackLatest cX0_takeBackLatest 3 none 4 [.ref (hc_ad G 42), .ref (hc_ad G 9)] M (hc_pv (fun M' => hBack (hc_ms M 42 3 (nI k)) E q = M')) := by
  refine hc_M.of hG (by decide) [some (.ref (hc_ad G 42)), some (.ref (hc_ad G 9)), none] rfl (Nat.le_of_ble_eq_true rfl) ?_
  intro p e s m args below meth c C
  refine hc_aload_n C dX0_takeBackLatest_0 rfl rfl ?_
  refine hc_getI C fl_X0_19 rfl rfl dX0_takeBackLatest_1 ?_
  refine hc_if_gt C (tgt := 8) dX0_takeBackLatest_4 (by decide) (fun c_4 => ?_) (fun c_4 => ?_)
  rotate_left
  · exact absurd (by rw [hk]; exact (show nI 0 < nI (k + 1) from nI_lt (by omega) (by omega))) c_4
  refine hc_aload_n C dX0_takeBackLatest_8 rfl rfl ?_
  refine hc_dup C dX0_takeBackLatest_9 rfl ?_
  refine hc_getI C fl_X0_19 rfl rfl dX0_takeBackLatest_10 ?_
  refine hc_iconst C dX0_takeBackLatest_13 (v := 1) rfl ?_
  refine hc_isub C dX0_takeBackLatest_14 ?_
  refine hc_top (v := nI k) (show M 42 3 - 1 = nI k by rw [hk, nI_pred]) ?_
  refine hc_putI C fl_X0_19 pl_0_3 rfl rfl dX0_takeBackLatest_15 ?_
  refine hc_aload_n C dX0_takeBackLatest_18 rfl rfl ?_
  refine hc_getR C fl_X0_16 rfl rfl dX0_takeBackLatest_19 ?_
  refine hc_aload_n C dX0_takeBackLatest_22 rfl rfl ?_
  refine hc_getI C fl_X0_19 rfl rfl dX0_takeBackLatest_23 ?_
  refine hc_ialdN C (j := k) rfl hc_ms_v (by omega) dX0_takeBackLatest_26 ?_
  refine hc_istore_n2 C dX0_takeBackLatest_27 rfl (by decide) rfl ?_
  refine hc_aload_n C dX0_takeBackLatest_28 rfl rfl ?_
  refine hc_getR C fl_X0_9 rfl rfl dX0_takeBackLatest_29 ?_
  refine hc_aload_n C dX0_takeBackLatest_32 rfl rfl ?_
  refine hc_getI C fl_X0_19 rfl rfl dX0_takeBackLatest_33 ?_
  refine hc_ialdN C (j := k) rfl hc_ms_v (by omega) dX0_takeBackLatest_36 ?_
  refine hc_top (v := 0) hd1 ?_
  refine hc_tableOut C (tgt := 116) dX0_takeBackLatest_37 (by decide) (by decide) ?_
  refine hc_aload_n C dX0_takeBackLatest_116 rfl rfl ?_
  refine hc_cV0v C mv_X0_44 (c_X3_takeQuarterBack (E := E) (q := q) C.ok (show M 9 5 = nI E from hE) hE6 (show M 9 2 = nI (q + 1) from hq) hq9) rfl rfl rfl (Nat.le_of_ble_eq_true rfl) (hc_rr_rm (by decide)) ⟨Nat.zero_le _, Nat.zero_le _⟩ dX0_takeBackLatest_117 (fun M_117 h_117 => ?_)
  obtain rfl := h_117
  refine hc_vret C rfl dX0_takeBackLatest_120 ?_
  rfl

set_option maxRecDepth 100000 in
set_option maxHeartbeats 4000000 in
theorem c_X7_undo_0o {l : Launch} {G : hc_Geo} (hG : hc_ok G) {M : hc_Mem} {k E q : Nat}  (hk : M 42 3 = nI (k + 1)) (hk24 : k < 24) (hd1 : M 43 k = 0) (hE : M 9 5 = nI E) (hE6 : E ≤ 6) (hq : M 9 2 = nI (q + 1)) (hq9 : q < 999) : hc_M l G yX7_undo cX7_undo 1 (some .int) 5 [.ref (hc_ad G 0)] M (hc_pi (fun z M' => nI k = z ∧ hBack (hc_ms M 42 3 (nI k)) E q = M')) := by
  refine hc_M.of hG (by decide) [some (.ref (hc_ad G 0))] rfl (Nat.le_of_ble_eq_true rfl) ?_
  intro p e s m args below meth c C
  refine hc_aload_n C dX7_undo_0 rfl rfl ?_
  refine hc_getR C fl_X7_39 rfl rfl dX7_undo_1 ?_
  refine hc_getI C fl_X7_166 rfl rfl dX7_undo_4 ?_
  refine hc_if_ne C (tgt := 13) dX7_undo_7 (by decide) (fun c_7 => ?_) (fun c_7 => ?_)
  rotate_left
  · exact absurd (show nI (k + 1) = nI 0 from hk ▸ c_7) (fun q => by have := (nI_eq (by omega) (by decide)).mp q; omega)
  refine hc_aload_n C dX7_undo_13 rfl rfl ?_
  refine hc_getR C fl_X7_39 rfl rfl dX7_undo_14 ?_
  refine hc_aload_n C dX7_undo_17 rfl rfl ?_
  refine hc_getR C fl_X7_26 rfl rfl dX7_undo_18 ?_
  refine hc_cV1v C mv_X7_169 (c_X0_takeBack_0 C.ok hk hk24 hd1 hE hE6 hq hq9) rfl rfl rfl (Nat.le_of_ble_eq_true rfl) (hc_rr_rm (by decide)) ⟨Nat.zero_le _, Nat.zero_le _⟩ dX7_undo_21 (fun M_21 h_21 => ?_)
  obtain rfl := h_21
  refine hc_aload_n C dX7_undo_24 rfl rfl ?_
  refine hc_getR C fl_X7_39 rfl rfl dX7_undo_25 ?_
  refine hc_getI C fl_X7_166 rfl rfl dX7_undo_28 ?_
  refine hc_top (v := nI k) (by simp [hc_ms, hc_mf, upd, hBack, hGrow]) ?_
  refine hc_iret C rfl dX7_undo_31 ?_
  exact ⟨rfl, rfl⟩

set_option maxRecDepth 100000 in
set_option maxHeartbeats 4000000 in
theorem c_X7_ear_0 {l : Launch} {G : hc_Geo} (hG : hc_ok G) {M : hc_Mem} {E e0 : Nat}  (hE : M 9 5 = nI E) (hE6 : E ≤ 6) (he : e0 < E) : hc_M l G yX7_ear cX7_ear 3 (some .int) 6 [.ref (hc_ad G 0), .int (nI e0), .int 0] M (hc_pi (fun z M' => M 11 e0 = z ∧ M = M')) := by
  refine hc_M.of hG (by decide) [some (.ref (hc_ad G 0)), some (.int (nI e0)), some (.int 0)] rfl (Nat.le_of_ble_eq_true rfl) ?_
  intro p e s m args below meth c C
  refine hc_aload_n C dX7_ear_0 rfl rfl ?_
  refine hc_getR C fl_X7_26 rfl rfl dX7_ear_1 ?_
  refine hc_iload_n C dX7_ear_4 rfl rfl ?_
  refine hc_cV1i C mv_X7_141 (c_X3_hasEar C.ok) rfl rfl rfl (Nat.le_of_ble_eq_true rfl) (hc_rr_rm (by decide)) ⟨Nat.zero_le _, Nat.zero_le _⟩ dX7_ear_5 (fun r_5 M_5 h_5 => ?_)
  obtain ⟨rfl, rfl⟩ := h_5
  refine hc_if_ne C (tgt := 14) dX7_ear_8 (by decide) (fun c_8 => ?_) (fun c_8 => ?_)
  rotate_left
  · exact absurd (hx_ear hE hE6 he) (hb_z.mp c_8)
  refine hc_iload_n C dX7_ear_14 rfl rfl ?_
  refine hc_tableIn C (off := 37) (tgt := 52) dX7_ear_15 (by decide) (by decide) rfl (by decide) ?_
  refine hc_aload_n C dX7_ear_52 rfl rfl ?_
  refine hc_getR C fl_X7_26 rfl rfl dX7_ear_53 ?_
  refine hc_getR C fl_X7_173 rfl rfl dX7_ear_56 ?_
  refine hc_iload_n C dX7_ear_59 rfl rfl ?_
  refine hc_ialdN C (j := e0) rfl rfl (by omega) dX7_ear_60 ?_
  refine hc_iret C rfl dX7_ear_61 ?_
  exact ⟨rfl, rfl⟩

set_option maxRecDepth 100000 in
set_option maxHeartbeats 4000000 in
theorem c_X7_ear_1 {l : Launch} {G : hc_Geo} (hG : hc_ok G) {M : hc_Mem} {E e0 : Nat}  (hE : M 9 5 = nI E) (hE6 : E ≤ 6) (he : e0 < E) : hc_M l G yX7_ear cX7_ear 3 (some .int) 6 [.ref (hc_ad G 0), .int (nI e0), .int 1] M (hc_pi (fun z M' => M 12 e0 = z ∧ M = M')) := by
  refine hc_M.of hG (by decide) [some (.ref (hc_ad G 0)), some (.int (nI e0)), some (.int 1)] rfl (Nat.le_of_ble_eq_true rfl) ?_
  intro p e s m args below meth c C
  refine hc_aload_n C dX7_ear_0 rfl rfl ?_
  refine hc_getR C fl_X7_26 rfl rfl dX7_ear_1 ?_
  refine hc_iload_n C dX7_ear_4 rfl rfl ?_
  refine hc_cV1i C mv_X7_141 (c_X3_hasEar C.ok) rfl rfl rfl (Nat.le_of_ble_eq_true rfl) (hc_rr_rm (by decide)) ⟨Nat.zero_le _, Nat.zero_le _⟩ dX7_ear_5 (fun r_5 M_5 h_5 => ?_)
  obtain ⟨rfl, rfl⟩ := h_5
  refine hc_if_ne C (tgt := 14) dX7_ear_8 (by decide) (fun c_8 => ?_) (fun c_8 => ?_)
  rotate_left
  · exact absurd (hx_ear hE hE6 he) (hb_z.mp c_8)
  refine hc_iload_n C dX7_ear_14 rfl rfl ?_
  refine hc_tableIn C (off := 47) (tgt := 62) dX7_ear_15 (by decide) (by decide) rfl (by decide) ?_
  refine hc_aload_n C dX7_ear_62 rfl rfl ?_
  refine hc_getR C fl_X7_26 rfl rfl dX7_ear_63 ?_
  refine hc_getR C fl_X7_144 rfl rfl dX7_ear_66 ?_
  refine hc_iload_n C dX7_ear_69 rfl rfl ?_
  refine hc_ialdN C (j := e0) rfl rfl (by omega) dX7_ear_70 ?_
  refine hc_iret C rfl dX7_ear_71 ?_
  exact ⟨rfl, rfl⟩

set_option maxRecDepth 100000 in
set_option maxHeartbeats 4000000 in
theorem c_X7_ear_2 {l : Launch} {G : hc_Geo} (hG : hc_ok G) {M : hc_Mem} {E e0 : Nat}  (hE : M 9 5 = nI E) (hE6 : E ≤ 6) (he : e0 < E) : hc_M l G yX7_ear cX7_ear 3 (some .int) 6 [.ref (hc_ad G 0), .int (nI e0), .int 2] M (hc_pi (fun z M' => hb (hIn (M 9 4) (nI e0)) = z ∧ M = M')) := by
  refine hc_M.of hG (by decide) [some (.ref (hc_ad G 0)), some (.int (nI e0)), some (.int 2)] rfl (Nat.le_of_ble_eq_true rfl) ?_
  intro p e s m args below meth c C
  refine hc_aload_n C dX7_ear_0 rfl rfl ?_
  refine hc_getR C fl_X7_26 rfl rfl dX7_ear_1 ?_
  refine hc_iload_n C dX7_ear_4 rfl rfl ?_
  refine hc_cV1i C mv_X7_141 (c_X3_hasEar C.ok) rfl rfl rfl (Nat.le_of_ble_eq_true rfl) (hc_rr_rm (by decide)) ⟨Nat.zero_le _, Nat.zero_le _⟩ dX7_ear_5 (fun r_5 M_5 h_5 => ?_)
  obtain ⟨rfl, rfl⟩ := h_5
  refine hc_if_ne C (tgt := 14) dX7_ear_8 (by decide) (fun c_8 => ?_) (fun c_8 => ?_)
  rotate_left
  · exact absurd (hx_ear hE hE6 he) (hb_z.mp c_8)
  refine hc_iload_n C dX7_ear_14 rfl rfl ?_
  refine hc_tableIn C (off := 57) (tgt := 72) dX7_ear_15 (by decide) (by decide) rfl (by decide) ?_
  refine hc_aload_n C dX7_ear_72 rfl rfl ?_
  refine hc_getR C fl_X7_26 rfl rfl dX7_ear_73 ?_
  refine hc_iload_n C dX7_ear_76 rfl rfl ?_
  refine hc_cV1i C mv_X7_148 (c_X3_isHushed C.ok) rfl rfl rfl (Nat.le_of_ble_eq_true rfl) (hc_rr_rm (by decide)) ⟨Nat.zero_le _, Nat.zero_le _⟩ dX7_ear_77 (fun r_77 M_77 h_77 => ?_)
  obtain ⟨rfl, rfl⟩ := h_77
  refine hc_if_eq C (tgt := 87) dX7_ear_80 (by decide) (fun c_80 => ?_) (fun c_80 => ?_)
  · refine hc_iconst C dX7_ear_87 (v := 0) rfl ?_
    refine hc_iret C rfl dX7_ear_88 ?_
    refine ⟨?_, rfl⟩
    first | exact hb_f (hb_z.mp c_80) | exact hb_t (hb_nz.mp c_80)
  · refine hc_iconst C dX7_ear_83 (v := 1) rfl ?_
    refine hc_goto C (tgt := 88) dX7_ear_84 (by decide) ?_
    refine hc_iret C rfl dX7_ear_88 ?_
    refine ⟨?_, rfl⟩
    first | exact hb_f (hb_z.mp c_80) | exact hb_t (hb_nz.mp c_80)

set_option maxRecDepth 100000 in
set_option maxHeartbeats 4000000 in
theorem c_X7_ear_3 {l : Launch} {G : hc_Geo} (hG : hc_ok G) {M : hc_Mem} {E e0 : Nat}  (hE : M 9 5 = nI E) (hE6 : E ≤ 6) (he : e0 < E) : hc_M l G yX7_ear cX7_ear 3 (some .int) 6 [.ref (hc_ad G 0), .int (nI e0), .int 3] M (hc_pi (fun z M' => hb (hLis M E e0) = z ∧ M = M')) := by
  refine hc_M.of hG (by decide) [some (.ref (hc_ad G 0)), some (.int (nI e0)), some (.int 3)] rfl (Nat.le_of_ble_eq_true rfl) ?_
  intro p e s m args below meth c C
  refine hc_aload_n C dX7_ear_0 rfl rfl ?_
  refine hc_getR C fl_X7_26 rfl rfl dX7_ear_1 ?_
  refine hc_iload_n C dX7_ear_4 rfl rfl ?_
  refine hc_cV1i C mv_X7_141 (c_X3_hasEar C.ok) rfl rfl rfl (Nat.le_of_ble_eq_true rfl) (hc_rr_rm (by decide)) ⟨Nat.zero_le _, Nat.zero_le _⟩ dX7_ear_5 (fun r_5 M_5 h_5 => ?_)
  obtain ⟨rfl, rfl⟩ := h_5
  refine hc_if_ne C (tgt := 14) dX7_ear_8 (by decide) (fun c_8 => ?_) (fun c_8 => ?_)
  rotate_left
  · exact absurd (hx_ear hE hE6 he) (hb_z.mp c_8)
  refine hc_iload_n C dX7_ear_14 rfl rfl ?_
  refine hc_tableIn C (off := 74) (tgt := 89) dX7_ear_15 (by decide) (by decide) rfl (by decide) ?_
  refine hc_aload_n C dX7_ear_89 rfl rfl ?_
  refine hc_getR C fl_X7_26 rfl rfl dX7_ear_90 ?_
  refine hc_iload_n C dX7_ear_93 rfl rfl ?_
  refine hc_cV1i C mv_X7_176 (c_X3_listensNow C.ok hE hE6 (by omega)) rfl rfl rfl (Nat.le_of_ble_eq_true rfl) (hc_rr_rm (by decide)) ⟨Nat.zero_le _, Nat.zero_le _⟩ dX7_ear_94 (fun r_94 M_94 h_94 => ?_)
  obtain ⟨rfl, rfl⟩ := h_94
  refine hc_if_eq C (tgt := 104) dX7_ear_97 (by decide) (fun c_97 => ?_) (fun c_97 => ?_)
  · refine hc_iconst C dX7_ear_104 (v := 0) rfl ?_
    refine hc_iret C rfl dX7_ear_105 ?_
    refine ⟨?_, rfl⟩
    first | exact hb_f (hb_z.mp c_97) | exact hb_t (hb_nz.mp c_97)
  · refine hc_iconst C dX7_ear_100 (v := 1) rfl ?_
    refine hc_goto C (tgt := 105) dX7_ear_101 (by decide) ?_
    refine hc_iret C rfl dX7_ear_105 ?_
    refine ⟨?_, rfl⟩
    first | exact hb_f (hb_z.mp c_97) | exact hb_t (hb_nz.mp c_97)

set_option maxRecDepth 100000 in
set_option maxHeartbeats 4000000 in
theorem c_X7_ear_4 {l : Launch} {G : hc_Geo} (hG : hc_ok G) {M : hc_Mem} {E e0 : Nat}  (hE : M 9 5 = nI E) (hE6 : E ≤ 6) (he : e0 < E) : hc_M l G yX7_ear cX7_ear 3 (some .int) 6 [.ref (hc_ad G 0), .int (nI e0), .int 4] M (hc_pi (fun z M' => hGives M E e0 = z ∧ M = M')) := by
  refine hc_M.of hG (by decide) [some (.ref (hc_ad G 0)), some (.int (nI e0)), some (.int 4)] rfl (Nat.le_of_ble_eq_true rfl) ?_
  intro p e s m args below meth c C
  refine hc_aload_n C dX7_ear_0 rfl rfl ?_
  refine hc_getR C fl_X7_26 rfl rfl dX7_ear_1 ?_
  refine hc_iload_n C dX7_ear_4 rfl rfl ?_
  refine hc_cV1i C mv_X7_141 (c_X3_hasEar C.ok) rfl rfl rfl (Nat.le_of_ble_eq_true rfl) (hc_rr_rm (by decide)) ⟨Nat.zero_le _, Nat.zero_le _⟩ dX7_ear_5 (fun r_5 M_5 h_5 => ?_)
  obtain ⟨rfl, rfl⟩ := h_5
  refine hc_if_ne C (tgt := 14) dX7_ear_8 (by decide) (fun c_8 => ?_) (fun c_8 => ?_)
  rotate_left
  · exact absurd (hx_ear hE hE6 he) (hb_z.mp c_8)
  refine hc_iload_n C dX7_ear_14 rfl rfl ?_
  refine hc_tableIn C (off := 91) (tgt := 106) dX7_ear_15 (by decide) (by decide) rfl (by decide) ?_
  refine hc_aload_n C dX7_ear_106 rfl rfl ?_
  refine hc_getR C fl_X7_26 rfl rfl dX7_ear_107 ?_
  refine hc_iload_n C dX7_ear_110 rfl rfl ?_
  refine hc_cV1i C mv_X7_179 (c_X3_givesNow C.ok hE hE6 (by omega)) rfl rfl rfl (Nat.le_of_ble_eq_true rfl) (hc_rr_rm (by decide)) ⟨Nat.zero_le _, Nat.zero_le _⟩ dX7_ear_111 (fun r_111 M_111 h_111 => ?_)
  obtain ⟨rfl, rfl⟩ := h_111
  refine hc_iret C rfl dX7_ear_114 ?_
  exact ⟨rfl, rfl⟩

set_option maxRecDepth 100000 in
set_option maxHeartbeats 4000000 in
theorem c_X7_ear_5 {l : Launch} {G : hc_Geo} (hG : hc_ok G) {M : hc_Mem} {E e0 : Nat}  (hE : M 9 5 = nI E) (hE6 : E ≤ 6) (he : e0 < E) : hc_M l G yX7_ear cX7_ear 3 (some .int) 6 [.ref (hc_ad G 0), .int (nI e0), .int 5] M (hc_pi (fun z M' => M 15 e0 = z ∧ M = M')) := by
  refine hc_M.of hG (by decide) [some (.ref (hc_ad G 0)), some (.int (nI e0)), some (.int 5)] rfl (Nat.le_of_ble_eq_true rfl) ?_
  intro p e s m args below meth c C
  refine hc_aload_n C dX7_ear_0 rfl rfl ?_
  refine hc_getR C fl_X7_26 rfl rfl dX7_ear_1 ?_
  refine hc_iload_n C dX7_ear_4 rfl rfl ?_
  refine hc_cV1i C mv_X7_141 (c_X3_hasEar C.ok) rfl rfl rfl (Nat.le_of_ble_eq_true rfl) (hc_rr_rm (by decide)) ⟨Nat.zero_le _, Nat.zero_le _⟩ dX7_ear_5 (fun r_5 M_5 h_5 => ?_)
  obtain ⟨rfl, rfl⟩ := h_5
  refine hc_if_ne C (tgt := 14) dX7_ear_8 (by decide) (fun c_8 => ?_) (fun c_8 => ?_)
  rotate_left
  · exact absurd (hx_ear hE hE6 he) (hb_z.mp c_8)
  refine hc_iload_n C dX7_ear_14 rfl rfl ?_
  refine hc_tableIn C (off := 100) (tgt := 115) dX7_ear_15 (by decide) (by decide) rfl (by decide) ?_
  refine hc_aload_n C dX7_ear_115 rfl rfl ?_
  refine hc_getR C fl_X7_26 rfl rfl dX7_ear_116 ?_
  refine hc_getR C fl_X7_182 rfl rfl dX7_ear_119 ?_
  refine hc_iload_n C dX7_ear_122 rfl rfl ?_
  refine hc_ialdN C (j := e0) rfl rfl (by omega) dX7_ear_123 ?_
  refine hc_iret C rfl dX7_ear_124 ?_
  exact ⟨rfl, rfl⟩

set_option maxRecDepth 100000 in
set_option maxHeartbeats 4000000 in
theorem c_X7_ear_d {l : Launch} {G : hc_Geo} (hG : hc_ok G) {M : hc_Mem} {E e0 : Nat} {w : Int32}  (hE : M 9 5 = nI E) (hE6 : E ≤ 6) (he : e0 < E) (h0 : w.toInt < 0 ∨ 5 < w.toInt) : hc_M l G yX7_ear cX7_ear 3 (some .int) 6 [.ref (hc_ad G 0), .int (nI e0), .int w] M (hc_pi (fun z M' => -1000001 = z ∧ M = M')) := by
  refine hc_M.of hG (by decide) [some (.ref (hc_ad G 0)), some (.int (nI e0)), some (.int w)] rfl (Nat.le_of_ble_eq_true rfl) ?_
  intro p e s m args below meth c C
  refine hc_aload_n C dX7_ear_0 rfl rfl ?_
  refine hc_getR C fl_X7_26 rfl rfl dX7_ear_1 ?_
  refine hc_iload_n C dX7_ear_4 rfl rfl ?_
  refine hc_cV1i C mv_X7_141 (c_X3_hasEar C.ok) rfl rfl rfl (Nat.le_of_ble_eq_true rfl) (hc_rr_rm (by decide)) ⟨Nat.zero_le _, Nat.zero_le _⟩ dX7_ear_5 (fun r_5 M_5 h_5 => ?_)
  obtain ⟨rfl, rfl⟩ := h_5
  refine hc_if_ne C (tgt := 14) dX7_ear_8 (by decide) (fun c_8 => ?_) (fun c_8 => ?_)
  rotate_left
  · exact absurd (hx_ear hE hE6 he) (hb_z.mp c_8)
  refine hc_iload_n C dX7_ear_14 rfl rfl ?_
  refine hc_tableOut C (tgt := 125) dX7_ear_15 h0 (by decide) ?_
  refine hc_ldc C kc_X7_64 dX7_ear_125 ?_
  refine hc_iret C rfl dX7_ear_127 ?_
  exact ⟨rfl, rfl⟩

set_option maxRecDepth 100000 in
set_option maxHeartbeats 4000000 in
theorem c_X7_clock_0 {l : Launch} {G : hc_Geo} (hG : hc_ok G) {M : hc_Mem}  (h1 : ¬ M 9 0 = 0) : hc_M l G yX7_clock cX7_clock 2 (some .int) 4 [.ref (hc_ad G 0), .int 0] M (hc_pi (fun z M' => M 9 3 = z ∧ M = M')) := by
  refine hc_M.of hG (by decide) [some (.ref (hc_ad G 0)), some (.int 0)] rfl (Nat.le_of_ble_eq_true rfl) ?_
  intro p e s m args below meth c C
  refine hc_aload_n C dX7_clock_0 rfl rfl ?_
  refine hc_getR C fl_X7_26 rfl rfl dX7_clock_1 ?_
  refine hc_getI C fl_X7_123 rfl rfl dX7_clock_4 ?_
  refine hc_if_ne C (tgt := 13) dX7_clock_7 (by decide) (fun c_7 => ?_) (fun c_7 => ?_)
  rotate_left
  · exact absurd c_7 h1
  refine hc_iload_n C dX7_clock_13 rfl rfl ?_
  refine hc_tableIn C (off := 30) (tgt := 44) dX7_clock_14 (by decide) (by decide) rfl (by decide) ?_
  refine hc_aload_n C dX7_clock_44 rfl rfl ?_
  refine hc_getR C fl_X7_26 rfl rfl dX7_clock_45 ?_
  refine hc_getI C fl_X7_138 rfl rfl dX7_clock_48 ?_
  refine hc_iret C rfl dX7_clock_51 ?_
  exact ⟨rfl, rfl⟩

set_option maxRecDepth 100000 in
set_option maxHeartbeats 4000000 in
theorem c_X7_clock_1 {l : Launch} {G : hc_Geo} (hG : hc_ok G) {M : hc_Mem}  (h1 : ¬ M 9 0 = 0) : hc_M l G yX7_clock cX7_clock 2 (some .int) 4 [.ref (hc_ad G 0), .int 1] M (hc_pi (fun z M' => M 9 3 / 12 = z ∧ M = M')) := by
  refine hc_M.of hG (by decide) [some (.ref (hc_ad G 0)), some (.int 1)] rfl (Nat.le_of_ble_eq_true rfl) ?_
  intro p e s m args below meth c C
  refine hc_aload_n C dX7_clock_0 rfl rfl ?_
  refine hc_getR C fl_X7_26 rfl rfl dX7_clock_1 ?_
  refine hc_getI C fl_X7_123 rfl rfl dX7_clock_4 ?_
  refine hc_if_ne C (tgt := 13) dX7_clock_7 (by decide) (fun c_7 => ?_) (fun c_7 => ?_)
  rotate_left
  · exact absurd c_7 h1
  refine hc_iload_n C dX7_clock_13 rfl rfl ?_
  refine hc_tableIn C (off := 38) (tgt := 52) dX7_clock_14 (by decide) (by decide) rfl (by decide) ?_
  refine hc_aload_n C dX7_clock_52 rfl rfl ?_
  refine hc_getR C fl_X7_26 rfl rfl dX7_clock_53 ?_
  refine hc_getI C fl_X7_138 rfl rfl dX7_clock_56 ?_
  refine hc_bipush C dX7_clock_59 (v := 12) rfl ?_
  refine hc_idiv C dX7_clock_61 (by decide) ?_
  refine hc_iret C rfl dX7_clock_62 ?_
  exact ⟨rfl, rfl⟩

set_option maxRecDepth 100000 in
set_option maxHeartbeats 4000000 in
theorem c_X7_clock_2 {l : Launch} {G : hc_Geo} (hG : hc_ok G) {M : hc_Mem} {E : Nat}  (h1 : ¬ M 9 0 = 0) (hE : M 9 5 = nI E) (hE6 : E ≤ 6) : hc_M l G yX7_clock cX7_clock 2 (some .int) 4 [.ref (hc_ad G 0), .int 2] M (hc_pi (fun z M' => hPar M E (hAtt M E) (M 9 2) = z ∧ M = M')) := by
  refine hc_M.of hG (by decide) [some (.ref (hc_ad G 0)), some (.int 2)] rfl (Nat.le_of_ble_eq_true rfl) ?_
  intro p e s m args below meth c C
  refine hc_aload_n C dX7_clock_0 rfl rfl ?_
  refine hc_getR C fl_X7_26 rfl rfl dX7_clock_1 ?_
  refine hc_getI C fl_X7_123 rfl rfl dX7_clock_4 ?_
  refine hc_if_ne C (tgt := 13) dX7_clock_7 (by decide) (fun c_7 => ?_) (fun c_7 => ?_)
  rotate_left
  · exact absurd c_7 h1
  refine hc_iload_n C dX7_clock_13 rfl rfl ?_
  refine hc_tableIn C (off := 49) (tgt := 63) dX7_clock_14 (by decide) (by decide) rfl (by decide) ?_
  refine hc_aload_n C dX7_clock_63 rfl rfl ?_
  refine hc_getR C fl_X7_26 rfl rfl dX7_clock_64 ?_
  refine hc_aload_n C dX7_clock_67 rfl rfl ?_
  refine hc_getR C fl_X7_26 rfl rfl dX7_clock_68 ?_
  refine hc_cV0i C mv_X7_185 (c_X3_attending C.ok hE hE6) rfl rfl rfl (Nat.le_of_ble_eq_true rfl) (hc_rr_rm (by decide)) ⟨Nat.zero_le _, Nat.zero_le _⟩ dX7_clock_71 (fun r_71 M_71 h_71 => ?_)
  obtain ⟨rfl, rfl⟩ := h_71
  refine hc_aload_n C dX7_clock_74 rfl rfl ?_
  refine hc_getR C fl_X7_26 rfl rfl dX7_clock_75 ?_
  refine hc_getI C fl_X7_128 rfl rfl dX7_clock_78 ?_
  refine hc_cV2i C mv_X7_188 (c_X3_partsOf C.ok hE hE6) rfl rfl rfl (Nat.le_of_ble_eq_true rfl) (hc_rr_rm (by decide)) ⟨Nat.zero_le _, Nat.zero_le _⟩ dX7_clock_81 (fun r_81 M_81 h_81 => ?_)
  obtain ⟨rfl, rfl⟩ := h_81
  refine hc_iret C rfl dX7_clock_84 ?_
  exact ⟨rfl, rfl⟩

set_option maxRecDepth 100000 in
set_option maxHeartbeats 4000000 in
theorem c_X7_clock_3 {l : Launch} {G : hc_Geo} (hG : hc_ok G) {M : hc_Mem}  (h1 : ¬ M 9 0 = 0) : hc_M l G yX7_clock cX7_clock 2 (some .int) 4 [.ref (hc_ad G 0), .int 3] M (hc_pi (fun z M' => M 9 1 = z ∧ M = M')) := by
  refine hc_M.of hG (by decide) [some (.ref (hc_ad G 0)), some (.int 3)] rfl (Nat.le_of_ble_eq_true rfl) ?_
  intro p e s m args below meth c C
  refine hc_aload_n C dX7_clock_0 rfl rfl ?_
  refine hc_getR C fl_X7_26 rfl rfl dX7_clock_1 ?_
  refine hc_getI C fl_X7_123 rfl rfl dX7_clock_4 ?_
  refine hc_if_ne C (tgt := 13) dX7_clock_7 (by decide) (fun c_7 => ?_) (fun c_7 => ?_)
  rotate_left
  · exact absurd c_7 h1
  refine hc_iload_n C dX7_clock_13 rfl rfl ?_
  refine hc_tableIn C (off := 71) (tgt := 85) dX7_clock_14 (by decide) (by decide) rfl (by decide) ?_
  refine hc_aload_n C dX7_clock_85 rfl rfl ?_
  refine hc_getR C fl_X7_26 rfl rfl dX7_clock_86 ?_
  refine hc_getI C fl_X7_163 rfl rfl dX7_clock_89 ?_
  refine hc_iret C rfl dX7_clock_92 ?_
  exact ⟨rfl, rfl⟩

set_option maxRecDepth 100000 in
set_option maxHeartbeats 4000000 in
theorem c_X7_clock_d {l : Launch} {G : hc_Geo} (hG : hc_ok G) {M : hc_Mem} {w : Int32}  (h1 : ¬ M 9 0 = 0) (h0 : w.toInt < 0 ∨ 3 < w.toInt) : hc_M l G yX7_clock cX7_clock 2 (some .int) 4 [.ref (hc_ad G 0), .int w] M (hc_pi (fun z M' => -1000001 = z ∧ M = M')) := by
  refine hc_M.of hG (by decide) [some (.ref (hc_ad G 0)), some (.int w)] rfl (Nat.le_of_ble_eq_true rfl) ?_
  intro p e s m args below meth c C
  refine hc_aload_n C dX7_clock_0 rfl rfl ?_
  refine hc_getR C fl_X7_26 rfl rfl dX7_clock_1 ?_
  refine hc_getI C fl_X7_123 rfl rfl dX7_clock_4 ?_
  refine hc_if_ne C (tgt := 13) dX7_clock_7 (by decide) (fun c_7 => ?_) (fun c_7 => ?_)
  rotate_left
  · exact absurd c_7 h1
  refine hc_iload_n C dX7_clock_13 rfl rfl ?_
  refine hc_tableOut C (tgt := 93) dX7_clock_14 h0 (by decide) ?_
  refine hc_ldc C kc_X7_64 dX7_clock_93 ?_
  refine hc_iret C rfl dX7_clock_95 ?_
  exact ⟨rfl, rfl⟩

set_option maxRecDepth 100000 in
set_option maxHeartbeats 4000000 in
theorem c_X7_ahead_b {l : Launch} {G : hc_Geo} (hG : hc_ok G) {M : hc_Mem} {v : Int32}  (h1 : ¬ M 9 0 = 0) (h0 : ¬ (¬ v < 0 ∧ ¬ 99 < v)) : hc_M l G yX7_ahead cX7_ahead 2 (some .int) 4 [.ref (hc_ad G 0), .int v] M (hc_pi (fun z M' => -1000001 = z ∧ M = M')) := by
  refine hc_M.of hG (by decide) [some (.ref (hc_ad G 0)), some (.int v)] rfl (Nat.le_of_ble_eq_true rfl) ?_
  intro p e s m args below meth c C
  refine hc_aload_n C dX7_ahead_0 rfl rfl ?_
  refine hc_getR C fl_X7_26 rfl rfl dX7_ahead_1 ?_
  refine hc_getI C fl_X7_123 rfl rfl dX7_ahead_4 ?_
  refine hc_if_ne C (tgt := 13) dX7_ahead_7 (by decide) (fun c_7 => ?_) (fun c_7 => ?_)
  rotate_left
  · exact absurd c_7 h1
  refine hc_iload_n C dX7_ahead_13 rfl rfl ?_
  refine hc_iconst C dX7_ahead_14 (v := 0) rfl ?_
  refine hc_bipush C dX7_ahead_15 (v := 99) rfl ?_
  refine hc_cS3i C ms_X7_97 (c_X7_isWithin C.ok) (Nat.le_of_ble_eq_true rfl) (hc_rr_rm (by decide)) ⟨Nat.zero_le _, Nat.zero_le _⟩ dX7_ahead_17 (fun r_17 M_17 h_17 => ?_)
  obtain ⟨rfl, rfl⟩ := h_17
  refine hc_if_ne C (tgt := 26) dX7_ahead_20 (by decide) (fun c_20 => ?_) (fun c_20 => ?_)
  · exact absurd (hb_f h0) c_20
  refine hc_ldc C kc_X7_64 dX7_ahead_23 ?_
  refine hc_iret C rfl dX7_ahead_25 ?_
  exact ⟨rfl, rfl⟩

set_option maxRecDepth 100000 in
set_option maxHeartbeats 4000000 in
theorem c_X7_ahead_o {l : Launch} {G : hc_Geo} (hG : hc_ok G) {M : hc_Mem} {E N : Nat}  (h1 : ¬ M 9 0 = 0) (hE : M 9 5 = nI E) (hE6 : E ≤ 6) (h0 : ¬ nI N < 0 ∧ ¬ 99 < nI N) (hN : N ≤ 99) : hc_M l G yX7_ahead cX7_ahead 2 (some .int) 4 [.ref (hc_ad G 0), .int (nI N)] M (hc_pi (fun z M' => hAfter M E (hAtt M E) N = z ∧ M = M')) := by
  refine hc_M.of hG (by decide) [some (.ref (hc_ad G 0)), some (.int (nI N))] rfl (Nat.le_of_ble_eq_true rfl) ?_
  intro p e s m args below meth c C
  refine hc_aload_n C dX7_ahead_0 rfl rfl ?_
  refine hc_getR C fl_X7_26 rfl rfl dX7_ahead_1 ?_
  refine hc_getI C fl_X7_123 rfl rfl dX7_ahead_4 ?_
  refine hc_if_ne C (tgt := 13) dX7_ahead_7 (by decide) (fun c_7 => ?_) (fun c_7 => ?_)
  rotate_left
  · exact absurd c_7 h1
  refine hc_iload_n C dX7_ahead_13 rfl rfl ?_
  refine hc_iconst C dX7_ahead_14 (v := 0) rfl ?_
  refine hc_bipush C dX7_ahead_15 (v := 99) rfl ?_
  refine hc_cS3i C ms_X7_97 (c_X7_isWithin C.ok) (Nat.le_of_ble_eq_true rfl) (hc_rr_rm (by decide)) ⟨Nat.zero_le _, Nat.zero_le _⟩ dX7_ahead_17 (fun r_17 M_17 h_17 => ?_)
  obtain ⟨rfl, rfl⟩ := h_17
  refine hc_if_ne C (tgt := 26) dX7_ahead_20 (by decide) (fun c_20 => ?_) (fun c_20 => ?_)
  rotate_left
  · exact absurd h0 (hb_z.mp c_20)
  refine hc_aload_n C dX7_ahead_26 rfl rfl ?_
  refine hc_getR C fl_X7_26 rfl rfl dX7_ahead_27 ?_
  refine hc_aload_n C dX7_ahead_30 rfl rfl ?_
  refine hc_getR C fl_X7_26 rfl rfl dX7_ahead_31 ?_
  refine hc_cV0i C mv_X7_185 (c_X3_attending C.ok hE hE6) rfl rfl rfl (Nat.le_of_ble_eq_true rfl) (hc_rr_rm (by decide)) ⟨Nat.zero_le _, Nat.zero_le _⟩ dX7_ahead_34 (fun r_34 M_34 h_34 => ?_)
  obtain ⟨rfl, rfl⟩ := h_34
  refine hc_iload_n C dX7_ahead_37 rfl rfl ?_
  refine hc_cS3i C ms_X7_192 (c_X2_partsAfter C.ok hN hE hE6) (Nat.le_of_ble_eq_true rfl) (hc_rr_rm (by decide)) ⟨Nat.zero_le _, Nat.zero_le _⟩ dX7_ahead_38 (fun r_38 M_38 h_38 => ?_)
  obtain ⟨rfl, rfl⟩ := h_38
  refine hc_iret C rfl dX7_ahead_41 ?_
  exact ⟨rfl, rfl⟩

set_option maxRecDepth 100000 in
set_option maxHeartbeats 4000000 in
theorem c_X7_whenShows_b {l : Launch} {G : hc_Geo} (hG : hc_ok G) {M : hc_Mem} {v : Int32}  (h1 : ¬ M 9 0 = 0) (h0 : ¬ (¬ v < 0 ∧ ¬ 999 < v)) : hc_M l G yX7_whenShows cX7_whenShows 2 (some .int) 5 [.ref (hc_ad G 0), .int v] M (hc_pi (fun z M' => -1000001 = z ∧ M = M')) := by
  refine hc_M.of hG (by decide) [some (.ref (hc_ad G 0)), some (.int v)] rfl (Nat.le_of_ble_eq_true rfl) ?_
  intro p e s m args below meth c C
  refine hc_aload_n C dX7_whenShows_0 rfl rfl ?_
  refine hc_getR C fl_X7_26 rfl rfl dX7_whenShows_1 ?_
  refine hc_getI C fl_X7_123 rfl rfl dX7_whenShows_4 ?_
  refine hc_if_ne C (tgt := 13) dX7_whenShows_7 (by decide) (fun c_7 => ?_) (fun c_7 => ?_)
  rotate_left
  · exact absurd c_7 h1
  refine hc_iload_n C dX7_whenShows_13 rfl rfl ?_
  refine hc_iconst C dX7_whenShows_14 (v := 0) rfl ?_
  refine hc_sipush C dX7_whenShows_15 (v := 999) rfl ?_
  refine hc_cS3i C ms_X7_97 (c_X7_isWithin C.ok) (Nat.le_of_ble_eq_true rfl) (hc_rr_rm (by decide)) ⟨Nat.zero_le _, Nat.zero_le _⟩ dX7_whenShows_18 (fun r_18 M_18 h_18 => ?_)
  obtain ⟨rfl, rfl⟩ := h_18
  refine hc_if_ne C (tgt := 27) dX7_whenShows_21 (by decide) (fun c_21 => ?_) (fun c_21 => ?_)
  · exact absurd (hb_f h0) c_21
  refine hc_ldc C kc_X7_64 dX7_whenShows_24 ?_
  refine hc_iret C rfl dX7_whenShows_26 ?_
  exact ⟨rfl, rfl⟩

set_option maxRecDepth 100000 in
set_option maxHeartbeats 4000000 in
theorem c_X7_whenShows_o {l : Launch} {G : hc_Geo} (hG : hc_ok G) {M : hc_Mem} {E : Nat} {v : Int32}  (h1 : ¬ M 9 0 = 0) (hE : M 9 5 = nI E) (hE6 : E ≤ 6) (h0 : ¬ v < 0 ∧ ¬ 999 < v) : hc_M l G yX7_whenShows cX7_whenShows 2 (some .int) 5 [.ref (hc_ad G 0), .int v] M (hc_pi (fun z M' => hQts M E (hAtt M E) v 100 0 (M 9 3) = z ∧ M = M')) := by
  refine hc_M.of hG (by decide) [some (.ref (hc_ad G 0)), some (.int v)] rfl (Nat.le_of_ble_eq_true rfl) ?_
  intro p e s m args below meth c C
  refine hc_aload_n C dX7_whenShows_0 rfl rfl ?_
  refine hc_getR C fl_X7_26 rfl rfl dX7_whenShows_1 ?_
  refine hc_getI C fl_X7_123 rfl rfl dX7_whenShows_4 ?_
  refine hc_if_ne C (tgt := 13) dX7_whenShows_7 (by decide) (fun c_7 => ?_) (fun c_7 => ?_)
  rotate_left
  · exact absurd c_7 h1
  refine hc_iload_n C dX7_whenShows_13 rfl rfl ?_
  refine hc_iconst C dX7_whenShows_14 (v := 0) rfl ?_
  refine hc_sipush C dX7_whenShows_15 (v := 999) rfl ?_
  refine hc_cS3i C ms_X7_97 (c_X7_isWithin C.ok) (Nat.le_of_ble_eq_true rfl) (hc_rr_rm (by decide)) ⟨Nat.zero_le _, Nat.zero_le _⟩ dX7_whenShows_18 (fun r_18 M_18 h_18 => ?_)
  obtain ⟨rfl, rfl⟩ := h_18
  refine hc_if_ne C (tgt := 27) dX7_whenShows_21 (by decide) (fun c_21 => ?_) (fun c_21 => ?_)
  rotate_left
  · exact absurd h0 (hb_z.mp c_21)
  refine hc_aload_n C dX7_whenShows_27 rfl rfl ?_
  refine hc_getR C fl_X7_26 rfl rfl dX7_whenShows_28 ?_
  refine hc_iload_n C dX7_whenShows_31 rfl rfl ?_
  refine hc_cS2i C ms_X7_198 (c_X2_quartersTillShown C.ok hE hE6) (Nat.le_of_ble_eq_true rfl) (hc_rr_rm (by decide)) ⟨Nat.zero_le _, Nat.zero_le _⟩ dX7_whenShows_32 (fun r_32 M_32 h_32 => ?_)
  obtain ⟨rfl, rfl⟩ := h_32
  refine hc_iret C rfl dX7_whenShows_35 ?_
  exact ⟨rfl, rfl⟩

set_option maxRecDepth 100000 in
set_option maxHeartbeats 4000000 in
theorem c_X7_done_o {l : Launch} {G : hc_Geo} (hG : hc_ok G) {M : hc_Mem} {E q D x b0 : Nat}  (hD : M 9 6 = nI D) (hD4 : D ≤ 4) (hx : x < D) (hb0 : M 16 x = nI b0) (hb9 : b0 ≤ 99) (hE : M 9 5 = nI E) (hE6 : E ≤ 6) (hq : M 9 2 = nI q) (hq9 : q ≤ 999) : hc_M l G yX7_done cX7_done 2 (some .int) 5 [.ref (hc_ad G 0), .int (nI x)] M (hc_pi (fun z M' => hDone M E q x b0 = z ∧ M = M')) := by
  refine hc_M.of hG (by decide) [some (.ref (hc_ad G 0)), some (.int (nI x))] rfl (Nat.le_of_ble_eq_true rfl) ?_
  intro p e s m args below meth c C
  refine hc_aload_n C dX7_done_0 rfl rfl ?_
  refine hc_getR C fl_X7_26 rfl rfl dX7_done_1 ?_
  refine hc_iload_n C dX7_done_4 rfl rfl ?_
  refine hc_cV1i C mv_X7_202 (c_X3_hasDoing C.ok) rfl rfl rfl (Nat.le_of_ble_eq_true rfl) (hc_rr_rm (by decide)) ⟨Nat.zero_le _, Nat.zero_le _⟩ dX7_done_5 (fun r_5 M_5 h_5 => ?_)
  obtain ⟨rfl, rfl⟩ := h_5
  refine hc_if_ne C (tgt := 14) dX7_done_8 (by decide) (fun c_8 => ?_) (fun c_8 => ?_)
  rotate_left
  · exact absurd (show _ ∧ _ from ⟨nI_pos (by omega), by rw [hD]; exact nI_ge hx (by omega)⟩) (hb_z.mp c_8)
  refine hc_aload_n C dX7_done_14 rfl rfl ?_
  refine hc_getR C fl_X7_26 rfl rfl dX7_done_15 ?_
  refine hc_iload_n C dX7_done_18 rfl rfl ?_
  refine hc_cS2i C ms_X7_205 (c_X2_doneOn C.ok (by omega) hb0 hb9 hE hE6 hq hq9) (Nat.le_of_ble_eq_true rfl) (hc_rr_rm (by decide)) ⟨Nat.zero_le _, Nat.zero_le _⟩ dX7_done_19 (fun r_19 M_19 h_19 => ?_)
  obtain ⟨rfl, rfl⟩ := h_19
  refine hc_iret C rfl dX7_done_22 ?_
  exact ⟨rfl, rfl⟩

set_option maxRecDepth 100000 in
set_option maxHeartbeats 4000000 in
theorem c_X7_late_o {l : Launch} {G : hc_Geo} (hG : hc_ok G) {M : hc_Mem} {E q D : Nat} {bg : Nat → Nat}  (h1 : ¬ M 9 0 = 0) (hE : M 9 5 = nI E) (hE6 : E ≤ 6) (hq : M 9 2 = nI q) (hq9 : q ≤ 999) (hD : M 9 6 = nI D) (hD4 : D ≤ 4) (hbg : ∀ x, x < D → M 16 x = nI (bg x) ∧ bg x ≤ 99) : hc_M l G yX7_late cX7_late 1 (some .int) 6 [.ref (hc_ad G 0)] M (hc_pi (fun z M' => hLateM M E q bg D = z ∧ M = M')) := by
  refine hc_M.of hG (by decide) [some (.ref (hc_ad G 0))] rfl (Nat.le_of_ble_eq_true rfl) ?_
  intro p e s m args below meth c C
  refine hc_aload_n C dX7_late_0 rfl rfl ?_
  refine hc_getR C fl_X7_26 rfl rfl dX7_late_1 ?_
  refine hc_getI C fl_X7_123 rfl rfl dX7_late_4 ?_
  refine hc_if_ne C (tgt := 13) dX7_late_7 (by decide) (fun c_7 => ?_) (fun c_7 => ?_)
  rotate_left
  · exact absurd c_7 h1
  refine hc_aload_n C dX7_late_13 rfl rfl ?_
  refine hc_getR C fl_X7_26 rfl rfl dX7_late_14 ?_
  refine hc_cS1i C ms_X7_208 (c_X2_lateDoings C.ok hE hE6 hq hq9 hD hD4 hbg) (Nat.le_of_ble_eq_true rfl) (hc_rr_rm (by decide)) ⟨Nat.zero_le _, Nat.zero_le _⟩ dX7_late_17 (fun r_17 M_17 h_17 => ?_)
  obtain ⟨rfl, rfl⟩ := h_17
  refine hc_iret C rfl dX7_late_20 ?_
  exact ⟨rfl, rfl⟩

set_option maxRecDepth 100000 in
set_option maxHeartbeats 4000000 in
theorem c_X7_latest_o {l : Launch} {G : hc_Geo} (hG : hc_ok G) {M : hc_Mem} {E q D x u : Nat}  (hD : M 9 6 = nI D) (hD4 : D ≤ 4) (hx : x < D) (hu : M 18 x = nI u) (hu9 : u ≤ 99) (hE : M 9 5 = nI E) (hE6 : E ≤ 6) (hq : M 9 2 = nI q) (hq9 : q ≤ 999) : hc_M l G yX7_latest cX7_latest 2 (some .int) 5 [.ref (hc_ad G 0), .int (nI x)] M (hc_pi (fun z M' => hLat M E (hAtt M E) (12 * M 17 x) q u 0 = z ∧ M = M')) := by
  refine hc_M.of hG (by decide) [some (.ref (hc_ad G 0)), some (.int (nI x))] rfl (Nat.le_of_ble_eq_true rfl) ?_
  intro p e s m args below meth c C
  refine hc_aload_n C dX7_latest_0 rfl rfl ?_
  refine hc_getR C fl_X7_26 rfl rfl dX7_latest_1 ?_
  refine hc_iload_n C dX7_latest_4 rfl rfl ?_
  refine hc_cV1i C mv_X7_202 (c_X3_hasDoing C.ok) rfl rfl rfl (Nat.le_of_ble_eq_true rfl) (hc_rr_rm (by decide)) ⟨Nat.zero_le _, Nat.zero_le _⟩ dX7_latest_5 (fun r_5 M_5 h_5 => ?_)
  obtain ⟨rfl, rfl⟩ := h_5
  refine hc_if_ne C (tgt := 14) dX7_latest_8 (by decide) (fun c_8 => ?_) (fun c_8 => ?_)
  rotate_left
  · exact absurd (show _ ∧ _ from ⟨nI_pos (by omega), by rw [hD]; exact nI_ge hx (by omega)⟩) (hb_z.mp c_8)
  refine hc_aload_n C dX7_latest_14 rfl rfl ?_
  refine hc_getR C fl_X7_26 rfl rfl dX7_latest_15 ?_
  refine hc_iload_n C dX7_latest_18 rfl rfl ?_
  refine hc_cS2i C ms_X7_212 (c_X2_latestBegin C.ok (by omega) hu hu9 hE hE6 hq hq9) (Nat.le_of_ble_eq_true rfl) (hc_rr_rm (by decide)) ⟨Nat.zero_le _, Nat.zero_le _⟩ dX7_latest_19 (fun r_19 M_19 h_19 => ?_)
  obtain ⟨rfl, rfl⟩ := h_19
  refine hc_iret C rfl dX7_latest_22 ?_
  exact ⟨rfl, rfl⟩

set_option maxRecDepth 100000 in
set_option maxHeartbeats 4000000 in
theorem c_X7_isGoal {l : Launch} {G : hc_Geo} (hG : hc_ok G) {M : hc_Mem} {v n w : Int32}  : hc_M l G yX7_isGoal cX7_isGoal 3 (some .boolean) 2 [.int v, .int n, .int w] M (hc_pi (fun z M' => hb ((¬ v < 0 ∧ ¬ 999 < v) ∧ (¬ n < 0 ∧ ¬ 99 < n) ∧ (¬ w < 0 ∧ ¬ 1 < w)) = z ∧ M = M')) := by
  refine hc_M.of hG (by decide) [some (.int v), some (.int n), some (.int w)] rfl (Nat.le_of_ble_eq_true rfl) ?_
  intro p e s m args below meth c C
  refine hc_iload_n C dX7_isGoal_0 rfl rfl ?_
  refine hc_iconst C dX7_isGoal_1 (v := 0) rfl ?_
  refine hc_sipush C dX7_isGoal_2 (v := 999) rfl ?_
  refine hc_cS3i C ms_X7_97 (c_X7_isWithin C.ok) (Nat.le_of_ble_eq_true rfl) (hc_rr_rm (by decide)) ⟨Nat.zero_le _, Nat.zero_le _⟩ dX7_isGoal_5 (fun r_5 M_5 h_5 => ?_)
  obtain ⟨rfl, rfl⟩ := h_5
  refine hc_if_eq C (tgt := 34) dX7_isGoal_8 (by decide) (fun c_8 => ?_) (fun c_8 => ?_)
  · refine hc_iconst C dX7_isGoal_34 (v := 0) rfl ?_
    refine hc_zret C rfl rfl dX7_isGoal_35 ?_
    refine ⟨?_, rfl⟩
    first | exact hb_t ⟨hb_nz.mp c_8, hb_nz.mp c_18, hb_nz.mp c_27⟩ | exact hb_f (fun z => hb_z.mp c_8 z.1) | exact hb_f (fun z => hb_z.mp c_18 z.2.1) | exact hb_f (fun z => hb_z.mp c_27 z.2.2)
  · refine hc_iload_n C dX7_isGoal_11 rfl rfl ?_
    refine hc_iconst C dX7_isGoal_12 (v := 0) rfl ?_
    refine hc_bipush C dX7_isGoal_13 (v := 99) rfl ?_
    refine hc_cS3i C ms_X7_97 (c_X7_isWithin C.ok) (Nat.le_of_ble_eq_true rfl) (hc_rr_rm (by decide)) ⟨Nat.zero_le _, Nat.zero_le _⟩ dX7_isGoal_15 (fun r_15 M_15 h_15 => ?_)
    obtain ⟨rfl, rfl⟩ := h_15
    refine hc_if_eq C (tgt := 34) dX7_isGoal_18 (by decide) (fun c_18 => ?_) (fun c_18 => ?_)
    · refine hc_iconst C dX7_isGoal_34 (v := 0) rfl ?_
      refine hc_zret C rfl rfl dX7_isGoal_35 ?_
      refine ⟨?_, rfl⟩
      first | exact hb_t ⟨hb_nz.mp c_8, hb_nz.mp c_18, hb_nz.mp c_27⟩ | exact hb_f (fun z => hb_z.mp c_8 z.1) | exact hb_f (fun z => hb_z.mp c_18 z.2.1) | exact hb_f (fun z => hb_z.mp c_27 z.2.2)
    · refine hc_iload_n C dX7_isGoal_21 rfl rfl ?_
      refine hc_iconst C dX7_isGoal_22 (v := 0) rfl ?_
      refine hc_iconst C dX7_isGoal_23 (v := 1) rfl ?_
      refine hc_cS3i C ms_X7_97 (c_X7_isWithin C.ok) (Nat.le_of_ble_eq_true rfl) (hc_rr_rm (by decide)) ⟨Nat.zero_le _, Nat.zero_le _⟩ dX7_isGoal_24 (fun r_24 M_24 h_24 => ?_)
      obtain ⟨rfl, rfl⟩ := h_24
      refine hc_if_eq C (tgt := 34) dX7_isGoal_27 (by decide) (fun c_27 => ?_) (fun c_27 => ?_)
      · refine hc_iconst C dX7_isGoal_34 (v := 0) rfl ?_
        refine hc_zret C rfl rfl dX7_isGoal_35 ?_
        refine ⟨?_, rfl⟩
        first | exact hb_t ⟨hb_nz.mp c_8, hb_nz.mp c_18, hb_nz.mp c_27⟩ | exact hb_f (fun z => hb_z.mp c_8 z.1) | exact hb_f (fun z => hb_z.mp c_18 z.2.1) | exact hb_f (fun z => hb_z.mp c_27 z.2.2)
      · refine hc_iconst C dX7_isGoal_30 (v := 1) rfl ?_
        refine hc_goto C (tgt := 35) dX7_isGoal_31 (by decide) ?_
        refine hc_zret C rfl rfl dX7_isGoal_35 ?_
        refine ⟨?_, rfl⟩
        first | exact hb_t ⟨hb_nz.mp c_8, hb_nz.mp c_18, hb_nz.mp c_27⟩ | exact hb_f (fun z => hb_z.mp c_8 z.1) | exact hb_f (fun z => hb_z.mp c_18 z.2.1) | exact hb_f (fun z => hb_z.mp c_27 z.2.2)

set_option maxRecDepth 100000 in
set_option maxHeartbeats 4000000 in
theorem c_X7_manyOrWhich {l : Launch} {G : hc_Geo} (hG : hc_ok G) {M : hc_Mem} {x w : Int32}  : hc_M l G yX7_manyOrWhich cX7_manyOrWhich 2 (some .int) 2 [.int x, .int w] M (hc_pi (fun z M' => hMow x w = z ∧ M = M')) := by
  refine hc_M.of hG (by decide) [some (.int x), some (.int w)] rfl (Nat.le_of_ble_eq_true rfl) ?_
  intro p e s m args below meth c C
  refine hc_iload_n C dX7_manyOrWhich_0 rfl rfl ?_
  refine hc_ldc C kc_X7_108 dX7_manyOrWhich_1 ?_
  refine hc_icmp_ne C (tgt := 9) dX7_manyOrWhich_3 (by decide) (fun c_3 => ?_) (fun c_3 => ?_)
  · refine hc_iload_n C dX7_manyOrWhich_9 rfl rfl ?_
    refine hc_if_ne C (tgt := 20) dX7_manyOrWhich_10 (by decide) (fun c_10 => ?_) (fun c_10 => ?_)
    · refine hc_iload_n C dX7_manyOrWhich_20 rfl rfl ?_
      refine hc_iret C rfl dX7_manyOrWhich_21 ?_
      refine ⟨?_, rfl⟩
      unfold hMow
      first | exact if_pos c_3 | exact (if_neg c_3).trans (if_pos c_10) | exact (if_neg c_3).trans (if_neg c_10)
    · refine hc_iload_n C dX7_manyOrWhich_13 rfl rfl ?_
      refine hc_cS1i C ms_X7_158 (c_J6_bitCount_0f7a4 C.ok) (Nat.le_of_ble_eq_true rfl) (hc_rr_rm (by decide)) ⟨Nat.zero_le _, Nat.zero_le _⟩ dX7_manyOrWhich_14 (fun r_14 M_14 h_14 => ?_)
      obtain ⟨rfl, rfl⟩ := h_14
      refine hc_goto C (tgt := 21) dX7_manyOrWhich_17 (by decide) ?_
      refine hc_iret C rfl dX7_manyOrWhich_21 ?_
      refine ⟨?_, rfl⟩
      unfold hMow
      first | exact if_pos c_3 | exact (if_neg c_3).trans (if_pos c_10) | exact (if_neg c_3).trans (if_neg c_10)
  · refine hc_ldc C kc_X7_108 dX7_manyOrWhich_6 ?_
    refine hc_iret C rfl dX7_manyOrWhich_8 ?_
    refine ⟨?_, rfl⟩
    unfold hMow
    first | exact if_pos c_3 | exact (if_neg c_3).trans (if_pos c_10) | exact (if_neg c_3).trans (if_neg c_10)

set_option maxRecDepth 100000 in
set_option maxHeartbeats 4000000 in
theorem c_X7_toHush_b {l : Launch} {G : hc_Geo} (hG : hc_ok G) {M : hc_Mem} {v n w : Int32}  (h1 : ¬ M 9 0 = 0) (h0 : ¬ ((¬ v < 0 ∧ ¬ 999 < v) ∧ (¬ n < 0 ∧ ¬ 99 < n) ∧ (¬ w < 0 ∧ ¬ 1 < w))) : hc_M l G yX7_toHush cX7_toHush 4 (some .int) 6 [.ref (hc_ad G 0), .int v, .int n, .int w] M (hc_pi (fun z M' => -1000001 = z ∧ M = M')) := by
  refine hc_M.of hG (by decide) [some (.ref (hc_ad G 0)), some (.int v), some (.int n), some (.int w)] rfl (Nat.le_of_ble_eq_true rfl) ?_
  intro p e s m args below meth c C
  refine hc_aload_n C dX7_toHush_0 rfl rfl ?_
  refine hc_getR C fl_X7_26 rfl rfl dX7_toHush_1 ?_
  refine hc_getI C fl_X7_123 rfl rfl dX7_toHush_4 ?_
  refine hc_if_ne C (tgt := 13) dX7_toHush_7 (by decide) (fun c_7 => ?_) (fun c_7 => ?_)
  rotate_left
  · exact absurd c_7 h1
  refine hc_iload_n C dX7_toHush_13 rfl rfl ?_
  refine hc_iload_n C dX7_toHush_14 rfl rfl ?_
  refine hc_iload_n C dX7_toHush_15 rfl rfl ?_
  refine hc_cS3i C ms_X7_215 (c_X7_isGoal C.ok) (Nat.le_of_ble_eq_true rfl) (hc_rr_rm (by decide)) ⟨Nat.zero_le _, Nat.zero_le _⟩ dX7_toHush_16 (fun r_16 M_16 h_16 => ?_)
  obtain ⟨rfl, rfl⟩ := h_16
  refine hc_if_ne C (tgt := 25) dX7_toHush_19 (by decide) (fun c_19 => ?_) (fun c_19 => ?_)
  · exact absurd (hb_f h0) c_19
  refine hc_ldc C kc_X7_64 dX7_toHush_22 ?_
  refine hc_iret C rfl dX7_toHush_24 ?_
  exact ⟨rfl, rfl⟩

set_option maxRecDepth 100000 in
set_option maxHeartbeats 4000000 in
theorem c_X7_toHush_o {l : Launch} {G : hc_Geo} (hG : hc_ok G) {M : hc_Mem} {E N : Nat} {v w : Int32}  (h1 : ¬ M 9 0 = 0) (hE : M 9 5 = nI E) (hE6 : E ≤ 6) (h0 : (¬ v < 0 ∧ ¬ 999 < v) ∧ (¬ nI N < 0 ∧ ¬ 99 < nI N) ∧ (¬ w < 0 ∧ ¬ 1 < w)) (hN : N ≤ 99) : hc_M l G yX7_toHush cX7_toHush 4 (some .int) 6 [.ref (hc_ad G 0), .int v, .int (nI N), .int w] M (hc_pi (fun z M' => hMow (hFwH M E N v (2 ^ E)) w = z ∧ M = M')) := by
  refine hc_M.of hG (by decide) [some (.ref (hc_ad G 0)), some (.int v), some (.int (nI N)), some (.int w)] rfl (Nat.le_of_ble_eq_true rfl) ?_
  intro p e s m args below meth c C
  refine hc_aload_n C dX7_toHush_0 rfl rfl ?_
  refine hc_getR C fl_X7_26 rfl rfl dX7_toHush_1 ?_
  refine hc_getI C fl_X7_123 rfl rfl dX7_toHush_4 ?_
  refine hc_if_ne C (tgt := 13) dX7_toHush_7 (by decide) (fun c_7 => ?_) (fun c_7 => ?_)
  rotate_left
  · exact absurd c_7 h1
  refine hc_iload_n C dX7_toHush_13 rfl rfl ?_
  refine hc_iload_n C dX7_toHush_14 rfl rfl ?_
  refine hc_iload_n C dX7_toHush_15 rfl rfl ?_
  refine hc_cS3i C ms_X7_215 (c_X7_isGoal C.ok) (Nat.le_of_ble_eq_true rfl) (hc_rr_rm (by decide)) ⟨Nat.zero_le _, Nat.zero_le _⟩ dX7_toHush_16 (fun r_16 M_16 h_16 => ?_)
  obtain ⟨rfl, rfl⟩ := h_16
  refine hc_if_ne C (tgt := 25) dX7_toHush_19 (by decide) (fun c_19 => ?_) (fun c_19 => ?_)
  rotate_left
  · exact absurd h0 (hb_z.mp c_19)
  refine hc_aload_n C dX7_toHush_25 rfl rfl ?_
  refine hc_getR C fl_X7_26 rfl rfl dX7_toHush_26 ?_
  refine hc_iload_n C dX7_toHush_29 rfl rfl ?_
  refine hc_iload_n C dX7_toHush_30 rfl rfl ?_
  refine hc_cS3i C ms_X7_218 (c_X2_fewestToBeHushed C.ok hN hE hE6) (Nat.le_of_ble_eq_true rfl) (hc_rr_rm (by decide)) ⟨Nat.zero_le _, Nat.zero_le _⟩ dX7_toHush_31 (fun r_31 M_31 h_31 => ?_)
  obtain ⟨rfl, rfl⟩ := h_31
  refine hc_iload_n C dX7_toHush_34 rfl rfl ?_
  refine hc_cS2i C ms_X7_221 (c_X7_manyOrWhich C.ok) (Nat.le_of_ble_eq_true rfl) (hc_rr_rm (by decide)) ⟨Nat.zero_le _, Nat.zero_le _⟩ dX7_toHush_35 (fun r_35 M_35 h_35 => ?_)
  obtain ⟨rfl, rfl⟩ := h_35
  refine hc_iret C rfl dX7_toHush_38 ?_
  exact ⟨rfl, rfl⟩

set_option maxRecDepth 100000 in
set_option maxHeartbeats 4000000 in
theorem c_X7_toCall_b {l : Launch} {G : hc_Geo} (hG : hc_ok G) {M : hc_Mem} {v n w : Int32}  (h1 : ¬ M 9 0 = 0) (h0 : ¬ ((¬ v < 0 ∧ ¬ 999 < v) ∧ (¬ n < 0 ∧ ¬ 99 < n) ∧ (¬ w < 0 ∧ ¬ 1 < w))) : hc_M l G yX7_toCall cX7_toCall 4 (some .int) 6 [.ref (hc_ad G 0), .int v, .int n, .int w] M (hc_pi (fun z M' => -1000001 = z ∧ M = M')) := by
  refine hc_M.of hG (by decide) [some (.ref (hc_ad G 0)), some (.int v), some (.int n), some (.int w)] rfl (Nat.le_of_ble_eq_true rfl) ?_
  intro p e s m args below meth c C
  refine hc_aload_n C dX7_toCall_0 rfl rfl ?_
  refine hc_getR C fl_X7_26 rfl rfl dX7_toCall_1 ?_
  refine hc_getI C fl_X7_123 rfl rfl dX7_toCall_4 ?_
  refine hc_if_ne C (tgt := 13) dX7_toCall_7 (by decide) (fun c_7 => ?_) (fun c_7 => ?_)
  rotate_left
  · exact absurd c_7 h1
  refine hc_iload_n C dX7_toCall_13 rfl rfl ?_
  refine hc_iload_n C dX7_toCall_14 rfl rfl ?_
  refine hc_iload_n C dX7_toCall_15 rfl rfl ?_
  refine hc_cS3i C ms_X7_215 (c_X7_isGoal C.ok) (Nat.le_of_ble_eq_true rfl) (hc_rr_rm (by decide)) ⟨Nat.zero_le _, Nat.zero_le _⟩ dX7_toCall_16 (fun r_16 M_16 h_16 => ?_)
  obtain ⟨rfl, rfl⟩ := h_16
  refine hc_if_ne C (tgt := 25) dX7_toCall_19 (by decide) (fun c_19 => ?_) (fun c_19 => ?_)
  · exact absurd (hb_f h0) c_19
  refine hc_ldc C kc_X7_64 dX7_toCall_22 ?_
  refine hc_iret C rfl dX7_toCall_24 ?_
  exact ⟨rfl, rfl⟩

set_option maxRecDepth 100000 in
set_option maxHeartbeats 4000000 in
theorem c_X7_toCall_o {l : Launch} {G : hc_Geo} (hG : hc_ok G) {M : hc_Mem} {E N : Nat} {v w : Int32}  (h1 : ¬ M 9 0 = 0) (hE : M 9 5 = nI E) (hE6 : E ≤ 6) (h0 : (¬ v < 0 ∧ ¬ 999 < v) ∧ (¬ nI N < 0 ∧ ¬ 99 < nI N) ∧ (¬ w < 0 ∧ ¬ 1 < w)) (hN : N ≤ 99) : hc_M l G yX7_toCall cX7_toCall 4 (some .int) 6 [.ref (hc_ad G 0), .int v, .int (nI N), .int w] M (hc_pi (fun z M' => hMow (hFwC M E N v (2 ^ E)) w = z ∧ M = M')) := by
  refine hc_M.of hG (by decide) [some (.ref (hc_ad G 0)), some (.int v), some (.int (nI N)), some (.int w)] rfl (Nat.le_of_ble_eq_true rfl) ?_
  intro p e s m args below meth c C
  refine hc_aload_n C dX7_toCall_0 rfl rfl ?_
  refine hc_getR C fl_X7_26 rfl rfl dX7_toCall_1 ?_
  refine hc_getI C fl_X7_123 rfl rfl dX7_toCall_4 ?_
  refine hc_if_ne C (tgt := 13) dX7_toCall_7 (by decide) (fun c_7 => ?_) (fun c_7 => ?_)
  rotate_left
  · exact absurd c_7 h1
  refine hc_iload_n C dX7_toCall_13 rfl rfl ?_
  refine hc_iload_n C dX7_toCall_14 rfl rfl ?_
  refine hc_iload_n C dX7_toCall_15 rfl rfl ?_
  refine hc_cS3i C ms_X7_215 (c_X7_isGoal C.ok) (Nat.le_of_ble_eq_true rfl) (hc_rr_rm (by decide)) ⟨Nat.zero_le _, Nat.zero_le _⟩ dX7_toCall_16 (fun r_16 M_16 h_16 => ?_)
  obtain ⟨rfl, rfl⟩ := h_16
  refine hc_if_ne C (tgt := 25) dX7_toCall_19 (by decide) (fun c_19 => ?_) (fun c_19 => ?_)
  rotate_left
  · exact absurd h0 (hb_z.mp c_19)
  refine hc_aload_n C dX7_toCall_25 rfl rfl ?_
  refine hc_getR C fl_X7_26 rfl rfl dX7_toCall_26 ?_
  refine hc_iload_n C dX7_toCall_29 rfl rfl ?_
  refine hc_iload_n C dX7_toCall_30 rfl rfl ?_
  refine hc_cS3i C ms_X7_224 (c_X2_fewestToBeCalled C.ok hN hE hE6) (Nat.le_of_ble_eq_true rfl) (hc_rr_rm (by decide)) ⟨Nat.zero_le _, Nat.zero_le _⟩ dX7_toCall_31 (fun r_31 M_31 h_31 => ?_)
  obtain ⟨rfl, rfl⟩ := h_31
  refine hc_iload_n C dX7_toCall_34 rfl rfl ?_
  refine hc_cS2i C ms_X7_221 (c_X7_manyOrWhich C.ok) (Nat.le_of_ble_eq_true rfl) (hc_rr_rm (by decide)) ⟨Nat.zero_le _, Nat.zero_le _⟩ dX7_toCall_35 (fun r_35 M_35 h_35 => ?_)
  obtain ⟨rfl, rfl⟩ := h_35
  refine hc_iret C rfl dX7_toCall_38 ?_
  exact ⟨rfl, rfl⟩

set_option maxRecDepth 100000 in
set_option maxHeartbeats 4000000 in
theorem c_X7_older_b2 {l : Launch} {G : hc_Geo} (hG : hc_ok G) {M : hc_Mem} {E e0 : Nat} {o n : Int32}  (hE : M 9 5 = nI E) (hE6 : E ≤ 6) (he : e0 < E) (h0 : ¬ ((¬ o < 0 ∧ ¬ M 9 5 ≤ o) ∧ (¬ nI e0 = o) ∧ (¬ n < 0 ∧ ¬ 99 < n))) : hc_M l G yX7_older cX7_older 4 (some .int) 5 [.ref (hc_ad G 0), .int (nI e0), .int o, .int n] M (hc_pi (fun z M' => -1000001 = z ∧ M = M')) := by
  refine hc_M.of hG (by decide) [some (.ref (hc_ad G 0)), some (.int (nI e0)), some (.int o), some (.int n)] rfl (Nat.le_of_ble_eq_true rfl) ?_
  intro p e s m args below meth c C
  refine hc_aload_n C dX7_older_0 rfl rfl ?_
  refine hc_getR C fl_X7_26 rfl rfl dX7_older_1 ?_
  refine hc_iload_n C dX7_older_4 rfl rfl ?_
  refine hc_cV1i C mv_X7_141 (c_X3_hasEar C.ok) rfl rfl rfl (Nat.le_of_ble_eq_true rfl) (hc_rr_rm (by decide)) ⟨Nat.zero_le _, Nat.zero_le _⟩ dX7_older_5 (fun r_5 M_5 h_5 => ?_)
  obtain ⟨rfl, rfl⟩ := h_5
  refine hc_if_eq C (tgt := 37) dX7_older_8 (by decide) (fun c_8 => ?_) (fun c_8 => ?_)
  · exact absurd (hx_ear hE hE6 he) (hb_z.mp c_8)
  refine hc_aload_n C dX7_older_11 rfl rfl ?_
  refine hc_getR C fl_X7_26 rfl rfl dX7_older_12 ?_
  refine hc_iload_n C dX7_older_15 rfl rfl ?_
  refine hc_cV1i C mv_X7_141 (c_X3_hasEar C.ok) rfl rfl rfl (Nat.le_of_ble_eq_true rfl) (hc_rr_rm (by decide)) ⟨Nat.zero_le _, Nat.zero_le _⟩ dX7_older_16 (fun r_16 M_16 h_16 => ?_)
  obtain ⟨rfl, rfl⟩ := h_16
  refine hc_if_eq C (tgt := 37) dX7_older_19 (by decide) (fun c_19 => ?_) (fun c_19 => ?_)
  · refine hc_ldc C kc_X7_64 dX7_older_37 ?_
    refine hc_iret C rfl dX7_older_39 ?_
    exact ⟨rfl, rfl⟩
  · refine hc_iload_n C dX7_older_22 rfl rfl ?_
    refine hc_iload_n C dX7_older_23 rfl rfl ?_
    refine hc_icmp_eq C (tgt := 37) dX7_older_24 (by decide) (fun c_24 => ?_) (fun c_24 => ?_)
    · refine hc_ldc C kc_X7_64 dX7_older_37 ?_
      refine hc_iret C rfl dX7_older_39 ?_
      exact ⟨rfl, rfl⟩
    · refine hc_iload_n C dX7_older_27 rfl rfl ?_
      refine hc_iconst C dX7_older_28 (v := 0) rfl ?_
      refine hc_bipush C dX7_older_29 (v := 99) rfl ?_
      refine hc_cS3i C ms_X7_97 (c_X7_isWithin C.ok) (Nat.le_of_ble_eq_true rfl) (hc_rr_rm (by decide)) ⟨Nat.zero_le _, Nat.zero_le _⟩ dX7_older_31 (fun r_31 M_31 h_31 => ?_)
      obtain ⟨rfl, rfl⟩ := h_31
      refine hc_if_ne C (tgt := 40) dX7_older_34 (by decide) (fun c_34 => ?_) (fun c_34 => ?_)
      · exact absurd ⟨hb_nz.mp c_19, c_24, hb_nz.mp c_34⟩ h0
      refine hc_ldc C kc_X7_64 dX7_older_37 ?_
      refine hc_iret C rfl dX7_older_39 ?_
      exact ⟨rfl, rfl⟩

set_option maxRecDepth 100000 in
set_option maxHeartbeats 4000000 in
theorem c_X7_older_o {l : Launch} {G : hc_Geo} (hG : hc_ok G) {M : hc_Mem} {E e0 e1 N : Nat}  (hE : M 9 5 = nI E) (hE6 : E ≤ 6) (he : e0 < E) (he1 : e1 < E) (h2 : ¬ nI e0 = nI e1) (h0 : ¬ nI N < 0 ∧ ¬ 99 < nI N) (hN : N ≤ 99) : hc_M l G yX7_older cX7_older 4 (some .int) 5 [.ref (hc_ad G 0), .int (nI e0), .int (nI e1), .int (nI N)] M (hc_pi (fun z M' => hLvA M E e0 N - hLvA M E e1 N = z ∧ M = M')) := by
  refine hc_M.of hG (by decide) [some (.ref (hc_ad G 0)), some (.int (nI e0)), some (.int (nI e1)), some (.int (nI N))] rfl (Nat.le_of_ble_eq_true rfl) ?_
  intro p e s m args below meth c C
  refine hc_aload_n C dX7_older_0 rfl rfl ?_
  refine hc_getR C fl_X7_26 rfl rfl dX7_older_1 ?_
  refine hc_iload_n C dX7_older_4 rfl rfl ?_
  refine hc_cV1i C mv_X7_141 (c_X3_hasEar C.ok) rfl rfl rfl (Nat.le_of_ble_eq_true rfl) (hc_rr_rm (by decide)) ⟨Nat.zero_le _, Nat.zero_le _⟩ dX7_older_5 (fun r_5 M_5 h_5 => ?_)
  obtain ⟨rfl, rfl⟩ := h_5
  refine hc_if_eq C (tgt := 37) dX7_older_8 (by decide) (fun c_8 => ?_) (fun c_8 => ?_)
  · exact absurd (hx_ear hE hE6 he) (hb_z.mp c_8)
  refine hc_aload_n C dX7_older_11 rfl rfl ?_
  refine hc_getR C fl_X7_26 rfl rfl dX7_older_12 ?_
  refine hc_iload_n C dX7_older_15 rfl rfl ?_
  refine hc_cV1i C mv_X7_141 (c_X3_hasEar C.ok) rfl rfl rfl (Nat.le_of_ble_eq_true rfl) (hc_rr_rm (by decide)) ⟨Nat.zero_le _, Nat.zero_le _⟩ dX7_older_16 (fun r_16 M_16 h_16 => ?_)
  obtain ⟨rfl, rfl⟩ := h_16
  refine hc_if_eq C (tgt := 37) dX7_older_19 (by decide) (fun c_19 => ?_) (fun c_19 => ?_)
  · exact absurd (hx_ear hE hE6 he1) (hb_z.mp c_19)
  refine hc_iload_n C dX7_older_22 rfl rfl ?_
  refine hc_iload_n C dX7_older_23 rfl rfl ?_
  refine hc_icmp_eq C (tgt := 37) dX7_older_24 (by decide) (fun c_24 => ?_) (fun c_24 => ?_)
  · exact absurd c_24 h2
  refine hc_iload_n C dX7_older_27 rfl rfl ?_
  refine hc_iconst C dX7_older_28 (v := 0) rfl ?_
  refine hc_bipush C dX7_older_29 (v := 99) rfl ?_
  refine hc_cS3i C ms_X7_97 (c_X7_isWithin C.ok) (Nat.le_of_ble_eq_true rfl) (hc_rr_rm (by decide)) ⟨Nat.zero_le _, Nat.zero_le _⟩ dX7_older_31 (fun r_31 M_31 h_31 => ?_)
  obtain ⟨rfl, rfl⟩ := h_31
  refine hc_if_ne C (tgt := 40) dX7_older_34 (by decide) (fun c_34 => ?_) (fun c_34 => ?_)
  rotate_left
  · exact absurd h0 (hb_z.mp c_34)
  refine hc_aload_n C dX7_older_40 rfl rfl ?_
  refine hc_getR C fl_X7_26 rfl rfl dX7_older_41 ?_
  refine hc_iload_n C dX7_older_44 rfl rfl ?_
  refine hc_iload_n C dX7_older_45 rfl rfl ?_
  refine hc_cS3i C ms_X7_243 (c_X2_livedAfter C.ok (by omega) hN hE hE6) (Nat.le_of_ble_eq_true rfl) (hc_rr_rm (by decide)) ⟨Nat.zero_le _, Nat.zero_le _⟩ dX7_older_46 (fun r_46 M_46 h_46 => ?_)
  obtain ⟨rfl, rfl⟩ := h_46
  refine hc_aload_n C dX7_older_49 rfl rfl ?_
  refine hc_getR C fl_X7_26 rfl rfl dX7_older_50 ?_
  refine hc_iload_n C dX7_older_53 rfl rfl ?_
  refine hc_iload_n C dX7_older_54 rfl rfl ?_
  refine hc_cS3i C ms_X7_243 (c_X2_livedAfter C.ok (by omega) hN hE hE6) (Nat.le_of_ble_eq_true rfl) (hc_rr_rm (by decide)) ⟨Nat.zero_le _, Nat.zero_le _⟩ dX7_older_55 (fun r_55 M_55 h_55 => ?_)
  obtain ⟨rfl, rfl⟩ := h_55
  refine hc_isub C dX7_older_58 ?_
  refine hc_iret C rfl dX7_older_59 ?_
  exact ⟨rfl, rfl⟩

set_option maxRecDepth 100000 in
set_option maxHeartbeats 4000000 in
theorem c_X7_odds_b {l : Launch} {G : hc_Geo} (hG : hc_ok G) {M : hc_Mem} {v n w : Int32}  (h1 : ¬ M 9 0 = 0) (h0 : ¬ ((¬ v < 0 ∧ ¬ 99 < v) ∧ (¬ n < 0 ∧ ¬ 10 < n) ∧ (¬ w < 0 ∧ ¬ 1 < w))) : hc_M l G yX7_odds cX7_odds 7 (some .int) 7 [.ref (hc_ad G 0), .int v, .int n, .int w] M (hc_pi (fun z M' => -1000001 = z ∧ M = M')) := by
  refine hc_M.of hG (by decide) [some (.ref (hc_ad G 0)), some (.int v), some (.int n), some (.int w), none, none, none] rfl (Nat.le_of_ble_eq_true rfl) ?_
  intro p e s m args below meth c C
  refine hc_aload_n C dX7_odds_0 rfl rfl ?_
  refine hc_getR C fl_X7_26 rfl rfl dX7_odds_1 ?_
  refine hc_getI C fl_X7_123 rfl rfl dX7_odds_4 ?_
  refine hc_if_ne C (tgt := 13) dX7_odds_7 (by decide) (fun c_7 => ?_) (fun c_7 => ?_)
  rotate_left
  · exact absurd c_7 h1
  refine hc_iload_n C dX7_odds_13 rfl rfl ?_
  refine hc_iconst C dX7_odds_14 (v := 0) rfl ?_
  refine hc_bipush C dX7_odds_15 (v := 99) rfl ?_
  refine hc_cS3i C ms_X7_97 (c_X7_isWithin C.ok) (Nat.le_of_ble_eq_true rfl) (hc_rr_rm (by decide)) ⟨Nat.zero_le _, Nat.zero_le _⟩ dX7_odds_17 (fun r_17 M_17 h_17 => ?_)
  obtain ⟨rfl, rfl⟩ := h_17
  refine hc_if_eq C (tgt := 42) dX7_odds_20 (by decide) (fun c_20 => ?_) (fun c_20 => ?_)
  · refine hc_ldc C kc_X7_64 dX7_odds_42 ?_
    refine hc_iret C rfl dX7_odds_44 ?_
    exact ⟨rfl, rfl⟩
  · refine hc_iload_n C dX7_odds_23 rfl rfl ?_
    refine hc_iconst C dX7_odds_24 (v := 0) rfl ?_
    refine hc_bipush C dX7_odds_25 (v := 10) rfl ?_
    refine hc_cS3i C ms_X7_97 (c_X7_isWithin C.ok) (Nat.le_of_ble_eq_true rfl) (hc_rr_rm (by decide)) ⟨Nat.zero_le _, Nat.zero_le _⟩ dX7_odds_27 (fun r_27 M_27 h_27 => ?_)
    obtain ⟨rfl, rfl⟩ := h_27
    refine hc_if_eq C (tgt := 42) dX7_odds_30 (by decide) (fun c_30 => ?_) (fun c_30 => ?_)
    · refine hc_ldc C kc_X7_64 dX7_odds_42 ?_
      refine hc_iret C rfl dX7_odds_44 ?_
      exact ⟨rfl, rfl⟩
    · refine hc_iload_n C dX7_odds_33 rfl rfl ?_
      refine hc_iconst C dX7_odds_34 (v := 0) rfl ?_
      refine hc_iconst C dX7_odds_35 (v := 1) rfl ?_
      refine hc_cS3i C ms_X7_97 (c_X7_isWithin C.ok) (Nat.le_of_ble_eq_true rfl) (hc_rr_rm (by decide)) ⟨Nat.zero_le _, Nat.zero_le _⟩ dX7_odds_36 (fun r_36 M_36 h_36 => ?_)
      obtain ⟨rfl, rfl⟩ := h_36
      refine hc_if_ne C (tgt := 45) dX7_odds_39 (by decide) (fun c_39 => ?_) (fun c_39 => ?_)
      · exact absurd ⟨hb_nz.mp c_20, hb_nz.mp c_30, hb_nz.mp c_39⟩ h0
      refine hc_ldc C kc_X7_64 dX7_odds_42 ?_
      refine hc_iret C rfl dX7_odds_44 ?_
      exact ⟨rfl, rfl⟩

def hOdd (M : hc_Mem) (E : Nat) (v n w : Int32) : Int32 := (if w = 0 then hChs M E v n (2 ^ E) else hPow 10 (hBn (hLisM M E E))) / hGcd1 (hChs M E v n (2 ^ E)) (hPow 10 (hBn (hLisM M E E)))

set_option maxRecDepth 100000 in
set_option maxHeartbeats 4000000 in
theorem c_X7_odds_o {l : Launch} {G : hc_Geo} (hG : hc_ok G) {M : hc_Mem} {E : Nat} {v n w : Int32}  (h1 : ¬ M 9 0 = 0) (hE : M 9 5 = nI E) (hE6 : E ≤ 6) (h0 : (¬ v < 0 ∧ ¬ 99 < v) ∧ (¬ n < 0 ∧ ¬ 10 < n) ∧ (¬ w < 0 ∧ ¬ 1 < w)) : hc_M l G yX7_odds cX7_odds 7 (some .int) 7 [.ref (hc_ad G 0), .int v, .int n, .int w] M (hc_pi (fun z M' => hOdd M E v n w = z ∧ M = M')) := by
  refine hc_M.of hG (by decide) [some (.ref (hc_ad G 0)), some (.int v), some (.int n), some (.int w), none, none, none] rfl (Nat.le_of_ble_eq_true rfl) ?_
  intro p e s m args below meth c C
  refine hc_aload_n C dX7_odds_0 rfl rfl ?_
  refine hc_getR C fl_X7_26 rfl rfl dX7_odds_1 ?_
  refine hc_getI C fl_X7_123 rfl rfl dX7_odds_4 ?_
  refine hc_if_ne C (tgt := 13) dX7_odds_7 (by decide) (fun c_7 => ?_) (fun c_7 => ?_)
  rotate_left
  · exact absurd c_7 h1
  refine hc_iload_n C dX7_odds_13 rfl rfl ?_
  refine hc_iconst C dX7_odds_14 (v := 0) rfl ?_
  refine hc_bipush C dX7_odds_15 (v := 99) rfl ?_
  refine hc_cS3i C ms_X7_97 (c_X7_isWithin C.ok) (Nat.le_of_ble_eq_true rfl) (hc_rr_rm (by decide)) ⟨Nat.zero_le _, Nat.zero_le _⟩ dX7_odds_17 (fun r_17 M_17 h_17 => ?_)
  obtain ⟨rfl, rfl⟩ := h_17
  refine hc_if_eq C (tgt := 42) dX7_odds_20 (by decide) (fun c_20 => ?_) (fun c_20 => ?_)
  · exact absurd h0.1 (hb_z.mp c_20)
  refine hc_iload_n C dX7_odds_23 rfl rfl ?_
  refine hc_iconst C dX7_odds_24 (v := 0) rfl ?_
  refine hc_bipush C dX7_odds_25 (v := 10) rfl ?_
  refine hc_cS3i C ms_X7_97 (c_X7_isWithin C.ok) (Nat.le_of_ble_eq_true rfl) (hc_rr_rm (by decide)) ⟨Nat.zero_le _, Nat.zero_le _⟩ dX7_odds_27 (fun r_27 M_27 h_27 => ?_)
  obtain ⟨rfl, rfl⟩ := h_27
  refine hc_if_eq C (tgt := 42) dX7_odds_30 (by decide) (fun c_30 => ?_) (fun c_30 => ?_)
  · exact absurd h0.2.1 (hb_z.mp c_30)
  refine hc_iload_n C dX7_odds_33 rfl rfl ?_
  refine hc_iconst C dX7_odds_34 (v := 0) rfl ?_
  refine hc_iconst C dX7_odds_35 (v := 1) rfl ?_
  refine hc_cS3i C ms_X7_97 (c_X7_isWithin C.ok) (Nat.le_of_ble_eq_true rfl) (hc_rr_rm (by decide)) ⟨Nat.zero_le _, Nat.zero_le _⟩ dX7_odds_36 (fun r_36 M_36 h_36 => ?_)
  obtain ⟨rfl, rfl⟩ := h_36
  refine hc_if_ne C (tgt := 45) dX7_odds_39 (by decide) (fun c_39 => ?_) (fun c_39 => ?_)
  rotate_left
  · exact absurd h0.2.2 (hb_z.mp c_39)
  refine hc_aload_n C dX7_odds_45 rfl rfl ?_
  refine hc_getR C fl_X7_26 rfl rfl dX7_odds_46 ?_
  refine hc_iload_n C dX7_odds_49 rfl rfl ?_
  refine hc_iload_n C dX7_odds_50 rfl rfl ?_
  refine hc_cS3i C ms_X7_246 (c_X2_chancesToGo C.ok hE hE6) (Nat.le_of_ble_eq_true rfl) (hc_rr_rm (by decide)) ⟨Nat.zero_le _, Nat.zero_le _⟩ dX7_odds_51 (fun r_51 M_51 h_51 => ?_)
  obtain ⟨rfl, rfl⟩ := h_51
  refine hc_istore4 C dX7_odds_54 (by decide) rfl ?_
  refine hc_aload_n C dX7_odds_56 rfl rfl ?_
  refine hc_getR C fl_X7_26 rfl rfl dX7_odds_57 ?_
  refine hc_cS1i C ms_X7_249 (c_X2_chancesInAll C.ok hE hE6) (Nat.le_of_ble_eq_true rfl) (hc_rr_rm (by decide)) ⟨Nat.zero_le _, Nat.zero_le _⟩ dX7_odds_60 (fun r_60 M_60 h_60 => ?_)
  obtain ⟨rfl, rfl⟩ := h_60
  refine hc_istore5 C dX7_odds_63 (by decide) rfl ?_
  refine hc_iload C dX7_odds_65 rfl ?_
  refine hc_iload C dX7_odds_67 rfl ?_
  refine hc_cS2i C ms_X7_252 (c_X7_greatestDivisor C.ok) (Nat.le_of_ble_eq_true rfl) (hc_rr_rm (by decide)) ⟨Nat.zero_le _, Nat.zero_le _⟩ dX7_odds_69 (fun r_69 M_69 h_69 => ?_)
  obtain ⟨rfl, rfl⟩ := h_69
  refine hc_istore6 C dX7_odds_72 (by decide) rfl ?_
  refine hc_iload_n C dX7_odds_74 rfl rfl ?_
  refine hc_if_ne C (tgt := 83) dX7_odds_75 (by decide) (fun c_75 => ?_) (fun c_75 => ?_)
  · refine hc_iload C dX7_odds_83 rfl ?_
    refine hc_iload C dX7_odds_85 rfl ?_
    refine hc_idiv C dX7_odds_87 (hGcd1_ne _ _) ?_
    refine hc_iret C rfl dX7_odds_88 ?_
    refine ⟨?_, rfl⟩
    unfold hOdd
    first | rw [if_pos c_75] | rw [if_neg c_75]
  · refine hc_iload C dX7_odds_78 rfl ?_
    refine hc_goto C (tgt := 85) dX7_odds_80 (by decide) ?_
    refine hc_iload C dX7_odds_85 rfl ?_
    refine hc_idiv C dX7_odds_87 (hGcd1_ne _ _) ?_
    refine hc_iret C rfl dX7_odds_88 ?_
    refine ⟨?_, rfl⟩
    unfold hOdd
    first | rw [if_pos c_75] | rw [if_neg c_75]

set_option maxRecDepth 100000 in
set_option maxHeartbeats 4000000 in
theorem c_X7_who_b {l : Launch} {G : hc_Geo} (hG : hc_ok G) {M : hc_Mem} {r i n w : Int32}  (h1 : ¬ M 9 0 = 0) (h0 : ¬ ((¬ r < 0 ∧ ¬ 8 ≤ r) ∧ (¬ n < 1 ∧ ¬ 16 < n) ∧ (¬ w < 0 ∧ ¬ 1 < w))) : hc_M l G yX7_who cX7_who 8 (some .int) 5 [.ref (hc_ad G 0), .int r, .int i, .int n, .int w] M (hc_pi (fun z M' => -1000001 = z ∧ M = M')) := by
  refine hc_M.of hG (by decide) [some (.ref (hc_ad G 0)), some (.int r), some (.int i), some (.int n), some (.int w), none, none, none] rfl (Nat.le_of_ble_eq_true rfl) ?_
  intro p e s m args below meth c C
  refine hc_aload_n C dX7_who_0 rfl rfl ?_
  refine hc_getR C fl_X7_26 rfl rfl dX7_who_1 ?_
  refine hc_getI C fl_X7_123 rfl rfl dX7_who_4 ?_
  refine hc_if_ne C (tgt := 13) dX7_who_7 (by decide) (fun c_7 => ?_) (fun c_7 => ?_)
  rotate_left
  · exact absurd c_7 h1
  refine hc_iload_n C dX7_who_13 rfl rfl ?_
  refine hc_cS1i C ms_X7_57 (c_X5_isRow C.ok) (Nat.le_of_ble_eq_true rfl) (hc_rr_rm (by decide)) ⟨Nat.zero_le _, Nat.zero_le _⟩ dX7_who_14 (fun r_14 M_14 h_14 => ?_)
  obtain ⟨rfl, rfl⟩ := h_14
  refine hc_if_eq C (tgt := 40) dX7_who_17 (by decide) (fun c_17 => ?_) (fun c_17 => ?_)
  · refine hc_ldc C kc_X7_64 dX7_who_40 ?_
    refine hc_iret C rfl dX7_who_42 ?_
    exact ⟨rfl, rfl⟩
  · refine hc_iload_n C dX7_who_20 rfl rfl ?_
    refine hc_iconst C dX7_who_21 (v := 1) rfl ?_
    refine hc_bipush C dX7_who_22 (v := 16) rfl ?_
    refine hc_cS3i C ms_X7_97 (c_X7_isWithin C.ok) (Nat.le_of_ble_eq_true rfl) (hc_rr_rm (by decide)) ⟨Nat.zero_le _, Nat.zero_le _⟩ dX7_who_24 (fun r_24 M_24 h_24 => ?_)
    obtain ⟨rfl, rfl⟩ := h_24
    refine hc_if_eq C (tgt := 40) dX7_who_27 (by decide) (fun c_27 => ?_) (fun c_27 => ?_)
    · refine hc_ldc C kc_X7_64 dX7_who_40 ?_
      refine hc_iret C rfl dX7_who_42 ?_
      exact ⟨rfl, rfl⟩
    · refine hc_iload C dX7_who_30 rfl ?_
      refine hc_iconst C dX7_who_32 (v := 0) rfl ?_
      refine hc_iconst C dX7_who_33 (v := 1) rfl ?_
      refine hc_cS3i C ms_X7_97 (c_X7_isWithin C.ok) (Nat.le_of_ble_eq_true rfl) (hc_rr_rm (by decide)) ⟨Nat.zero_le _, Nat.zero_le _⟩ dX7_who_34 (fun r_34 M_34 h_34 => ?_)
      obtain ⟨rfl, rfl⟩ := h_34
      refine hc_if_ne C (tgt := 43) dX7_who_37 (by decide) (fun c_37 => ?_) (fun c_37 => ?_)
      · exact absurd ⟨hb_nz.mp c_17, hb_nz.mp c_27, hb_nz.mp c_37⟩ h0
      refine hc_ldc C kc_X7_64 dX7_who_40 ?_
      refine hc_iret C rfl dX7_who_42 ?_
      exact ⟨rfl, rfl⟩

set_option maxRecDepth 100000 in
set_option maxHeartbeats 4000000 in
theorem c_X7_who_m {l : Launch} {G : hc_Geo} (hG : hc_ok G) {M : hc_Mem} {j : Nat} {i n w : Int32}  (h1 : ¬ M 9 0 = 0) (hj : j < 8) (h0 : (¬ n < 1 ∧ ¬ 16 < n) ∧ (¬ w < 0 ∧ ¬ 1 < w)) (h2 : M 2 j = -1) : hc_M l G yX7_who cX7_who 8 (some .int) 5 [.ref (hc_ad G 0), .int (nI j), .int i, .int n, .int w] M (hc_pi (fun z M' => -1000011 = z ∧ hc_ms M 0 8 1 = M')) := by
  refine hc_M.of hG (by decide) [some (.ref (hc_ad G 0)), some (.int (nI j)), some (.int i), some (.int n), some (.int w), none, none, none] rfl (Nat.le_of_ble_eq_true rfl) ?_
  intro p e s m args below meth c C
  refine hc_aload_n C dX7_who_0 rfl rfl ?_
  refine hc_getR C fl_X7_26 rfl rfl dX7_who_1 ?_
  refine hc_getI C fl_X7_123 rfl rfl dX7_who_4 ?_
  refine hc_if_ne C (tgt := 13) dX7_who_7 (by decide) (fun c_7 => ?_) (fun c_7 => ?_)
  rotate_left
  · exact absurd c_7 h1
  refine hc_iload_n C dX7_who_13 rfl rfl ?_
  refine hc_cS1i C ms_X7_57 (c_X5_isRow C.ok) (Nat.le_of_ble_eq_true rfl) (hc_rr_rm (by decide)) ⟨Nat.zero_le _, Nat.zero_le _⟩ dX7_who_14 (fun r_14 M_14 h_14 => ?_)
  obtain ⟨rfl, rfl⟩ := h_14
  refine hc_if_eq C (tgt := 40) dX7_who_17 (by decide) (fun c_17 => ?_) (fun c_17 => ?_)
  · exact absurd (hx_row hj) (hb_z.mp c_17)
  refine hc_iload_n C dX7_who_20 rfl rfl ?_
  refine hc_iconst C dX7_who_21 (v := 1) rfl ?_
  refine hc_bipush C dX7_who_22 (v := 16) rfl ?_
  refine hc_cS3i C ms_X7_97 (c_X7_isWithin C.ok) (Nat.le_of_ble_eq_true rfl) (hc_rr_rm (by decide)) ⟨Nat.zero_le _, Nat.zero_le _⟩ dX7_who_24 (fun r_24 M_24 h_24 => ?_)
  obtain ⟨rfl, rfl⟩ := h_24
  refine hc_if_eq C (tgt := 40) dX7_who_27 (by decide) (fun c_27 => ?_) (fun c_27 => ?_)
  · exact absurd h0.1 (hb_z.mp c_27)
  refine hc_iload C dX7_who_30 rfl ?_
  refine hc_iconst C dX7_who_32 (v := 0) rfl ?_
  refine hc_iconst C dX7_who_33 (v := 1) rfl ?_
  refine hc_cS3i C ms_X7_97 (c_X7_isWithin C.ok) (Nat.le_of_ble_eq_true rfl) (hc_rr_rm (by decide)) ⟨Nat.zero_le _, Nat.zero_le _⟩ dX7_who_34 (fun r_34 M_34 h_34 => ?_)
  obtain ⟨rfl, rfl⟩ := h_34
  refine hc_if_ne C (tgt := 43) dX7_who_37 (by decide) (fun c_37 => ?_) (fun c_37 => ?_)
  rotate_left
  · exact absurd h0.2 (hb_z.mp c_37)
  refine hc_aload_n C dX7_who_43 rfl rfl ?_
  refine hc_getR C fl_X7_10 rfl rfl dX7_who_44 ?_
  refine hc_iload_n C dX7_who_47 rfl rfl ?_
  refine hc_iload_n C dX7_who_48 rfl rfl ?_
  refine hc_iload_n C dX7_who_49 rfl rfl ?_
  refine hc_cV3i C mv_X7_76 (c_X5_findingOf C.ok hj) rfl rfl rfl (Nat.le_of_ble_eq_true rfl) (hc_rr_rm (by decide)) ⟨Nat.zero_le _, Nat.zero_le _⟩ dX7_who_50 (fun r_50 M_50 h_50 => ?_)
  obtain ⟨rfl, rfl⟩ := h_50
  rw [if_pos h2]
  refine hc_istore5 C dX7_who_53 (by decide) rfl ?_
  refine hc_iload C dX7_who_55 rfl ?_
  refine hc_if_eq C (tgt := 67) dX7_who_57 (by decide) (fun c_57 => ?_) (fun c_57 => ?_)
  · exact absurd c_57 (by decide)
  refine hc_aload_n C dX7_who_60 rfl rfl ?_
  refine hc_iload C dX7_who_61 rfl ?_
  refine hc_cV1i C mv_X7_65 (c_X7_found C.ok) rfl rfl rfl (Nat.le_of_ble_eq_true rfl) (hc_rr_rm (by decide)) ⟨Nat.zero_le _, Nat.zero_le _⟩ dX7_who_63 (fun r_63 M_63 h_63 => ?_)
  obtain ⟨rfl, rfl⟩ := h_63
  refine hc_iret C rfl dX7_who_66 ?_
  exact ⟨rfl, rfl⟩

set_option maxRecDepth 100000 in
set_option maxHeartbeats 4000000 in
theorem c_X7_who_p {l : Launch} {G : hc_Geo} (hG : hc_ok G) {M : hc_Mem} {j : Nat} {i n w : Int32}  (h1 : ¬ M 9 0 = 0) (hj : j < 8) (h0 : (¬ n < 1 ∧ ¬ 16 < n) ∧ (¬ w < 0 ∧ ¬ 1 < w)) (h2 : ¬ M 2 j = -1) (h3 : ¬ (¬ i < 0 ∧ ¬ n < 0 ∧ ¬ M 3 j < i ∧ ¬ M 3 j - i < n)) : hc_M l G yX7_who cX7_who 8 (some .int) 5 [.ref (hc_ad G 0), .int (nI j), .int i, .int n, .int w] M (hc_pi (fun z M' => -1000012 = z ∧ hc_ms M 0 8 2 = M')) := by
  refine hc_M.of hG (by decide) [some (.ref (hc_ad G 0)), some (.int (nI j)), some (.int i), some (.int n), some (.int w), none, none, none] rfl (Nat.le_of_ble_eq_true rfl) ?_
  intro p e s m args below meth c C
  refine hc_aload_n C dX7_who_0 rfl rfl ?_
  refine hc_getR C fl_X7_26 rfl rfl dX7_who_1 ?_
  refine hc_getI C fl_X7_123 rfl rfl dX7_who_4 ?_
  refine hc_if_ne C (tgt := 13) dX7_who_7 (by decide) (fun c_7 => ?_) (fun c_7 => ?_)
  rotate_left
  · exact absurd c_7 h1
  refine hc_iload_n C dX7_who_13 rfl rfl ?_
  refine hc_cS1i C ms_X7_57 (c_X5_isRow C.ok) (Nat.le_of_ble_eq_true rfl) (hc_rr_rm (by decide)) ⟨Nat.zero_le _, Nat.zero_le _⟩ dX7_who_14 (fun r_14 M_14 h_14 => ?_)
  obtain ⟨rfl, rfl⟩ := h_14
  refine hc_if_eq C (tgt := 40) dX7_who_17 (by decide) (fun c_17 => ?_) (fun c_17 => ?_)
  · exact absurd (hx_row hj) (hb_z.mp c_17)
  refine hc_iload_n C dX7_who_20 rfl rfl ?_
  refine hc_iconst C dX7_who_21 (v := 1) rfl ?_
  refine hc_bipush C dX7_who_22 (v := 16) rfl ?_
  refine hc_cS3i C ms_X7_97 (c_X7_isWithin C.ok) (Nat.le_of_ble_eq_true rfl) (hc_rr_rm (by decide)) ⟨Nat.zero_le _, Nat.zero_le _⟩ dX7_who_24 (fun r_24 M_24 h_24 => ?_)
  obtain ⟨rfl, rfl⟩ := h_24
  refine hc_if_eq C (tgt := 40) dX7_who_27 (by decide) (fun c_27 => ?_) (fun c_27 => ?_)
  · exact absurd h0.1 (hb_z.mp c_27)
  refine hc_iload C dX7_who_30 rfl ?_
  refine hc_iconst C dX7_who_32 (v := 0) rfl ?_
  refine hc_iconst C dX7_who_33 (v := 1) rfl ?_
  refine hc_cS3i C ms_X7_97 (c_X7_isWithin C.ok) (Nat.le_of_ble_eq_true rfl) (hc_rr_rm (by decide)) ⟨Nat.zero_le _, Nat.zero_le _⟩ dX7_who_34 (fun r_34 M_34 h_34 => ?_)
  obtain ⟨rfl, rfl⟩ := h_34
  refine hc_if_ne C (tgt := 43) dX7_who_37 (by decide) (fun c_37 => ?_) (fun c_37 => ?_)
  rotate_left
  · exact absurd h0.2 (hb_z.mp c_37)
  refine hc_aload_n C dX7_who_43 rfl rfl ?_
  refine hc_getR C fl_X7_10 rfl rfl dX7_who_44 ?_
  refine hc_iload_n C dX7_who_47 rfl rfl ?_
  refine hc_iload_n C dX7_who_48 rfl rfl ?_
  refine hc_iload_n C dX7_who_49 rfl rfl ?_
  refine hc_cV3i C mv_X7_76 (c_X5_findingOf C.ok hj) rfl rfl rfl (Nat.le_of_ble_eq_true rfl) (hc_rr_rm (by decide)) ⟨Nat.zero_le _, Nat.zero_le _⟩ dX7_who_50 (fun r_50 M_50 h_50 => ?_)
  obtain ⟨rfl, rfl⟩ := h_50
  rw [if_neg h2, if_neg h3]
  refine hc_istore5 C dX7_who_53 (by decide) rfl ?_
  refine hc_iload C dX7_who_55 rfl ?_
  refine hc_if_eq C (tgt := 67) dX7_who_57 (by decide) (fun c_57 => ?_) (fun c_57 => ?_)
  · exact absurd c_57 (by decide)
  refine hc_aload_n C dX7_who_60 rfl rfl ?_
  refine hc_iload C dX7_who_61 rfl ?_
  refine hc_cV1i C mv_X7_65 (c_X7_found C.ok) rfl rfl rfl (Nat.le_of_ble_eq_true rfl) (hc_rr_rm (by decide)) ⟨Nat.zero_le _, Nat.zero_le _⟩ dX7_who_63 (fun r_63 M_63 h_63 => ?_)
  obtain ⟨rfl, rfl⟩ := h_63
  refine hc_iret C rfl dX7_who_66 ?_
  exact ⟨rfl, rfl⟩

set_option maxRecDepth 100000 in
set_option maxHeartbeats 4000000 in
theorem c_X7_who_o0 {l : Launch} {G : hc_Geo} (hG : hc_ok G) {M : hc_Mem} {E j i n : Nat}  (h1 : ¬ M 9 0 = 0) (hj : j < 8) (hi0 : i + n ≤ 40) (hE : M 9 5 = nI E) (hE6 : E ≤ 6) (h0 : (¬ nI n < 1 ∧ ¬ 16 < nI n) ∧ (¬ 0 < 0 ∧ ¬ 1 < (0 : Int32))) (h2 : ¬ M 2 j = -1) (h3 : ¬ nI i < 0 ∧ ¬ nI n < 0 ∧ ¬ M 3 j < nI i ∧ ¬ M 3 j - nI i < nI n) : hc_M l G yX7_who cX7_who 8 (some .int) 5 [.ref (hc_ad G 0), .int (nI j), .int (nI i), .int (nI n), .int 0] M (hc_pi (fun z M' => hc_bL (hSets M E (40 * j + i) n (2 ^ E)) = z ∧ hc_ms M 0 8 0 = M')) := by
  refine hc_M.of hG (by decide) [some (.ref (hc_ad G 0)), some (.int (nI j)), some (.int (nI i)), some (.int (nI n)), some (.int 0), none, none, none] rfl (Nat.le_of_ble_eq_true rfl) ?_
  intro p e s m args below meth c C
  refine hc_aload_n C dX7_who_0 rfl rfl ?_
  refine hc_getR C fl_X7_26 rfl rfl dX7_who_1 ?_
  refine hc_getI C fl_X7_123 rfl rfl dX7_who_4 ?_
  refine hc_if_ne C (tgt := 13) dX7_who_7 (by decide) (fun c_7 => ?_) (fun c_7 => ?_)
  rotate_left
  · exact absurd c_7 h1
  refine hc_iload_n C dX7_who_13 rfl rfl ?_
  refine hc_cS1i C ms_X7_57 (c_X5_isRow C.ok) (Nat.le_of_ble_eq_true rfl) (hc_rr_rm (by decide)) ⟨Nat.zero_le _, Nat.zero_le _⟩ dX7_who_14 (fun r_14 M_14 h_14 => ?_)
  obtain ⟨rfl, rfl⟩ := h_14
  refine hc_if_eq C (tgt := 40) dX7_who_17 (by decide) (fun c_17 => ?_) (fun c_17 => ?_)
  · exact absurd (hx_row hj) (hb_z.mp c_17)
  refine hc_iload_n C dX7_who_20 rfl rfl ?_
  refine hc_iconst C dX7_who_21 (v := 1) rfl ?_
  refine hc_bipush C dX7_who_22 (v := 16) rfl ?_
  refine hc_cS3i C ms_X7_97 (c_X7_isWithin C.ok) (Nat.le_of_ble_eq_true rfl) (hc_rr_rm (by decide)) ⟨Nat.zero_le _, Nat.zero_le _⟩ dX7_who_24 (fun r_24 M_24 h_24 => ?_)
  obtain ⟨rfl, rfl⟩ := h_24
  refine hc_if_eq C (tgt := 40) dX7_who_27 (by decide) (fun c_27 => ?_) (fun c_27 => ?_)
  · exact absurd h0.1 (hb_z.mp c_27)
  refine hc_iload C dX7_who_30 rfl ?_
  refine hc_iconst C dX7_who_32 (v := 0) rfl ?_
  refine hc_iconst C dX7_who_33 (v := 1) rfl ?_
  refine hc_cS3i C ms_X7_97 (c_X7_isWithin C.ok) (Nat.le_of_ble_eq_true rfl) (hc_rr_rm (by decide)) ⟨Nat.zero_le _, Nat.zero_le _⟩ dX7_who_34 (fun r_34 M_34 h_34 => ?_)
  obtain ⟨rfl, rfl⟩ := h_34
  refine hc_if_ne C (tgt := 43) dX7_who_37 (by decide) (fun c_37 => ?_) (fun c_37 => ?_)
  rotate_left
  · exact absurd h0.2 (hb_z.mp c_37)
  refine hc_aload_n C dX7_who_43 rfl rfl ?_
  refine hc_getR C fl_X7_10 rfl rfl dX7_who_44 ?_
  refine hc_iload_n C dX7_who_47 rfl rfl ?_
  refine hc_iload_n C dX7_who_48 rfl rfl ?_
  refine hc_iload_n C dX7_who_49 rfl rfl ?_
  refine hc_cV3i C mv_X7_76 (c_X5_findingOf C.ok hj) rfl rfl rfl (Nat.le_of_ble_eq_true rfl) (hc_rr_rm (by decide)) ⟨Nat.zero_le _, Nat.zero_le _⟩ dX7_who_50 (fun r_50 M_50 h_50 => ?_)
  obtain ⟨rfl, rfl⟩ := h_50
  rw [if_neg h2, if_pos h3]
  refine hc_istore5 C dX7_who_53 (by decide) rfl ?_
  refine hc_iload C dX7_who_55 rfl ?_
  refine hc_if_eq C (tgt := 67) dX7_who_57 (by decide) (fun c_57 => ?_) (fun c_57 => ?_)
  rotate_left
  · exact absurd rfl c_57
  refine hc_aload_n C dX7_who_67 rfl rfl ?_
  refine hc_getR C fl_X7_26 rfl rfl dX7_who_68 ?_
  refine hc_aload_n C dX7_who_71 rfl rfl ?_
  refine hc_getR C fl_X7_10 rfl rfl dX7_who_72 ?_
  refine hc_iload_n C dX7_who_75 rfl rfl ?_
  refine hc_iload_n C dX7_who_76 rfl rfl ?_
  refine hc_iload_n C dX7_who_77 rfl rfl ?_
  refine hc_cS5l C ms_X7_227 (c_X2_setsThatGoSo C.ok hj hi0 hE hE6) (Nat.le_of_ble_eq_true rfl) (hc_rr_rm (by decide)) ⟨Nat.zero_le _, Nat.zero_le _⟩ dX7_who_78 (fun r_78 M_78 h_78 => ?_)
  obtain ⟨rfl, rfl⟩ := h_78
  refine hc_lstore6 C dX7_who_81 (by decide) rfl ?_
  refine hc_iload C dX7_who_83 rfl ?_
  refine hc_if_ne C (tgt := 98) dX7_who_85 (by decide) (fun c_85 => ?_) (fun c_85 => ?_)
  · exact absurd rfl c_85
  refine hc_aload_n C dX7_who_88 rfl rfl ?_
  refine hc_lload C dX7_who_89 rfl ?_
  refine hc_cS1i C ms_X7_231 (c_J13_bitCount_95d88 C.ok) (Nat.le_of_ble_eq_true rfl) (hc_rr_rm (by decide)) ⟨Nat.zero_le _, Nat.zero_le _⟩ dX7_who_91 (fun r_91 M_91 h_91 => ?_)
  obtain ⟨rfl, rfl⟩ := h_91
  refine hc_cV1i C mv_X7_73 (c_X7_foundNothing C.ok) rfl rfl rfl (Nat.le_of_ble_eq_true rfl) (hc_rr_rm (by decide)) ⟨Nat.zero_le _, Nat.zero_le _⟩ dX7_who_94 (fun r_94 M_94 h_94 => ?_)
  obtain ⟨rfl, rfl⟩ := h_94
  refine hc_iret C rfl dX7_who_97 ?_
  exact ⟨rfl, rfl⟩

set_option maxRecDepth 100000 in
set_option maxHeartbeats 4000000 in
theorem c_X7_who_o1 {l : Launch} {G : hc_Geo} (hG : hc_ok G) {M : hc_Mem} {E j i n : Nat}  (h1 : ¬ M 9 0 = 0) (hj : j < 8) (hi0 : i + n ≤ 40) (hE : M 9 5 = nI E) (hE6 : E ≤ 6) (h0 : (¬ nI n < 1 ∧ ¬ 16 < nI n) ∧ (¬ 1 < 0 ∧ ¬ 1 < (1 : Int32))) (h2 : ¬ M 2 j = -1) (h3 : ¬ nI i < 0 ∧ ¬ nI n < 0 ∧ ¬ M 3 j < nI i ∧ ¬ M 3 j - nI i < nI n) : hc_M l G yX7_who cX7_who 8 (some .int) 5 [.ref (hc_ad G 0), .int (nI j), .int (nI i), .int (nI n), .int 1] M (hc_pi (fun z M' => (if lg_cmp (hSets M E (40 * j + i) n (2 ^ E)) 0 = 0 then -1000000 else hc_nzL (hSets M E (40 * j + i) n (2 ^ E))) = z ∧ hc_ms M 0 8 0 = M')) := by
  refine hc_M.of hG (by decide) [some (.ref (hc_ad G 0)), some (.int (nI j)), some (.int (nI i)), some (.int (nI n)), some (.int 1), none, none, none] rfl (Nat.le_of_ble_eq_true rfl) ?_
  intro p e s m args below meth c C
  refine hc_aload_n C dX7_who_0 rfl rfl ?_
  refine hc_getR C fl_X7_26 rfl rfl dX7_who_1 ?_
  refine hc_getI C fl_X7_123 rfl rfl dX7_who_4 ?_
  refine hc_if_ne C (tgt := 13) dX7_who_7 (by decide) (fun c_7 => ?_) (fun c_7 => ?_)
  rotate_left
  · exact absurd c_7 h1
  refine hc_iload_n C dX7_who_13 rfl rfl ?_
  refine hc_cS1i C ms_X7_57 (c_X5_isRow C.ok) (Nat.le_of_ble_eq_true rfl) (hc_rr_rm (by decide)) ⟨Nat.zero_le _, Nat.zero_le _⟩ dX7_who_14 (fun r_14 M_14 h_14 => ?_)
  obtain ⟨rfl, rfl⟩ := h_14
  refine hc_if_eq C (tgt := 40) dX7_who_17 (by decide) (fun c_17 => ?_) (fun c_17 => ?_)
  · exact absurd (hx_row hj) (hb_z.mp c_17)
  refine hc_iload_n C dX7_who_20 rfl rfl ?_
  refine hc_iconst C dX7_who_21 (v := 1) rfl ?_
  refine hc_bipush C dX7_who_22 (v := 16) rfl ?_
  refine hc_cS3i C ms_X7_97 (c_X7_isWithin C.ok) (Nat.le_of_ble_eq_true rfl) (hc_rr_rm (by decide)) ⟨Nat.zero_le _, Nat.zero_le _⟩ dX7_who_24 (fun r_24 M_24 h_24 => ?_)
  obtain ⟨rfl, rfl⟩ := h_24
  refine hc_if_eq C (tgt := 40) dX7_who_27 (by decide) (fun c_27 => ?_) (fun c_27 => ?_)
  · exact absurd h0.1 (hb_z.mp c_27)
  refine hc_iload C dX7_who_30 rfl ?_
  refine hc_iconst C dX7_who_32 (v := 0) rfl ?_
  refine hc_iconst C dX7_who_33 (v := 1) rfl ?_
  refine hc_cS3i C ms_X7_97 (c_X7_isWithin C.ok) (Nat.le_of_ble_eq_true rfl) (hc_rr_rm (by decide)) ⟨Nat.zero_le _, Nat.zero_le _⟩ dX7_who_34 (fun r_34 M_34 h_34 => ?_)
  obtain ⟨rfl, rfl⟩ := h_34
  refine hc_if_ne C (tgt := 43) dX7_who_37 (by decide) (fun c_37 => ?_) (fun c_37 => ?_)
  rotate_left
  · exact absurd h0.2 (hb_z.mp c_37)
  refine hc_aload_n C dX7_who_43 rfl rfl ?_
  refine hc_getR C fl_X7_10 rfl rfl dX7_who_44 ?_
  refine hc_iload_n C dX7_who_47 rfl rfl ?_
  refine hc_iload_n C dX7_who_48 rfl rfl ?_
  refine hc_iload_n C dX7_who_49 rfl rfl ?_
  refine hc_cV3i C mv_X7_76 (c_X5_findingOf C.ok hj) rfl rfl rfl (Nat.le_of_ble_eq_true rfl) (hc_rr_rm (by decide)) ⟨Nat.zero_le _, Nat.zero_le _⟩ dX7_who_50 (fun r_50 M_50 h_50 => ?_)
  obtain ⟨rfl, rfl⟩ := h_50
  rw [if_neg h2, if_pos h3]
  refine hc_istore5 C dX7_who_53 (by decide) rfl ?_
  refine hc_iload C dX7_who_55 rfl ?_
  refine hc_if_eq C (tgt := 67) dX7_who_57 (by decide) (fun c_57 => ?_) (fun c_57 => ?_)
  rotate_left
  · exact absurd rfl c_57
  refine hc_aload_n C dX7_who_67 rfl rfl ?_
  refine hc_getR C fl_X7_26 rfl rfl dX7_who_68 ?_
  refine hc_aload_n C dX7_who_71 rfl rfl ?_
  refine hc_getR C fl_X7_10 rfl rfl dX7_who_72 ?_
  refine hc_iload_n C dX7_who_75 rfl rfl ?_
  refine hc_iload_n C dX7_who_76 rfl rfl ?_
  refine hc_iload_n C dX7_who_77 rfl rfl ?_
  refine hc_cS5l C ms_X7_227 (c_X2_setsThatGoSo C.ok hj hi0 hE hE6) (Nat.le_of_ble_eq_true rfl) (hc_rr_rm (by decide)) ⟨Nat.zero_le _, Nat.zero_le _⟩ dX7_who_78 (fun r_78 M_78 h_78 => ?_)
  obtain ⟨rfl, rfl⟩ := h_78
  refine hc_lstore6 C dX7_who_81 (by decide) rfl ?_
  refine hc_iload C dX7_who_83 rfl ?_
  refine hc_if_ne C (tgt := 98) dX7_who_85 (by decide) (fun c_85 => ?_) (fun c_85 => ?_)
  rotate_left
  · exact absurd c_85 (by decide)
  refine hc_aload_n C dX7_who_98 rfl rfl ?_
  refine hc_lload C dX7_who_99 rfl ?_
  refine hc_lconst C dX7_who_101 (v := 0) rfl ?_
  refine hc_lcmp C dX7_who_102 ?_
  refine hc_if_ne C (tgt := 111) dX7_who_103 (by decide) (fun c_103 => ?_) (fun c_103 => ?_)
  · refine hc_lload C dX7_who_111 rfl ?_
    refine hc_cS1i C ms_X7_236 (c_J13_numberOfTrailingZeros_95d88 C.ok) (Nat.le_of_ble_eq_true rfl) (hc_rr_rm (by decide)) ⟨Nat.zero_le _, Nat.zero_le _⟩ dX7_who_113 (fun r_113 M_113 h_113 => ?_)
    obtain ⟨rfl, rfl⟩ := h_113
    refine hc_cV1i C mv_X7_73 (c_X7_foundNothing C.ok) rfl rfl rfl (Nat.le_of_ble_eq_true rfl) (hc_rr_rm (by decide)) ⟨Nat.zero_le _, Nat.zero_le _⟩ dX7_who_116 (fun r_116 M_116 h_116 => ?_)
    obtain ⟨rfl, rfl⟩ := h_116
    refine hc_iret C rfl dX7_who_119 ?_
    refine ⟨?_, rfl⟩
    first | exact if_pos c_103 | exact if_neg c_103
  · refine hc_ldc C kc_X7_108 dX7_who_106 ?_
    refine hc_goto C (tgt := 116) dX7_who_108 (by decide) ?_
    refine hc_cV1i C mv_X7_73 (c_X7_foundNothing C.ok) rfl rfl rfl (Nat.le_of_ble_eq_true rfl) (hc_rr_rm (by decide)) ⟨Nat.zero_le _, Nat.zero_le _⟩ dX7_who_116 (fun r_116 M_116 h_116 => ?_)
    obtain ⟨rfl, rfl⟩ := h_116
    refine hc_iret C rfl dX7_who_119 ?_
    refine ⟨?_, rfl⟩
    first | exact if_pos c_103 | exact if_neg c_103

set_option maxRecDepth 100000 in
set_option maxHeartbeats 4000000 in
theorem c_X7_heed_b2 {l : Launch} {G : hc_Geo} (hG : hc_ok G) {M : hc_Mem} {E e0 : Nat} {r i n : Int32}  (hE : M 9 5 = nI E) (hE6 : E ≤ 6) (he : e0 < E) (h0 : ¬ ((¬ r < 0 ∧ ¬ 8 ≤ r) ∧ (¬ n < 1 ∧ ¬ 16 < n))) : hc_M l G yX7_heed cX7_heed 6 (some .int) 5 [.ref (hc_ad G 0), .int (nI e0), .int r, .int i, .int n] M (hc_pi (fun z M' => -1000001 = z ∧ M = M')) := by
  refine hc_M.of hG (by decide) [some (.ref (hc_ad G 0)), some (.int (nI e0)), some (.int r), some (.int i), some (.int n), none] rfl (Nat.le_of_ble_eq_true rfl) ?_
  intro p e s m args below meth c C
  refine hc_aload_n C dX7_heed_0 rfl rfl ?_
  refine hc_getR C fl_X7_26 rfl rfl dX7_heed_1 ?_
  refine hc_iload_n C dX7_heed_4 rfl rfl ?_
  refine hc_cV1i C mv_X7_141 (c_X3_hasEar C.ok) rfl rfl rfl (Nat.le_of_ble_eq_true rfl) (hc_rr_rm (by decide)) ⟨Nat.zero_le _, Nat.zero_le _⟩ dX7_heed_5 (fun r_5 M_5 h_5 => ?_)
  obtain ⟨rfl, rfl⟩ := h_5
  refine hc_if_eq C (tgt := 29) dX7_heed_8 (by decide) (fun c_8 => ?_) (fun c_8 => ?_)
  · exact absurd (hx_ear hE hE6 he) (hb_z.mp c_8)
  refine hc_iload_n C dX7_heed_11 rfl rfl ?_
  refine hc_cS1i C ms_X7_57 (c_X5_isRow C.ok) (Nat.le_of_ble_eq_true rfl) (hc_rr_rm (by decide)) ⟨Nat.zero_le _, Nat.zero_le _⟩ dX7_heed_12 (fun r_12 M_12 h_12 => ?_)
  obtain ⟨rfl, rfl⟩ := h_12
  refine hc_if_eq C (tgt := 29) dX7_heed_15 (by decide) (fun c_15 => ?_) (fun c_15 => ?_)
  · refine hc_ldc C kc_X7_64 dX7_heed_29 ?_
    refine hc_iret C rfl dX7_heed_31 ?_
    exact ⟨rfl, rfl⟩
  · refine hc_iload C dX7_heed_18 rfl ?_
    refine hc_iconst C dX7_heed_20 (v := 1) rfl ?_
    refine hc_bipush C dX7_heed_21 (v := 16) rfl ?_
    refine hc_cS3i C ms_X7_97 (c_X7_isWithin C.ok) (Nat.le_of_ble_eq_true rfl) (hc_rr_rm (by decide)) ⟨Nat.zero_le _, Nat.zero_le _⟩ dX7_heed_23 (fun r_23 M_23 h_23 => ?_)
    obtain ⟨rfl, rfl⟩ := h_23
    refine hc_if_ne C (tgt := 32) dX7_heed_26 (by decide) (fun c_26 => ?_) (fun c_26 => ?_)
    · exact absurd ⟨hb_nz.mp c_15, hb_nz.mp c_26⟩ h0
    refine hc_ldc C kc_X7_64 dX7_heed_29 ?_
    refine hc_iret C rfl dX7_heed_31 ?_
    exact ⟨rfl, rfl⟩

set_option maxRecDepth 100000 in
set_option maxHeartbeats 4000000 in
theorem c_X7_heed_m {l : Launch} {G : hc_Geo} (hG : hc_ok G) {M : hc_Mem} {E e0 j : Nat} {i n : Int32}  (hE : M 9 5 = nI E) (hE6 : E ≤ 6) (he : e0 < E) (hj : j < 8) (h0 : ¬ n < 1 ∧ ¬ 16 < n) (h2 : M 2 j = -1) : hc_M l G yX7_heed cX7_heed 6 (some .int) 5 [.ref (hc_ad G 0), .int (nI e0), .int (nI j), .int i, .int n] M (hc_pi (fun z M' => -1000011 = z ∧ hc_ms M 0 8 1 = M')) := by
  refine hc_M.of hG (by decide) [some (.ref (hc_ad G 0)), some (.int (nI e0)), some (.int (nI j)), some (.int i), some (.int n), none] rfl (Nat.le_of_ble_eq_true rfl) ?_
  intro p e s m args below meth c C
  refine hc_aload_n C dX7_heed_0 rfl rfl ?_
  refine hc_getR C fl_X7_26 rfl rfl dX7_heed_1 ?_
  refine hc_iload_n C dX7_heed_4 rfl rfl ?_
  refine hc_cV1i C mv_X7_141 (c_X3_hasEar C.ok) rfl rfl rfl (Nat.le_of_ble_eq_true rfl) (hc_rr_rm (by decide)) ⟨Nat.zero_le _, Nat.zero_le _⟩ dX7_heed_5 (fun r_5 M_5 h_5 => ?_)
  obtain ⟨rfl, rfl⟩ := h_5
  refine hc_if_eq C (tgt := 29) dX7_heed_8 (by decide) (fun c_8 => ?_) (fun c_8 => ?_)
  · exact absurd (hx_ear hE hE6 he) (hb_z.mp c_8)
  refine hc_iload_n C dX7_heed_11 rfl rfl ?_
  refine hc_cS1i C ms_X7_57 (c_X5_isRow C.ok) (Nat.le_of_ble_eq_true rfl) (hc_rr_rm (by decide)) ⟨Nat.zero_le _, Nat.zero_le _⟩ dX7_heed_12 (fun r_12 M_12 h_12 => ?_)
  obtain ⟨rfl, rfl⟩ := h_12
  refine hc_if_eq C (tgt := 29) dX7_heed_15 (by decide) (fun c_15 => ?_) (fun c_15 => ?_)
  · exact absurd (hx_row hj) (hb_z.mp c_15)
  refine hc_iload C dX7_heed_18 rfl ?_
  refine hc_iconst C dX7_heed_20 (v := 1) rfl ?_
  refine hc_bipush C dX7_heed_21 (v := 16) rfl ?_
  refine hc_cS3i C ms_X7_97 (c_X7_isWithin C.ok) (Nat.le_of_ble_eq_true rfl) (hc_rr_rm (by decide)) ⟨Nat.zero_le _, Nat.zero_le _⟩ dX7_heed_23 (fun r_23 M_23 h_23 => ?_)
  obtain ⟨rfl, rfl⟩ := h_23
  refine hc_if_ne C (tgt := 32) dX7_heed_26 (by decide) (fun c_26 => ?_) (fun c_26 => ?_)
  rotate_left
  · exact absurd h0 (hb_z.mp c_26)
  refine hc_aload_n C dX7_heed_32 rfl rfl ?_
  refine hc_getR C fl_X7_10 rfl rfl dX7_heed_33 ?_
  refine hc_iload_n C dX7_heed_36 rfl rfl ?_
  refine hc_iload_n C dX7_heed_37 rfl rfl ?_
  refine hc_iload C dX7_heed_38 rfl ?_
  refine hc_cV3i C mv_X7_76 (c_X5_findingOf C.ok hj) rfl rfl rfl (Nat.le_of_ble_eq_true rfl) (hc_rr_rm (by decide)) ⟨Nat.zero_le _, Nat.zero_le _⟩ dX7_heed_40 (fun r_40 M_40 h_40 => ?_)
  obtain ⟨rfl, rfl⟩ := h_40
  rw [if_pos h2]
  refine hc_istore5 C dX7_heed_43 (by decide) rfl ?_
  refine hc_iload C dX7_heed_45 rfl ?_
  refine hc_if_eq C (tgt := 57) dX7_heed_47 (by decide) (fun c_47 => ?_) (fun c_47 => ?_)
  · exact absurd c_47 (by decide)
  refine hc_aload_n C dX7_heed_50 rfl rfl ?_
  refine hc_iload C dX7_heed_51 rfl ?_
  refine hc_cV1i C mv_X7_65 (c_X7_found C.ok) rfl rfl rfl (Nat.le_of_ble_eq_true rfl) (hc_rr_rm (by decide)) ⟨Nat.zero_le _, Nat.zero_le _⟩ dX7_heed_53 (fun r_53 M_53 h_53 => ?_)
  obtain ⟨rfl, rfl⟩ := h_53
  refine hc_iret C rfl dX7_heed_56 ?_
  exact ⟨rfl, rfl⟩

set_option maxRecDepth 100000 in
set_option maxHeartbeats 4000000 in
theorem c_X7_heed_p {l : Launch} {G : hc_Geo} (hG : hc_ok G) {M : hc_Mem} {E e0 j : Nat} {i n : Int32}  (hE : M 9 5 = nI E) (hE6 : E ≤ 6) (he : e0 < E) (hj : j < 8) (h0 : ¬ n < 1 ∧ ¬ 16 < n) (h2 : ¬ M 2 j = -1) (h3 : ¬ (¬ i < 0 ∧ ¬ n < 0 ∧ ¬ M 3 j < i ∧ ¬ M 3 j - i < n)) : hc_M l G yX7_heed cX7_heed 6 (some .int) 5 [.ref (hc_ad G 0), .int (nI e0), .int (nI j), .int i, .int n] M (hc_pi (fun z M' => -1000012 = z ∧ hc_ms M 0 8 2 = M')) := by
  refine hc_M.of hG (by decide) [some (.ref (hc_ad G 0)), some (.int (nI e0)), some (.int (nI j)), some (.int i), some (.int n), none] rfl (Nat.le_of_ble_eq_true rfl) ?_
  intro p e s m args below meth c C
  refine hc_aload_n C dX7_heed_0 rfl rfl ?_
  refine hc_getR C fl_X7_26 rfl rfl dX7_heed_1 ?_
  refine hc_iload_n C dX7_heed_4 rfl rfl ?_
  refine hc_cV1i C mv_X7_141 (c_X3_hasEar C.ok) rfl rfl rfl (Nat.le_of_ble_eq_true rfl) (hc_rr_rm (by decide)) ⟨Nat.zero_le _, Nat.zero_le _⟩ dX7_heed_5 (fun r_5 M_5 h_5 => ?_)
  obtain ⟨rfl, rfl⟩ := h_5
  refine hc_if_eq C (tgt := 29) dX7_heed_8 (by decide) (fun c_8 => ?_) (fun c_8 => ?_)
  · exact absurd (hx_ear hE hE6 he) (hb_z.mp c_8)
  refine hc_iload_n C dX7_heed_11 rfl rfl ?_
  refine hc_cS1i C ms_X7_57 (c_X5_isRow C.ok) (Nat.le_of_ble_eq_true rfl) (hc_rr_rm (by decide)) ⟨Nat.zero_le _, Nat.zero_le _⟩ dX7_heed_12 (fun r_12 M_12 h_12 => ?_)
  obtain ⟨rfl, rfl⟩ := h_12
  refine hc_if_eq C (tgt := 29) dX7_heed_15 (by decide) (fun c_15 => ?_) (fun c_15 => ?_)
  · exact absurd (hx_row hj) (hb_z.mp c_15)
  refine hc_iload C dX7_heed_18 rfl ?_
  refine hc_iconst C dX7_heed_20 (v := 1) rfl ?_
  refine hc_bipush C dX7_heed_21 (v := 16) rfl ?_
  refine hc_cS3i C ms_X7_97 (c_X7_isWithin C.ok) (Nat.le_of_ble_eq_true rfl) (hc_rr_rm (by decide)) ⟨Nat.zero_le _, Nat.zero_le _⟩ dX7_heed_23 (fun r_23 M_23 h_23 => ?_)
  obtain ⟨rfl, rfl⟩ := h_23
  refine hc_if_ne C (tgt := 32) dX7_heed_26 (by decide) (fun c_26 => ?_) (fun c_26 => ?_)
  rotate_left
  · exact absurd h0 (hb_z.mp c_26)
  refine hc_aload_n C dX7_heed_32 rfl rfl ?_
  refine hc_getR C fl_X7_10 rfl rfl dX7_heed_33 ?_
  refine hc_iload_n C dX7_heed_36 rfl rfl ?_
  refine hc_iload_n C dX7_heed_37 rfl rfl ?_
  refine hc_iload C dX7_heed_38 rfl ?_
  refine hc_cV3i C mv_X7_76 (c_X5_findingOf C.ok hj) rfl rfl rfl (Nat.le_of_ble_eq_true rfl) (hc_rr_rm (by decide)) ⟨Nat.zero_le _, Nat.zero_le _⟩ dX7_heed_40 (fun r_40 M_40 h_40 => ?_)
  obtain ⟨rfl, rfl⟩ := h_40
  rw [if_neg h2, if_neg h3]
  refine hc_istore5 C dX7_heed_43 (by decide) rfl ?_
  refine hc_iload C dX7_heed_45 rfl ?_
  refine hc_if_eq C (tgt := 57) dX7_heed_47 (by decide) (fun c_47 => ?_) (fun c_47 => ?_)
  · exact absurd c_47 (by decide)
  refine hc_aload_n C dX7_heed_50 rfl rfl ?_
  refine hc_iload C dX7_heed_51 rfl ?_
  refine hc_cV1i C mv_X7_65 (c_X7_found C.ok) rfl rfl rfl (Nat.le_of_ble_eq_true rfl) (hc_rr_rm (by decide)) ⟨Nat.zero_le _, Nat.zero_le _⟩ dX7_heed_53 (fun r_53 M_53 h_53 => ?_)
  obtain ⟨rfl, rfl⟩ := h_53
  refine hc_iret C rfl dX7_heed_56 ?_
  exact ⟨rfl, rfl⟩

set_option maxRecDepth 100000 in
set_option maxHeartbeats 4000000 in
theorem c_X7_heed_o {l : Launch} {G : hc_Geo} (hG : hc_ok G) {M : hc_Mem} {E e0 j i n : Nat}  (hE : M 9 5 = nI E) (hE6 : E ≤ 6) (he : e0 < E) (hj : j < 8) (hi0 : i + n ≤ 40) (h0 : ¬ nI n < 1 ∧ ¬ 16 < nI n) (h2 : ¬ M 2 j = -1) (h3 : ¬ nI i < 0 ∧ ¬ nI n < 0 ∧ ¬ M 3 j < nI i ∧ ¬ M 3 j - nI i < nI n) : hc_M l G yX7_heed cX7_heed 6 (some .int) 5 [.ref (hc_ad G 0), .int (nI e0), .int (nI j), .int (nI i), .int (nI n)] M (hc_pi (fun z M' => hHds M E e0 (40 * j + i) n 12 = z ∧ hc_ms M 0 8 0 = M')) := by
  refine hc_M.of hG (by decide) [some (.ref (hc_ad G 0)), some (.int (nI e0)), some (.int (nI j)), some (.int (nI i)), some (.int (nI n)), none] rfl (Nat.le_of_ble_eq_true rfl) ?_
  intro p e s m args below meth c C
  refine hc_aload_n C dX7_heed_0 rfl rfl ?_
  refine hc_getR C fl_X7_26 rfl rfl dX7_heed_1 ?_
  refine hc_iload_n C dX7_heed_4 rfl rfl ?_
  refine hc_cV1i C mv_X7_141 (c_X3_hasEar C.ok) rfl rfl rfl (Nat.le_of_ble_eq_true rfl) (hc_rr_rm (by decide)) ⟨Nat.zero_le _, Nat.zero_le _⟩ dX7_heed_5 (fun r_5 M_5 h_5 => ?_)
  obtain ⟨rfl, rfl⟩ := h_5
  refine hc_if_eq C (tgt := 29) dX7_heed_8 (by decide) (fun c_8 => ?_) (fun c_8 => ?_)
  · exact absurd (hx_ear hE hE6 he) (hb_z.mp c_8)
  refine hc_iload_n C dX7_heed_11 rfl rfl ?_
  refine hc_cS1i C ms_X7_57 (c_X5_isRow C.ok) (Nat.le_of_ble_eq_true rfl) (hc_rr_rm (by decide)) ⟨Nat.zero_le _, Nat.zero_le _⟩ dX7_heed_12 (fun r_12 M_12 h_12 => ?_)
  obtain ⟨rfl, rfl⟩ := h_12
  refine hc_if_eq C (tgt := 29) dX7_heed_15 (by decide) (fun c_15 => ?_) (fun c_15 => ?_)
  · exact absurd (hx_row hj) (hb_z.mp c_15)
  refine hc_iload C dX7_heed_18 rfl ?_
  refine hc_iconst C dX7_heed_20 (v := 1) rfl ?_
  refine hc_bipush C dX7_heed_21 (v := 16) rfl ?_
  refine hc_cS3i C ms_X7_97 (c_X7_isWithin C.ok) (Nat.le_of_ble_eq_true rfl) (hc_rr_rm (by decide)) ⟨Nat.zero_le _, Nat.zero_le _⟩ dX7_heed_23 (fun r_23 M_23 h_23 => ?_)
  obtain ⟨rfl, rfl⟩ := h_23
  refine hc_if_ne C (tgt := 32) dX7_heed_26 (by decide) (fun c_26 => ?_) (fun c_26 => ?_)
  rotate_left
  · exact absurd h0 (hb_z.mp c_26)
  refine hc_aload_n C dX7_heed_32 rfl rfl ?_
  refine hc_getR C fl_X7_10 rfl rfl dX7_heed_33 ?_
  refine hc_iload_n C dX7_heed_36 rfl rfl ?_
  refine hc_iload_n C dX7_heed_37 rfl rfl ?_
  refine hc_iload C dX7_heed_38 rfl ?_
  refine hc_cV3i C mv_X7_76 (c_X5_findingOf C.ok hj) rfl rfl rfl (Nat.le_of_ble_eq_true rfl) (hc_rr_rm (by decide)) ⟨Nat.zero_le _, Nat.zero_le _⟩ dX7_heed_40 (fun r_40 M_40 h_40 => ?_)
  obtain ⟨rfl, rfl⟩ := h_40
  rw [if_neg h2, if_pos h3]
  refine hc_istore5 C dX7_heed_43 (by decide) rfl ?_
  refine hc_iload C dX7_heed_45 rfl ?_
  refine hc_if_eq C (tgt := 57) dX7_heed_47 (by decide) (fun c_47 => ?_) (fun c_47 => ?_)
  rotate_left
  · exact absurd rfl c_47
  refine hc_aload_n C dX7_heed_57 rfl rfl ?_
  refine hc_aload_n C dX7_heed_58 rfl rfl ?_
  refine hc_getR C fl_X7_26 rfl rfl dX7_heed_59 ?_
  refine hc_iload_n C dX7_heed_62 rfl rfl ?_
  refine hc_aload_n C dX7_heed_63 rfl rfl ?_
  refine hc_getR C fl_X7_10 rfl rfl dX7_heed_64 ?_
  refine hc_iload_n C dX7_heed_67 rfl rfl ?_
  refine hc_iload_n C dX7_heed_68 rfl rfl ?_
  refine hc_iload C dX7_heed_69 rfl ?_
  refine hc_cS6i C ms_X7_239 (c_X2_heedsThatGoSo C.ok (by omega) hj hi0 hE hE6) (Nat.le_of_ble_eq_true rfl) (hc_rr_rm (by decide)) ⟨Nat.zero_le _, Nat.zero_le _⟩ dX7_heed_71 (fun r_71 M_71 h_71 => ?_)
  obtain ⟨rfl, rfl⟩ := h_71
  refine hc_cV1i C mv_X7_73 (c_X7_foundNothing C.ok) rfl rfl rfl (Nat.le_of_ble_eq_true rfl) (hc_rr_rm (by decide)) ⟨Nat.zero_le _, Nat.zero_le _⟩ dX7_heed_74 (fun r_74 M_74 h_74 => ?_)
  obtain ⟨rfl, rfl⟩ := h_74
  refine hc_iret C rfl dX7_heed_77 ?_
  exact ⟨rfl, rfl⟩

set_option maxRecDepth 100000 in
set_option maxHeartbeats 4000000 in
theorem c_X7_image_o0 {l : Launch} {G : hc_Geo} (hG : hc_ok G) {M : hc_Mem} {q0 : Nat}  (h1 : ¬ M 9 0 = 0) (hq : M 9 2 = nI q0) (hq9 : q0 ≤ 999) (hz : M 9 0 = 0 ∨ M 9 0 = 1) : hc_M l G yX7_image cX7_image 2 (some .int) 3 [.ref (hc_ad G 0), .int 0] M (hc_pi (fun z M' => 1 = z ∧ hLike_20_9 M q0 = M')) := by
  refine hc_M.of hG (by decide) [some (.ref (hc_ad G 0)), some (.int 0)] rfl (Nat.le_of_ble_eq_true rfl) ?_
  intro p e s m args below meth c C
  refine hc_iload_n C dX7_image_0 rfl rfl ?_
  refine hc_iconst C dX7_image_1 (v := 0) rfl ?_
  refine hc_iconst C dX7_image_2 (v := 1) rfl ?_
  refine hc_cS3i C ms_X7_97 (c_X7_isWithin C.ok) (Nat.le_of_ble_eq_true rfl) (hc_rr_rm (by decide)) ⟨Nat.zero_le _, Nat.zero_le _⟩ dX7_image_3 (fun r_3 M_3 h_3 => ?_)
  obtain ⟨rfl, rfl⟩ := h_3
  refine hc_if_ne C (tgt := 12) dX7_image_6 (by decide) (fun c_6 => ?_) (fun c_6 => ?_)
  rotate_left
  · exact absurd (by decide) (hb_z.mp c_6)
  refine hc_aload_n C dX7_image_12 rfl rfl ?_
  refine hc_getR C fl_X7_26 rfl rfl dX7_image_13 ?_
  refine hc_getI C fl_X7_123 rfl rfl dX7_image_16 ?_
  refine hc_if_ne C (tgt := 25) dX7_image_19 (by decide) (fun c_19 => ?_) (fun c_19 => ?_)
  rotate_left
  · exact absurd c_19 h1
  refine hc_aload_n C dX7_image_25 rfl rfl ?_
  refine hc_iload_n C dX7_image_26 rfl rfl ?_
  refine hc_cV1r C mv_X7_255 (c_X7_imageAt_0 C.ok) rfl rfl rfl (Nat.le_of_ble_eq_true rfl) (hc_rr_rm (by decide)) ⟨Nat.zero_le _, Nat.zero_le _⟩ dX7_image_27 (fun r_27 M_27 h_27 => ?_)
  obtain ⟨rfl, rfl⟩ := h_27
  refine hc_aload_n C dX7_image_30 rfl rfl ?_
  refine hc_getR C fl_X7_26 rfl rfl dX7_image_31 ?_
  refine hc_cV1v C mv_X7_259 (c_X3_becomeLike_20_9 C.ok hq hq9 hz) rfl rfl rfl (Nat.le_of_ble_eq_true rfl) (hc_rr_rm (by decide)) ⟨Nat.zero_le _, Nat.zero_le _⟩ dX7_image_34 (fun M_34 h_34 => ?_)
  obtain rfl := h_34
  refine hc_iconst C dX7_image_37 (v := 1) rfl ?_
  refine hc_iret C rfl dX7_image_38 ?_
  exact ⟨rfl, rfl⟩

set_option maxRecDepth 100000 in
set_option maxHeartbeats 4000000 in
theorem c_X7_restore_o0 {l : Launch} {G : hc_Geo} (hG : hc_ok G) {M : hc_Mem} {q0 : Nat}  (h1 : ¬ M 20 0 = 0) (hq : M 20 2 = nI q0) (hq9 : q0 ≤ 999) (hz : M 20 0 = 0 ∨ M 20 0 = 1) : hc_M l G yX7_restore cX7_restore 3 (some .int) 3 [.ref (hc_ad G 0), .int 0] M (hc_pi (fun z M' => 1 = z ∧ hc_ms (hLike_9_20 M q0) 42 3 0 = M')) := by
  refine hc_M.of hG (by decide) [some (.ref (hc_ad G 0)), some (.int 0), none] rfl (Nat.le_of_ble_eq_true rfl) ?_
  intro p e s m args below meth c C
  refine hc_iload_n C dX7_restore_0 rfl rfl ?_
  refine hc_iconst C dX7_restore_1 (v := 0) rfl ?_
  refine hc_iconst C dX7_restore_2 (v := 1) rfl ?_
  refine hc_cS3i C ms_X7_97 (c_X7_isWithin C.ok) (Nat.le_of_ble_eq_true rfl) (hc_rr_rm (by decide)) ⟨Nat.zero_le _, Nat.zero_le _⟩ dX7_restore_3 (fun r_3 M_3 h_3 => ?_)
  obtain ⟨rfl, rfl⟩ := h_3
  refine hc_if_ne C (tgt := 12) dX7_restore_6 (by decide) (fun c_6 => ?_) (fun c_6 => ?_)
  rotate_left
  · exact absurd (by decide) (hb_z.mp c_6)
  refine hc_aload_n C dX7_restore_12 rfl rfl ?_
  refine hc_iload_n C dX7_restore_13 rfl rfl ?_
  refine hc_cV1r C mv_X7_255 (c_X7_imageAt_0 C.ok) rfl rfl rfl (Nat.le_of_ble_eq_true rfl) (hc_rr_rm (by decide)) ⟨Nat.zero_le _, Nat.zero_le _⟩ dX7_restore_14 (fun r_14 M_14 h_14 => ?_)
  obtain ⟨rfl, rfl⟩ := h_14
  refine hc_astore_n2 C dX7_restore_17 rfl (by decide) rfl ?_
  refine hc_aload_n C dX7_restore_18 rfl rfl ?_
  refine hc_getI C fl_X7_123 rfl rfl dX7_restore_19 ?_
  refine hc_if_ne C (tgt := 28) dX7_restore_22 (by decide) (fun c_22 => ?_) (fun c_22 => ?_)
  rotate_left
  · exact absurd c_22 h1
  refine hc_aload_n C dX7_restore_28 rfl rfl ?_
  refine hc_getR C fl_X7_26 rfl rfl dX7_restore_29 ?_
  refine hc_aload_n C dX7_restore_32 rfl rfl ?_
  refine hc_cV1v C mv_X7_259 (c_X3_becomeLike_9_20 C.ok hq hq9 hz) rfl rfl rfl (Nat.le_of_ble_eq_true rfl) (hc_rr_rm (by decide)) ⟨Nat.zero_le _, Nat.zero_le _⟩ dX7_restore_33 (fun M_33 h_33 => ?_)
  obtain rfl := h_33
  refine hc_aload_n C dX7_restore_36 rfl rfl ?_
  refine hc_getR C fl_X7_39 rfl rfl dX7_restore_37 ?_
  refine hc_cV0v C mv_X7_117 (c_X0_forgetAll C.ok) rfl rfl rfl (Nat.le_of_ble_eq_true rfl) (hc_rr_rm (by decide)) ⟨Nat.zero_le _, Nat.zero_le _⟩ dX7_restore_40 (fun M_40 h_40 => ?_)
  obtain rfl := h_40
  refine hc_iconst C dX7_restore_43 (v := 1) rfl ?_
  refine hc_iret C rfl dX7_restore_44 ?_
  exact ⟨rfl, rfl⟩

set_option maxRecDepth 100000 in
set_option maxHeartbeats 4000000 in
theorem c_X7_image_o1 {l : Launch} {G : hc_Geo} (hG : hc_ok G) {M : hc_Mem} {q0 : Nat}  (h1 : ¬ M 9 0 = 0) (hq : M 9 2 = nI q0) (hq9 : q0 ≤ 999) (hz : M 9 0 = 0 ∨ M 9 0 = 1) : hc_M l G yX7_image cX7_image 2 (some .int) 3 [.ref (hc_ad G 0), .int 1] M (hc_pi (fun z M' => 1 = z ∧ hLike_31_9 M q0 = M')) := by
  refine hc_M.of hG (by decide) [some (.ref (hc_ad G 0)), some (.int 1)] rfl (Nat.le_of_ble_eq_true rfl) ?_
  intro p e s m args below meth c C
  refine hc_iload_n C dX7_image_0 rfl rfl ?_
  refine hc_iconst C dX7_image_1 (v := 0) rfl ?_
  refine hc_iconst C dX7_image_2 (v := 1) rfl ?_
  refine hc_cS3i C ms_X7_97 (c_X7_isWithin C.ok) (Nat.le_of_ble_eq_true rfl) (hc_rr_rm (by decide)) ⟨Nat.zero_le _, Nat.zero_le _⟩ dX7_image_3 (fun r_3 M_3 h_3 => ?_)
  obtain ⟨rfl, rfl⟩ := h_3
  refine hc_if_ne C (tgt := 12) dX7_image_6 (by decide) (fun c_6 => ?_) (fun c_6 => ?_)
  rotate_left
  · exact absurd (by decide) (hb_z.mp c_6)
  refine hc_aload_n C dX7_image_12 rfl rfl ?_
  refine hc_getR C fl_X7_26 rfl rfl dX7_image_13 ?_
  refine hc_getI C fl_X7_123 rfl rfl dX7_image_16 ?_
  refine hc_if_ne C (tgt := 25) dX7_image_19 (by decide) (fun c_19 => ?_) (fun c_19 => ?_)
  rotate_left
  · exact absurd c_19 h1
  refine hc_aload_n C dX7_image_25 rfl rfl ?_
  refine hc_iload_n C dX7_image_26 rfl rfl ?_
  refine hc_cV1r C mv_X7_255 (c_X7_imageAt_1 C.ok) rfl rfl rfl (Nat.le_of_ble_eq_true rfl) (hc_rr_rm (by decide)) ⟨Nat.zero_le _, Nat.zero_le _⟩ dX7_image_27 (fun r_27 M_27 h_27 => ?_)
  obtain ⟨rfl, rfl⟩ := h_27
  refine hc_aload_n C dX7_image_30 rfl rfl ?_
  refine hc_getR C fl_X7_26 rfl rfl dX7_image_31 ?_
  refine hc_cV1v C mv_X7_259 (c_X3_becomeLike_31_9 C.ok hq hq9 hz) rfl rfl rfl (Nat.le_of_ble_eq_true rfl) (hc_rr_rm (by decide)) ⟨Nat.zero_le _, Nat.zero_le _⟩ dX7_image_34 (fun M_34 h_34 => ?_)
  obtain rfl := h_34
  refine hc_iconst C dX7_image_37 (v := 1) rfl ?_
  refine hc_iret C rfl dX7_image_38 ?_
  exact ⟨rfl, rfl⟩

set_option maxRecDepth 100000 in
set_option maxHeartbeats 4000000 in
theorem c_X7_restore_o1 {l : Launch} {G : hc_Geo} (hG : hc_ok G) {M : hc_Mem} {q0 : Nat}  (h1 : ¬ M 31 0 = 0) (hq : M 31 2 = nI q0) (hq9 : q0 ≤ 999) (hz : M 31 0 = 0 ∨ M 31 0 = 1) : hc_M l G yX7_restore cX7_restore 3 (some .int) 3 [.ref (hc_ad G 0), .int 1] M (hc_pi (fun z M' => 1 = z ∧ hc_ms (hLike_9_31 M q0) 42 3 0 = M')) := by
  refine hc_M.of hG (by decide) [some (.ref (hc_ad G 0)), some (.int 1), none] rfl (Nat.le_of_ble_eq_true rfl) ?_
  intro p e s m args below meth c C
  refine hc_iload_n C dX7_restore_0 rfl rfl ?_
  refine hc_iconst C dX7_restore_1 (v := 0) rfl ?_
  refine hc_iconst C dX7_restore_2 (v := 1) rfl ?_
  refine hc_cS3i C ms_X7_97 (c_X7_isWithin C.ok) (Nat.le_of_ble_eq_true rfl) (hc_rr_rm (by decide)) ⟨Nat.zero_le _, Nat.zero_le _⟩ dX7_restore_3 (fun r_3 M_3 h_3 => ?_)
  obtain ⟨rfl, rfl⟩ := h_3
  refine hc_if_ne C (tgt := 12) dX7_restore_6 (by decide) (fun c_6 => ?_) (fun c_6 => ?_)
  rotate_left
  · exact absurd (by decide) (hb_z.mp c_6)
  refine hc_aload_n C dX7_restore_12 rfl rfl ?_
  refine hc_iload_n C dX7_restore_13 rfl rfl ?_
  refine hc_cV1r C mv_X7_255 (c_X7_imageAt_1 C.ok) rfl rfl rfl (Nat.le_of_ble_eq_true rfl) (hc_rr_rm (by decide)) ⟨Nat.zero_le _, Nat.zero_le _⟩ dX7_restore_14 (fun r_14 M_14 h_14 => ?_)
  obtain ⟨rfl, rfl⟩ := h_14
  refine hc_astore_n2 C dX7_restore_17 rfl (by decide) rfl ?_
  refine hc_aload_n C dX7_restore_18 rfl rfl ?_
  refine hc_getI C fl_X7_123 rfl rfl dX7_restore_19 ?_
  refine hc_if_ne C (tgt := 28) dX7_restore_22 (by decide) (fun c_22 => ?_) (fun c_22 => ?_)
  rotate_left
  · exact absurd c_22 h1
  refine hc_aload_n C dX7_restore_28 rfl rfl ?_
  refine hc_getR C fl_X7_26 rfl rfl dX7_restore_29 ?_
  refine hc_aload_n C dX7_restore_32 rfl rfl ?_
  refine hc_cV1v C mv_X7_259 (c_X3_becomeLike_9_31 C.ok hq hq9 hz) rfl rfl rfl (Nat.le_of_ble_eq_true rfl) (hc_rr_rm (by decide)) ⟨Nat.zero_le _, Nat.zero_le _⟩ dX7_restore_33 (fun M_33 h_33 => ?_)
  obtain rfl := h_33
  refine hc_aload_n C dX7_restore_36 rfl rfl ?_
  refine hc_getR C fl_X7_39 rfl rfl dX7_restore_37 ?_
  refine hc_cV0v C mv_X7_117 (c_X0_forgetAll C.ok) rfl rfl rfl (Nat.le_of_ble_eq_true rfl) (hc_rr_rm (by decide)) ⟨Nat.zero_le _, Nat.zero_le _⟩ dX7_restore_40 (fun M_40 h_40 => ?_)
  obtain rfl := h_40
  refine hc_iconst C dX7_restore_43 (v := 1) rfl ?_
  refine hc_iret C rfl dX7_restore_44 ?_
  exact ⟨rfl, rfl⟩

set_option maxRecDepth 100000 in
set_option maxHeartbeats 4000000 in
theorem c_X7_kind_o {l : Launch} {G : hc_Geo} (hG : hc_ok G) {M : hc_Mem} {E e0 : Nat}  (hE : M 9 5 = nI E) (hE6 : E ≤ 6) (he : e0 < E) : hc_M l G yX7_kind cX7_kind 2 (some .int) 2 [.ref (hc_ad G 0), .int (nI e0)] M (hc_pi (fun z M' => M 10 e0 = z ∧ M = M')) := by
  refine hc_M.of hG (by decide) [some (.ref (hc_ad G 0)), some (.int (nI e0))] rfl (Nat.le_of_ble_eq_true rfl) ?_
  intro p e s m args below meth c C
  refine hc_aload_n C dX7_kind_0 rfl rfl ?_
  refine hc_getR C fl_X7_26 rfl rfl dX7_kind_1 ?_
  refine hc_iload_n C dX7_kind_4 rfl rfl ?_
  refine hc_cV1i C mv_X7_141 (c_X3_hasEar C.ok) rfl rfl rfl (Nat.le_of_ble_eq_true rfl) (hc_rr_rm (by decide)) ⟨Nat.zero_le _, Nat.zero_le _⟩ dX7_kind_5 (fun r_5 M_5 h_5 => ?_)
  obtain ⟨rfl, rfl⟩ := h_5
  refine hc_if_eq C (tgt := 23) dX7_kind_8 (by decide) (fun c_8 => ?_) (fun c_8 => ?_)
  · exact absurd (hx_ear hE hE6 he) (hb_z.mp c_8)
  refine hc_aload_n C dX7_kind_11 rfl rfl ?_
  refine hc_getR C fl_X7_26 rfl rfl dX7_kind_12 ?_
  refine hc_getR C fl_X7_262 rfl rfl dX7_kind_15 ?_
  refine hc_iload_n C dX7_kind_18 rfl rfl ?_
  refine hc_ialdN C (j := e0) rfl rfl (by omega) dX7_kind_19 ?_
  refine hc_goto C (tgt := 25) dX7_kind_20 (by decide) ?_
  refine hc_iret C rfl dX7_kind_25 ?_
  exact ⟨rfl, rfl⟩

set_option maxRecDepth 100000 in
set_option maxHeartbeats 4000000 in
theorem c_X7_as_b2 {l : Launch} {G : hc_Geo} (hG : hc_ok G) {M : hc_Mem} {E e0 : Nat} {v : Int32}  (hE : M 9 5 = nI E) (hE6 : E ≤ 6) (he : e0 < E) (h0 : ¬ (¬ v < 0 ∧ ¬ 5 < v)) : hc_M l G yX7_as cX7_as 3 (some .int) 4 [.ref (hc_ad G 0), .int (nI e0), .int v] M (hc_pi (fun z M' => -1000001 = z ∧ M = M')) := by
  refine hc_M.of hG (by decide) [some (.ref (hc_ad G 0)), some (.int (nI e0)), some (.int v)] rfl (Nat.le_of_ble_eq_true rfl) ?_
  intro p e s m args below meth c C
  refine hc_aload_n C dX7_as_0 rfl rfl ?_
  refine hc_getR C fl_X7_26 rfl rfl dX7_as_1 ?_
  refine hc_iload_n C dX7_as_4 rfl rfl ?_
  refine hc_cV1i C mv_X7_141 (c_X3_hasEar C.ok) rfl rfl rfl (Nat.le_of_ble_eq_true rfl) (hc_rr_rm (by decide)) ⟨Nat.zero_le _, Nat.zero_le _⟩ dX7_as_5 (fun r_5 M_5 h_5 => ?_)
  obtain ⟨rfl, rfl⟩ := h_5
  refine hc_if_eq C (tgt := 18) dX7_as_8 (by decide) (fun c_8 => ?_) (fun c_8 => ?_)
  · exact absurd (hx_ear hE hE6 he) (hb_z.mp c_8)
  refine hc_iload_n C dX7_as_11 rfl rfl ?_
  refine hc_cS1i C ms_X7_265 (c_X4_isKind C.ok) (Nat.le_of_ble_eq_true rfl) (hc_rr_rm (by decide)) ⟨Nat.zero_le _, Nat.zero_le _⟩ dX7_as_12 (fun r_12 M_12 h_12 => ?_)
  obtain ⟨rfl, rfl⟩ := h_12
  refine hc_if_ne C (tgt := 21) dX7_as_15 (by decide) (fun c_15 => ?_) (fun c_15 => ?_)
  · exact absurd (hb_f h0) c_15
  refine hc_ldc C kc_X7_64 dX7_as_18 ?_
  refine hc_iret C rfl dX7_as_20 ?_
  exact ⟨rfl, rfl⟩

set_option maxRecDepth 100000 in
set_option maxHeartbeats 4000000 in
theorem c_X7_as_f {l : Launch} {G : hc_Geo} (hG : hc_ok G) {M : hc_Mem} {E e0 : Nat} {v : Int32}  (hE : M 9 5 = nI E) (hE6 : E ≤ 6) (he : e0 < E) (h0 : ¬ v < 0 ∧ ¬ 5 < v) (h2 : ¬ hOne v 3 (M 10 e0) = v) : hc_M l G yX7_as cX7_as 3 (some .int) 4 [.ref (hc_ad G 0), .int (nI e0), .int v] M (hc_pi (fun z M' => -1000013 = z ∧ hc_ms M 0 8 3 = M')) := by
  refine hc_M.of hG (by decide) [some (.ref (hc_ad G 0)), some (.int (nI e0)), some (.int v)] rfl (Nat.le_of_ble_eq_true rfl) ?_
  intro p e s m args below meth c C
  refine hc_aload_n C dX7_as_0 rfl rfl ?_
  refine hc_getR C fl_X7_26 rfl rfl dX7_as_1 ?_
  refine hc_iload_n C dX7_as_4 rfl rfl ?_
  refine hc_cV1i C mv_X7_141 (c_X3_hasEar C.ok) rfl rfl rfl (Nat.le_of_ble_eq_true rfl) (hc_rr_rm (by decide)) ⟨Nat.zero_le _, Nat.zero_le _⟩ dX7_as_5 (fun r_5 M_5 h_5 => ?_)
  obtain ⟨rfl, rfl⟩ := h_5
  refine hc_if_eq C (tgt := 18) dX7_as_8 (by decide) (fun c_8 => ?_) (fun c_8 => ?_)
  · exact absurd (hx_ear hE hE6 he) (hb_z.mp c_8)
  refine hc_iload_n C dX7_as_11 rfl rfl ?_
  refine hc_cS1i C ms_X7_265 (c_X4_isKind C.ok) (Nat.le_of_ble_eq_true rfl) (hc_rr_rm (by decide)) ⟨Nat.zero_le _, Nat.zero_le _⟩ dX7_as_12 (fun r_12 M_12 h_12 => ?_)
  obtain ⟨rfl, rfl⟩ := h_12
  refine hc_if_ne C (tgt := 21) dX7_as_15 (by decide) (fun c_15 => ?_) (fun c_15 => ?_)
  rotate_left
  · exact absurd h0 (hb_z.mp c_15)
  refine hc_aload_n C dX7_as_21 rfl rfl ?_
  refine hc_getR C fl_X7_26 rfl rfl dX7_as_22 ?_
  refine hc_getR C fl_X7_262 rfl rfl dX7_as_25 ?_
  refine hc_iload_n C dX7_as_28 rfl rfl ?_
  refine hc_ialdN C (j := e0) rfl rfl (by omega) dX7_as_29 ?_
  refine hc_iload_n C dX7_as_30 rfl rfl ?_
  refine hc_cS2i C ms_X7_270 (c_X4_isOneOf C.ok) (Nat.le_of_ble_eq_true rfl) (hc_rr_rm (by decide)) ⟨Nat.zero_le _, Nat.zero_le _⟩ dX7_as_31 (fun r_31 M_31 h_31 => ?_)
  obtain ⟨rfl, rfl⟩ := h_31
  refine hc_if_ne C (tgt := 43) dX7_as_34 (by decide) (fun c_34 => ?_) (fun c_34 => ?_)
  · exact absurd (hb_f h2) c_34
  refine hc_aload_n C dX7_as_37 rfl rfl ?_
  refine hc_iconst C dX7_as_38 (v := 3) rfl ?_
  refine hc_cV1i C mv_X7_65 (c_X7_found C.ok) rfl rfl rfl (Nat.le_of_ble_eq_true rfl) (hc_rr_rm (by decide)) ⟨Nat.zero_le _, Nat.zero_le _⟩ dX7_as_39 (fun r_39 M_39 h_39 => ?_)
  obtain ⟨rfl, rfl⟩ := h_39
  refine hc_iret C rfl dX7_as_42 ?_
  exact ⟨rfl, rfl⟩

set_option maxRecDepth 100000 in
set_option maxHeartbeats 4000000 in
theorem c_X7_as_o {l : Launch} {G : hc_Geo} (hG : hc_ok G) {M : hc_Mem} {E e0 : Nat} {v : Int32}  (hE : M 9 5 = nI E) (hE6 : E ≤ 6) (he : e0 < E) (h0 : ¬ v < 0 ∧ ¬ 5 < v) (h2 : hOne v 3 (M 10 e0) = v) : hc_M l G yX7_as cX7_as 3 (some .int) 4 [.ref (hc_ad G 0), .int (nI e0), .int v] M (hc_pi (fun z M' => nI e0 = z ∧ hc_ms M 0 8 0 = M')) := by
  refine hc_M.of hG (by decide) [some (.ref (hc_ad G 0)), some (.int (nI e0)), some (.int v)] rfl (Nat.le_of_ble_eq_true rfl) ?_
  intro p e s m args below meth c C
  refine hc_aload_n C dX7_as_0 rfl rfl ?_
  refine hc_getR C fl_X7_26 rfl rfl dX7_as_1 ?_
  refine hc_iload_n C dX7_as_4 rfl rfl ?_
  refine hc_cV1i C mv_X7_141 (c_X3_hasEar C.ok) rfl rfl rfl (Nat.le_of_ble_eq_true rfl) (hc_rr_rm (by decide)) ⟨Nat.zero_le _, Nat.zero_le _⟩ dX7_as_5 (fun r_5 M_5 h_5 => ?_)
  obtain ⟨rfl, rfl⟩ := h_5
  refine hc_if_eq C (tgt := 18) dX7_as_8 (by decide) (fun c_8 => ?_) (fun c_8 => ?_)
  · exact absurd (hx_ear hE hE6 he) (hb_z.mp c_8)
  refine hc_iload_n C dX7_as_11 rfl rfl ?_
  refine hc_cS1i C ms_X7_265 (c_X4_isKind C.ok) (Nat.le_of_ble_eq_true rfl) (hc_rr_rm (by decide)) ⟨Nat.zero_le _, Nat.zero_le _⟩ dX7_as_12 (fun r_12 M_12 h_12 => ?_)
  obtain ⟨rfl, rfl⟩ := h_12
  refine hc_if_ne C (tgt := 21) dX7_as_15 (by decide) (fun c_15 => ?_) (fun c_15 => ?_)
  rotate_left
  · exact absurd h0 (hb_z.mp c_15)
  refine hc_aload_n C dX7_as_21 rfl rfl ?_
  refine hc_getR C fl_X7_26 rfl rfl dX7_as_22 ?_
  refine hc_getR C fl_X7_262 rfl rfl dX7_as_25 ?_
  refine hc_iload_n C dX7_as_28 rfl rfl ?_
  refine hc_ialdN C (j := e0) rfl rfl (by omega) dX7_as_29 ?_
  refine hc_iload_n C dX7_as_30 rfl rfl ?_
  refine hc_cS2i C ms_X7_270 (c_X4_isOneOf C.ok) (Nat.le_of_ble_eq_true rfl) (hc_rr_rm (by decide)) ⟨Nat.zero_le _, Nat.zero_le _⟩ dX7_as_31 (fun r_31 M_31 h_31 => ?_)
  obtain ⟨rfl, rfl⟩ := h_31
  refine hc_if_ne C (tgt := 43) dX7_as_34 (by decide) (fun c_34 => ?_) (fun c_34 => ?_)
  rotate_left
  · exact absurd h2 (hb_z.mp c_34)
  refine hc_aload_n C dX7_as_43 rfl rfl ?_
  refine hc_iload_n C dX7_as_44 rfl rfl ?_
  refine hc_cV1i C mv_X7_73 (c_X7_foundNothing C.ok) rfl rfl rfl (Nat.le_of_ble_eq_true rfl) (hc_rr_rm (by decide)) ⟨Nat.zero_le _, Nat.zero_le _⟩ dX7_as_45 (fun r_45 M_45 h_45 => ?_)
  obtain ⟨rfl, rfl⟩ := h_45
  refine hc_iret C rfl dX7_as_48 ?_
  exact ⟨rfl, rfl⟩

set_option maxRecDepth 100000 in
set_option maxHeartbeats 4000000 in
theorem c_X7_ask_b2 {l : Launch} {G : hc_Geo} (hG : hc_ok G) {M : hc_Mem} {E e0 : Nat} {v : Int32}  (hE : M 9 5 = nI E) (hE6 : E ≤ 6) (he : e0 < E) (h0 : ¬ (¬ v < 0 ∧ ¬ 1 < v)) : hc_M l G yX7_ask cX7_ask 3 (some .int) 12 [.ref (hc_ad G 0), .int (nI e0), .int v] M (hc_pi (fun z M' => -1000001 = z ∧ M = M')) := by
  refine hc_M.of hG (by decide) [some (.ref (hc_ad G 0)), some (.int (nI e0)), some (.int v)] rfl (Nat.le_of_ble_eq_true rfl) ?_
  intro p e s m args below meth c C
  refine hc_aload_n C dX7_ask_0 rfl rfl ?_
  refine hc_getR C fl_X7_26 rfl rfl dX7_ask_1 ?_
  refine hc_iload_n C dX7_ask_4 rfl rfl ?_
  refine hc_cV1i C mv_X7_141 (c_X3_hasEar C.ok) rfl rfl rfl (Nat.le_of_ble_eq_true rfl) (hc_rr_rm (by decide)) ⟨Nat.zero_le _, Nat.zero_le _⟩ dX7_ask_5 (fun r_5 M_5 h_5 => ?_)
  obtain ⟨rfl, rfl⟩ := h_5
  refine hc_if_eq C (tgt := 20) dX7_ask_8 (by decide) (fun c_8 => ?_) (fun c_8 => ?_)
  · exact absurd (hx_ear hE hE6 he) (hb_z.mp c_8)
  refine hc_iload_n C dX7_ask_11 rfl rfl ?_
  refine hc_iconst C dX7_ask_12 (v := 0) rfl ?_
  refine hc_iconst C dX7_ask_13 (v := 1) rfl ?_
  refine hc_cS3i C ms_X7_97 (c_X7_isWithin C.ok) (Nat.le_of_ble_eq_true rfl) (hc_rr_rm (by decide)) ⟨Nat.zero_le _, Nat.zero_le _⟩ dX7_ask_14 (fun r_14 M_14 h_14 => ?_)
  obtain ⟨rfl, rfl⟩ := h_14
  refine hc_if_ne C (tgt := 23) dX7_ask_17 (by decide) (fun c_17 => ?_) (fun c_17 => ?_)
  · exact absurd (hb_f h0) c_17
  refine hc_ldc C kc_X7_64 dX7_ask_20 ?_
  refine hc_iret C rfl dX7_ask_22 ?_
  exact ⟨rfl, rfl⟩

set_option maxRecDepth 100000 in
set_option maxHeartbeats 4000000 in
theorem c_X7_ask_1_0 {l : Launch} {G : hc_Geo} (hG : hc_ok G) {M : hc_Mem} {E e0 : Nat}  (hE : M 9 5 = nI E) (hE6 : E ≤ 6) (he : e0 < E) (hk : M 10 e0 = 1) : hc_M l G yX7_ask cX7_ask 3 (some .int) 12 [.ref (hc_ad G 0), .int (nI e0), .int 0] M (hc_pi (fun z M' => (M 11 e0 + (nI e0 + M 15 e0)) = z ∧ hTr (hAsk M e0) [11, 10, 21, 20] = M')) := by
  refine hc_M.of hG (by decide) [some (.ref (hc_ad G 0)), some (.int (nI e0)), some (.int 0)] rfl (Nat.le_of_ble_eq_true rfl) ?_
  intro p e s m args below meth c C
  refine hc_aload_n C dX7_ask_0 rfl rfl ?_
  refine hc_getR C fl_X7_26 rfl rfl dX7_ask_1 ?_
  refine hc_iload_n C dX7_ask_4 rfl rfl ?_
  refine hc_cV1i C mv_X7_141 (c_X3_hasEar C.ok) rfl rfl rfl (Nat.le_of_ble_eq_true rfl) (hc_rr_rm (by decide)) ⟨Nat.zero_le _, Nat.zero_le _⟩ dX7_ask_5 (fun r_5 M_5 h_5 => ?_)
  obtain ⟨rfl, rfl⟩ := h_5
  refine hc_if_eq C (tgt := 20) dX7_ask_8 (by decide) (fun c_8 => ?_) (fun c_8 => ?_)
  · exact absurd (hx_ear hE hE6 he) (hb_z.mp c_8)
  refine hc_iload_n C dX7_ask_11 rfl rfl ?_
  refine hc_iconst C dX7_ask_12 (v := 0) rfl ?_
  refine hc_iconst C dX7_ask_13 (v := 1) rfl ?_
  refine hc_cS3i C ms_X7_97 (c_X7_isWithin C.ok) (Nat.le_of_ble_eq_true rfl) (hc_rr_rm (by decide)) ⟨Nat.zero_le _, Nat.zero_le _⟩ dX7_ask_14 (fun r_14 M_14 h_14 => ?_)
  obtain ⟨rfl, rfl⟩ := h_14
  refine hc_if_ne C (tgt := 23) dX7_ask_17 (by decide) (fun c_17 => ?_) (fun c_17 => ?_)
  rotate_left
  · exact absurd (by decide) (hb_z.mp c_17)
  refine hc_aload_n C dX7_ask_23 rfl rfl ?_
  refine hc_getR C fl_X7_46 rfl rfl dX7_ask_24 ?_
  refine hc_aload_n C dX7_ask_27 rfl rfl ?_
  refine hc_getR C fl_X7_26 rfl rfl dX7_ask_28 ?_
  refine hc_iload_n C dX7_ask_31 rfl rfl ?_
  refine hc_iload_n C dX7_ask_32 rfl rfl ?_
  refine hc_cV3i C mv_X7_274 (c_X1_answer_1_0 C.ok (by omega) hk) rfl rfl rfl (Nat.le_of_ble_eq_true rfl) (hc_rr_rm (by decide)) ⟨Nat.zero_le _, Nat.zero_le _⟩ dX7_ask_33 (fun r_33 M_33 h_33 => ?_)
  obtain ⟨rfl, rfl⟩ := h_33
  refine hc_iret C rfl dX7_ask_36 ?_
  exact ⟨rfl, rfl⟩

set_option maxRecDepth 100000 in
set_option maxHeartbeats 4000000 in
theorem c_X7_ask_1_1 {l : Launch} {G : hc_Geo} (hG : hc_ok G) {M : hc_Mem} {E e0 : Nat}  (hE : M 9 5 = nI E) (hE6 : E ≤ 6) (he : e0 < E) (hk : M 10 e0 = 1) : hc_M l G yX7_ask cX7_ask 3 (some .int) 12 [.ref (hc_ad G 0), .int (nI e0), .int 1] M (hc_pi (fun z M' => (nI e0 + M 15 e0) = z ∧ hTr (hAsk M e0) [21, 20] = M')) := by
  refine hc_M.of hG (by decide) [some (.ref (hc_ad G 0)), some (.int (nI e0)), some (.int 1)] rfl (Nat.le_of_ble_eq_true rfl) ?_
  intro p e s m args below meth c C
  refine hc_aload_n C dX7_ask_0 rfl rfl ?_
  refine hc_getR C fl_X7_26 rfl rfl dX7_ask_1 ?_
  refine hc_iload_n C dX7_ask_4 rfl rfl ?_
  refine hc_cV1i C mv_X7_141 (c_X3_hasEar C.ok) rfl rfl rfl (Nat.le_of_ble_eq_true rfl) (hc_rr_rm (by decide)) ⟨Nat.zero_le _, Nat.zero_le _⟩ dX7_ask_5 (fun r_5 M_5 h_5 => ?_)
  obtain ⟨rfl, rfl⟩ := h_5
  refine hc_if_eq C (tgt := 20) dX7_ask_8 (by decide) (fun c_8 => ?_) (fun c_8 => ?_)
  · exact absurd (hx_ear hE hE6 he) (hb_z.mp c_8)
  refine hc_iload_n C dX7_ask_11 rfl rfl ?_
  refine hc_iconst C dX7_ask_12 (v := 0) rfl ?_
  refine hc_iconst C dX7_ask_13 (v := 1) rfl ?_
  refine hc_cS3i C ms_X7_97 (c_X7_isWithin C.ok) (Nat.le_of_ble_eq_true rfl) (hc_rr_rm (by decide)) ⟨Nat.zero_le _, Nat.zero_le _⟩ dX7_ask_14 (fun r_14 M_14 h_14 => ?_)
  obtain ⟨rfl, rfl⟩ := h_14
  refine hc_if_ne C (tgt := 23) dX7_ask_17 (by decide) (fun c_17 => ?_) (fun c_17 => ?_)
  rotate_left
  · exact absurd (by decide) (hb_z.mp c_17)
  refine hc_aload_n C dX7_ask_23 rfl rfl ?_
  refine hc_getR C fl_X7_46 rfl rfl dX7_ask_24 ?_
  refine hc_aload_n C dX7_ask_27 rfl rfl ?_
  refine hc_getR C fl_X7_26 rfl rfl dX7_ask_28 ?_
  refine hc_iload_n C dX7_ask_31 rfl rfl ?_
  refine hc_iload_n C dX7_ask_32 rfl rfl ?_
  refine hc_cV3i C mv_X7_274 (c_X1_answer_1_1 C.ok (by omega) hk) rfl rfl rfl (Nat.le_of_ble_eq_true rfl) (hc_rr_rm (by decide)) ⟨Nat.zero_le _, Nat.zero_le _⟩ dX7_ask_33 (fun r_33 M_33 h_33 => ?_)
  obtain ⟨rfl, rfl⟩ := h_33
  refine hc_iret C rfl dX7_ask_36 ?_
  exact ⟨rfl, rfl⟩

set_option maxRecDepth 100000 in
set_option maxHeartbeats 4000000 in
theorem c_X7_ask_2_0 {l : Launch} {G : hc_Geo} (hG : hc_ok G) {M : hc_Mem} {E e0 : Nat}  (hE : M 9 5 = nI E) (hE6 : E ≤ 6) (he : e0 < E) (hk : M 10 e0 = 2) : hc_M l G yX7_ask cX7_ask 3 (some .int) 12 [.ref (hc_ad G 0), .int (nI e0), .int 0] M (hc_pi (fun z M' => (-(M 11 e0 + (2 * (nI e0 + M 15 e0)))) = z ∧ hTr (hAsk M e0) [12, 11, 10, 24, 21, 20] = M')) := by
  refine hc_M.of hG (by decide) [some (.ref (hc_ad G 0)), some (.int (nI e0)), some (.int 0)] rfl (Nat.le_of_ble_eq_true rfl) ?_
  intro p e s m args below meth c C
  refine hc_aload_n C dX7_ask_0 rfl rfl ?_
  refine hc_getR C fl_X7_26 rfl rfl dX7_ask_1 ?_
  refine hc_iload_n C dX7_ask_4 rfl rfl ?_
  refine hc_cV1i C mv_X7_141 (c_X3_hasEar C.ok) rfl rfl rfl (Nat.le_of_ble_eq_true rfl) (hc_rr_rm (by decide)) ⟨Nat.zero_le _, Nat.zero_le _⟩ dX7_ask_5 (fun r_5 M_5 h_5 => ?_)
  obtain ⟨rfl, rfl⟩ := h_5
  refine hc_if_eq C (tgt := 20) dX7_ask_8 (by decide) (fun c_8 => ?_) (fun c_8 => ?_)
  · exact absurd (hx_ear hE hE6 he) (hb_z.mp c_8)
  refine hc_iload_n C dX7_ask_11 rfl rfl ?_
  refine hc_iconst C dX7_ask_12 (v := 0) rfl ?_
  refine hc_iconst C dX7_ask_13 (v := 1) rfl ?_
  refine hc_cS3i C ms_X7_97 (c_X7_isWithin C.ok) (Nat.le_of_ble_eq_true rfl) (hc_rr_rm (by decide)) ⟨Nat.zero_le _, Nat.zero_le _⟩ dX7_ask_14 (fun r_14 M_14 h_14 => ?_)
  obtain ⟨rfl, rfl⟩ := h_14
  refine hc_if_ne C (tgt := 23) dX7_ask_17 (by decide) (fun c_17 => ?_) (fun c_17 => ?_)
  rotate_left
  · exact absurd (by decide) (hb_z.mp c_17)
  refine hc_aload_n C dX7_ask_23 rfl rfl ?_
  refine hc_getR C fl_X7_46 rfl rfl dX7_ask_24 ?_
  refine hc_aload_n C dX7_ask_27 rfl rfl ?_
  refine hc_getR C fl_X7_26 rfl rfl dX7_ask_28 ?_
  refine hc_iload_n C dX7_ask_31 rfl rfl ?_
  refine hc_iload_n C dX7_ask_32 rfl rfl ?_
  refine hc_cV3i C mv_X7_274 (c_X1_answer_2_0 C.ok (by omega) hk) rfl rfl rfl (Nat.le_of_ble_eq_true rfl) (hc_rr_rm (by decide)) ⟨Nat.zero_le _, Nat.zero_le _⟩ dX7_ask_33 (fun r_33 M_33 h_33 => ?_)
  obtain ⟨rfl, rfl⟩ := h_33
  refine hc_iret C rfl dX7_ask_36 ?_
  exact ⟨rfl, rfl⟩

set_option maxRecDepth 100000 in
set_option maxHeartbeats 4000000 in
theorem c_X7_ask_2_1 {l : Launch} {G : hc_Geo} (hG : hc_ok G) {M : hc_Mem} {E e0 : Nat}  (hE : M 9 5 = nI E) (hE6 : E ≤ 6) (he : e0 < E) (hk : M 10 e0 = 2) : hc_M l G yX7_ask cX7_ask 3 (some .int) 12 [.ref (hc_ad G 0), .int (nI e0), .int 1] M (hc_pi (fun z M' => (2 * (nI e0 + M 15 e0)) = z ∧ hTr (hAsk M e0) [24, 21, 20] = M')) := by
  refine hc_M.of hG (by decide) [some (.ref (hc_ad G 0)), some (.int (nI e0)), some (.int 1)] rfl (Nat.le_of_ble_eq_true rfl) ?_
  intro p e s m args below meth c C
  refine hc_aload_n C dX7_ask_0 rfl rfl ?_
  refine hc_getR C fl_X7_26 rfl rfl dX7_ask_1 ?_
  refine hc_iload_n C dX7_ask_4 rfl rfl ?_
  refine hc_cV1i C mv_X7_141 (c_X3_hasEar C.ok) rfl rfl rfl (Nat.le_of_ble_eq_true rfl) (hc_rr_rm (by decide)) ⟨Nat.zero_le _, Nat.zero_le _⟩ dX7_ask_5 (fun r_5 M_5 h_5 => ?_)
  obtain ⟨rfl, rfl⟩ := h_5
  refine hc_if_eq C (tgt := 20) dX7_ask_8 (by decide) (fun c_8 => ?_) (fun c_8 => ?_)
  · exact absurd (hx_ear hE hE6 he) (hb_z.mp c_8)
  refine hc_iload_n C dX7_ask_11 rfl rfl ?_
  refine hc_iconst C dX7_ask_12 (v := 0) rfl ?_
  refine hc_iconst C dX7_ask_13 (v := 1) rfl ?_
  refine hc_cS3i C ms_X7_97 (c_X7_isWithin C.ok) (Nat.le_of_ble_eq_true rfl) (hc_rr_rm (by decide)) ⟨Nat.zero_le _, Nat.zero_le _⟩ dX7_ask_14 (fun r_14 M_14 h_14 => ?_)
  obtain ⟨rfl, rfl⟩ := h_14
  refine hc_if_ne C (tgt := 23) dX7_ask_17 (by decide) (fun c_17 => ?_) (fun c_17 => ?_)
  rotate_left
  · exact absurd (by decide) (hb_z.mp c_17)
  refine hc_aload_n C dX7_ask_23 rfl rfl ?_
  refine hc_getR C fl_X7_46 rfl rfl dX7_ask_24 ?_
  refine hc_aload_n C dX7_ask_27 rfl rfl ?_
  refine hc_getR C fl_X7_26 rfl rfl dX7_ask_28 ?_
  refine hc_iload_n C dX7_ask_31 rfl rfl ?_
  refine hc_iload_n C dX7_ask_32 rfl rfl ?_
  refine hc_cV3i C mv_X7_274 (c_X1_answer_2_1 C.ok (by omega) hk) rfl rfl rfl (Nat.le_of_ble_eq_true rfl) (hc_rr_rm (by decide)) ⟨Nat.zero_le _, Nat.zero_le _⟩ dX7_ask_33 (fun r_33 M_33 h_33 => ?_)
  obtain ⟨rfl, rfl⟩ := h_33
  refine hc_iret C rfl dX7_ask_36 ?_
  exact ⟨rfl, rfl⟩

set_option maxRecDepth 100000 in
set_option maxHeartbeats 4000000 in
theorem c_X7_ask_3_0 {l : Launch} {G : hc_Geo} (hG : hc_ok G) {M : hc_Mem} {E e0 : Nat}  (hE : M 9 5 = nI E) (hE6 : E ≤ 6) (he : e0 < E) (hk : M 10 e0 = 3) : hc_M l G yX7_ask cX7_ask 3 (some .int) 12 [.ref (hc_ad G 0), .int (nI e0), .int 0] M (hc_pi (fun z M' => (M 11 e0 + ((nI e0 + M 15 e0) - 1000)) = z ∧ hTr (hAsk M e0) [11, 10, 22, 21, 20] = M')) := by
  refine hc_M.of hG (by decide) [some (.ref (hc_ad G 0)), some (.int (nI e0)), some (.int 0)] rfl (Nat.le_of_ble_eq_true rfl) ?_
  intro p e s m args below meth c C
  refine hc_aload_n C dX7_ask_0 rfl rfl ?_
  refine hc_getR C fl_X7_26 rfl rfl dX7_ask_1 ?_
  refine hc_iload_n C dX7_ask_4 rfl rfl ?_
  refine hc_cV1i C mv_X7_141 (c_X3_hasEar C.ok) rfl rfl rfl (Nat.le_of_ble_eq_true rfl) (hc_rr_rm (by decide)) ⟨Nat.zero_le _, Nat.zero_le _⟩ dX7_ask_5 (fun r_5 M_5 h_5 => ?_)
  obtain ⟨rfl, rfl⟩ := h_5
  refine hc_if_eq C (tgt := 20) dX7_ask_8 (by decide) (fun c_8 => ?_) (fun c_8 => ?_)
  · exact absurd (hx_ear hE hE6 he) (hb_z.mp c_8)
  refine hc_iload_n C dX7_ask_11 rfl rfl ?_
  refine hc_iconst C dX7_ask_12 (v := 0) rfl ?_
  refine hc_iconst C dX7_ask_13 (v := 1) rfl ?_
  refine hc_cS3i C ms_X7_97 (c_X7_isWithin C.ok) (Nat.le_of_ble_eq_true rfl) (hc_rr_rm (by decide)) ⟨Nat.zero_le _, Nat.zero_le _⟩ dX7_ask_14 (fun r_14 M_14 h_14 => ?_)
  obtain ⟨rfl, rfl⟩ := h_14
  refine hc_if_ne C (tgt := 23) dX7_ask_17 (by decide) (fun c_17 => ?_) (fun c_17 => ?_)
  rotate_left
  · exact absurd (by decide) (hb_z.mp c_17)
  refine hc_aload_n C dX7_ask_23 rfl rfl ?_
  refine hc_getR C fl_X7_46 rfl rfl dX7_ask_24 ?_
  refine hc_aload_n C dX7_ask_27 rfl rfl ?_
  refine hc_getR C fl_X7_26 rfl rfl dX7_ask_28 ?_
  refine hc_iload_n C dX7_ask_31 rfl rfl ?_
  refine hc_iload_n C dX7_ask_32 rfl rfl ?_
  refine hc_cV3i C mv_X7_274 (c_X1_answer_3_0 C.ok (by omega) hk) rfl rfl rfl (Nat.le_of_ble_eq_true rfl) (hc_rr_rm (by decide)) ⟨Nat.zero_le _, Nat.zero_le _⟩ dX7_ask_33 (fun r_33 M_33 h_33 => ?_)
  obtain ⟨rfl, rfl⟩ := h_33
  refine hc_iret C rfl dX7_ask_36 ?_
  exact ⟨rfl, rfl⟩

set_option maxRecDepth 100000 in
set_option maxHeartbeats 4000000 in
theorem c_X7_ask_3_1 {l : Launch} {G : hc_Geo} (hG : hc_ok G) {M : hc_Mem} {E e0 : Nat}  (hE : M 9 5 = nI E) (hE6 : E ≤ 6) (he : e0 < E) (hk : M 10 e0 = 3) : hc_M l G yX7_ask cX7_ask 3 (some .int) 12 [.ref (hc_ad G 0), .int (nI e0), .int 1] M (hc_pi (fun z M' => ((nI e0 + M 15 e0) - 1000) = z ∧ hTr (hAsk M e0) [22, 21, 20] = M')) := by
  refine hc_M.of hG (by decide) [some (.ref (hc_ad G 0)), some (.int (nI e0)), some (.int 1)] rfl (Nat.le_of_ble_eq_true rfl) ?_
  intro p e s m args below meth c C
  refine hc_aload_n C dX7_ask_0 rfl rfl ?_
  refine hc_getR C fl_X7_26 rfl rfl dX7_ask_1 ?_
  refine hc_iload_n C dX7_ask_4 rfl rfl ?_
  refine hc_cV1i C mv_X7_141 (c_X3_hasEar C.ok) rfl rfl rfl (Nat.le_of_ble_eq_true rfl) (hc_rr_rm (by decide)) ⟨Nat.zero_le _, Nat.zero_le _⟩ dX7_ask_5 (fun r_5 M_5 h_5 => ?_)
  obtain ⟨rfl, rfl⟩ := h_5
  refine hc_if_eq C (tgt := 20) dX7_ask_8 (by decide) (fun c_8 => ?_) (fun c_8 => ?_)
  · exact absurd (hx_ear hE hE6 he) (hb_z.mp c_8)
  refine hc_iload_n C dX7_ask_11 rfl rfl ?_
  refine hc_iconst C dX7_ask_12 (v := 0) rfl ?_
  refine hc_iconst C dX7_ask_13 (v := 1) rfl ?_
  refine hc_cS3i C ms_X7_97 (c_X7_isWithin C.ok) (Nat.le_of_ble_eq_true rfl) (hc_rr_rm (by decide)) ⟨Nat.zero_le _, Nat.zero_le _⟩ dX7_ask_14 (fun r_14 M_14 h_14 => ?_)
  obtain ⟨rfl, rfl⟩ := h_14
  refine hc_if_ne C (tgt := 23) dX7_ask_17 (by decide) (fun c_17 => ?_) (fun c_17 => ?_)
  rotate_left
  · exact absurd (by decide) (hb_z.mp c_17)
  refine hc_aload_n C dX7_ask_23 rfl rfl ?_
  refine hc_getR C fl_X7_46 rfl rfl dX7_ask_24 ?_
  refine hc_aload_n C dX7_ask_27 rfl rfl ?_
  refine hc_getR C fl_X7_26 rfl rfl dX7_ask_28 ?_
  refine hc_iload_n C dX7_ask_31 rfl rfl ?_
  refine hc_iload_n C dX7_ask_32 rfl rfl ?_
  refine hc_cV3i C mv_X7_274 (c_X1_answer_3_1 C.ok (by omega) hk) rfl rfl rfl (Nat.le_of_ble_eq_true rfl) (hc_rr_rm (by decide)) ⟨Nat.zero_le _, Nat.zero_le _⟩ dX7_ask_33 (fun r_33 M_33 h_33 => ?_)
  obtain ⟨rfl, rfl⟩ := h_33
  refine hc_iret C rfl dX7_ask_36 ?_
  exact ⟨rfl, rfl⟩

set_option maxRecDepth 100000 in
set_option maxHeartbeats 4000000 in
theorem c_X7_ask_4_0 {l : Launch} {G : hc_Geo} (hG : hc_ok G) {M : hc_Mem} {E e0 : Nat}  (hE : M 9 5 = nI E) (hE6 : E ≤ 6) (he : e0 < E) (hk : M 10 e0 = 4) : hc_M l G yX7_ask cX7_ask 3 (some .int) 12 [.ref (hc_ad G 0), .int (nI e0), .int 0] M (hc_pi (fun z M' => (M 11 e0 - 100) = z ∧ hTr (hAsk M e0) [13, 10] = M')) := by
  refine hc_M.of hG (by decide) [some (.ref (hc_ad G 0)), some (.int (nI e0)), some (.int 0)] rfl (Nat.le_of_ble_eq_true rfl) ?_
  intro p e s m args below meth c C
  refine hc_aload_n C dX7_ask_0 rfl rfl ?_
  refine hc_getR C fl_X7_26 rfl rfl dX7_ask_1 ?_
  refine hc_iload_n C dX7_ask_4 rfl rfl ?_
  refine hc_cV1i C mv_X7_141 (c_X3_hasEar C.ok) rfl rfl rfl (Nat.le_of_ble_eq_true rfl) (hc_rr_rm (by decide)) ⟨Nat.zero_le _, Nat.zero_le _⟩ dX7_ask_5 (fun r_5 M_5 h_5 => ?_)
  obtain ⟨rfl, rfl⟩ := h_5
  refine hc_if_eq C (tgt := 20) dX7_ask_8 (by decide) (fun c_8 => ?_) (fun c_8 => ?_)
  · exact absurd (hx_ear hE hE6 he) (hb_z.mp c_8)
  refine hc_iload_n C dX7_ask_11 rfl rfl ?_
  refine hc_iconst C dX7_ask_12 (v := 0) rfl ?_
  refine hc_iconst C dX7_ask_13 (v := 1) rfl ?_
  refine hc_cS3i C ms_X7_97 (c_X7_isWithin C.ok) (Nat.le_of_ble_eq_true rfl) (hc_rr_rm (by decide)) ⟨Nat.zero_le _, Nat.zero_le _⟩ dX7_ask_14 (fun r_14 M_14 h_14 => ?_)
  obtain ⟨rfl, rfl⟩ := h_14
  refine hc_if_ne C (tgt := 23) dX7_ask_17 (by decide) (fun c_17 => ?_) (fun c_17 => ?_)
  rotate_left
  · exact absurd (by decide) (hb_z.mp c_17)
  refine hc_aload_n C dX7_ask_23 rfl rfl ?_
  refine hc_getR C fl_X7_46 rfl rfl dX7_ask_24 ?_
  refine hc_aload_n C dX7_ask_27 rfl rfl ?_
  refine hc_getR C fl_X7_26 rfl rfl dX7_ask_28 ?_
  refine hc_iload_n C dX7_ask_31 rfl rfl ?_
  refine hc_iload_n C dX7_ask_32 rfl rfl ?_
  refine hc_cV3i C mv_X7_274 (c_X1_answer_4_0 C.ok (by omega) hk) rfl rfl rfl (Nat.le_of_ble_eq_true rfl) (hc_rr_rm (by decide)) ⟨Nat.zero_le _, Nat.zero_le _⟩ dX7_ask_33 (fun r_33 M_33 h_33 => ?_)
  obtain ⟨rfl, rfl⟩ := h_33
  refine hc_iret C rfl dX7_ask_36 ?_
  exact ⟨rfl, rfl⟩

set_option maxRecDepth 100000 in
set_option maxHeartbeats 4000000 in
theorem c_X7_ask_4_1 {l : Launch} {G : hc_Geo} (hG : hc_ok G) {M : hc_Mem} {E e0 : Nat}  (hE : M 9 5 = nI E) (hE6 : E ≤ 6) (he : e0 < E) (hk : M 10 e0 = 4) : hc_M l G yX7_ask cX7_ask 3 (some .int) 12 [.ref (hc_ad G 0), .int (nI e0), .int 1] M (hc_pi (fun z M' => (nI e0 - (M 11 e0 - 100)) = z ∧ hTr (hAsk M e0) [23, 20, 13, 10] = M')) := by
  refine hc_M.of hG (by decide) [some (.ref (hc_ad G 0)), some (.int (nI e0)), some (.int 1)] rfl (Nat.le_of_ble_eq_true rfl) ?_
  intro p e s m args below meth c C
  refine hc_aload_n C dX7_ask_0 rfl rfl ?_
  refine hc_getR C fl_X7_26 rfl rfl dX7_ask_1 ?_
  refine hc_iload_n C dX7_ask_4 rfl rfl ?_
  refine hc_cV1i C mv_X7_141 (c_X3_hasEar C.ok) rfl rfl rfl (Nat.le_of_ble_eq_true rfl) (hc_rr_rm (by decide)) ⟨Nat.zero_le _, Nat.zero_le _⟩ dX7_ask_5 (fun r_5 M_5 h_5 => ?_)
  obtain ⟨rfl, rfl⟩ := h_5
  refine hc_if_eq C (tgt := 20) dX7_ask_8 (by decide) (fun c_8 => ?_) (fun c_8 => ?_)
  · exact absurd (hx_ear hE hE6 he) (hb_z.mp c_8)
  refine hc_iload_n C dX7_ask_11 rfl rfl ?_
  refine hc_iconst C dX7_ask_12 (v := 0) rfl ?_
  refine hc_iconst C dX7_ask_13 (v := 1) rfl ?_
  refine hc_cS3i C ms_X7_97 (c_X7_isWithin C.ok) (Nat.le_of_ble_eq_true rfl) (hc_rr_rm (by decide)) ⟨Nat.zero_le _, Nat.zero_le _⟩ dX7_ask_14 (fun r_14 M_14 h_14 => ?_)
  obtain ⟨rfl, rfl⟩ := h_14
  refine hc_if_ne C (tgt := 23) dX7_ask_17 (by decide) (fun c_17 => ?_) (fun c_17 => ?_)
  rotate_left
  · exact absurd (by decide) (hb_z.mp c_17)
  refine hc_aload_n C dX7_ask_23 rfl rfl ?_
  refine hc_getR C fl_X7_46 rfl rfl dX7_ask_24 ?_
  refine hc_aload_n C dX7_ask_27 rfl rfl ?_
  refine hc_getR C fl_X7_26 rfl rfl dX7_ask_28 ?_
  refine hc_iload_n C dX7_ask_31 rfl rfl ?_
  refine hc_iload_n C dX7_ask_32 rfl rfl ?_
  refine hc_cV3i C mv_X7_274 (c_X1_answer_4_1 C.ok (by omega) hk) rfl rfl rfl (Nat.le_of_ble_eq_true rfl) (hc_rr_rm (by decide)) ⟨Nat.zero_le _, Nat.zero_le _⟩ dX7_ask_33 (fun r_33 M_33 h_33 => ?_)
  obtain ⟨rfl, rfl⟩ := h_33
  refine hc_iret C rfl dX7_ask_36 ?_
  exact ⟨rfl, rfl⟩

set_option maxRecDepth 100000 in
set_option maxHeartbeats 4000000 in
theorem c_X7_ask_5_0 {l : Launch} {G : hc_Geo} (hG : hc_ok G) {M : hc_Mem} {E e0 : Nat}  (hE : M 9 5 = nI E) (hE6 : E ≤ 6) (he : e0 < E) (hk : M 10 e0 = 5) : hc_M l G yX7_ask cX7_ask 3 (some .int) 12 [.ref (hc_ad G 0), .int (nI e0), .int 0] M (hc_pi (fun z M' => (2 * (M 11 e0 - 100)) = z ∧ hTr (hAsk M e0) [14, 13, 10] = M')) := by
  refine hc_M.of hG (by decide) [some (.ref (hc_ad G 0)), some (.int (nI e0)), some (.int 0)] rfl (Nat.le_of_ble_eq_true rfl) ?_
  intro p e s m args below meth c C
  refine hc_aload_n C dX7_ask_0 rfl rfl ?_
  refine hc_getR C fl_X7_26 rfl rfl dX7_ask_1 ?_
  refine hc_iload_n C dX7_ask_4 rfl rfl ?_
  refine hc_cV1i C mv_X7_141 (c_X3_hasEar C.ok) rfl rfl rfl (Nat.le_of_ble_eq_true rfl) (hc_rr_rm (by decide)) ⟨Nat.zero_le _, Nat.zero_le _⟩ dX7_ask_5 (fun r_5 M_5 h_5 => ?_)
  obtain ⟨rfl, rfl⟩ := h_5
  refine hc_if_eq C (tgt := 20) dX7_ask_8 (by decide) (fun c_8 => ?_) (fun c_8 => ?_)
  · exact absurd (hx_ear hE hE6 he) (hb_z.mp c_8)
  refine hc_iload_n C dX7_ask_11 rfl rfl ?_
  refine hc_iconst C dX7_ask_12 (v := 0) rfl ?_
  refine hc_iconst C dX7_ask_13 (v := 1) rfl ?_
  refine hc_cS3i C ms_X7_97 (c_X7_isWithin C.ok) (Nat.le_of_ble_eq_true rfl) (hc_rr_rm (by decide)) ⟨Nat.zero_le _, Nat.zero_le _⟩ dX7_ask_14 (fun r_14 M_14 h_14 => ?_)
  obtain ⟨rfl, rfl⟩ := h_14
  refine hc_if_ne C (tgt := 23) dX7_ask_17 (by decide) (fun c_17 => ?_) (fun c_17 => ?_)
  rotate_left
  · exact absurd (by decide) (hb_z.mp c_17)
  refine hc_aload_n C dX7_ask_23 rfl rfl ?_
  refine hc_getR C fl_X7_46 rfl rfl dX7_ask_24 ?_
  refine hc_aload_n C dX7_ask_27 rfl rfl ?_
  refine hc_getR C fl_X7_26 rfl rfl dX7_ask_28 ?_
  refine hc_iload_n C dX7_ask_31 rfl rfl ?_
  refine hc_iload_n C dX7_ask_32 rfl rfl ?_
  refine hc_cV3i C mv_X7_274 (c_X1_answer_5_0 C.ok (by omega) hk) rfl rfl rfl (Nat.le_of_ble_eq_true rfl) (hc_rr_rm (by decide)) ⟨Nat.zero_le _, Nat.zero_le _⟩ dX7_ask_33 (fun r_33 M_33 h_33 => ?_)
  obtain ⟨rfl, rfl⟩ := h_33
  refine hc_iret C rfl dX7_ask_36 ?_
  exact ⟨rfl, rfl⟩

set_option maxRecDepth 100000 in
set_option maxHeartbeats 4000000 in
theorem c_X7_ask_5_1 {l : Launch} {G : hc_Geo} (hG : hc_ok G) {M : hc_Mem} {E e0 : Nat}  (hE : M 9 5 = nI E) (hE6 : E ≤ 6) (he : e0 < E) (hk : M 10 e0 = 5) : hc_M l G yX7_ask cX7_ask 3 (some .int) 12 [.ref (hc_ad G 0), .int (nI e0), .int 1] M (hc_pi (fun z M' => (nI e0 - (2 * (M 11 e0 - 100))) = z ∧ hTr (hAsk M e0) [23, 20, 14, 13, 10] = M')) := by
  refine hc_M.of hG (by decide) [some (.ref (hc_ad G 0)), some (.int (nI e0)), some (.int 1)] rfl (Nat.le_of_ble_eq_true rfl) ?_
  intro p e s m args below meth c C
  refine hc_aload_n C dX7_ask_0 rfl rfl ?_
  refine hc_getR C fl_X7_26 rfl rfl dX7_ask_1 ?_
  refine hc_iload_n C dX7_ask_4 rfl rfl ?_
  refine hc_cV1i C mv_X7_141 (c_X3_hasEar C.ok) rfl rfl rfl (Nat.le_of_ble_eq_true rfl) (hc_rr_rm (by decide)) ⟨Nat.zero_le _, Nat.zero_le _⟩ dX7_ask_5 (fun r_5 M_5 h_5 => ?_)
  obtain ⟨rfl, rfl⟩ := h_5
  refine hc_if_eq C (tgt := 20) dX7_ask_8 (by decide) (fun c_8 => ?_) (fun c_8 => ?_)
  · exact absurd (hx_ear hE hE6 he) (hb_z.mp c_8)
  refine hc_iload_n C dX7_ask_11 rfl rfl ?_
  refine hc_iconst C dX7_ask_12 (v := 0) rfl ?_
  refine hc_iconst C dX7_ask_13 (v := 1) rfl ?_
  refine hc_cS3i C ms_X7_97 (c_X7_isWithin C.ok) (Nat.le_of_ble_eq_true rfl) (hc_rr_rm (by decide)) ⟨Nat.zero_le _, Nat.zero_le _⟩ dX7_ask_14 (fun r_14 M_14 h_14 => ?_)
  obtain ⟨rfl, rfl⟩ := h_14
  refine hc_if_ne C (tgt := 23) dX7_ask_17 (by decide) (fun c_17 => ?_) (fun c_17 => ?_)
  rotate_left
  · exact absurd (by decide) (hb_z.mp c_17)
  refine hc_aload_n C dX7_ask_23 rfl rfl ?_
  refine hc_getR C fl_X7_46 rfl rfl dX7_ask_24 ?_
  refine hc_aload_n C dX7_ask_27 rfl rfl ?_
  refine hc_getR C fl_X7_26 rfl rfl dX7_ask_28 ?_
  refine hc_iload_n C dX7_ask_31 rfl rfl ?_
  refine hc_iload_n C dX7_ask_32 rfl rfl ?_
  refine hc_cV3i C mv_X7_274 (c_X1_answer_5_1 C.ok (by omega) hk) rfl rfl rfl (Nat.le_of_ble_eq_true rfl) (hc_rr_rm (by decide)) ⟨Nat.zero_le _, Nat.zero_le _⟩ dX7_ask_33 (fun r_33 M_33 h_33 => ?_)
  obtain ⟨rfl, rfl⟩ := h_33
  refine hc_iret C rfl dX7_ask_36 ?_
  exact ⟨rfl, rfl⟩

set_option maxRecDepth 100000 in
set_option maxHeartbeats 4000000 in
theorem c_X7_house_f {l : Launch} {G : hc_Geo} (hG : hc_ok G) {M : hc_Mem} {n : Nat}  (hn : M 5 1 = nI n) (hn1 : n ≤ 120) (h0 : ¬ (cRead M n).1 = 0) : hc_M l G yX7_house cX7_house 2 (some .int) 7 [.ref (hc_ad G 0)] M (hc_pi (fun z M' => -1000100 - nI (cRead M n).2.1 = z ∧ hc_ms (hc_ms (mP M (cRead M n)) 5 1 0) 0 7 (nI (cRead M n).1) = M')) := by
  refine hc_M.of hG (by decide) [some (.ref (hc_ad G 0)), none] rfl (Nat.le_of_ble_eq_true rfl) ?_
  intro p e s m args below meth c C
  refine hc_aload_n C dX7_house_0 rfl rfl ?_
  refine hc_getR C fl_X7_19 rfl rfl dX7_house_1 ?_
  refine hc_cV0i C mv_X7_104 (c_X6_read C.ok hn hn1) rfl rfl rfl (Nat.le_of_ble_eq_true rfl) (hc_rr_rm (by decide)) ⟨Nat.zero_le _, Nat.zero_le _⟩ dX7_house_4 (fun r_4 M_4 h_4 => ?_)
  obtain ⟨rfl, rfl⟩ := h_4
  rw [if_neg h0]
  refine hc_istore_n1 C dX7_house_7 rfl (by decide) rfl ?_
  refine hc_iload_n C dX7_house_8 rfl rfl ?_
  refine hc_ldc C kc_X7_108 dX7_house_9 ?_
  refine hc_icmp_eq C (tgt := 30) dX7_house_11 (by decide) (fun c_11 => ?_) (fun c_11 => ?_)
  · exact absurd c_11 (fun q => by have h5 := (cRead_ok M n).2.1; have h6 : (nI (cRead M n).2.1).toInt = (-1000000 : Int32).toInt := congrArg _ q; rw [nI_toInt (by omega)] at h6; have h7 : (-1000000 : Int32).toInt = -1000000 := rfl; omega)
  refine hc_aload_n C dX7_house_14 rfl rfl ?_
  refine hc_aload_n C dX7_house_15 rfl rfl ?_
  refine hc_getR C fl_X7_19 rfl rfl dX7_house_16 ?_
  refine hc_getI C fl_X7_109 rfl rfl dX7_house_19 ?_
  refine hc_putI C fl_X7_50 pl_5_7 rfl rfl dX7_house_22 ?_
  refine hc_ldc C kc_X7_112 dX7_house_25 ?_
  refine hc_iload_n C dX7_house_27 rfl rfl ?_
  refine hc_isub C dX7_house_28 ?_
  refine hc_iret C rfl dX7_house_29 ?_
  exact ⟨rfl, rfl⟩

set_option maxRecDepth 100000 in
set_option maxHeartbeats 4000000 in
theorem c_X7_house_o {l : Launch} {G : hc_Geo} (hG : hc_ok G) {M : hc_Mem} {n : Nat}  (hn : M 5 1 = nI n) (hn1 : n ≤ 120) (h0 : (cRead M n).1 = 0) : hc_M l G yX7_house cX7_house 2 (some .int) 7 [.ref (hc_ad G 0)] M (hc_pi (fun z M' => nI (cRead M n).2.2.1 = z ∧ hc_ms (hSettle (hc_ms (mP M (cRead M n)) 5 1 0) (cRead M n).2.2.1 (cRead M n).2.2.2.1) 42 3 0 = M')) := by
  refine hc_M.of hG (by decide) [some (.ref (hc_ad G 0)), none] rfl (Nat.le_of_ble_eq_true rfl) ?_
  intro p e s m args below meth c C
  refine hc_aload_n C dX7_house_0 rfl rfl ?_
  refine hc_getR C fl_X7_19 rfl rfl dX7_house_1 ?_
  refine hc_cV0i C mv_X7_104 (c_X6_read C.ok hn hn1) rfl rfl rfl (Nat.le_of_ble_eq_true rfl) (hc_rr_rm (by decide)) ⟨Nat.zero_le _, Nat.zero_le _⟩ dX7_house_4 (fun r_4 M_4 h_4 => ?_)
  obtain ⟨rfl, rfl⟩ := h_4
  rw [if_pos h0]
  refine hc_istore_n1 C dX7_house_7 rfl (by decide) rfl ?_
  refine hc_iload_n C dX7_house_8 rfl rfl ?_
  refine hc_ldc C kc_X7_108 dX7_house_9 ?_
  refine hc_icmp_eq C (tgt := 30) dX7_house_11 (by decide) (fun c_11 => ?_) (fun c_11 => ?_)
  rotate_left
  · exact absurd rfl c_11
  refine hc_aload_n C dX7_house_30 rfl rfl ?_
  refine hc_getR C fl_X7_26 rfl rfl dX7_house_31 ?_
  refine hc_aload_n C dX7_house_34 rfl rfl ?_
  refine hc_getR C fl_X7_19 rfl rfl dX7_house_35 ?_
  refine hc_cV1v C mv_X7_113 (c_X3_settle (E := (cRead M n).2.2.1) (D := (cRead M n).2.2.2.1) C.ok rfl (cRead_ok M n).2.2.1 rfl (cRead_ok M n).2.2.2.1) rfl rfl rfl (Nat.le_of_ble_eq_true rfl) (hc_rr_rm (by decide)) ⟨Nat.zero_le _, Nat.zero_le _⟩ dX7_house_38 (fun M_38 h_38 => ?_)
  obtain rfl := h_38
  refine hc_aload_n C dX7_house_41 rfl rfl ?_
  refine hc_getR C fl_X7_39 rfl rfl dX7_house_42 ?_
  refine hc_cV0v C mv_X7_117 (c_X0_forgetAll C.ok) rfl rfl rfl (Nat.le_of_ble_eq_true rfl) (hc_rr_rm (by decide)) ⟨Nat.zero_le _, Nat.zero_le _⟩ dX7_house_45 (fun M_45 h_45 => ?_)
  obtain rfl := h_45
  refine hc_aload_n C dX7_house_48 rfl rfl ?_
  refine hc_getR C fl_X7_26 rfl rfl dX7_house_49 ?_
  refine hc_getI C fl_X7_120 rfl rfl dX7_house_52 ?_
  refine hc_iret C rfl dX7_house_55 ?_
  refine ⟨?_, rfl⟩
  simp only [hc_ms_n (show (9 : Nat) ≠ 42 by decide), hSettle]
  rfl
