set_option maxRecDepth 100000 in
set_option maxHeartbeats 4000000 in
theorem lp_lays {G : hc_Geo} {p : Program} {l : Launch} {e : Env} {d : Nat} {s : State} {m : MethodId} {args : Array Value} {below : List Frame} {meth : Method} {c : Code} {Q : State → Prop} (C : hc_Cx G hc_lay cX8_lays 2 none yX8_lays.cls p s m args meth c) {X : hc_Mem} {E D : Nat} (hd : 6 < d) (hE : X 59 4 = nI E) (hE6 : E ≤ 6) (hD : X 59 5 = nI D) (hD4 : D ≤ 4) 
    (kk : hc_W G hc_lay p l e (hc_rm d) s m args below meth c 2 0 0 Q 50 [some (.ref (hc_ad G 48)), some (.int (nI (99 + 1)))] [] (rLy X E D 99)) :
    ∀ (t : Nat) (i : Nat), i + t = 99 → hc_W G hc_lay p l e (hc_rm d) s m args below meth c 2 0 0 Q 27 [some (.ref (hc_ad G 48)), some (.int (nI (i + 1)))] [] (rLy X E D i) := by
  intro t
  induction t with
  | zero =>
    intro i hi
    refine hc_iload_n C dX8_lays_27 rfl rfl ?_
    refine hc_bipush C dX8_lays_28 (v := 100) rfl ?_
    refine hc_icmp_ge C (tgt := 50) dX8_lays_30 (by decide) (fun c_30 => ?_) (fun c_30 => ?_)
    rotate_left
    · exact absurd (show nI 100 ≤ nI (i + 1) from nI_le (by omega) (by omega)) c_30
    rw [show i = 99 by omega]
    exact kk
  | succ t ih =>
    intro i hi
    refine hc_iload_n C dX8_lays_27 rfl rfl ?_
    refine hc_bipush C dX8_lays_28 (v := 100) rfl ?_
    refine hc_icmp_ge C (tgt := 50) dX8_lays_30 (by decide) (fun c_30 => ?_) (fun c_30 => ?_)
    · exact absurd (show nI 100 ≤ nI (i + 1) from c_30) (nI_ge (show i + 1 < 100 by omega) (by omega))
    refine hc_aload_n C dX8_lays_33 rfl rfl ?_
    refine hc_getR C fl_X8_44 rfl rfl dX8_lays_34 ?_
    refine hc_iload_n C dX8_lays_37 rfl rfl ?_
    refine hc_aload_n C dX8_lays_38 rfl rfl ?_
    refine hc_iconst C dX8_lays_39 (v := 1) rfl ?_
    refine hc_cV1i C mv_X8_188 (c_X8_partsIn (E := E) (D := D) (n := 1) C.ok (by decide) (by rw [rLy_59, rIter_45 (Or.inl rfl)]; exact hE) hE6 (by rw [rLy_59, rIter_45 (Or.inr (Or.inl rfl))]; exact hD) hD4) rfl rfl rfl (Nat.le_of_ble_eq_true rfl) (hc_rr_rm hd) ⟨Nat.zero_le _, Nat.zero_le _⟩ dX8_lays_40 (fun r_40 M_40 h_40 => ?_)
    obtain ⟨rfl, rfl⟩ := h_40
    refine hc_iastN C (j := (i + 1)) rfl rfl (by omega) dX8_lays_43 ?_
    refine hc_mem (M2 := (rLy X E D (i + 1))) rfl ?_
    refine hc_iinc1 C (v := nI (i + 1 + 1)) dX8_lays_44 (by decide) rfl rfl (nI_1 (i + 1)) ?_
    refine hc_goto C (tgt := 27) dX8_lays_47 (by decide) ?_
    exact ih (i + 1) (by omega)

set_option maxRecDepth 100000 in
set_option maxHeartbeats 4000000 in
theorem c_X8_lays {l : Launch} {G : hc_Geo} (hG : hc_ok G) {M : hc_Mem} {E D : Nat}  (hE : M 54 4 = nI E) (hE6 : E ≤ 6) (hD : M 54 5 = nI D) (hD4 : D ≤ 4) : hc_M l G yX8_lays cX8_lays 2 none 7 [.ref (hc_ad G 48)] M (hc_pv (fun M' => rAg (M' 59) (rIter E D 99 (M 54)) ∧ (∀ t, t < 100 → M' 60 t = rIter E D t (M 54) 3) ∧ ∀ q, q ≠ 59 → q ≠ 60 → M' q = M q)) := by
  refine hc_M.of hG (by decide) [some (.ref (hc_ad G 48)), none] rfl (Nat.le_of_ble_eq_true rfl) ?_
  intro p e s m args below meth c C
  refine hc_aload_n C dX8_lays_0 rfl rfl ?_
  refine hc_getR C fl_X8_25 rfl rfl dX8_lays_1 ?_
  refine hc_iconst C dX8_lays_4 (v := 0) rfl ?_
  refine hc_aload_n C dX8_lays_5 rfl rfl ?_
  refine hc_getR C fl_X8_41 rfl rfl dX8_lays_6 ?_
  refine hc_iconst C dX8_lays_9 (v := 0) rfl ?_
  refine hc_cS4v C ms_X8_134 (c_X8_copies (a := 0) (b := 0) C.ok rfl rfl (by decide) (by decide) (by decide)) (Nat.le_of_ble_eq_true rfl) (hc_rr_rm (by decide)) ⟨Nat.zero_le _, Nat.zero_le _⟩ dX8_lays_10 (fun M_10 h_10 => ?_)
  obtain rfl := h_10
  refine hc_aload_n C dX8_lays_13 rfl rfl ?_
  refine hc_getR C fl_X8_44 rfl rfl dX8_lays_14 ?_
  refine hc_iconst C dX8_lays_17 (v := 0) rfl ?_
  refine hc_aload_n C dX8_lays_18 rfl rfl ?_
  refine hc_getR C fl_X8_25 rfl rfl dX8_lays_19 ?_
  refine hc_iconst C dX8_lays_22 (v := 3) rfl ?_
  refine hc_ialdN C (j := 3) rfl rfl (by decide) dX8_lays_23 ?_
  refine hc_iastN C (j := 0) rfl rfl (by decide) dX8_lays_24 ?_
  refine hc_iconst C dX8_lays_25 (v := 1) rfl ?_
  refine hc_istore_n1 C dX8_lays_26 rfl (by decide) rfl ?_
  refine lp_lays (X := hc_ms (hc_mf M 59 (va_cpy (M 54) (M 59) 0 0 68)) 60 0 (M 54 3)) C (by decide) ?_ hE6 ?_ hD4 ?_ 99 0 rfl
  · exact (rAg_cpy (g := M 59) 4 (by decide)).trans hE
  · exact (rAg_cpy (g := M 59) 5 (by decide)).trans hD
  · refine hc_vret C rfl dX8_lays_50 ?_
    refine ⟨?_, ?_, ?_⟩
    · rw [rLy_59]
      exact rIter_c hE6 hD4 99 (rAg_cpy (g := M 59))
    · intro t ht
      rw [rLy_60 (show M 54 3 = _ from (rAg_cpy (g := M 59) 3 (by decide)).symm) 99 t (by omega)]
      exact rIter_c hE6 hD4 t (rAg_cpy (g := M 59)) 3 (by decide)
    · intro q g1 g2
      rw [rLy_n g1 g2, hc_ms_n g2, hc_mf_n g1]

set_option maxRecDepth 100000 in
set_option maxHeartbeats 4000000 in
theorem c_X8_done_o {l : Launch} {G : hc_Geo} (hG : hc_ok G) {M : hc_Mem} {E D x : Nat}  (hE : M 54 4 = nI E) (hE6 : E ≤ 6) (hD : M 54 5 = nI D) (hD4 : D ≤ 4) (hx : x < D) : hc_M l G yX8_done cX8_done 2 (some .int) 8 [.ref (hc_ad G 48), .int (nI x)] M (hc_pi (fun z M' => rIter E D 99 (M 54) (48 + 5 * x + 4) = z ∧ ∀ q, q ≠ 59 → q ≠ 60 → M' q = M q)) := by
  refine hc_M.of hG (by decide) [some (.ref (hc_ad G 48)), some (.int (nI x))] rfl (Nat.le_of_ble_eq_true rfl) ?_
  intro p e s m args below meth c C
  refine hc_aload_n C dX8_done_0 rfl rfl ?_
  refine hc_iload_n C dX8_done_1 rfl rfl ?_
  refine hc_cV1i C mv_X8_194 (c_X8_isDoing C.ok hD (by omega)) rfl rfl rfl (Nat.le_of_ble_eq_true rfl) (hc_rr_rm (by decide)) ⟨Nat.zero_le _, Nat.zero_le _⟩ dX8_done_2 (fun r_2 M_2 h_2 => ?_)
  obtain ⟨rfl, rfl⟩ := h_2
  refine hc_if_ne C (tgt := 11) dX8_done_5 (by decide) (fun c_5 => ?_) (fun c_5 => ?_)
  rotate_left
  · exact absurd (hx_earR hD (show D ≤ 6 by omega) hx) (hb_z.mp c_5)
  refine hc_aload_n C dX8_done_11 rfl rfl ?_
  refine hc_cV0v C mv_X8_191 (c_X8_lays C.ok hE hE6 hD hD4) rfl rfl rfl (Nat.le_of_ble_eq_true rfl) (hc_rr_rm (by decide)) ⟨Nat.zero_le _, Nat.zero_le _⟩ dX8_done_12 (fun M_12 h_12 => ?_)
  have hAg := h_12.1
  have hCo := h_12.2.1
  have hSc := h_12.2.2
  refine hc_aload_n C dX8_done_15 rfl rfl ?_
  refine hc_getR C fl_X8_41 rfl rfl dX8_done_16 ?_
  refine hc_bipush C dX8_done_19 (v := 48) rfl ?_
  refine hc_iconst C dX8_done_21 (v := 5) rfl ?_
  refine hc_iload_n C dX8_done_22 rfl rfl ?_
  refine hc_imul C dX8_done_23 ?_
  refine hc_iadd C dX8_done_24 ?_
  refine hc_iconst C dX8_done_25 (v := 4) rfl ?_
  refine hc_iadd C dX8_done_26 ?_
  refine hc_ialdN C (j := (48 + 5 * x + 4)) rfl (hx_5 x 4) (by omega) dX8_done_27 ?_
  refine hc_iret C rfl dX8_done_28 ?_
  exact ⟨(hAg _ (by omega)).symm, hSc⟩

set_option maxRecDepth 100000 in
set_option maxHeartbeats 4000000 in
theorem c_X8_whenShows_b {l : Launch} {G : hc_Geo} (hG : hc_ok G) {M : hc_Mem} {v1 : Int32}  (h0 : M 54 0 = 1) (h1 : ¬ (¬ v1 < 0 ∧ ¬ 999 < v1)) : hc_M l G yX8_whenShows cX8_whenShows 3 (some .int) 2 [.ref (hc_ad G 48), .int v1] M (hc_pi (fun z M' => -1000001 = z ∧ M = M')) := by
  refine hc_M.of hG (by decide) [some (.ref (hc_ad G 48)), some (.int v1), none] rfl (Nat.le_of_ble_eq_true rfl) ?_
  intro p e s m args below meth c C
  refine hc_aload_n C dX8_whenShows_0 rfl rfl ?_
  refine hc_cV0i C mv_X8_171 (c_X8_isHouse C.ok) rfl rfl rfl (Nat.le_of_ble_eq_true rfl) (hc_rr_rm (by decide)) ⟨Nat.zero_le _, Nat.zero_le _⟩ dX8_whenShows_1 (fun r_1 M_1 h_1 => ?_)
  obtain ⟨rfl, rfl⟩ := h_1
  refine hc_if_ne C (tgt := 10) dX8_whenShows_4 (by decide) (fun c_4 => ?_) (fun c_4 => ?_)
  rotate_left
  · exact absurd h0 (hb_z.mp c_4)
  refine hc_iload_n C dX8_whenShows_10 rfl rfl ?_
  refine hc_iconst C dX8_whenShows_11 (v := 0) rfl ?_
  refine hc_sipush C dX8_whenShows_12 (v := 999) rfl ?_
  refine hc_cS3i C ms_X8_56 (c_X8_in C.ok) (Nat.le_of_ble_eq_true rfl) (hc_rr_rm (by decide)) ⟨Nat.zero_le _, Nat.zero_le _⟩ dX8_whenShows_15 (fun r_15 M_15 h_15 => ?_)
  obtain ⟨rfl, rfl⟩ := h_15
  refine hc_if_ne C (tgt := 24) dX8_whenShows_18 (by decide) (fun c_18 => ?_) (fun c_18 => ?_)
  · exact absurd (hb_z.mpr h1) c_18
  refine hc_ldc C kc_X8_64 dX8_whenShows_21 ?_
  refine hc_iret C rfl dX8_whenShows_23 ?_
  exact ⟨rfl, rfl⟩

set_option maxRecDepth 100000 in
set_option maxHeartbeats 4000000 in
theorem lp_when {G : hc_Geo} {p : Program} {l : Launch} {e : Env} {d : Nat} {s : State} {m : MethodId} {args : Array Value} {below : List Frame} {meth : Method} {c : Code} {Q : State → Prop} (C : hc_Cx G hc_lay cX8_whenShows 3 (some .int) yX8_whenShows.cls p s m args meth c) {M : hc_Mem} {v1 : Int32} {cc : Nat → Int32} (hc : ∀ t, t < 100 → M 60 t = cc t) (kA : ∀ i : Nat, rWh cc v1 100 0 = nI i → hc_W G hc_lay p l e (hc_rm d) s m args below meth c 3 0 0 Q 50 [some (.ref (hc_ad G 48)), some (.int v1), some (.int (nI i))] [.int (nI i)] M) (kB : rWh cc v1 100 0 = -1000000 → hc_W G hc_lay p l e (hc_rm d) s m args below meth c 3 0 0 Q 57 [some (.ref (hc_ad G 48)), some (.int v1), some (.int (nI 100))] [] M)  :
    ∀ (t : Nat) (i : Nat), i + t = 100 → rWh cc v1 100 0 = rWh cc v1 t i → hc_W G hc_lay p l e (hc_rm d) s m args below meth c 3 0 0 Q 30 [some (.ref (hc_ad G 48)), some (.int v1), some (.int (nI i))] [] M := by
  intro t
  induction t with
  | zero =>
    intro i hi hw
    refine hc_iload_n C dX8_whenShows_30 rfl rfl ?_
    refine hc_bipush C dX8_whenShows_31 (v := 100) rfl ?_
    refine hc_icmp_ge C (tgt := 57) dX8_whenShows_33 (by decide) (fun c_33 => ?_) (fun c_33 => ?_)
    rotate_left
    · exact absurd (show nI 100 ≤ nI i from nI_le (by omega) (by omega)) c_33
    rw [show i = 100 by omega]
    exact kB hw
  | succ t ih =>
    intro i hi hw
    refine hc_iload_n C dX8_whenShows_30 rfl rfl ?_
    refine hc_bipush C dX8_whenShows_31 (v := 100) rfl ?_
    refine hc_icmp_ge C (tgt := 57) dX8_whenShows_33 (by decide) (fun c_33 => ?_) (fun c_33 => ?_)
    · exact absurd (show nI 100 ≤ nI i from c_33) (nI_ge (show i < 100 by omega) (by omega))
    refine hc_aload_n C dX8_whenShows_36 rfl rfl ?_
    refine hc_getR C fl_X8_44 rfl rfl dX8_whenShows_37 ?_
    refine hc_iload_n C dX8_whenShows_40 rfl rfl ?_
    refine hc_ialdN C (j := i) rfl rfl (by omega) dX8_whenShows_41 ?_
    rw [hc i (by omega)]
    refine hc_bipush C dX8_whenShows_42 (v := 12) rfl ?_
    refine hc_idiv C dX8_whenShows_44 (by decide) ?_
    refine hc_iload_n C dX8_whenShows_45 rfl rfl ?_
    refine hc_icmp_lt C (tgt := 51) dX8_whenShows_46 (by decide) (fun c_46 => ?_) (fun c_46 => ?_)
    · refine hc_iinc2 C (v := nI (i + 1)) dX8_whenShows_51 (by decide) rfl rfl (nI_1 i) ?_
      refine hc_goto C (tgt := 30) dX8_whenShows_54 (by decide) ?_
      exact ih (i + 1) (by omega) (hw.trans (by rw [rWh, if_pos c_46]))
    · refine hc_iload_n C dX8_whenShows_49 rfl rfl ?_
      exact kA i (hw.trans (by rw [rWh, if_neg c_46]))

set_option maxRecDepth 100000 in
set_option maxHeartbeats 4000000 in
theorem c_X8_whenShows_o {l : Launch} {G : hc_Geo} (hG : hc_ok G) {M : hc_Mem} {E D : Nat} {v1 : Int32}  (h0 : M 54 0 = 1) (hE : M 54 4 = nI E) (hE6 : E ≤ 6) (hD : M 54 5 = nI D) (hD4 : D ≤ 4) (h1 : ¬ v1 < 0 ∧ ¬ 999 < v1) : hc_M l G yX8_whenShows cX8_whenShows 3 (some .int) 8 [.ref (hc_ad G 48), .int v1] M (hc_pi (fun z M' => rWh (fun t => rIter E D t (M 54) 3) v1 100 0 = z ∧ ∀ q, q ≠ 59 → q ≠ 60 → M' q = M q)) := by
  refine hc_M.of hG (by decide) [some (.ref (hc_ad G 48)), some (.int v1), none] rfl (Nat.le_of_ble_eq_true rfl) ?_
  intro p e s m args below meth c C
  refine hc_aload_n C dX8_whenShows_0 rfl rfl ?_
  refine hc_cV0i C mv_X8_171 (c_X8_isHouse C.ok) rfl rfl rfl (Nat.le_of_ble_eq_true rfl) (hc_rr_rm (by decide)) ⟨Nat.zero_le _, Nat.zero_le _⟩ dX8_whenShows_1 (fun r_1 M_1 h_1 => ?_)
  obtain ⟨rfl, rfl⟩ := h_1
  refine hc_if_ne C (tgt := 10) dX8_whenShows_4 (by decide) (fun c_4 => ?_) (fun c_4 => ?_)
  rotate_left
  · exact absurd h0 (hb_z.mp c_4)
  refine hc_iload_n C dX8_whenShows_10 rfl rfl ?_
  refine hc_iconst C dX8_whenShows_11 (v := 0) rfl ?_
  refine hc_sipush C dX8_whenShows_12 (v := 999) rfl ?_
  refine hc_cS3i C ms_X8_56 (c_X8_in C.ok) (Nat.le_of_ble_eq_true rfl) (hc_rr_rm (by decide)) ⟨Nat.zero_le _, Nat.zero_le _⟩ dX8_whenShows_15 (fun r_15 M_15 h_15 => ?_)
  obtain ⟨rfl, rfl⟩ := h_15
  refine hc_if_ne C (tgt := 24) dX8_whenShows_18 (by decide) (fun c_18 => ?_) (fun c_18 => ?_)
  rotate_left
  · exact absurd h1 (hb_z.mp c_18)
  refine hc_aload_n C dX8_whenShows_24 rfl rfl ?_
  refine hc_cV0v C mv_X8_191 (c_X8_lays C.ok hE hE6 hD hD4) rfl rfl rfl (Nat.le_of_ble_eq_true rfl) (hc_rr_rm (by decide)) ⟨Nat.zero_le _, Nat.zero_le _⟩ dX8_whenShows_25 (fun M_25 h_25 => ?_)
  have hAg := h_25.1
  have hCo := h_25.2.1
  have hSc := h_25.2.2
  refine hc_iconst C dX8_whenShows_28 (v := 0) rfl ?_
  refine hc_istore_n2 C dX8_whenShows_29 rfl (by decide) rfl ?_
  refine lp_when (cc := fun t => rIter E D t (M 54) 3) C hCo (fun i hw => ?_) (fun hw => ?_) 100 0 rfl rfl
  · refine hc_iret C rfl dX8_whenShows_50 ?_
    exact ⟨hw, hSc⟩
  · refine hc_ldc C kc_X8_50 dX8_whenShows_57 ?_
    refine hc_iret C rfl dX8_whenShows_59 ?_
    exact ⟨hw, hSc⟩

set_option maxRecDepth 100000 in
set_option maxHeartbeats 4000000 in
theorem lp_late {G : hc_Geo} {p : Program} {l : Launch} {e : Env} {d : Nat} {s : State} {m : MethodId} {args : Array Value} {below : List Frame} {meth : Method} {c : Code} {Q : State → Prop} (C : hc_Cx G hc_lay cX8_late 4 (some .int) yX8_late.cls p s m args meth c) {M : hc_Mem} {g : Nat → Int32} {D : Nat} (hD : M 54 5 = nI D) (hD4 : D ≤ 4) (hg : rAg (M 59) g) (kk : ∀ v3 : Option Value, hc_W G hc_lay p l e (hc_rm d) s m args below meth c 4 0 0 Q 81 [some (.ref (hc_ad G 48)), some (.int (rLtM (M 54) g D)), some (.int (nI D)), v3] [] M)  :
    ∀ (t : Nat) (i : Nat), i + t = D → ∀ v3 : Option Value, hc_W G hc_lay p l e (hc_rm d) s m args below meth c 4 0 0 Q 18 [some (.ref (hc_ad G 48)), some (.int (rLtM (M 54) g i)), some (.int (nI i)), v3] [] M := by
  intro t
  induction t with
  | zero =>
    intro i hi v3
    refine hc_iload_n C dX8_late_18 rfl rfl ?_
    refine hc_aload_n C dX8_late_19 rfl rfl ?_
    refine hc_getR C fl_X8_25 rfl rfl dX8_late_20 ?_
    refine hc_iconst C dX8_late_23 (v := 5) rfl ?_
    refine hc_ialdN C (j := 5) rfl rfl (by decide) dX8_late_24 ?_
    refine hc_icmp_ge C (tgt := 81) dX8_late_25 (by decide) (fun c_25 => ?_) (fun c_25 => ?_)
    rotate_left
    · exact absurd (by rw [hD]; exact nI_le (show D ≤ i by omega) (by omega)) c_25
    rw [show i = D by omega]
    exact kk v3
  | succ t ih =>
    intro i hi v3
    refine hc_iload_n C dX8_late_18 rfl rfl ?_
    refine hc_aload_n C dX8_late_19 rfl rfl ?_
    refine hc_getR C fl_X8_25 rfl rfl dX8_late_20 ?_
    refine hc_iconst C dX8_late_23 (v := 5) rfl ?_
    refine hc_ialdN C (j := 5) rfl rfl (by decide) dX8_late_24 ?_
    refine hc_icmp_ge C (tgt := 81) dX8_late_25 (by decide) (fun c_25 => ?_) (fun c_25 => ?_)
    · exact absurd (hD ▸ c_25) (nI_ge (show i < D by omega) (by omega))
    refine hc_aload_n C dX8_late_28 rfl rfl ?_
    refine hc_getR C fl_X8_41 rfl rfl dX8_late_29 ?_
    refine hc_bipush C dX8_late_32 (v := 48) rfl ?_
    refine hc_iconst C dX8_late_34 (v := 5) rfl ?_
    refine hc_iload_n C dX8_late_35 rfl rfl ?_
    refine hc_imul C dX8_late_36 ?_
    refine hc_iadd C dX8_late_37 ?_
    refine hc_iconst C dX8_late_38 (v := 4) rfl ?_
    refine hc_iadd C dX8_late_39 ?_
    refine hc_ialdN C (j := (48 + 5 * i + 4)) rfl (hx_5 i 4) (by omega) dX8_late_40 ?_
    refine hc_top (v := g (48 + 5 * i + 4)) (hg _ (by omega)) ?_
    refine hc_istore_n3 C dX8_late_41 rfl (by decide) rfl ?_
    refine hc_iload_n C dX8_late_42 rfl rfl ?_
    refine hc_iload_n C dX8_late_43 rfl rfl ?_
    refine hc_ldc C kc_X8_50 dX8_late_44 ?_
    refine hc_icmp_eq C (tgt := 66) dX8_late_46 (by decide) (fun c_46 => ?_) (fun c_46 => ?_)
    · refine hc_iconst C dX8_late_66 (v := 1) rfl ?_
      refine hc_iload_n C dX8_late_67 rfl rfl ?_
      refine hc_ishl C dX8_late_68 ?_
      refine hc_goto C (tgt := 73) dX8_late_69 (by decide) ?_
      refine hc_ior C dX8_late_73 ?_
      refine hc_top (v := rLtM (M 54) g (i + 1)) ?_ ?_
      · rw [rLtM]
        congr 1
        symm
        first | exact if_pos (Or.inl c_46) | exact if_pos (Or.inr c_63) | exact if_neg (not_or.mpr ⟨c_46, fun w => w c_63⟩)
      refine hc_istore_n1 C dX8_late_74 rfl (by decide) rfl ?_
      refine hc_iinc2 C (v := nI (i + 1)) dX8_late_75 (by decide) rfl rfl (nI_1 i) ?_
      refine hc_goto C (tgt := 18) dX8_late_78 (by decide) ?_
      exact ih (i + 1) (by omega) _
    · refine hc_iload_n C dX8_late_49 rfl rfl ?_
      refine hc_aload_n C dX8_late_50 rfl rfl ?_
      refine hc_getR C fl_X8_25 rfl rfl dX8_late_51 ?_
      refine hc_bipush C dX8_late_54 (v := 48) rfl ?_
      refine hc_iconst C dX8_late_56 (v := 5) rfl ?_
      refine hc_iload_n C dX8_late_57 rfl rfl ?_
      refine hc_imul C dX8_late_58 ?_
      refine hc_iadd C dX8_late_59 ?_
      refine hc_iconst C dX8_late_60 (v := 2) rfl ?_
      refine hc_iadd C dX8_late_61 ?_
      refine hc_ialdN C (j := (48 + 5 * i + 2)) rfl (hx_5 i 2) (by omega) dX8_late_62 ?_
      refine hc_icmp_le C (tgt := 72) dX8_late_63 (by decide) (fun c_63 => ?_) (fun c_63 => ?_)
      · refine hc_iconst C dX8_late_72 (v := 0) rfl ?_
        refine hc_ior C dX8_late_73 ?_
        refine hc_top (v := rLtM (M 54) g (i + 1)) ?_ ?_
        · rw [rLtM]
          congr 1
          symm
          first | exact if_pos (Or.inl c_46) | exact if_pos (Or.inr c_63) | exact if_neg (not_or.mpr ⟨c_46, fun w => w c_63⟩)
        refine hc_istore_n1 C dX8_late_74 rfl (by decide) rfl ?_
        refine hc_iinc2 C (v := nI (i + 1)) dX8_late_75 (by decide) rfl rfl (nI_1 i) ?_
        refine hc_goto C (tgt := 18) dX8_late_78 (by decide) ?_
        exact ih (i + 1) (by omega) _
      · refine hc_iconst C dX8_late_66 (v := 1) rfl ?_
        refine hc_iload_n C dX8_late_67 rfl rfl ?_
        refine hc_ishl C dX8_late_68 ?_
        refine hc_goto C (tgt := 73) dX8_late_69 (by decide) ?_
        refine hc_ior C dX8_late_73 ?_
        refine hc_top (v := rLtM (M 54) g (i + 1)) ?_ ?_
        · rw [rLtM]
          congr 1
          symm
          first | exact if_pos (Or.inl c_46) | exact if_pos (Or.inr c_63) | exact if_neg (not_or.mpr ⟨c_46, fun w => w c_63⟩)
        refine hc_istore_n1 C dX8_late_74 rfl (by decide) rfl ?_
        refine hc_iinc2 C (v := nI (i + 1)) dX8_late_75 (by decide) rfl rfl (nI_1 i) ?_
        refine hc_goto C (tgt := 18) dX8_late_78 (by decide) ?_
        exact ih (i + 1) (by omega) _

set_option maxRecDepth 100000 in
set_option maxHeartbeats 4000000 in
theorem c_X8_late_o {l : Launch} {G : hc_Geo} (hG : hc_ok G) {M : hc_Mem} {E D : Nat}  (h0 : M 54 0 = 1) (hE : M 54 4 = nI E) (hE6 : E ≤ 6) (hD : M 54 5 = nI D) (hD4 : D ≤ 4) : hc_M l G yX8_late cX8_late 4 (some .int) 8 [.ref (hc_ad G 48)] M (hc_pi (fun z M' => rLtM (M 54) (rIter E D 99 (M 54)) D = z ∧ ∀ q, q ≠ 59 → q ≠ 60 → M' q = M q)) := by
  refine hc_M.of hG (by decide) [some (.ref (hc_ad G 48)), none, none, none] rfl (Nat.le_of_ble_eq_true rfl) ?_
  intro p e s m args below meth c C
  refine hc_aload_n C dX8_late_0 rfl rfl ?_
  refine hc_cV0i C mv_X8_171 (c_X8_isHouse C.ok) rfl rfl rfl (Nat.le_of_ble_eq_true rfl) (hc_rr_rm (by decide)) ⟨Nat.zero_le _, Nat.zero_le _⟩ dX8_late_1 (fun r_1 M_1 h_1 => ?_)
  obtain ⟨rfl, rfl⟩ := h_1
  refine hc_if_ne C (tgt := 10) dX8_late_4 (by decide) (fun c_4 => ?_) (fun c_4 => ?_)
  rotate_left
  · exact absurd h0 (hb_z.mp c_4)
  refine hc_aload_n C dX8_late_10 rfl rfl ?_
  refine hc_cV0v C mv_X8_191 (c_X8_lays C.ok hE hE6 hD hD4) rfl rfl rfl (Nat.le_of_ble_eq_true rfl) (hc_rr_rm (by decide)) ⟨Nat.zero_le _, Nat.zero_le _⟩ dX8_late_11 (fun M_11 h_11 => ?_)
  have hAg := h_11.1
  have hCo := h_11.2.1
  have hSc := h_11.2.2
  refine hc_iconst C dX8_late_14 (v := 0) rfl ?_
  refine hc_istore_n1 C dX8_late_15 rfl (by decide) rfl ?_
  refine hc_iconst C dX8_late_16 (v := 0) rfl ?_
  refine hc_istore_n2 C dX8_late_17 rfl (by decide) rfl ?_
  have h54 : M_11 54 = M 54 := hSc 54 (by decide) (by decide)
  refine lp_late (g := rIter E D 99 (M 54)) C (by rw [h54]; exact hD) hD4 hAg (fun v3 => ?_) D 0 (by omega) none
  refine hc_iload_n C dX8_late_81 rfl rfl ?_
  refine hc_iret C rfl dX8_late_82 ?_
  exact ⟨by rw [h54], hSc⟩
