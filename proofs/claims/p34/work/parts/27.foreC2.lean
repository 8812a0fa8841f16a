set_option maxRecDepth 100000 in
set_option maxHeartbeats 4000000 in
theorem lp_fewestToBeHushed {G : hc_Geo} {p : Program} {l : Launch} {e : Env} {d : Nat} {s : State} {m : MethodId} {args : Array Value} {below : List Frame} {meth : Method} {c : Code} {Q : State → Prop} (C : hc_Cx G hc_lay cX2_fewestToBeHushed 6 (some .int) yX2_fewestToBeHushed.cls p s m args meth c) {M : hc_Mem} {E N : Nat} {v : Int32} (hd : 4 < d) (hN : N ≤ 99) (hE : M 9 5 = nI E) (hE6 : E ≤ 6) 
    (kk : hc_W G hc_lay p l e (hc_rm d) s m args below meth c 6 0 0 Q 66 [some (.ref (hc_ad G 9)), some (.int v), some (.int (nI N)), some (.int (hAtt M E)), some (.int (hFwH M E N v (2 ^ E))), some (.int (nI (2 ^ E)))] [] M) :
    ∀ (t : Nat) (i : Nat), i + t = 2 ^ E → hc_W G hc_lay p l e (hc_rm d) s m args below meth c 6 0 0 Q 12 [some (.ref (hc_ad G 9)), some (.int v), some (.int (nI N)), some (.int (hAtt M E)), some (.int (hFwH M E N v i)), some (.int (nI i))] [] M := by
  intro t
  induction t with
  | zero =>
    intro i hi
    have h64 : 2 ^ E ≤ 64 := Nat.pow_le_pow_right (n := 2) (by decide) hE6
    refine hc_iload C dX2_fewestToBeHushed_12 rfl ?_
    refine hc_aload_n C dX2_fewestToBeHushed_14 rfl rfl ?_
    refine hc_cV0i C mv_X2_61 (c_X3_allSets C.ok) rfl rfl rfl (Nat.le_of_ble_eq_true rfl) (hc_rr_rm (Nat.lt_trans (by decide) hd)) ⟨Nat.zero_le _, Nat.zero_le _⟩ dX2_fewestToBeHushed_15 (fun r_15 M_15 h_15 => ?_)
    obtain ⟨rfl, rfl⟩ := h_15
    refine hc_top (v := nI (2 ^ E)) (by rw [hE]; exact hx_sets E hE6) ?_
    refine hc_icmp_ge C (tgt := 66) dX2_fewestToBeHushed_18 (by decide) (fun c_18 => ?_) (fun c_18 => ?_)
    rotate_left
    · exact absurd (nI_le (show 2 ^ E ≤ i by omega) (by omega)) c_18
    rw [show i = 2 ^ E by omega]
    exact kk
  | succ t ih =>
    intro i hi
    have h64 : 2 ^ E ≤ 64 := Nat.pow_le_pow_right (n := 2) (by decide) hE6
    refine hc_iload C dX2_fewestToBeHushed_12 rfl ?_
    refine hc_aload_n C dX2_fewestToBeHushed_14 rfl rfl ?_
    refine hc_cV0i C mv_X2_61 (c_X3_allSets C.ok) rfl rfl rfl (Nat.le_of_ble_eq_true rfl) (hc_rr_rm (Nat.lt_trans (by decide) hd)) ⟨Nat.zero_le _, Nat.zero_le _⟩ dX2_fewestToBeHushed_15 (fun r_15 M_15 h_15 => ?_)
    obtain ⟨rfl, rfl⟩ := h_15
    refine hc_top (v := nI (2 ^ E)) (by rw [hE]; exact hx_sets E hE6) ?_
    refine hc_icmp_ge C (tgt := 66) dX2_fewestToBeHushed_18 (by decide) (fun c_18 => ?_) (fun c_18 => ?_)
    · exact absurd c_18 (nI_ge (show i < 2 ^ E by omega) (by omega))
    refine hc_iload C dX2_fewestToBeHushed_21 rfl ?_
    refine hc_aload_n C dX2_fewestToBeHushed_23 rfl rfl ?_
    refine hc_getI C fl_X2_64 rfl rfl dX2_fewestToBeHushed_24 ?_
    refine hc_iand C dX2_fewestToBeHushed_27 ?_
    refine hc_if_ne C (tgt := 60) dX2_fewestToBeHushed_28 (by decide) (fun c_28 => ?_) (fun c_28 => ?_)
    · refine hc_iinc5 C (v := nI (i + 1)) dX2_fewestToBeHushed_60 (by decide) rfl rfl (nI_1 i) ?_
      refine hc_goto C (tgt := 12) dX2_fewestToBeHushed_63 (by decide) ?_
      have e1 := ih (i + 1) (by omega)
      first
        | (rw [hFwH, if_neg (fun z => c_28 z.1)] at e1; exact e1)
        | (rw [hFwH, if_neg (fun z => hb_z.mp c_38 z.2.1)] at e1; exact e1)
        | (rw [hFwH, if_neg (fun z => z.2.2 c_53)] at e1; exact e1)
        | (rw [hFwH, if_pos ⟨c_28, hb_nz.mp c_38, c_53⟩] at e1; exact e1)
    · refine hc_iload C dX2_fewestToBeHushed_31 rfl ?_
      refine hc_iload C dX2_fewestToBeHushed_33 rfl ?_
      refine hc_cS2i C ms_X2_67 (c_X2_isFewer C.ok) (Nat.le_of_ble_eq_true rfl) (hc_rr_rm (Nat.lt_trans (by decide) hd)) ⟨Nat.zero_le _, Nat.zero_le _⟩ dX2_fewestToBeHushed_35 (fun r_35 M_35 h_35 => ?_)
      obtain ⟨rfl, rfl⟩ := h_35
      refine hc_if_eq C (tgt := 60) dX2_fewestToBeHushed_38 (by decide) (fun c_38 => ?_) (fun c_38 => ?_)
      · refine hc_iinc5 C (v := nI (i + 1)) dX2_fewestToBeHushed_60 (by decide) rfl rfl (nI_1 i) ?_
        refine hc_goto C (tgt := 12) dX2_fewestToBeHushed_63 (by decide) ?_
        have e1 := ih (i + 1) (by omega)
        first
          | (rw [hFwH, if_neg (fun z => c_28 z.1)] at e1; exact e1)
          | (rw [hFwH, if_neg (fun z => hb_z.mp c_38 z.2.1)] at e1; exact e1)
          | (rw [hFwH, if_neg (fun z => z.2.2 c_53)] at e1; exact e1)
          | (rw [hFwH, if_pos ⟨c_28, hb_nz.mp c_38, c_53⟩] at e1; exact e1)
      · refine hc_aload_n C dX2_fewestToBeHushed_41 rfl rfl ?_
        refine hc_iload_n C dX2_fewestToBeHushed_42 rfl rfl ?_
        refine hc_iload C dX2_fewestToBeHushed_43 rfl ?_
        refine hc_iconst C dX2_fewestToBeHushed_45 (v := (-1)) rfl ?_
        refine hc_ixor C dX2_fewestToBeHushed_46 ?_
        refine hc_iand C dX2_fewestToBeHushed_47 ?_
        refine hc_iload_n C dX2_fewestToBeHushed_48 rfl rfl ?_
        refine hc_cS3i C ms_X2_71 (c_X2_shownAfter C.ok hN hE hE6) (Nat.le_of_ble_eq_true rfl) (hc_rr_rm hd) ⟨Nat.zero_le _, Nat.zero_le _⟩ dX2_fewestToBeHushed_49 (fun r_49 M_49 h_49 => ?_)
        obtain ⟨rfl, rfl⟩ := h_49
        refine hc_iload_n C dX2_fewestToBeHushed_52 rfl rfl ?_
        refine hc_icmp_gt C (tgt := 60) dX2_fewestToBeHushed_53 (by decide) (fun c_53 => ?_) (fun c_53 => ?_)
        · refine hc_iinc5 C (v := nI (i + 1)) dX2_fewestToBeHushed_60 (by decide) rfl rfl (nI_1 i) ?_
          refine hc_goto C (tgt := 12) dX2_fewestToBeHushed_63 (by decide) ?_
          have e1 := ih (i + 1) (by omega)
          first
            | (rw [hFwH, if_neg (fun z => c_28 z.1)] at e1; exact e1)
            | (rw [hFwH, if_neg (fun z => hb_z.mp c_38 z.2.1)] at e1; exact e1)
            | (rw [hFwH, if_neg (fun z => z.2.2 c_53)] at e1; exact e1)
            | (rw [hFwH, if_pos ⟨c_28, hb_nz.mp c_38, c_53⟩] at e1; exact e1)
        · refine hc_iload C dX2_fewestToBeHushed_56 rfl ?_
          refine hc_istore4 C dX2_fewestToBeHushed_58 (by decide) rfl ?_
          refine hc_iinc5 C (v := nI (i + 1)) dX2_fewestToBeHushed_60 (by decide) rfl rfl (nI_1 i) ?_
          refine hc_goto C (tgt := 12) dX2_fewestToBeHushed_63 (by decide) ?_
          have e1 := ih (i + 1) (by omega)
          first
            | (rw [hFwH, if_neg (fun z => c_28 z.1)] at e1; exact e1)
            | (rw [hFwH, if_neg (fun z => hb_z.mp c_38 z.2.1)] at e1; exact e1)
            | (rw [hFwH, if_neg (fun z => z.2.2 c_53)] at e1; exact e1)
            | (rw [hFwH, if_pos ⟨c_28, hb_nz.mp c_38, c_53⟩] at e1; exact e1)

set_option maxRecDepth 100000 in
set_option maxHeartbeats 4000000 in
theorem c_X2_fewestToBeHushed {l : Launch} {G : hc_Geo} (hG : hc_ok G) {M : hc_Mem} {E N : Nat} {v : Int32}  (hN : N ≤ 99) (hE : M 9 5 = nI E) (hE6 : E ≤ 6) : hc_M l G yX2_fewestToBeHushed cX2_fewestToBeHushed 6 (some .int) 5 [.ref (hc_ad G 9), .int v, .int (nI N)] M (hc_pi (fun z M' => hFwH M E N v (2 ^ E) = z ∧ M = M')) := by
  refine hc_M.of hG (by decide) [some (.ref (hc_ad G 9)), some (.int v), some (.int (nI N)), none, none, none] rfl (Nat.le_of_ble_eq_true rfl) ?_
  intro p e s m args below meth c C
  refine hc_aload_n C dX2_fewestToBeHushed_0 rfl rfl ?_
  refine hc_cV0i C mv_X2_28 (c_X3_attending C.ok hE hE6) rfl rfl rfl (Nat.le_of_ble_eq_true rfl) (hc_rr_rm (by decide)) ⟨Nat.zero_le _, Nat.zero_le _⟩ dX2_fewestToBeHushed_1 (fun r_1 M_1 h_1 => ?_)
  obtain ⟨rfl, rfl⟩ := h_1
  refine hc_istore_n3 C dX2_fewestToBeHushed_4 rfl (by decide) rfl ?_
  refine hc_ldc C kc_X2_32 dX2_fewestToBeHushed_5 ?_
  refine hc_istore4 C dX2_fewestToBeHushed_7 (by decide) rfl ?_
  refine hc_iconst C dX2_fewestToBeHushed_9 (v := 0) rfl ?_
  refine hc_istore5 C dX2_fewestToBeHushed_10 (by decide) rfl ?_
  refine lp_fewestToBeHushed C (by decide) hN hE hE6 ?_ (2 ^ E) 0 (by omega)
  refine hc_iload C dX2_fewestToBeHushed_66 rfl ?_
  refine hc_iret C rfl dX2_fewestToBeHushed_68 ?_
  exact ⟨rfl, rfl⟩

set_option maxRecDepth 100000 in
set_option maxHeartbeats 4000000 in
theorem lp_fewestToBeCalled {G : hc_Geo} {p : Program} {l : Launch} {e : Env} {d : Nat} {s : State} {m : MethodId} {args : Array Value} {below : List Frame} {meth : Method} {c : Code} {Q : State → Prop} (C : hc_Cx G hc_lay cX2_fewestToBeCalled 7 (some .int) yX2_fewestToBeCalled.cls p s m args meth c) {M : hc_Mem} {E N : Nat} {v : Int32} (hd : 4 < d) (hN : N ≤ 99) (hE : M 9 5 = nI E) (hE6 : E ≤ 6) 
    (kk : hc_W G hc_lay p l e (hc_rm d) s m args below meth c 7 0 0 Q 68 [some (.ref (hc_ad G 9)), some (.int v), some (.int (nI N)), some (.int (hAtt M E)), some (.int (hc_icr M E)), some (.int (hFwC M E N v (2 ^ E))), some (.int (nI (2 ^ E)))] [] M) :
    ∀ (t : Nat) (i : Nat), i + t = 2 ^ E → hc_W G hc_lay p l e (hc_rm d) s m args below meth c 7 0 0 Q 18 [some (.ref (hc_ad G 9)), some (.int v), some (.int (nI N)), some (.int (hAtt M E)), some (.int (hc_icr M E)), some (.int (hFwC M E N v i)), some (.int (nI i))] [] M := by
  intro t
  induction t with
  | zero =>
    intro i hi
    have h64 : 2 ^ E ≤ 64 := Nat.pow_le_pow_right (n := 2) (by decide) hE6
    refine hc_iload C dX2_fewestToBeCalled_18 rfl ?_
    refine hc_aload_n C dX2_fewestToBeCalled_20 rfl rfl ?_
    refine hc_cV0i C mv_X2_61 (c_X3_allSets C.ok) rfl rfl rfl (Nat.le_of_ble_eq_true rfl) (hc_rr_rm (Nat.lt_trans (by decide) hd)) ⟨Nat.zero_le _, Nat.zero_le _⟩ dX2_fewestToBeCalled_21 (fun r_21 M_21 h_21 => ?_)
    obtain ⟨rfl, rfl⟩ := h_21
    refine hc_top (v := nI (2 ^ E)) (by rw [hE]; exact hx_sets E hE6) ?_
    refine hc_icmp_ge C (tgt := 68) dX2_fewestToBeCalled_24 (by decide) (fun c_24 => ?_) (fun c_24 => ?_)
    rotate_left
    · exact absurd (nI_le (show 2 ^ E ≤ i by omega) (by omega)) c_24
    rw [show i = 2 ^ E by omega]
    exact kk
  | succ t ih =>
    intro i hi
    have h64 : 2 ^ E ≤ 64 := Nat.pow_le_pow_right (n := 2) (by decide) hE6
    refine hc_iload C dX2_fewestToBeCalled_18 rfl ?_
    refine hc_aload_n C dX2_fewestToBeCalled_20 rfl rfl ?_
    refine hc_cV0i C mv_X2_61 (c_X3_allSets C.ok) rfl rfl rfl (Nat.le_of_ble_eq_true rfl) (hc_rr_rm (Nat.lt_trans (by decide) hd)) ⟨Nat.zero_le _, Nat.zero_le _⟩ dX2_fewestToBeCalled_21 (fun r_21 M_21 h_21 => ?_)
    obtain ⟨rfl, rfl⟩ := h_21
    refine hc_top (v := nI (2 ^ E)) (by rw [hE]; exact hx_sets E hE6) ?_
    refine hc_icmp_ge C (tgt := 68) dX2_fewestToBeCalled_24 (by decide) (fun c_24 => ?_) (fun c_24 => ?_)
    · exact absurd c_24 (nI_ge (show i < 2 ^ E by omega) (by omega))
    refine hc_iload C dX2_fewestToBeCalled_27 rfl ?_
    refine hc_iload C dX2_fewestToBeCalled_29 rfl ?_
    refine hc_iand C dX2_fewestToBeCalled_31 ?_
    refine hc_if_ne C (tgt := 62) dX2_fewestToBeCalled_32 (by decide) (fun c_32 => ?_) (fun c_32 => ?_)
    · refine hc_iinc6 C (v := nI (i + 1)) dX2_fewestToBeCalled_62 (by decide) rfl rfl (nI_1 i) ?_
      refine hc_goto C (tgt := 18) dX2_fewestToBeCalled_65 (by decide) ?_
      have e1 := ih (i + 1) (by omega)
      first
        | (rw [hFwC, if_neg (fun z => c_32 z.1)] at e1; exact e1)
        | (rw [hFwC, if_neg (fun z => hb_z.mp c_42 z.2.1)] at e1; exact e1)
        | (rw [hFwC, if_neg (fun z => z.2.2 c_55)] at e1; exact e1)
        | (rw [hFwC, if_pos ⟨c_32, hb_nz.mp c_42, c_55⟩] at e1; exact e1)
    · refine hc_iload C dX2_fewestToBeCalled_35 rfl ?_
      refine hc_iload C dX2_fewestToBeCalled_37 rfl ?_
      refine hc_cS2i C ms_X2_67 (c_X2_isFewer C.ok) (Nat.le_of_ble_eq_true rfl) (hc_rr_rm (Nat.lt_trans (by decide) hd)) ⟨Nat.zero_le _, Nat.zero_le _⟩ dX2_fewestToBeCalled_39 (fun r_39 M_39 h_39 => ?_)
      obtain ⟨rfl, rfl⟩ := h_39
      refine hc_if_eq C (tgt := 62) dX2_fewestToBeCalled_42 (by decide) (fun c_42 => ?_) (fun c_42 => ?_)
      · refine hc_iinc6 C (v := nI (i + 1)) dX2_fewestToBeCalled_62 (by decide) rfl rfl (nI_1 i) ?_
        refine hc_goto C (tgt := 18) dX2_fewestToBeCalled_65 (by decide) ?_
        have e1 := ih (i + 1) (by omega)
        first
          | (rw [hFwC, if_neg (fun z => c_32 z.1)] at e1; exact e1)
          | (rw [hFwC, if_neg (fun z => hb_z.mp c_42 z.2.1)] at e1; exact e1)
          | (rw [hFwC, if_neg (fun z => z.2.2 c_55)] at e1; exact e1)
          | (rw [hFwC, if_pos ⟨c_32, hb_nz.mp c_42, c_55⟩] at e1; exact e1)
      · refine hc_aload_n C dX2_fewestToBeCalled_45 rfl rfl ?_
        refine hc_iload_n C dX2_fewestToBeCalled_46 rfl rfl ?_
        refine hc_iload C dX2_fewestToBeCalled_47 rfl ?_
        refine hc_ior C dX2_fewestToBeCalled_49 ?_
        refine hc_iload_n C dX2_fewestToBeCalled_50 rfl rfl ?_
        refine hc_cS3i C ms_X2_71 (c_X2_shownAfter C.ok hN hE hE6) (Nat.le_of_ble_eq_true rfl) (hc_rr_rm hd) ⟨Nat.zero_le _, Nat.zero_le _⟩ dX2_fewestToBeCalled_51 (fun r_51 M_51 h_51 => ?_)
        obtain ⟨rfl, rfl⟩ := h_51
        refine hc_iload_n C dX2_fewestToBeCalled_54 rfl rfl ?_
        refine hc_icmp_lt C (tgt := 62) dX2_fewestToBeCalled_55 (by decide) (fun c_55 => ?_) (fun c_55 => ?_)
        · refine hc_iinc6 C (v := nI (i + 1)) dX2_fewestToBeCalled_62 (by decide) rfl rfl (nI_1 i) ?_
          refine hc_goto C (tgt := 18) dX2_fewestToBeCalled_65 (by decide) ?_
          have e1 := ih (i + 1) (by omega)
          first
            | (rw [hFwC, if_neg (fun z => c_32 z.1)] at e1; exact e1)
            | (rw [hFwC, if_neg (fun z => hb_z.mp c_42 z.2.1)] at e1; exact e1)
            | (rw [hFwC, if_neg (fun z => z.2.2 c_55)] at e1; exact e1)
            | (rw [hFwC, if_pos ⟨c_32, hb_nz.mp c_42, c_55⟩] at e1; exact e1)
        · refine hc_iload C dX2_fewestToBeCalled_58 rfl ?_
          refine hc_istore5 C dX2_fewestToBeCalled_60 (by decide) rfl ?_
          refine hc_iinc6 C (v := nI (i + 1)) dX2_fewestToBeCalled_62 (by decide) rfl rfl (nI_1 i) ?_
          refine hc_goto C (tgt := 18) dX2_fewestToBeCalled_65 (by decide) ?_
          have e1 := ih (i + 1) (by omega)
          first
            | (rw [hFwC, if_neg (fun z => c_32 z.1)] at e1; exact e1)
            | (rw [hFwC, if_neg (fun z => hb_z.mp c_42 z.2.1)] at e1; exact e1)
            | (rw [hFwC, if_neg (fun z => z.2.2 c_55)] at e1; exact e1)
            | (rw [hFwC, if_pos ⟨c_32, hb_nz.mp c_42, c_55⟩] at e1; exact e1)

set_option maxRecDepth 100000 in
set_option maxHeartbeats 4000000 in
theorem c_X2_fewestToBeCalled {l : Launch} {G : hc_Geo} (hG : hc_ok G) {M : hc_Mem} {E N : Nat} {v : Int32}  (hN : N ≤ 99) (hE : M 9 5 = nI E) (hE6 : E ≤ 6) : hc_M l G yX2_fewestToBeCalled cX2_fewestToBeCalled 7 (some .int) 5 [.ref (hc_ad G 9), .int v, .int (nI N)] M (hc_pi (fun z M' => hFwC M E N v (2 ^ E) = z ∧ M = M')) := by
  refine hc_M.of hG (by decide) [some (.ref (hc_ad G 9)), some (.int v), some (.int (nI N)), none, none, none, none] rfl (Nat.le_of_ble_eq_true rfl) ?_
  intro p e s m args below meth c C
  refine hc_aload_n C dX2_fewestToBeCalled_0 rfl rfl ?_
  refine hc_cV0i C mv_X2_28 (c_X3_attending C.ok hE hE6) rfl rfl rfl (Nat.le_of_ble_eq_true rfl) (hc_rr_rm (by decide)) ⟨Nat.zero_le _, Nat.zero_le _⟩ dX2_fewestToBeCalled_1 (fun r_1 M_1 h_1 => ?_)
  obtain ⟨rfl, rfl⟩ := h_1
  refine hc_istore_n3 C dX2_fewestToBeCalled_4 rfl (by decide) rfl ?_
  refine hc_aload_n C dX2_fewestToBeCalled_5 rfl rfl ?_
  refine hc_cV0i C mv_X2_74 (c_X3_inClockRoom C.ok hE hE6) rfl rfl rfl (Nat.le_of_ble_eq_true rfl) (hc_rr_rm (by decide)) ⟨Nat.zero_le _, Nat.zero_le _⟩ dX2_fewestToBeCalled_6 (fun r_6 M_6 h_6 => ?_)
  obtain ⟨rfl, rfl⟩ := h_6
  refine hc_istore4 C dX2_fewestToBeCalled_9 (by decide) rfl ?_
  refine hc_ldc C kc_X2_32 dX2_fewestToBeCalled_11 ?_
  refine hc_istore5 C dX2_fewestToBeCalled_13 (by decide) rfl ?_
  refine hc_iconst C dX2_fewestToBeCalled_15 (v := 0) rfl ?_
  refine hc_istore6 C dX2_fewestToBeCalled_16 (by decide) rfl ?_
  refine lp_fewestToBeCalled C (by decide) hN hE hE6 ?_ (2 ^ E) 0 (by omega)
  refine hc_iload C dX2_fewestToBeCalled_68 rfl ?_
  refine hc_iret C rfl dX2_fewestToBeCalled_70 ?_
  exact ⟨rfl, rfl⟩

set_option maxRecDepth 100000 in
set_option maxHeartbeats 4000000 in
theorem lp_goesSo {G : hc_Geo} {p : Program} {l : Launch} {e : Env} {s : State} {m : MethodId} {args : Array Value} {below : List Frame} {meth : Method} {c : Code} (C : hc_Cx G hc_lay cX2_goesSo 7 (some .boolean) yX2_goesSo.cls p s m args meth c) {M : hc_Mem} {E j i0 n : Nat} {s0 : Int32} (hj : j < 8) (hi0 : i0 + n ≤ 40) (hE : M 9 5 = nI E) (hE6 : E ≤ 6)  :
    ∀ (t : Nat) (i : Nat), i + t = n → (∀ k, k < i → hPar M E s0 (M 9 2 + nI k) = M 4 (40 * j + i0 + k)) → hc_W G hc_lay p l e (hc_rm 3) s m args below meth c 7 0 0 (MQ below (hc_Q G hc_lay (hc_pi (fun z M' => hb (hSo M E s0 (40 * j + i0) n) = z ∧ M = M'))) args s 0 0 (hc_A G)) 3 [some (.ref (hc_ad G 9)), some (.int s0), some (.ref (hc_ad G 1)), some (.int (nI j)), some (.int (nI i0)), some (.int (nI n)), some (.int (nI i))] [] M := by
  intro t
  induction t with
  | zero =>
    intro i hi hs
    refine hc_iload C dX2_goesSo_3 rfl ?_
    refine hc_iload C dX2_goesSo_5 rfl ?_
    refine hc_icmp_ge C (tgt := 43) dX2_goesSo_7 (by decide) (fun c_7 => ?_) (fun c_7 => ?_)
    rotate_left
    · exact absurd (nI_le (show n ≤ i by omega) (by omega)) c_7
    refine hc_iconst C dX2_goesSo_43 (v := 1) rfl ?_
    refine hc_zret C rfl rfl dX2_goesSo_44 ?_
    exact ⟨hb_t (fun k hk => hs k (by omega)), rfl⟩
  | succ t ih =>
    intro i hi hs
    refine hc_iload C dX2_goesSo_3 rfl ?_
    refine hc_iload C dX2_goesSo_5 rfl ?_
    refine hc_icmp_ge C (tgt := 43) dX2_goesSo_7 (by decide) (fun c_7 => ?_) (fun c_7 => ?_)
    · exact absurd c_7 (nI_ge (show i < n by omega) (by omega))
    refine hc_aload_n C dX2_goesSo_10 rfl rfl ?_
    refine hc_iload_n C dX2_goesSo_11 rfl rfl ?_
    refine hc_aload_n C dX2_goesSo_12 rfl rfl ?_
    refine hc_getI C fl_X2_15 rfl rfl dX2_goesSo_13 ?_
    refine hc_iload C dX2_goesSo_16 rfl ?_
    refine hc_iadd C dX2_goesSo_18 ?_
    refine hc_cV2i C mv_X2_18 (c_X3_partsOf C.ok hE hE6) rfl rfl rfl (Nat.le_of_ble_eq_true rfl) (hc_rr_rm (by decide)) ⟨Nat.zero_le _, Nat.zero_le _⟩ dX2_goesSo_19 (fun r_19 M_19 h_19 => ?_)
    obtain ⟨rfl, rfl⟩ := h_19
    refine hc_aload_n C dX2_goesSo_22 rfl rfl ?_
    refine hc_iload_n C dX2_goesSo_23 rfl rfl ?_
    refine hc_iload C dX2_goesSo_24 rfl ?_
    refine hc_iload C dX2_goesSo_26 rfl ?_
    refine hc_iadd C dX2_goesSo_28 ?_
    refine hc_top (v := nI (i0 + i)) (nI_add i0 i) ?_
    refine hc_cV2i C mv_X2_82 (c_X5_item C.ok hj (show i0 + i < 40 by omega)) rfl rfl rfl (Nat.le_of_ble_eq_true rfl) (hc_rr_rm (by decide)) ⟨Nat.zero_le _, Nat.zero_le _⟩ dX2_goesSo_29 (fun r_29 M_29 h_29 => ?_)
    obtain ⟨rfl, rfl⟩ := h_29
    refine hc_icmp_eq C (tgt := 37) dX2_goesSo_32 (by decide) (fun c_32 => ?_) (fun c_32 => ?_)
    · refine hc_iinc6 C (v := nI (i + 1)) dX2_goesSo_37 (by decide) rfl rfl (nI_1 i) ?_
      refine hc_goto C (tgt := 3) dX2_goesSo_40 (by decide) ?_
      refine ih (i + 1) (by omega) (fun k hk => ?_)
      rcases Nat.lt_or_ge k i with h | h
      · exact hs k h
      · rw [show k = i by omega, c_32]
        congr 1
        omega
    · refine hc_iconst C dX2_goesSo_35 (v := 0) rfl ?_
      refine hc_zret C rfl rfl dX2_goesSo_36 ?_
      exact ⟨hb_f (fun z => c_32 (by rw [z i (by omega)]; congr 1; omega)), rfl⟩

set_option maxRecDepth 100000 in
set_option maxHeartbeats 4000000 in
theorem c_X2_goesSo {l : Launch} {G : hc_Geo} (hG : hc_ok G) {M : hc_Mem} {E j i0 n : Nat} {s0 : Int32}  (hj : j < 8) (hi0 : i0 + n ≤ 40) (hE : M 9 5 = nI E) (hE6 : E ≤ 6) : hc_M l G yX2_goesSo cX2_goesSo 7 (some .boolean) 3 [.ref (hc_ad G 9), .int s0, .ref (hc_ad G 1), .int (nI j), .int (nI i0), .int (nI n)] M (hc_pi (fun z M' => hb (hSo M E s0 (40 * j + i0) n) = z ∧ M = M')) := by
  refine hc_M.of hG (by decide) [some (.ref (hc_ad G 9)), some (.int s0), some (.ref (hc_ad G 1)), some (.int (nI j)), some (.int (nI i0)), some (.int (nI n)), none] rfl (Nat.le_of_ble_eq_true rfl) ?_
  intro p e s m args below meth c C
  refine hc_iconst C dX2_goesSo_0 (v := 0) rfl ?_
  refine hc_istore6 C dX2_goesSo_1 (by decide) rfl ?_
  exact lp_goesSo C hj hi0 hE hE6 n 0 (by omega) (fun k hk => absurd hk (Nat.not_lt_zero k))

set_option maxRecDepth 100000 in
set_option maxHeartbeats 4000000 in
theorem lp_setsThatGoSo {G : hc_Geo} {p : Program} {l : Launch} {e : Env} {d : Nat} {s : State} {m : MethodId} {args : Array Value} {below : List Frame} {meth : Method} {c : Code} {Q : State → Prop} (C : hc_Cx G hc_lay cX2_setsThatGoSo 8 (some .long) yX2_setsThatGoSo.cls p s m args meth c) {M : hc_Mem} {E j i0 n : Nat} (hd : 3 < d) (hj : j < 8) (hi0 : i0 + n ≤ 40) (hE : M 9 5 = nI E) (hE6 : E ≤ 6) 
    (kk : hc_W G hc_lay p l e (hc_rm d) s m args below meth c 8 0 0 Q 44 [some (.ref (hc_ad G 9)), some (.ref (hc_ad G 1)), some (.int (nI j)), some (.int (nI i0)), some (.int (nI n)), some (.long (hSets M E (40 * j + i0) n (2 ^ E))), none, some (.int (nI (2 ^ E)))] [] M) :
    ∀ (t : Nat) (i : Nat), i + t = 2 ^ E → hc_W G hc_lay p l e (hc_rm d) s m args below meth c 8 0 0 Q 6 [some (.ref (hc_ad G 9)), some (.ref (hc_ad G 1)), some (.int (nI j)), some (.int (nI i0)), some (.int (nI n)), some (.long (hSets M E (40 * j + i0) n i)), none, some (.int (nI i))] [] M := by
  intro t
  induction t with
  | zero =>
    intro i hi
    have h64 : 2 ^ E ≤ 64 := Nat.pow_le_pow_right (n := 2) (by decide) hE6
    refine hc_iload C dX2_setsThatGoSo_6 rfl ?_
    refine hc_aload_n C dX2_setsThatGoSo_8 rfl rfl ?_
    refine hc_cV0i C mv_X2_61 (c_X3_allSets C.ok) rfl rfl rfl (Nat.le_of_ble_eq_true rfl) (hc_rr_rm (Nat.lt_trans (by decide) hd)) ⟨Nat.zero_le _, Nat.zero_le _⟩ dX2_setsThatGoSo_9 (fun r_9 M_9 h_9 => ?_)
    obtain ⟨rfl, rfl⟩ := h_9
    refine hc_top (v := nI (2 ^ E)) (by rw [hE]; exact hx_sets E hE6) ?_
    refine hc_icmp_ge C (tgt := 44) dX2_setsThatGoSo_12 (by decide) (fun c_12 => ?_) (fun c_12 => ?_)
    rotate_left
    · exact absurd (nI_le (show 2 ^ E ≤ i by omega) (by omega)) c_12
    rw [show i = 2 ^ E by omega]
    exact kk
  | succ t ih =>
    intro i hi
    have h64 : 2 ^ E ≤ 64 := Nat.pow_le_pow_right (n := 2) (by decide) hE6
    refine hc_iload C dX2_setsThatGoSo_6 rfl ?_
    refine hc_aload_n C dX2_setsThatGoSo_8 rfl rfl ?_
    refine hc_cV0i C mv_X2_61 (c_X3_allSets C.ok) rfl rfl rfl (Nat.le_of_ble_eq_true rfl) (hc_rr_rm (Nat.lt_trans (by decide) hd)) ⟨Nat.zero_le _, Nat.zero_le _⟩ dX2_setsThatGoSo_9 (fun r_9 M_9 h_9 => ?_)
    obtain ⟨rfl, rfl⟩ := h_9
    refine hc_top (v := nI (2 ^ E)) (by rw [hE]; exact hx_sets E hE6) ?_
    refine hc_icmp_ge C (tgt := 44) dX2_setsThatGoSo_12 (by decide) (fun c_12 => ?_) (fun c_12 => ?_)
    · exact absurd c_12 (nI_ge (show i < 2 ^ E by omega) (by omega))
    refine hc_aload_n C dX2_setsThatGoSo_15 rfl rfl ?_
    refine hc_iload C dX2_setsThatGoSo_16 rfl ?_
    refine hc_aload_n C dX2_setsThatGoSo_18 rfl rfl ?_
    refine hc_iload_n C dX2_setsThatGoSo_19 rfl rfl ?_
    refine hc_iload_n C dX2_setsThatGoSo_20 rfl rfl ?_
    refine hc_iload C dX2_setsThatGoSo_21 rfl ?_
    refine hc_cS6i C ms_X2_87 (c_X2_goesSo C.ok hj hi0 hE hE6) (Nat.le_of_ble_eq_true rfl) (hc_rr_rm hd) ⟨Nat.zero_le _, Nat.zero_le _⟩ dX2_setsThatGoSo_23 (fun r_23 M_23 h_23 => ?_)
    obtain ⟨rfl, rfl⟩ := h_23
    refine hc_if_eq C (tgt := 38) dX2_setsThatGoSo_26 (by decide) (fun c_26 => ?_) (fun c_26 => ?_)
    · refine hc_iinc7 C (v := nI (i + 1)) dX2_setsThatGoSo_38 (by decide) rfl rfl (nI_1 i) ?_
      refine hc_goto C (tgt := 6) dX2_setsThatGoSo_41 (by decide) ?_
      have e1 := ih (i + 1) (by omega)
      first
        | (rw [hSets, if_neg (hb_z.mp c_26)] at e1; exact e1)
        | (rw [hSets, if_pos (hb_nz.mp c_26)] at e1; exact e1)
    · refine hc_lload C dX2_setsThatGoSo_29 rfl ?_
      refine hc_lconst C dX2_setsThatGoSo_31 (v := 1) rfl ?_
      refine hc_iload C dX2_setsThatGoSo_32 rfl ?_
      refine hc_lshl C dX2_setsThatGoSo_34 ?_
      refine hc_lor C dX2_setsThatGoSo_35 ?_
      refine hc_lstore5 C dX2_setsThatGoSo_36 (by decide) rfl ?_
      refine hc_iinc7 C (v := nI (i + 1)) dX2_setsThatGoSo_38 (by decide) rfl rfl (nI_1 i) ?_
      refine hc_goto C (tgt := 6) dX2_setsThatGoSo_41 (by decide) ?_
      have e1 := ih (i + 1) (by omega)
      first
        | (rw [hSets, if_neg (hb_z.mp c_26)] at e1; exact e1)
        | (rw [hSets, if_pos (hb_nz.mp c_26)] at e1; exact e1)

set_option maxRecDepth 100000 in
set_option maxHeartbeats 4000000 in
theorem c_X2_setsThatGoSo {l : Launch} {G : hc_Geo} (hG : hc_ok G) {M : hc_Mem} {E j i0 n : Nat}  (hj : j < 8) (hi0 : i0 + n ≤ 40) (hE : M 9 5 = nI E) (hE6 : E ≤ 6) : hc_M l G yX2_setsThatGoSo cX2_setsThatGoSo 8 (some .long) 4 [.ref (hc_ad G 9), .ref (hc_ad G 1), .int (nI j), .int (nI i0), .int (nI n)] M (hc_pl (fun z M' => hSets M E (40 * j + i0) n (2 ^ E) = z ∧ M = M')) := by
  refine hc_M.of hG (by decide) [some (.ref (hc_ad G 9)), some (.ref (hc_ad G 1)), some (.int (nI j)), some (.int (nI i0)), some (.int (nI n)), none, none, none] rfl (Nat.le_of_ble_eq_true rfl) ?_
  intro p e s m args below meth c C
  refine hc_lconst C dX2_setsThatGoSo_0 (v := 0) rfl ?_
  refine hc_lstore5 C dX2_setsThatGoSo_1 (by decide) rfl ?_
  refine hc_iconst C dX2_setsThatGoSo_3 (v := 0) rfl ?_
  refine hc_istore7 C dX2_setsThatGoSo_4 (by decide) rfl ?_
  refine lp_setsThatGoSo C (by decide) hj hi0 hE hE6 ?_ (2 ^ E) 0 (by omega)
  refine hc_lload C dX2_setsThatGoSo_44 rfl ?_
  refine hc_lret C rfl dX2_setsThatGoSo_46 ?_
  exact ⟨rfl, rfl⟩

set_option maxRecDepth 100000 in
set_option maxHeartbeats 4000000 in
theorem lp_heedsThatGoSo {G : hc_Geo} {p : Program} {l : Launch} {e : Env} {d : Nat} {s : State} {m : MethodId} {args : Array Value} {below : List Frame} {meth : Method} {c : Code} {Q : State → Prop} (C : hc_Cx G hc_lay cX2_heedsThatGoSo 10 (some .int) yX2_heedsThatGoSo.cls p s m args meth c) {M : hc_Mem} {E e0 j i0 n : Nat} (hd : 3 < d) (he : e0 < 6) (hj : j < 8) (hi0 : i0 + n ≤ 40) (hE : M 9 5 = nI E) (hE6 : E ≤ 6) (kk : ∀ x0 : Int32, hc_W G hc_lay p l e (hc_rm d) s m args below meth c 10 0 0 Q 67 [some (.ref (hc_ad G 9)), some (.int (nI e0)), some (.ref (hc_ad G 1)), some (.int (nI j)), some (.int (nI i0)), some (.int (nI n)), some (.int (hAtt M E)), some (.int (M 11 e0)), some (.int (hHds M E e0 (40 * j + i0) n 12)), some (.int (nI 13))] [] (hc_ms M 11 e0 x0))  :
    ∀ (t : Nat) (i : Nat), i + t = 12 → ∀ x0 : Int32, hc_W G hc_lay p l e (hc_rm d) s m args below meth c 10 0 0 Q 20 [some (.ref (hc_ad G 9)), some (.int (nI e0)), some (.ref (hc_ad G 1)), some (.int (nI j)), some (.int (nI i0)), some (.int (nI n)), some (.int (hAtt M E)), some (.int (M 11 e0)), some (.int (hHds M E e0 (40 * j + i0) n i)), some (.int (nI (i + 1)))] [] (hc_ms M 11 e0 x0) := by
  intro t
  induction t with
  | zero =>
    intro i hi x0
    refine hc_iload C dX2_heedsThatGoSo_20 rfl ?_
    refine hc_bipush C dX2_heedsThatGoSo_22 (v := 12) rfl ?_
    refine hc_icmp_gt C (tgt := 67) dX2_heedsThatGoSo_24 (by decide) (fun c_24 => ?_) (fun c_24 => ?_)
    rotate_left
    · exact absurd (show nI 12 < nI (i + 1) from nI_lt (by omega) (by omega)) c_24
    rw [show i = 12 by omega]
    exact kk x0
  | succ t ih =>
    intro i hi x0
    refine hc_iload C dX2_heedsThatGoSo_20 rfl ?_
    refine hc_bipush C dX2_heedsThatGoSo_22 (v := 12) rfl ?_
    refine hc_icmp_gt C (tgt := 67) dX2_heedsThatGoSo_24 (by decide) (fun c_24 => ?_) (fun c_24 => ?_)
    · exact absurd (show nI 12 < nI (i + 1) from c_24) (nI_nlt (by omega) (by omega))
    refine hc_aload_n C dX2_heedsThatGoSo_27 rfl rfl ?_
    refine hc_getR C fl_X2_91 rfl rfl dX2_heedsThatGoSo_28 ?_
    refine hc_iload_n C dX2_heedsThatGoSo_31 rfl rfl ?_
    refine hc_iload C dX2_heedsThatGoSo_32 rfl ?_
    refine hc_iastN C (j := e0) rfl rfl (by omega) dX2_heedsThatGoSo_34 ?_
    refine hc_mem hc_ms_ms ?_
    refine hc_aload_n C dX2_heedsThatGoSo_35 rfl rfl ?_
    refine hc_iload C dX2_heedsThatGoSo_36 rfl ?_
    refine hc_aload_n C dX2_heedsThatGoSo_38 rfl rfl ?_
    refine hc_iload_n C dX2_heedsThatGoSo_39 rfl rfl ?_
    refine hc_iload C dX2_heedsThatGoSo_40 rfl ?_
    refine hc_iload C dX2_heedsThatGoSo_42 rfl ?_
    refine hc_cS6i C ms_X2_87 (c_X2_goesSo (E := E) C.ok hj hi0 (by rw [hc_ms_n (by decide)]; exact hE) hE6) (Nat.le_of_ble_eq_true rfl) (hc_rr_rm hd) ⟨Nat.zero_le _, Nat.zero_le _⟩ dX2_heedsThatGoSo_44 (fun r_44 M_44 h_44 => ?_)
    obtain ⟨rfl, rfl⟩ := h_44
    refine hc_if_eq C (tgt := 61) dX2_heedsThatGoSo_47 (by decide) (fun c_47 => ?_) (fun c_47 => ?_)
    · refine hc_iinc9 C (v := nI (i + 1 + 1)) dX2_heedsThatGoSo_61 (by decide) rfl rfl (nI_1 (i + 1)) ?_
      refine hc_goto C (tgt := 20) dX2_heedsThatGoSo_64 (by decide) ?_
      have e1 := ih (i + 1) (by omega) (nI (i + 1))
      first
        | (rw [hHds, if_neg (hb_z.mp c_47)] at e1; exact e1)
        | (rw [hHds, if_pos (hb_nz.mp c_47)] at e1; exact e1)
    · refine hc_iload C dX2_heedsThatGoSo_50 rfl ?_
      refine hc_iconst C dX2_heedsThatGoSo_52 (v := 1) rfl ?_
      refine hc_iload C dX2_heedsThatGoSo_53 rfl ?_
      refine hc_iconst C dX2_heedsThatGoSo_55 (v := 1) rfl ?_
      refine hc_isub C dX2_heedsThatGoSo_56 ?_
      refine hc_top (nI_pred i) ?_
      refine hc_ishl C dX2_heedsThatGoSo_57 ?_
      refine hc_ior C dX2_heedsThatGoSo_58 ?_
      refine hc_istore8 C dX2_heedsThatGoSo_59 (by decide) rfl ?_
      refine hc_iinc9 C (v := nI (i + 1 + 1)) dX2_heedsThatGoSo_61 (by decide) rfl rfl (nI_1 (i + 1)) ?_
      refine hc_goto C (tgt := 20) dX2_heedsThatGoSo_64 (by decide) ?_
      have e1 := ih (i + 1) (by omega) (nI (i + 1))
      first
        | (rw [hHds, if_neg (hb_z.mp c_47)] at e1; exact e1)
        | (rw [hHds, if_pos (hb_nz.mp c_47)] at e1; exact e1)

set_option maxRecDepth 100000 in
set_option maxHeartbeats 4000000 in
theorem c_X2_heedsThatGoSo {l : Launch} {G : hc_Geo} (hG : hc_ok G) {M : hc_Mem} {E e0 j i0 n : Nat}  (he : e0 < 6) (hj : j < 8) (hi0 : i0 + n ≤ 40) (hE : M 9 5 = nI E) (hE6 : E ≤ 6) : hc_M l G yX2_heedsThatGoSo cX2_heedsThatGoSo 10 (some .int) 4 [.ref (hc_ad G 9), .int (nI e0), .ref (hc_ad G 1), .int (nI j), .int (nI i0), .int (nI n)] M (hc_pi (fun z M' => hHds M E e0 (40 * j + i0) n 12 = z ∧ M = M')) := by
  refine hc_M.of hG (by decide) [some (.ref (hc_ad G 9)), some (.int (nI e0)), some (.ref (hc_ad G 1)), some (.int (nI j)), some (.int (nI i0)), some (.int (nI n)), none, none, none, none] rfl (Nat.le_of_ble_eq_true rfl) ?_
  intro p e s m args below meth c C
  refine hc_aload_n C dX2_heedsThatGoSo_0 rfl rfl ?_
  refine hc_cV0i C mv_X2_28 (c_X3_attending C.ok hE hE6) rfl rfl rfl (Nat.le_of_ble_eq_true rfl) (hc_rr_rm (by decide)) ⟨Nat.zero_le _, Nat.zero_le _⟩ dX2_heedsThatGoSo_1 (fun r_1 M_1 h_1 => ?_)
  obtain ⟨rfl, rfl⟩ := h_1
  refine hc_istore6 C dX2_heedsThatGoSo_4 (by decide) rfl ?_
  refine hc_aload_n C dX2_heedsThatGoSo_6 rfl rfl ?_
  refine hc_getR C fl_X2_91 rfl rfl dX2_heedsThatGoSo_7 ?_
  refine hc_iload_n C dX2_heedsThatGoSo_10 rfl rfl ?_
  refine hc_ialdN C (j := e0) rfl rfl (by omega) dX2_heedsThatGoSo_11 ?_
  refine hc_istore7 C dX2_heedsThatGoSo_12 (by decide) rfl ?_
  refine hc_iconst C dX2_heedsThatGoSo_14 (v := 0) rfl ?_
  refine hc_istore8 C dX2_heedsThatGoSo_15 (by decide) rfl ?_
  refine hc_iconst C dX2_heedsThatGoSo_17 (v := 1) rfl ?_
  refine hc_istore9 C dX2_heedsThatGoSo_18 (by decide) rfl ?_
  refine hc_mem (M2 := hc_ms M 11 e0 (M 11 e0)) hc_ms_id.symm ?_
  refine lp_heedsThatGoSo C (by decide) he hj hi0 hE hE6 (fun x0 => ?_) 12 0 (by omega) (M 11 e0)
  refine hc_aload_n C dX2_heedsThatGoSo_67 rfl rfl ?_
  refine hc_getR C fl_X2_91 rfl rfl dX2_heedsThatGoSo_68 ?_
  refine hc_iload_n C dX2_heedsThatGoSo_71 rfl rfl ?_
  refine hc_iload C dX2_heedsThatGoSo_72 rfl ?_
  refine hc_iastN C (j := e0) rfl rfl (by omega) dX2_heedsThatGoSo_74 ?_
  refine hc_mem (hc_ms_ms.trans hc_ms_id) ?_
  refine hc_iload C dX2_heedsThatGoSo_75 rfl ?_
  refine hc_iret C rfl dX2_heedsThatGoSo_77 ?_
  exact ⟨rfl, rfl⟩

set_option maxRecDepth 100000 in
set_option maxHeartbeats 4000000 in
theorem c_X2_livedAfter {l : Launch} {G : hc_Geo} (hG : hc_ok G) {M : hc_Mem} {E e0 N : Nat}  (he : e0 < 6) (hN : N ≤ 99) (hE : M 9 5 = nI E) (hE6 : E ≤ 6) : hc_M l G yX2_livedAfter cX2_livedAfter 4 (some .int) 4 [.ref (hc_ad G 9), .int (nI e0), .int (nI N)] M (hc_pi (fun z M' => hLvA M E e0 N = z ∧ M = M')) := by
  refine hc_M.of hG (by decide) [some (.ref (hc_ad G 9)), some (.int (nI e0)), some (.int (nI N)), none] rfl (Nat.le_of_ble_eq_true rfl) ?_
  intro p e s m args below meth c C
  refine hc_aload_n C dX2_livedAfter_0 rfl rfl ?_
  refine hc_aload_n C dX2_livedAfter_1 rfl rfl ?_
  refine hc_cV0i C mv_X2_28 (c_X3_attending C.ok hE hE6) rfl rfl rfl (Nat.le_of_ble_eq_true rfl) (hc_rr_rm (by decide)) ⟨Nat.zero_le _, Nat.zero_le _⟩ dX2_livedAfter_2 (fun r_2 M_2 h_2 => ?_)
  obtain ⟨rfl, rfl⟩ := h_2
  refine hc_iload_n C dX2_livedAfter_5 rfl rfl ?_
  refine hc_cS3i C ms_X2_22 (c_X2_partsAfter C.ok hN hE hE6) (Nat.le_of_ble_eq_true rfl) (hc_rr_rm (by decide)) ⟨Nat.zero_le _, Nat.zero_le _⟩ dX2_livedAfter_6 (fun r_6 M_6 h_6 => ?_)
  obtain ⟨rfl, rfl⟩ := h_6
  refine hc_aload_n C dX2_livedAfter_9 rfl rfl ?_
  refine hc_getI C fl_X2_9 rfl rfl dX2_livedAfter_10 ?_
  refine hc_isub C dX2_livedAfter_13 ?_
  refine hc_istore_n3 C dX2_livedAfter_14 rfl (by decide) rfl ?_
  refine hc_aload_n C dX2_livedAfter_15 rfl rfl ?_
  refine hc_getR C fl_X2_94 rfl rfl dX2_livedAfter_16 ?_
  refine hc_iload_n C dX2_livedAfter_19 rfl rfl ?_
  refine hc_ialdN C (j := e0) rfl rfl (by omega) dX2_livedAfter_20 ?_
  refine hc_aload_n C dX2_livedAfter_21 rfl rfl ?_
  refine hc_iload_n C dX2_livedAfter_22 rfl rfl ?_
  refine hc_cV1i C mv_X2_97 (c_X3_isInClockRoom C.ok he) rfl rfl rfl (Nat.le_of_ble_eq_true rfl) (hc_rr_rm (by decide)) ⟨Nat.zero_le _, Nat.zero_le _⟩ dX2_livedAfter_23 (fun r_23 M_23 h_23 => ?_)
  obtain ⟨rfl, rfl⟩ := h_23
  refine hc_if_eq C (tgt := 33) dX2_livedAfter_26 (by decide) (fun c_26 => ?_) (fun c_26 => ?_)
  · refine hc_bipush C dX2_livedAfter_33 (v := 12) rfl ?_
    refine hc_iload_n C dX2_livedAfter_35 rfl rfl ?_
    refine hc_imul C dX2_livedAfter_36 ?_
    refine hc_iadd C dX2_livedAfter_37 ?_
    refine hc_iret C rfl dX2_livedAfter_38 ?_
    refine ⟨?_, rfl⟩
    unfold hLvA
    first | rw [if_pos (hb_nz.mp c_26)] | rw [if_neg (hb_z.mp c_26)]
  · refine hc_iload_n C dX2_livedAfter_29 rfl rfl ?_
    refine hc_goto C (tgt := 37) dX2_livedAfter_30 (by decide) ?_
    refine hc_iadd C dX2_livedAfter_37 ?_
    refine hc_iret C rfl dX2_livedAfter_38 ?_
    refine ⟨?_, rfl⟩
    unfold hLvA
    first | rw [if_pos (hb_nz.mp c_26)] | rw [if_neg (hb_z.mp c_26)]

set_option maxRecDepth 100000 in
set_option maxHeartbeats 4000000 in
theorem lp_power {G : hc_Geo} {p : Program} {l : Launch} {e : Env} {d : Nat} {s : State} {m : MethodId} {args : Array Value} {below : List Frame} {meth : Method} {c : Code} {Q : State → Prop} (C : hc_Cx G hc_lay cX2_power 4 (some .int) yX2_power.cls p s m args meth c) {M : hc_Mem} {n : Nat} {b0 : Int32} (hn : n < 64) 
    (kk : hc_W G hc_lay p l e (hc_rm d) s m args below meth c 4 0 0 Q 19 [some (.int b0), some (.int (nI n)), some (.int (hPow b0 n)), some (.int (nI n))] [] M) :
    ∀ (t : Nat) (i : Nat), i + t = n → hc_W G hc_lay p l e (hc_rm d) s m args below meth c 4 0 0 Q 4 [some (.int b0), some (.int (nI n)), some (.int (hPow b0 i)), some (.int (nI i))] [] M := by
  intro t
  induction t with
  | zero =>
    intro i hi
    refine hc_iload_n C dX2_power_4 rfl rfl ?_
    refine hc_iload_n C dX2_power_5 rfl rfl ?_
    refine hc_icmp_ge C (tgt := 19) dX2_power_6 (by decide) (fun c_6 => ?_) (fun c_6 => ?_)
    rotate_left
    · exact absurd (nI_le (show n ≤ i by omega) (by omega)) c_6
    rw [show i = n by omega]
    exact kk
  | succ t ih =>
    intro i hi
    refine hc_iload_n C dX2_power_4 rfl rfl ?_
    refine hc_iload_n C dX2_power_5 rfl rfl ?_
    refine hc_icmp_ge C (tgt := 19) dX2_power_6 (by decide) (fun c_6 => ?_) (fun c_6 => ?_)
    · exact absurd c_6 (nI_ge (show i < n by omega) (by omega))
    refine hc_iload_n C dX2_power_9 rfl rfl ?_
    refine hc_iload_n C dX2_power_10 rfl rfl ?_
    refine hc_imul C dX2_power_11 ?_
    refine hc_istore_n2 C dX2_power_12 rfl (by decide) rfl ?_
    refine hc_iinc3 C (v := nI (i + 1)) dX2_power_13 (by decide) rfl rfl (nI_1 i) ?_
    refine hc_goto C (tgt := 4) dX2_power_16 (by decide) ?_
    exact ih (i + 1) (by omega)

set_option maxRecDepth 100000 in
set_option maxHeartbeats 4000000 in
theorem c_X2_power {l : Launch} {G : hc_Geo} (hG : hc_ok G) {M : hc_Mem} {b0 : Int32} {n : Nat}  (hn : n < 64) : hc_M l G yX2_power cX2_power 4 (some .int) 1 [.int b0, .int (nI n)] M (hc_pi (fun z M' => hPow b0 n = z ∧ M = M')) := by
  refine hc_M.of hG (by decide) [some (.int b0), some (.int (nI n)), none, none] rfl (Nat.le_of_ble_eq_true rfl) ?_
  intro p e s m args below meth c C
  refine hc_iconst C dX2_power_0 (v := 1) rfl ?_
  refine hc_istore_n2 C dX2_power_1 rfl (by decide) rfl ?_
  refine hc_iconst C dX2_power_2 (v := 0) rfl ?_
  refine hc_istore_n3 C dX2_power_3 rfl (by decide) rfl ?_
  refine lp_power C hn ?_ n 0 (by omega)
  refine hc_iload_n C dX2_power_19 rfl rfl ?_
  refine hc_iret C rfl dX2_power_20 ?_
  exact ⟨rfl, rfl⟩

set_option maxRecDepth 100000 in
set_option maxHeartbeats 4000000 in
theorem lp_chancesToGo {G : hc_Geo} {p : Program} {l : Launch} {e : Env} {d : Nat} {s : State} {m : MethodId} {args : Array Value} {below : List Frame} {meth : Method} {c : Code} {Q : State → Prop} (C : hc_Cx G hc_lay cX2_chancesToGo 7 (some .int) yX2_chancesToGo.cls p s m args meth c) {M : hc_Mem} {E : Nat} {p0 c0 : Int32} (hd : 2 < d) (hE : M 9 5 = nI E) (hE6 : E ≤ 6) (kk : ∀ v6 : Option Value, hc_W G hc_lay p l e (hc_rm d) s m args below meth c 7 0 0 Q 84 [some (.ref (hc_ad G 9)), some (.int p0), some (.int c0), some (.int (hLisM M E E)), some (.int (hChs M E p0 c0 (2 ^ E))), some (.int (nI (2 ^ E))), v6] [] M)  :
    ∀ (t : Nat) (i : Nat), i + t = 2 ^ E → ∀ v6 : Option Value, hc_W G hc_lay p l e (hc_rm d) s m args below meth c 7 0 0 Q 11 [some (.ref (hc_ad G 9)), some (.int p0), some (.int c0), some (.int (hLisM M E E)), some (.int (hChs M E p0 c0 i)), some (.int (nI i)), v6] [] M := by
  intro t
  induction t with
  | zero =>
    intro i hi v6
    have h64 : 2 ^ E ≤ 64 := Nat.pow_le_pow_right (n := 2) (by decide) hE6
    refine hc_iload C dX2_chancesToGo_11 rfl ?_
    refine hc_aload_n C dX2_chancesToGo_13 rfl rfl ?_
    refine hc_cV0i C mv_X2_61 (c_X3_allSets C.ok) rfl rfl rfl (Nat.le_of_ble_eq_true rfl) (hc_rr_rm (Nat.lt_trans (by decide) hd)) ⟨Nat.zero_le _, Nat.zero_le _⟩ dX2_chancesToGo_14 (fun r_14 M_14 h_14 => ?_)
    obtain ⟨rfl, rfl⟩ := h_14
    refine hc_top (v := nI (2 ^ E)) (by rw [hE]; exact hx_sets E hE6) ?_
    refine hc_icmp_ge C (tgt := 84) dX2_chancesToGo_17 (by decide) (fun c_17 => ?_) (fun c_17 => ?_)
    rotate_left
    · exact absurd (nI_le (show 2 ^ E ≤ i by omega) (by omega)) c_17
    rw [show i = 2 ^ E by omega]
    exact kk v6
  | succ t ih =>
    intro i hi v6
    have h64 : 2 ^ E ≤ 64 := Nat.pow_le_pow_right (n := 2) (by decide) hE6
    refine hc_iload C dX2_chancesToGo_11 rfl ?_
    refine hc_aload_n C dX2_chancesToGo_13 rfl rfl ?_
    refine hc_cV0i C mv_X2_61 (c_X3_allSets C.ok) rfl rfl rfl (Nat.le_of_ble_eq_true rfl) (hc_rr_rm (Nat.lt_trans (by decide) hd)) ⟨Nat.zero_le _, Nat.zero_le _⟩ dX2_chancesToGo_14 (fun r_14 M_14 h_14 => ?_)
    obtain ⟨rfl, rfl⟩ := h_14
    refine hc_top (v := nI (2 ^ E)) (by rw [hE]; exact hx_sets E hE6) ?_
    refine hc_icmp_ge C (tgt := 84) dX2_chancesToGo_17 (by decide) (fun c_17 => ?_) (fun c_17 => ?_)
    · exact absurd c_17 (nI_ge (show i < 2 ^ E by omega) (by omega))
    refine hc_iload C dX2_chancesToGo_20 rfl ?_
    refine hc_iload_n C dX2_chancesToGo_22 rfl rfl ?_
    refine hc_iconst C dX2_chancesToGo_23 (v := (-1)) rfl ?_
    refine hc_ixor C dX2_chancesToGo_24 ?_
    refine hc_iand C dX2_chancesToGo_25 ?_
    refine hc_if_ne C (tgt := 78) dX2_chancesToGo_26 (by decide) (fun c_26 => ?_) (fun c_26 => ?_)
    · refine hc_iinc5 C (v := nI (i + 1)) dX2_chancesToGo_78 (by decide) rfl rfl (nI_1 i) ?_
      refine hc_goto C (tgt := 11) dX2_chancesToGo_81 (by decide) ?_
      first
        | (have e1 := ih (i + 1) (by omega) v6; rw [hChs, if_neg (fun z => c_26 z.1)] at e1; exact e1)
        | (have e1 := ih (i + 1) (by omega) v6; rw [hChs, if_neg (fun z => z.2 c_40)] at e1; exact e1)
        | (have e1 := ih (i + 1) (by omega) (some (.int (hPow (10 - c0) (hBn (nI i))))); rw [hChs, if_pos ⟨c_26, c_40⟩] at e1; exact e1)
    · refine hc_aload_n C dX2_chancesToGo_29 rfl rfl ?_
      refine hc_iload C dX2_chancesToGo_30 rfl ?_
      refine hc_aload_n C dX2_chancesToGo_32 rfl rfl ?_
      refine hc_getI C fl_X2_15 rfl rfl dX2_chancesToGo_33 ?_
      refine hc_cV2i C mv_X2_18 (c_X3_partsOf C.ok hE hE6) rfl rfl rfl (Nat.le_of_ble_eq_true rfl) (hc_rr_rm hd) ⟨Nat.zero_le _, Nat.zero_le _⟩ dX2_chancesToGo_36 (fun r_36 M_36 h_36 => ?_)
      obtain ⟨rfl, rfl⟩ := h_36
      refine hc_iload_n C dX2_chancesToGo_39 rfl rfl ?_
      refine hc_icmp_lt C (tgt := 78) dX2_chancesToGo_40 (by decide) (fun c_40 => ?_) (fun c_40 => ?_)
      · refine hc_iinc5 C (v := nI (i + 1)) dX2_chancesToGo_78 (by decide) rfl rfl (nI_1 i) ?_
        refine hc_goto C (tgt := 11) dX2_chancesToGo_81 (by decide) ?_
        first
          | (have e1 := ih (i + 1) (by omega) v6; rw [hChs, if_neg (fun z => c_26 z.1)] at e1; exact e1)
          | (have e1 := ih (i + 1) (by omega) v6; rw [hChs, if_neg (fun z => z.2 c_40)] at e1; exact e1)
          | (have e1 := ih (i + 1) (by omega) (some (.int (hPow (10 - c0) (hBn (nI i))))); rw [hChs, if_pos ⟨c_26, c_40⟩] at e1; exact e1)
      · refine hc_bipush C dX2_chancesToGo_43 (v := 10) rfl ?_
        refine hc_iload_n C dX2_chancesToGo_45 rfl rfl ?_
        refine hc_isub C dX2_chancesToGo_46 ?_
        refine hc_iload C dX2_chancesToGo_47 rfl ?_
        refine hc_cS1i C ms_X2_77 (c_J6_bitCount_0f7a4 C.ok) (Nat.le_of_ble_eq_true rfl) (hc_rr_rm (Nat.lt_trans (by decide) hd)) ⟨Nat.zero_le _, Nat.zero_le _⟩ dX2_chancesToGo_49 (fun r_49 M_49 h_49 => ?_)
        obtain ⟨rfl, rfl⟩ := h_49
        refine hc_top (hBn_e _) ?_
        refine hc_cS2i C ms_X2_103 (c_X2_power C.ok (hBn_lt _)) (Nat.le_of_ble_eq_true rfl) (hc_rr_rm (Nat.lt_trans (by decide) hd)) ⟨Nat.zero_le _, Nat.zero_le _⟩ dX2_chancesToGo_52 (fun r_52 M_52 h_52 => ?_)
        obtain ⟨rfl, rfl⟩ := h_52
        refine hc_istore6 C dX2_chancesToGo_55 (by decide) rfl ?_
        refine hc_iload C dX2_chancesToGo_57 rfl ?_
        refine hc_iload C dX2_chancesToGo_59 rfl ?_
        refine hc_iload_n C dX2_chancesToGo_61 rfl rfl ?_
        refine hc_iload_n C dX2_chancesToGo_62 rfl rfl ?_
        refine hc_iload C dX2_chancesToGo_63 rfl ?_
        refine hc_iconst C dX2_chancesToGo_65 (v := (-1)) rfl ?_
        refine hc_ixor C dX2_chancesToGo_66 ?_
        refine hc_iand C dX2_chancesToGo_67 ?_
        refine hc_cS1i C ms_X2_77 (c_J6_bitCount_0f7a4 C.ok) (Nat.le_of_ble_eq_true rfl) (hc_rr_rm (Nat.lt_trans (by decide) hd)) ⟨Nat.zero_le _, Nat.zero_le _⟩ dX2_chancesToGo_68 (fun r_68 M_68 h_68 => ?_)
        obtain ⟨rfl, rfl⟩ := h_68
        refine hc_top (hBn_e _) ?_
        refine hc_cS2i C ms_X2_103 (c_X2_power C.ok (hBn_lt _)) (Nat.le_of_ble_eq_true rfl) (hc_rr_rm (Nat.lt_trans (by decide) hd)) ⟨Nat.zero_le _, Nat.zero_le _⟩ dX2_chancesToGo_71 (fun r_71 M_71 h_71 => ?_)
        obtain ⟨rfl, rfl⟩ := h_71
        refine hc_imul C dX2_chancesToGo_74 ?_
        refine hc_iadd C dX2_chancesToGo_75 ?_
        refine hc_istore4 C dX2_chancesToGo_76 (by decide) rfl ?_
        refine hc_iinc5 C (v := nI (i + 1)) dX2_chancesToGo_78 (by decide) rfl rfl (nI_1 i) ?_
        refine hc_goto C (tgt := 11) dX2_chancesToGo_81 (by decide) ?_
        first
          | (have e1 := ih (i + 1) (by omega) v6; rw [hChs, if_neg (fun z => c_26 z.1)] at e1; exact e1)
          | (have e1 := ih (i + 1) (by omega) v6; rw [hChs, if_neg (fun z => z.2 c_40)] at e1; exact e1)
          | (have e1 := ih (i + 1) (by omega) (some (.int (hPow (10 - c0) (hBn (nI i))))); rw [hChs, if_pos ⟨c_26, c_40⟩] at e1; exact e1)

set_option maxRecDepth 100000 in
set_option maxHeartbeats 4000000 in
theorem c_X2_chancesToGo {l : Launch} {G : hc_Geo} (hG : hc_ok G) {M : hc_Mem} {E : Nat} {p0 c0 : Int32}  (hE : M 9 5 = nI E) (hE6 : E ≤ 6) : hc_M l G yX2_chancesToGo cX2_chancesToGo 7 (some .int) 6 [.ref (hc_ad G 9), .int p0, .int c0] M (hc_pi (fun z M' => hChs M E p0 c0 (2 ^ E) = z ∧ M = M')) := by
  refine hc_M.of hG (by decide) [some (.ref (hc_ad G 9)), some (.int p0), some (.int c0), none, none, none, none] rfl (Nat.le_of_ble_eq_true rfl) ?_
  intro p e s m args below meth c C
  refine hc_aload_n C dX2_chancesToGo_0 rfl rfl ?_
  refine hc_cV0i C mv_X2_100 (c_X3_listeningNow C.ok hE hE6) rfl rfl rfl (Nat.le_of_ble_eq_true rfl) (hc_rr_rm (by decide)) ⟨Nat.zero_le _, Nat.zero_le _⟩ dX2_chancesToGo_1 (fun r_1 M_1 h_1 => ?_)
  obtain ⟨rfl, rfl⟩ := h_1
  refine hc_istore_n3 C dX2_chancesToGo_4 rfl (by decide) rfl ?_
  refine hc_iconst C dX2_chancesToGo_5 (v := 0) rfl ?_
  refine hc_istore4 C dX2_chancesToGo_6 (by decide) rfl ?_
  refine hc_iconst C dX2_chancesToGo_8 (v := 0) rfl ?_
  refine hc_istore5 C dX2_chancesToGo_9 (by decide) rfl ?_
  refine lp_chancesToGo C (by decide) hE hE6 (fun v6 => ?_) (2 ^ E) 0 (by omega) none
  refine hc_iload C dX2_chancesToGo_84 rfl ?_
  refine hc_iret C rfl dX2_chancesToGo_86 ?_
  exact ⟨rfl, rfl⟩

set_option maxRecDepth 100000 in
set_option maxHeartbeats 4000000 in
theorem c_X2_chancesInAll {l : Launch} {G : hc_Geo} (hG : hc_ok G) {M : hc_Mem} {E : Nat}  (hE : M 9 5 = nI E) (hE6 : E ≤ 6) : hc_M l G yX2_chancesInAll cX2_chancesInAll 1 (some .int) 6 [.ref (hc_ad G 9)] M (hc_pi (fun z M' => hPow 10 (hBn (hLisM M E E)) = z ∧ M = M')) := by
  refine hc_M.of hG (by decide) [some (.ref (hc_ad G 9))] rfl (Nat.le_of_ble_eq_true rfl) ?_
  intro p e s m args below meth c C
  refine hc_bipush C dX2_chancesInAll_0 (v := 10) rfl ?_
  refine hc_aload_n C dX2_chancesInAll_2 rfl rfl ?_
  refine hc_cV0i C mv_X2_100 (c_X3_listeningNow C.ok hE hE6) rfl rfl rfl (Nat.le_of_ble_eq_true rfl) (hc_rr_rm (by decide)) ⟨Nat.zero_le _, Nat.zero_le _⟩ dX2_chancesInAll_3 (fun r_3 M_3 h_3 => ?_)
  obtain ⟨rfl, rfl⟩ := h_3
  refine hc_cS1i C ms_X2_77 (c_J6_bitCount_0f7a4 C.ok) (Nat.le_of_ble_eq_true rfl) (hc_rr_rm (by decide)) ⟨Nat.zero_le _, Nat.zero_le _⟩ dX2_chancesInAll_6 (fun r_6 M_6 h_6 => ?_)
  obtain ⟨rfl, rfl⟩ := h_6
  refine hc_top (hBn_e _) ?_
  refine hc_cS2i C ms_X2_103 (c_X2_power C.ok (hBn_lt _)) (Nat.le_of_ble_eq_true rfl) (hc_rr_rm (by decide)) ⟨Nat.zero_le _, Nat.zero_le _⟩ dX2_chancesInAll_9 (fun r_9 M_9 h_9 => ?_)
  obtain ⟨rfl, rfl⟩ := h_9
  refine hc_iret C rfl dX2_chancesInAll_12 ?_
  exact ⟨rfl, rfl⟩

theorem mx_l : Cond.methodLink RX7 296 Lib.Math.max.name ∈ hc_tb := hc_tb_of 741 (by decide +kernel) rfl
theorem mx_s : Cond.static Lib.Math.max.name ∈ hc_tb := hc_tb_of 742 (by decide +kernel) rfl
theorem mx_i : Cond.initialized "java/lang/Math" ∈ hc_tb := hc_tb_of 66 (by decide +kernel) rfl
theorem mx_c : Cond.code Lib.Math.max.name Lib.Math.max.code 2 (some .int) ∈ hc_tb := hc_tb_of 743 (by decide +kernel) rfl
theorem hc_mmax {G : hc_Geo} {ly : List hc_Ly} {p : Program} {l : Launch} {e : Env} {R : Room} {s : State} {m : MethodId} {args : Array Value} {below : List Frame} {meth : Method} {c : Code} {nL cells slots : Nat} {Q : State → Prop} {cc : ByteArray} {ret : Option FieldType} {pc : Nat} {L : List (Option Value)} {st : List Value} {M : hc_Mem} (C : hc_Cx G ly cc nL ret RX7 p s m args meth c) {x y : Int32} (hfr : 1 ≤ R.frames) (hlo : (st.map fun v => v.category).sum + 13 ≤ R.locals) (hcs : cells ≤ R.cells ∧ slots ≤ R.slots) (hd : decode cc pc = .ok (.invokestatic 296, 3)) (k : hc_W G ly p l e R s m args below meth c nL cells slots Q (pc + 3) L (.int (if x < y then y else x) :: st) M) : hc_W G ly p l e R s m args below meth c nL cells slots Q pc L (.int y :: .int x :: st) M :=
  fun H locs ls hP hS hl => va_mmax C.1 C.2.1 (C.2.2.1.trans hl.1.symm) C.2.2.2.1 (C.2.2.2.2.1 _ mx_l) (C.2.2.2.2.1 _ mx_s) (C.2.2.2.2.1 _ mx_i) (C.2.2.2.2.1 _ mx_c) hfr hlo hcs.1 hcs.2 hd (k H locs ls hP hS hl)

set_option maxRecDepth 100000 in
set_option maxHeartbeats 4000000 in
theorem lp_gcd {G : hc_Geo} {p : Program} {l : Launch} {e : Env} {d : Nat} {s : State} {m : MethodId} {args : Array Value} {below : List Frame} {meth : Method} {c : Code} {Q : State → Prop} (C : hc_Cx G hc_lay cX7_greatestDivisor 6 (some .int) yX7_greatestDivisor.cls p s m args meth c) {M : hc_Mem} {a0 b0 r0 : Int32} (kk : ∀ (y : Int32) (i : Nat) (v5 : Option Value), hc_W G hc_lay p l e (hc_rm d) s m args below meth c 6 0 0 Q 34 [some (.int a0), some (.int b0), some (.int r0), some (.int y), some (.int (nI i)), v5] [] M)  :
    ∀ (t : Nat) (i : Nat) (x y : Int32) (v5 : Option Value), i + t = 64 → hGcd t x y = r0 → hc_W G hc_lay p l e (hc_rm d) s m args below meth c 6 0 0 Q 7 [some (.int a0), some (.int b0), some (.int x), some (.int y), some (.int (nI i)), v5] [] M := by
  intro t
  induction t with
  | zero =>
    intro i x y v5 hi hr0
    refine hc_iload C dX7_greatestDivisor_7 rfl ?_
    refine hc_bipush C dX7_greatestDivisor_9 (v := 64) rfl ?_
    refine hc_icmp_ge C (tgt := 34) dX7_greatestDivisor_11 (by decide) (fun c_11 => ?_) (fun c_11 => ?_)
    rotate_left
    · exact absurd (show nI 64 ≤ nI i from nI_le (by omega) (by omega)) c_11
    obtain rfl : x = r0 := hr0
    exact kk y i v5
  | succ t ih =>
    intro i x y v5 hi hr0
    refine hc_iload C dX7_greatestDivisor_7 rfl ?_
    refine hc_bipush C dX7_greatestDivisor_9 (v := 64) rfl ?_
    refine hc_icmp_ge C (tgt := 34) dX7_greatestDivisor_11 (by decide) (fun c_11 => ?_) (fun c_11 => ?_)
    · exact absurd (show nI 64 ≤ nI i from c_11) (nI_ge (by omega) (by omega))
    refine hc_iload_n C dX7_greatestDivisor_14 rfl rfl ?_
    refine hc_if_eq C (tgt := 34) dX7_greatestDivisor_15 (by decide) (fun c_15 => ?_) (fun c_15 => ?_)
    · rw [hGcd, if_pos c_15] at hr0
      obtain rfl : x = r0 := hr0
      exact kk y i v5
    · refine hc_iload_n C dX7_greatestDivisor_18 rfl rfl ?_
      refine hc_iload_n C dX7_greatestDivisor_19 rfl rfl ?_
      refine hc_irem C dX7_greatestDivisor_20 c_15 ?_
      refine hc_istore5 C dX7_greatestDivisor_21 (by decide) rfl ?_
      refine hc_iload_n C dX7_greatestDivisor_23 rfl rfl ?_
      refine hc_istore_n2 C dX7_greatestDivisor_24 rfl (by decide) rfl ?_
      refine hc_iload C dX7_greatestDivisor_25 rfl ?_
      refine hc_istore_n3 C dX7_greatestDivisor_27 rfl (by decide) rfl ?_
      refine hc_iinc4 C (v := nI (i + 1)) dX7_greatestDivisor_28 (by decide) rfl rfl (nI_1 i) ?_
      refine hc_goto C (tgt := 7) dX7_greatestDivisor_31 (by decide) ?_
      rw [hGcd, if_neg c_15] at hr0
      exact ih (i + 1) _ _ _ (by omega) hr0

set_option maxRecDepth 100000 in
set_option maxHeartbeats 4000000 in
theorem c_X7_greatestDivisor {l : Launch} {G : hc_Geo} (hG : hc_ok G) {M : hc_Mem} {a0 b0 : Int32}  : hc_M l G yX7_greatestDivisor cX7_greatestDivisor 6 (some .int) 2 [.int a0, .int b0] M (hc_pi (fun z M' => hGcd1 a0 b0 = z ∧ M = M')) := by
  refine hc_M.of hG (by decide) [some (.int a0), some (.int b0), none, none, none, none] rfl (Nat.le_of_ble_eq_true rfl) ?_
  intro p e s m args below meth c C
  refine hc_iload_n C dX7_greatestDivisor_0 rfl rfl ?_
  refine hc_istore_n2 C dX7_greatestDivisor_1 rfl (by decide) rfl ?_
  refine hc_iload_n C dX7_greatestDivisor_2 rfl rfl ?_
  refine hc_istore_n3 C dX7_greatestDivisor_3 rfl (by decide) rfl ?_
  refine hc_iconst C dX7_greatestDivisor_4 (v := 0) rfl ?_
  refine hc_istore4 C dX7_greatestDivisor_5 (by decide) rfl ?_
  refine lp_gcd C (fun y i v5 => ?_) 64 0 a0 b0 none (by omega) rfl
  refine hc_iload_n C dX7_greatestDivisor_34 rfl rfl ?_
  refine hc_iconst C dX7_greatestDivisor_35 (v := 1) rfl ?_
  refine hc_mmax C (by decide) (Nat.le_of_ble_eq_true rfl) ⟨Nat.zero_le _, Nat.zero_le _⟩ dX7_greatestDivisor_36 ?_
  refine hc_iret C rfl dX7_greatestDivisor_39 ?_
  exact ⟨rfl, rfl⟩
