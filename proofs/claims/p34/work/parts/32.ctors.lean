def hk_M0 : hc_Mem := fun _ _ => 0
def hk_M1 : hc_Mem := hc_mf hk_M0 2 (fun j => if j < 8 then -1 else 0)
def hk_M2 : hc_Mem := hc_mf hk_M1 49 (fun j => if j < 8 then -1000000 else 0)
theorem hk_M1_z {k : Nat} (h : k ≠ 2) : hk_M1 k = fun _ => 0 := hc_mf_n h
theorem hk_M0_z {k : Nat} : hk_M0 k = fun _ => 0 := rfl
theorem hk_M0_p {k j : Nat} : hc_ms hk_M0 k j 0 = hk_M0 := hc_ms_id (M := hk_M0)
theorem hk_M1_p {k j : Nat} (h : k ≠ 2) : hc_ms hk_M1 k j 0 = hk_M1 := by
  have e : hk_M1 k j = 0 := by rw [hk_M1_z h]
  have := hc_ms_id (M := hk_M1) (k := k) (j := j)
  rw [e] at this
  exact this
theorem hk_rr {d d' mc ms : Nat} (h : d < d') : hc_rr d (hk_rm d' mc ms) := ⟨h, Nat.mul_le_mul_left 40 h⟩
theorem hk_ref_ii (a : Nat) : narrow (.array .int) (.ref a) = .ref a ∧ fits (.array .int) (.ref a) = true := ⟨rfl, rfl⟩
theorem hk_ref_iz (a : Nat) : narrow (.array .boolean) (.ref a) = .ref a ∧ fits (.array .boolean) (.ref a) = true := ⟨rfl, rfl⟩
theorem hk_ref_o (C : String) (a : Nat) : narrow (.object C) (.ref a) = .ref a ∧ fits (.object C) (.ref a) = true := ⟨rfl, rfl⟩

theorem fl_X5_11_w : Cond.fieldLink RX5 11 (TX5 0).1 (TX5 0).2.1 (TX5 0).2.2.1 ∈ hc_tb := by obtain ⟨q, h1, -, -, h4⟩ := fl_X5_11; cases h1; exact h4
theorem fl_X5_15_w : Cond.fieldLink RX5 15 (TX5 1).1 (TX5 1).2.1 (TX5 1).2.2.1 ∈ hc_tb := by obtain ⟨q, h1, -, -, h4⟩ := fl_X5_15; cases h1; exact h4
theorem fl_X5_18_w : Cond.fieldLink RX5 18 (TX5 2).1 (TX5 2).2.1 (TX5 2).2.2.1 ∈ hc_tb := by obtain ⟨q, h1, -, -, h4⟩ := fl_X5_18; cases h1; exact h4
theorem fl_X6_13_w : Cond.fieldLink RX6 13 (TX6 0).1 (TX6 0).2.1 (TX6 0).2.2.1 ∈ hc_tb := by obtain ⟨q, h1, -, -, h4⟩ := fl_X6_13; cases h1; exact h4
theorem fl_X6_27_w : Cond.fieldLink RX6 27 (TX6 4).1 (TX6 4).2.1 (TX6 4).2.2.1 ∈ hc_tb := by obtain ⟨q, h1, -, -, h4⟩ := fl_X6_27; cases h1; exact h4
theorem fl_X6_36_w : Cond.fieldLink RX6 36 (TX6 7).1 (TX6 7).2.1 (TX6 7).2.2.1 ∈ hc_tb := by obtain ⟨q, h1, -, -, h4⟩ := fl_X6_36; cases h1; exact h4
theorem fl_X3_32_w : Cond.fieldLink RX3 32 (TX3 7).1 (TX3 7).2.1 (TX3 7).2.2.1 ∈ hc_tb := by obtain ⟨q, h1, -, -, h4⟩ := fl_X3_32; cases h1; exact h4
theorem fl_X3_36_w : Cond.fieldLink RX3 36 (TX3 8).1 (TX3 8).2.1 (TX3 8).2.2.1 ∈ hc_tb := by obtain ⟨q, h1, -, -, h4⟩ := fl_X3_36; cases h1; exact h4
theorem fl_X3_39_w : Cond.fieldLink RX3 39 (TX3 9).1 (TX3 9).2.1 (TX3 9).2.2.1 ∈ hc_tb := by obtain ⟨q, h1, -, -, h4⟩ := fl_X3_39; cases h1; exact h4
theorem fl_X3_42_w : Cond.fieldLink RX3 42 (TX3 10).1 (TX3 10).2.1 (TX3 10).2.2.1 ∈ hc_tb := by obtain ⟨q, h1, -, -, h4⟩ := fl_X3_42; cases h1; exact h4
theorem fl_X3_45_w : Cond.fieldLink RX3 45 (TX3 11).1 (TX3 11).2.1 (TX3 11).2.2.1 ∈ hc_tb := by obtain ⟨q, h1, -, -, h4⟩ := fl_X3_45; cases h1; exact h4
theorem fl_X3_48_w : Cond.fieldLink RX3 48 (TX3 12).1 (TX3 12).2.1 (TX3 12).2.2.1 ∈ hc_tb := by obtain ⟨q, h1, -, -, h4⟩ := fl_X3_48; cases h1; exact h4
theorem fl_X3_51_w : Cond.fieldLink RX3 51 (TX3 13).1 (TX3 13).2.1 (TX3 13).2.2.1 ∈ hc_tb := by obtain ⟨q, h1, -, -, h4⟩ := fl_X3_51; cases h1; exact h4
theorem fl_X3_54_w : Cond.fieldLink RX3 54 (TX3 14).1 (TX3 14).2.1 (TX3 14).2.2.1 ∈ hc_tb := by obtain ⟨q, h1, -, -, h4⟩ := fl_X3_54; cases h1; exact h4
theorem fl_X3_57_w : Cond.fieldLink RX3 57 (TX3 15).1 (TX3 15).2.1 (TX3 15).2.2.1 ∈ hc_tb := by obtain ⟨q, h1, -, -, h4⟩ := fl_X3_57; cases h1; exact h4
theorem fl_X3_60_w : Cond.fieldLink RX3 60 (TX3 16).1 (TX3 16).2.1 (TX3 16).2.2.1 ∈ hc_tb := by obtain ⟨q, h1, -, -, h4⟩ := fl_X3_60; cases h1; exact h4
theorem fl_X0_9_w : Cond.fieldLink RX0 9 (TX0 0).1 (TX0 0).2.1 (TX0 0).2.2.1 ∈ hc_tb := by obtain ⟨q, h1, -, -, h4⟩ := fl_X0_9; cases h1; exact h4
theorem fl_X0_13_w : Cond.fieldLink RX0 13 (TX0 1).1 (TX0 1).2.1 (TX0 1).2.2.1 ∈ hc_tb := by obtain ⟨q, h1, -, -, h4⟩ := fl_X0_13; cases h1; exact h4
theorem fl_X0_16_w : Cond.fieldLink RX0 16 (TX0 2).1 (TX0 2).2.1 (TX0 2).2.2.1 ∈ hc_tb := by obtain ⟨q, h1, -, -, h4⟩ := fl_X0_16; cases h1; exact h4
theorem fl_X1_9_w : Cond.fieldLink RX1 9 (TX1 0).1 (TX1 0).2.1 (TX1 0).2.2.1 ∈ hc_tb := by obtain ⟨q, h1, -, -, h4⟩ := fl_X1_9; cases h1; exact h4
theorem fl_X7_10_w : Cond.fieldLink RX7 10 (TX7 0).1 (TX7 0).2.1 (TX7 0).2.2.1 ∈ hc_tb := by obtain ⟨q, h1, -, -, h4⟩ := fl_X7_10; cases h1; exact h4
theorem fl_X7_19_w : Cond.fieldLink RX7 19 (TX7 1).1 (TX7 1).2.1 (TX7 1).2.2.1 ∈ hc_tb := by obtain ⟨q, h1, -, -, h4⟩ := fl_X7_19; cases h1; exact h4
theorem fl_X7_26_w : Cond.fieldLink RX7 26 (TX7 2).1 (TX7 2).2.1 (TX7 2).2.2.1 ∈ hc_tb := by obtain ⟨q, h1, -, -, h4⟩ := fl_X7_26; cases h1; exact h4
theorem fl_X7_30_w : Cond.fieldLink RX7 30 (TX7 3).1 (TX7 3).2.1 (TX7 3).2.2.1 ∈ hc_tb := by obtain ⟨q, h1, -, -, h4⟩ := fl_X7_30; cases h1; exact h4
theorem fl_X7_33_w : Cond.fieldLink RX7 33 (TX7 4).1 (TX7 4).2.1 (TX7 4).2.2.1 ∈ hc_tb := by obtain ⟨q, h1, -, -, h4⟩ := fl_X7_33; cases h1; exact h4
theorem fl_X7_39_w : Cond.fieldLink RX7 39 (TX7 5).1 (TX7 5).2.1 (TX7 5).2.2.1 ∈ hc_tb := by obtain ⟨q, h1, -, -, h4⟩ := fl_X7_39; cases h1; exact h4
theorem fl_X7_46_w : Cond.fieldLink RX7 46 (TX7 6).1 (TX7 6).2.1 (TX7 6).2.2.1 ∈ hc_tb := by obtain ⟨q, h1, -, -, h4⟩ := fl_X7_46; cases h1; exact h4
theorem fl_X8_7_w : Cond.fieldLink RX8 7 (TX8 0).1 (TX8 0).2.1 (TX8 0).2.2.1 ∈ hc_tb := by obtain ⟨q, h1, -, -, h4⟩ := fl_X8_7; cases h1; exact h4
theorem fl_X8_13_w : Cond.fieldLink RX8 13 (TX8 1).1 (TX8 1).2.1 (TX8 1).2.2.1 ∈ hc_tb := by obtain ⟨q, h1, -, -, h4⟩ := fl_X8_13; cases h1; exact h4
theorem fl_X8_16_w : Cond.fieldLink RX8 16 (TX8 2).1 (TX8 2).2.1 (TX8 2).2.2.1 ∈ hc_tb := by obtain ⟨q, h1, -, -, h4⟩ := fl_X8_16; cases h1; exact h4
theorem fl_X8_19_w : Cond.fieldLink RX8 19 (TX8 3).1 (TX8 3).2.1 (TX8 3).2.2.1 ∈ hc_tb := by obtain ⟨q, h1, -, -, h4⟩ := fl_X8_19; cases h1; exact h4
theorem fl_X8_22_w : Cond.fieldLink RX8 22 (TX8 5).1 (TX8 5).2.1 (TX8 5).2.2.1 ∈ hc_tb := by obtain ⟨q, h1, -, -, h4⟩ := fl_X8_22; cases h1; exact h4
theorem fl_X8_25_w : Cond.fieldLink RX8 25 (TX8 13).1 (TX8 13).2.1 (TX8 13).2.2.1 ∈ hc_tb := by obtain ⟨q, h1, -, -, h4⟩ := fl_X8_25; cases h1; exact h4
theorem fl_X8_28_w : Cond.fieldLink RX8 28 (TX8 14).1 (TX8 14).2.1 (TX8 14).2.2.1 ∈ hc_tb := by obtain ⟨q, h1, -, -, h4⟩ := fl_X8_28; cases h1; exact h4
theorem fl_X8_31_w : Cond.fieldLink RX8 31 (TX8 15).1 (TX8 15).2.1 (TX8 15).2.2.1 ∈ hc_tb := by obtain ⟨q, h1, -, -, h4⟩ := fl_X8_31; cases h1; exact h4
theorem fl_X8_34_w : Cond.fieldLink RX8 34 (TX8 17).1 (TX8 17).2.1 (TX8 17).2.2.1 ∈ hc_tb := by obtain ⟨q, h1, -, -, h4⟩ := fl_X8_34; cases h1; exact h4
theorem fl_X8_37_w : Cond.fieldLink RX8 37 (TX8 18).1 (TX8 18).2.1 (TX8 18).2.2.1 ∈ hc_tb := by obtain ⟨q, h1, -, -, h4⟩ := fl_X8_37; cases h1; exact h4
theorem fl_X8_41_w : Cond.fieldLink RX8 41 (TX8 19).1 (TX8 19).2.1 (TX8 19).2.2.1 ∈ hc_tb := by obtain ⟨q, h1, -, -, h4⟩ := fl_X8_41; cases h1; exact h4
theorem fl_X8_44_w : Cond.fieldLink RX8 44 (TX8 20).1 (TX8 20).2.1 (TX8 20).2.2.1 ∈ hc_tb := by obtain ⟨q, h1, -, -, h4⟩ := fl_X8_44; cases h1; exact h4
theorem fl_X8_47_w : Cond.fieldLink RX8 47 (TX8 21).1 (TX8 21).2.1 (TX8 21).2.2.1 ∈ hc_tb := by obtain ⟨q, h1, -, -, h4⟩ := fl_X8_47; cases h1; exact h4
set_option maxRecDepth 100000 in
set_option maxHeartbeats 4000000 in
theorem lp_fill2 {G : hc_Geo} {ly : List hc_Ly} {p : Program} {l : Launch} {e : Env} {R : Room} {s : State} {m : MethodId} {args : Array Value} {below : List Frame} {meth : Method} {c : Code} {Q : State → Prop} (C : hc_Cx G ly cJ7_fill_53178 4 none yJ7_fill_53178.cls p s m args meth c) {k n : Nat} {v : Int32} {M : hc_Mem} (hy : ly[k]? = some (.inl (false, n))) (hn : n < 2 ^ 31)
    (kk : hc_W G ly p l e R s m args below meth c 4 0 0 Q 20 [some (.ref (hc_ad G k)), some (.int v), some (.int (nI n)), some (.int (nI n))] [] (hc_mf M k (fun j => if j < n then v else M k j))) : ∀ (t i : Nat), i + t = n → hc_W G ly p l e R s m args below meth c 4 0 0 Q 5 [some (.ref (hc_ad G k)), some (.int v), some (.int (nI i)), some (.int (nI n))] [] (hc_mf M k (fun j => if j < i then v else M k j)) := by
  intro t
  induction t with
  | zero =>
    intro i hi
    refine hc_iload_n C dJ7_fill_53178_5 rfl rfl ?_
    refine hc_iload_n C dJ7_fill_53178_6 rfl rfl ?_
    refine hc_icmp_ge C (tgt := 20) dJ7_fill_53178_7 (by decide) (fun c_7 => ?_) (fun c_7 => ?_)
    rotate_left
    · exact absurd (nI_le (show n ≤ i by omega) (by omega)) c_7
    rw [show i = n by omega]
    exact kk
  | succ t ih =>
    intro i hi
    refine hc_iload_n C dJ7_fill_53178_5 rfl rfl ?_
    refine hc_iload_n C dJ7_fill_53178_6 rfl rfl ?_
    refine hc_icmp_ge C (tgt := 20) dJ7_fill_53178_7 (by decide) (fun c_7 => ?_) (fun c_7 => ?_)
    · exact absurd c_7 (nI_ge (show i < n by omega) (by omega))
    refine hc_aload_n C dJ7_fill_53178_10 rfl rfl ?_
    refine hc_iload_n C dJ7_fill_53178_11 rfl rfl ?_
    refine hc_iload_n C dJ7_fill_53178_12 rfl rfl ?_
    refine hc_iast C hy (vp_in_nI (show i < n by omega) hn) dJ7_fill_53178_13 ?_
    refine hc_iinc2 C (v := nI (i + 1)) dJ7_fill_53178_14 (by decide) rfl rfl (nI_1 i) ?_
    refine hc_goto C (tgt := 5) dJ7_fill_53178_17 (by decide) ?_
    refine hc_mem ?_ (ih (i + 1) (by omega))
    funext q
    by_cases hq : q = k
    · subst hq
      simp only [hc_ms_s, hc_mf_s, nI_clamp (show i < 2 ^ 31 by omega)]
      funext j
      by_cases hj : j = i
      · subst hj
        simp [upd]
      · have e : (j < i + 1) ↔ (j < i) := by omega
        simp only [upd, hj, if_false, e]
    · simp only [hc_ms_n hq, hc_mf_n hq]
set_option maxRecDepth 100000 in
set_option maxHeartbeats 4000000 in
theorem hk_fill2 {G : hc_Geo} {ly : List hc_Ly} {p : Program} {l : Launch} {e : Env} {R : Room} {s : State} {m : MethodId} {args : Array Value} {below : List Frame} {meth : Method} {c : Code} {nL cells slots pc : Nat} {Q : State → Prop} {cc : ByteArray} {ret : Option FieldType} {own : String} {L : List (Option Value)} {st : List Value} {M : hc_Mem} (C : hc_Cx G ly cc nL ret own p s m args meth c) {k n idx : Nat} {v : Int32} (hy : ly[k]? = some (.inl (false, n))) (hn : n < 2 ^ 31) (hR : hc_rr 1 R) (hcs : cells ≤ R.cells ∧ slots ≤ R.slots) (hv : hc_MS own idx yJ7_fill_53178 cJ7_fill_53178 4 none 2) (hd : decode cc pc = .ok (.invokestatic idx, 3)) (hw : (st.map fun v => v.category).sum ≤ 8)
    (kk : hc_W G ly p l e R s m args below meth c nL cells slots Q (pc + 3) L st (hc_mf M k (fun j => if j < n then v else M k j))) : hc_W G ly p l e R s m args below meth c nL cells slots Q pc L (.int v :: .ref (hc_ad G k) :: st) M := by
  have hM : Met l yJ7_fill_53178 (Cond.code yJ7_fill_53178 cJ7_fill_53178 4 none :: hc_tb) (hc_rm 1) (va_Pc [.ref (hc_ad G k), .int v] (hc_wd G ly M)) (hc_Q G ly (hc_pv (fun M' => hc_mf M k (fun j => if j < n then v else M k j) = M'))) 0 0 (hc_A G) := by
    refine Met.ofW (cc := cJ7_fill_53178) (maxL := 4) (ret := none) (by decide) rfl ?_
    intro p e s m args below meth c s₁ B hml hv
    obtain ⟨rfl, hP, hK, hSt⟩ := hv
    have hts := atoms_spec (ws := Cond.code yJ7_fill_53178 cJ7_fill_53178 4 none :: hc_tb) B.pre
    have hl := lv_entry [.ref (hc_ad G k), .int v] (n := 4) (Nat.le_of_ble_eq_true rfl)
    rw [lg_entry_eq]
    generalize (lg_sl [Value.ref (hc_ad G k), .int v] ++ List.replicate (4 - (lg_sl [Value.ref (hc_ad G k), .int v]).length) Slot.unset).toArray = ls at hl ⊢
    have C2 : hc_Cx G ly cJ7_fill_53178 4 none yJ7_fill_53178.cls p s m [Value.ref (hc_ad G k), .int v].toArray meth c := ⟨B.exec, B.bytes, hml, findClass_of_methodNamed B.named, fun w h => hts w (List.mem_cons_of_mem _ h), hK, hSt, C.ok, B.returns, B.notSynchronized⟩
    have hw : hc_W G ly p l e (hc_rm 1) s m [Value.ref (hc_ad G k), .int v].toArray below meth c 4 0 0 (MQ below (hc_Q G ly (hc_pv (fun M' => hc_mf M k (fun j => if j < n then v else M k j) = M'))) [Value.ref (hc_ad G k), .int v].toArray s 0 0 (hc_A G)) 0 [some (.ref (hc_ad G k)), some (.int v), none, none] [] M := by
      refine hc_iconst C2 dJ7_fill_53178_0 (v := 0) rfl ?_
      refine hc_istore_n2 C2 dJ7_fill_53178_1 rfl (by decide) rfl ?_
      refine hc_aload_n C2 dJ7_fill_53178_2 rfl rfl ?_
      refine hc_alen C2 (n := n) hy (v := nI n) rfl dJ7_fill_53178_3 ?_
      refine hc_istore_n3 C2 dJ7_fill_53178_4 rfl (by decide) rfl ?_
      refine hc_mem ?_ (lp_fill2 (M := M) (v := v) C2 hy hn ?_ n 0 (by omega))
      · funext q
        by_cases hq : q = k
        · subst hq
          rw [hc_mf_s]
          funext j
          rw [if_neg (by omega)]
        · rw [hc_mf_n hq]
      · exact hc_vret C2 rfl dJ7_fill_53178_20 rfl
    exact hw s.heap [] ls hP va_S.rf hl
  intro H locs ls hP hS hl
  have hts := C.2.2.2.2.1
  exact hc_on C hS hl (va_runS (Ts := hc_tb) (nL := nL) (As := [.ref (hc_ad G k), .int v]) (rest := st) (n := 2) ⟨C.1, C.2.1, C.2.2.1, C.2.2.2.1, hts⟩ hM ⟨hv.1.at C hR, hts _ hv.2⟩ ⟨hc_wd_blind, fun U hU hW => ⟨rfl, hc_wd_at C hP hS hU hW⟩⟩ rfl rfl hl.1 rfl (lv_room hw) hd hcs) (fun r M' h => by obtain ⟨rfl, rfl⟩ := h; exact kk)

set_option maxRecDepth 100000 in
set_option maxHeartbeats 4000000 in
theorem k_X5_init {l : Launch} {G : hc_Geo} (hG : hc_okL G (hk_at 2 [(0, 0), (1, 0)])) : hk_M l G yX5_init cX5_init 1 4 3 336 [.ref (hc_ad G 1)] (hk_at 2 [(0, 0), (1, 0)]) hk_M0 (hk_at 5 [(0, 0)]) hk_M1 := by
  refine hk_M.of hG (by decide) rfl [some (.ref (hc_ad G 1))] rfl (Nat.le_of_ble_eq_true rfl) ?_
  intro p e s m args below meth c hin2 C hb1
  have hb0 : G.2.2.2.2 ≤ s.heap.size := hb1 (by decide +kernel)
  have hag0 : hk_ag G G 2 := hk_ag.rf
  refine hc_aload_n C dX5_init_0 rfl rfl ?_
  refine hk_obj C kw_oj_X5 kw_oi kw_oc (by decide) (Nat.le_of_ble_eq_true rfl) dX5_init_1 ?_
  refine hc_aload_n C dX5_init_4 rfl rfl ?_
  refine hc_bipush C dX5_init_5 (v := 8) rfl ?_
  refine hk_newa C (z := false) (atype := .int) 8 (hk_at 3 [(0, 0), (1, 0)]) (by rw [hag0.2.2.2.1]; exact hb0) rfl kw_ai (n0 := 2) (by decide +kernel) hk_M0_z (by decide +kernel) (by decide +kernel) (by decide) (by decide) (by decide) ⟨Nat.le_of_ble_eq_true rfl, Nat.le_of_ble_eq_true rfl⟩ dX5_init_7 (fun g1 ag1 Cg1 => ?_)
  rw [← ag1.2.2.2.2 1 (by decide)]
  have hg1 := hk_ag.tr hag0 ag1 (by decide)
  refine hk_putF (ci := 3) (j := 0) (k := 1) (t := 2) (fs := [some none, some none, some none]) (fs' := [some (some 2), some none, some none]) Cg1 (RX5, TX5, 3) tyX5 (hk_at 3 [(0, 0), (1, 1)]) hin2 hin_X5 tyX5_ok nmX5 rfl (by decide) (fl_X5_11_w) rfl rfl (by decide +kernel) hk_ref_ii (by decide +kernel) (by decide) (by decide) (by decide +kernel) dX5_init_9 (fun D9 => ?_)
  refine hc_aload_n D9 dX5_init_12 rfl rfl ?_
  refine hc_bipush D9 dX5_init_13 (v := 8) rfl ?_
  refine hk_newa D9 (z := false) (atype := .int) 8 (hk_at 4 [(0, 0), (1, 1)]) (by rw [hg1.2.2.2.1]; exact hb0) rfl kw_ai (n0 := 3) (by decide +kernel) hk_M0_z (by decide +kernel) (by decide +kernel) (by decide) (by decide) (by decide) ⟨Nat.le_of_ble_eq_true rfl, Nat.le_of_ble_eq_true rfl⟩ dX5_init_15 (fun g2 ag2 Cg2 => ?_)
  rw [← ag2.2.2.2.2 1 (by decide)]
  have hg2 := hk_ag.tr hg1 ag2 (by decide)
  refine hk_putF (ci := 3) (j := 1) (k := 1) (t := 3) (fs := [some (some 2), some none, some none]) (fs' := [some (some 2), some (some 3), some none]) Cg2 (RX5, TX5, 3) tyX5 (hk_at 4 [(0, 0), (1, 2)]) hin2 hin_X5 tyX5_ok nmX5 rfl (by decide) (fl_X5_15_w) rfl rfl (by decide +kernel) hk_ref_ii (by decide +kernel) (by decide) (by decide) (by decide +kernel) dX5_init_17 (fun D17 => ?_)
  refine hc_aload_n D17 dX5_init_20 rfl rfl ?_
  refine hc_sipush D17 dX5_init_21 (v := 320) rfl ?_
  refine hk_newa D17 (z := false) (atype := .int) 320 (hk_at 5 [(0, 0), (1, 2)]) (by rw [hg2.2.2.2.1]; exact hb0) rfl kw_ai (n0 := 4) (by decide +kernel) hk_M0_z (by decide +kernel) (by decide +kernel) (by decide) (by decide) (by decide) ⟨Nat.le_of_ble_eq_true rfl, Nat.le_of_ble_eq_true rfl⟩ dX5_init_24 (fun g3 ag3 Cg3 => ?_)
  rw [← ag3.2.2.2.2 1 (by decide)]
  have hg3 := hk_ag.tr hg2 ag3 (by decide)
  refine hk_putF (ci := 3) (j := 2) (k := 1) (t := 4) (fs := [some (some 2), some (some 3), some none]) (fs' := [some (some 2), some (some 3), some (some 4)]) Cg3 (RX5, TX5, 3) tyX5 (hk_at 5 [(0, 0)]) hin2 hin_X5 tyX5_ok nmX5 rfl (by decide) (fl_X5_18_w) rfl rfl (by decide +kernel) hk_ref_ii (by decide +kernel) (by decide) (by decide) (by decide +kernel) dX5_init_26 (fun D26 => ?_)
  refine hc_aload_n D26 dX5_init_29 rfl rfl ?_
  refine hc_getR D26 fl_X5_11 (k := 1) (t := 2) (fs := [some (some 2), some (some 3), some (some 4)]) (by decide +kernel) rfl dX5_init_30 ?_
  refine hc_iconst D26 dX5_init_33 (v := (-1)) rfl ?_
  refine hk_fill2 D26 (k := 2) (n := 8) (by decide +kernel) (by decide) (hk_rr (by decide)) ⟨Nat.le_of_ble_eq_true rfl, Nat.le_of_ble_eq_true rfl⟩ ms_X5_21 dX5_init_34 (Nat.le_of_ble_eq_true rfl) ?_
  exact hk_vret D26 (by decide +kernel) rfl dX5_init_37 hg3

set_option maxRecDepth 100000 in
set_option maxHeartbeats 4000000 in
theorem k_X6_init {l : Launch} {G : hc_Geo} (hG : hc_okL G (hk_at 6 [(0, 1), (5, 0)])) : hk_M l G yX6_init cX6_init 1 2 3 163 [.ref (hc_ad G 5)] (hk_at 6 [(0, 1), (5, 0)]) hk_M1 (hk_at 9 [(0, 1)]) hk_M1 := by
  refine hk_M.of hG (by decide) rfl [some (.ref (hc_ad G 5))] rfl (Nat.le_of_ble_eq_true rfl) ?_
  intro p e s m args below meth c hin2 C hb1
  have hb0 : G.2.2.2.2 ≤ s.heap.size := hb1 (by decide +kernel)
  have hag0 : hk_ag G G 6 := hk_ag.rf
  refine hc_aload_n C dX6_init_0 rfl rfl ?_
  refine hk_obj C kw_oj_X6 kw_oi kw_oc (by decide) (Nat.le_of_ble_eq_true rfl) dX6_init_1 ?_
  refine hc_aload_n C dX6_init_4 rfl rfl ?_
  refine hc_bipush C dX6_init_5 (v := 120) rfl ?_
  refine hk_newa C (z := false) (atype := .int) 120 (hk_at 7 [(0, 1), (5, 0)]) (by rw [hag0.2.2.2.1]; exact hb0) rfl kw_ai (n0 := 6) (by decide +kernel) (hk_M1_z (by decide)) (by decide +kernel) (by decide +kernel) (by decide) (by decide) (by decide) ⟨Nat.le_of_ble_eq_true rfl, Nat.le_of_ble_eq_true rfl⟩ dX6_init_7 (fun g1 ag1 Cg1 => ?_)
  rw [← ag1.2.2.2.2 5 (by decide)]
  have hg1 := hk_ag.tr hag0 ag1 (by decide)
  refine hk_putF (ci := 4) (j := 0) (k := 5) (t := 6) (fs := [some none, none, none, none, some none, none, none, some none, none]) (fs' := [some (some 6), none, none, none, some none, none, none, some none, none]) Cg1 (RX6, TX6, 9) tyX6 (hk_at 7 [(0, 1), (5, 1)]) hin2 hin_X6 tyX6_ok nmX6 rfl (by decide) (fl_X6_13_w) rfl rfl (by decide +kernel) hk_ref_ii (by decide +kernel) (by decide) (by decide) (by decide +kernel) dX6_init_9 (fun D9 => ?_)
  refine hc_aload_n D9 dX6_init_12 rfl rfl ?_
  refine hc_iconst D9 dX6_init_13 (v := 0) rfl ?_
  refine hc_putI D9 fl_X6_17 pl_4_1 (k := 5) (fs := [some (some 6), none, none, none, some none, none, none, some none, none]) (by decide +kernel) rfl dX6_init_14 ?_
  refine hc_mem (M2 := hk_M1) (hk_M1_p (by decide)) ?_
  refine hc_aload_n D9 dX6_init_17 rfl rfl ?_
  refine hc_iconst D9 dX6_init_18 (v := 0) rfl ?_
  refine hc_putI D9 fl_X6_21 pl_4_2 (k := 5) (fs := [some (some 6), none, none, none, some none, none, none, some none, none]) (by decide +kernel) rfl dX6_init_19 ?_
  refine hc_mem (M2 := hk_M1) (hk_M1_p (by decide)) ?_
  refine hc_aload_n D9 dX6_init_22 rfl rfl ?_
  refine hc_iconst D9 dX6_init_23 (v := 0) rfl ?_
  refine hc_putI D9 fl_X6_24 pl_4_3 (k := 5) (fs := [some (some 6), none, none, none, some none, none, none, some none, none]) (by decide +kernel) rfl dX6_init_24 ?_
  refine hc_mem (M2 := hk_M1) (hk_M1_p (by decide)) ?_
  refine hc_aload_n D9 dX6_init_27 rfl rfl ?_
  refine hc_bipush D9 dX6_init_28 (v := 6) rfl ?_
  refine hk_newa D9 (z := false) (atype := .int) 6 (hk_at 8 [(0, 1), (5, 1)]) (by rw [hg1.2.2.2.1]; exact hb0) rfl kw_ai (n0 := 7) (by decide +kernel) (hk_M1_z (by decide)) (by decide +kernel) (by decide +kernel) (by decide) (by decide) (by decide) ⟨Nat.le_of_ble_eq_true rfl, Nat.le_of_ble_eq_true rfl⟩ dX6_init_30 (fun g2 ag2 Cg2 => ?_)
  rw [← ag2.2.2.2.2 5 (by decide)]
  have hg2 := hk_ag.tr hg1 ag2 (by decide)
  refine hk_putF (ci := 4) (j := 4) (k := 5) (t := 7) (fs := [some (some 6), none, none, none, some none, none, none, some none, none]) (fs' := [some (some 6), none, none, none, some (some 7), none, none, some none, none]) Cg2 (RX6, TX6, 9) tyX6 (hk_at 8 [(0, 1), (5, 2)]) hin2 hin_X6 tyX6_ok nmX6 rfl (by decide) (fl_X6_27_w) rfl rfl (by decide +kernel) hk_ref_ii (by decide +kernel) (by decide) (by decide) (by decide +kernel) dX6_init_32 (fun D32 => ?_)
  refine hc_aload_n D32 dX6_init_35 rfl rfl ?_
  refine hc_iconst D32 dX6_init_36 (v := 0) rfl ?_
  refine hc_putI D32 fl_X6_30 pl_4_5 (k := 5) (fs := [some (some 6), none, none, none, some (some 7), none, none, some none, none]) (by decide +kernel) rfl dX6_init_37 ?_
  refine hc_mem (M2 := hk_M1) (hk_M1_p (by decide)) ?_
  refine hc_aload_n D32 dX6_init_40 rfl rfl ?_
  refine hc_iconst D32 dX6_init_41 (v := 0) rfl ?_
  refine hc_putI D32 fl_X6_33 pl_4_6 (k := 5) (fs := [some (some 6), none, none, none, some (some 7), none, none, some none, none]) (by decide +kernel) rfl dX6_init_42 ?_
  refine hc_mem (M2 := hk_M1) (hk_M1_p (by decide)) ?_
  refine hc_aload_n D32 dX6_init_45 rfl rfl ?_
  refine hc_bipush D32 dX6_init_46 (v := 37) rfl ?_
  refine hk_newa D32 (z := false) (atype := .int) 37 (hk_at 9 [(0, 1), (5, 2)]) (by rw [hg2.2.2.2.1]; exact hb0) rfl kw_ai (n0 := 8) (by decide +kernel) (hk_M1_z (by decide)) (by decide +kernel) (by decide +kernel) (by decide) (by decide) (by decide) ⟨Nat.le_of_ble_eq_true rfl, Nat.le_of_ble_eq_true rfl⟩ dX6_init_48 (fun g3 ag3 Cg3 => ?_)
  rw [← ag3.2.2.2.2 5 (by decide)]
  have hg3 := hk_ag.tr hg2 ag3 (by decide)
  refine hk_putF (ci := 4) (j := 7) (k := 5) (t := 8) (fs := [some (some 6), none, none, none, some (some 7), none, none, some none, none]) (fs' := [some (some 6), none, none, none, some (some 7), none, none, some (some 8), none]) Cg3 (RX6, TX6, 9) tyX6 (hk_at 9 [(0, 1)]) hin2 hin_X6 tyX6_ok nmX6 rfl (by decide) (fl_X6_36_w) rfl rfl (by decide +kernel) hk_ref_ii (by decide +kernel) (by decide) (by decide) (by decide +kernel) dX6_init_50 (fun D50 => ?_)
  refine hc_aload_n D50 dX6_init_53 rfl rfl ?_
  refine hc_iconst D50 dX6_init_54 (v := 0) rfl ?_
  refine hc_putI D50 fl_X6_39 pl_4_8 (k := 5) (fs := [some (some 6), none, none, none, some (some 7), none, none, some (some 8), none]) (by decide +kernel) rfl dX6_init_55 ?_
  refine hc_mem (M2 := hk_M1) (hk_M1_p (by decide)) ?_
  exact hk_vret D50 (by decide +kernel) rfl dX6_init_58 hg3

set_option maxRecDepth 100000 in
set_option maxHeartbeats 4000000 in
theorem k_X3_init_a {l : Launch} {G : hc_Geo} (hG : hc_okL G (hk_at 10 [(0, 2), (9, 0)])) : hk_M l G yX3_init cX3_init 1 2 10 1048 [.ref (hc_ad G 9)] (hk_at 10 [(0, 2), (9, 0)]) hk_M1 (hk_at 20 [(0, 2)]) hk_M1 := by
  refine hk_M.of hG (by decide) rfl [some (.ref (hc_ad G 9))] rfl (Nat.le_of_ble_eq_true rfl) ?_
  intro p e s m args below meth c hin2 C hb1
  have hb0 : G.2.2.2.2 ≤ s.heap.size := hb1 (by decide +kernel)
  have hag0 : hk_ag G G 10 := hk_ag.rf
  refine hc_aload_n C dX3_init_0 rfl rfl ?_
  refine hk_obj C kw_oj_X3 kw_oi kw_oc (by decide) (Nat.le_of_ble_eq_true rfl) dX3_init_1 ?_
  refine hc_aload_n C dX3_init_4 rfl rfl ?_
  refine hc_iconst C dX3_init_5 (v := 0) rfl ?_
  refine hc_putT C fl_X3_7 pl_2_0 (k := 9) (fs := [none, none, none, none, none, none, none, some none, some none, some none, some none, some none, some none, some none, some none, some none, some none]) rfl rfl (by decide +kernel) rfl dX3_init_6 ?_
  refine hc_mem (M2 := hk_M1) (hk_M1_p (by decide)) ?_
  refine hc_aload_n C dX3_init_9 rfl rfl ?_
  refine hc_iconst C dX3_init_10 (v := 0) rfl ?_
  refine hc_putI C fl_X3_13 pl_2_1 (k := 9) (fs := [none, none, none, none, none, none, none, some none, some none, some none, some none, some none, some none, some none, some none, some none, some none]) (by decide +kernel) rfl dX3_init_11 ?_
  refine hc_mem (M2 := hk_M1) (hk_M1_p (by decide)) ?_
  refine hc_aload_n C dX3_init_14 rfl rfl ?_
  refine hc_iconst C dX3_init_15 (v := 0) rfl ?_
  refine hc_putI C fl_X3_17 pl_2_2 (k := 9) (fs := [none, none, none, none, none, none, none, some none, some none, some none, some none, some none, some none, some none, some none, some none, some none]) (by decide +kernel) rfl dX3_init_16 ?_
  refine hc_mem (M2 := hk_M1) (hk_M1_p (by decide)) ?_
  refine hc_aload_n C dX3_init_19 rfl rfl ?_
  refine hc_iconst C dX3_init_20 (v := 0) rfl ?_
  refine hc_putI C fl_X3_20 pl_2_3 (k := 9) (fs := [none, none, none, none, none, none, none, some none, some none, some none, some none, some none, some none, some none, some none, some none, some none]) (by decide +kernel) rfl dX3_init_21 ?_
  refine hc_mem (M2 := hk_M1) (hk_M1_p (by decide)) ?_
  refine hc_aload_n C dX3_init_24 rfl rfl ?_
  refine hc_iconst C dX3_init_25 (v := 0) rfl ?_
  refine hc_putI C fl_X3_23 pl_2_4 (k := 9) (fs := [none, none, none, none, none, none, none, some none, some none, some none, some none, some none, some none, some none, some none, some none, some none]) (by decide +kernel) rfl dX3_init_26 ?_
  refine hc_mem (M2 := hk_M1) (hk_M1_p (by decide)) ?_
  refine hc_aload_n C dX3_init_29 rfl rfl ?_
  refine hc_iconst C dX3_init_30 (v := 0) rfl ?_
  refine hc_putI C fl_X3_26 pl_2_5 (k := 9) (fs := [none, none, none, none, none, none, none, some none, some none, some none, some none, some none, some none, some none, some none, some none, some none]) (by decide +kernel) rfl dX3_init_31 ?_
  refine hc_mem (M2 := hk_M1) (hk_M1_p (by decide)) ?_
  refine hc_aload_n C dX3_init_34 rfl rfl ?_
  refine hc_iconst C dX3_init_35 (v := 0) rfl ?_
  refine hc_putI C fl_X3_29 pl_2_6 (k := 9) (fs := [none, none, none, none, none, none, none, some none, some none, some none, some none, some none, some none, some none, some none, some none, some none]) (by decide +kernel) rfl dX3_init_36 ?_
  refine hc_mem (M2 := hk_M1) (hk_M1_p (by decide)) ?_
  refine hc_aload_n C dX3_init_39 rfl rfl ?_
  refine hc_bipush C dX3_init_40 (v := 6) rfl ?_
  refine hk_newa C (z := false) (atype := .int) 6 (hk_at 11 [(0, 2), (9, 0)]) (by rw [hag0.2.2.2.1]; exact hb0) rfl kw_ai (n0 := 10) (by decide +kernel) (hk_M1_z (by decide)) (by decide +kernel) (by decide +kernel) (by decide) (by decide) (by decide) ⟨Nat.le_of_ble_eq_true rfl, Nat.le_of_ble_eq_true rfl⟩ dX3_init_42 (fun g1 ag1 Cg1 => ?_)
  rw [← ag1.2.2.2.2 9 (by decide)]
  have hg1 := hk_ag.tr hag0 ag1 (by decide)
  refine hk_putF (ci := 2) (j := 7) (k := 9) (t := 10) (fs := [none, none, none, none, none, none, none, some none, some none, some none, some none, some none, some none, some none, some none, some none, some none]) (fs' := [none, none, none, none, none, none, none, some (some 10), some none, some none, some none, some none, some none, some none, some none, some none, some none]) Cg1 (RX3, TX3, 17) tyX3 (hk_at 11 [(0, 2), (9, 1)]) hin2 hin_X3 tyX3_ok nmX3 rfl (by decide) (fl_X3_32_w) rfl rfl (by decide +kernel) hk_ref_ii (by decide +kernel) (by decide) (by decide) (by decide +kernel) dX3_init_44 (fun D44 => ?_)
  refine hc_aload_n D44 dX3_init_47 rfl rfl ?_
  refine hc_bipush D44 dX3_init_48 (v := 6) rfl ?_
  refine hk_newa D44 (z := false) (atype := .int) 6 (hk_at 12 [(0, 2), (9, 1)]) (by rw [hg1.2.2.2.1]; exact hb0) rfl kw_ai (n0 := 11) (by decide +kernel) (hk_M1_z (by decide)) (by decide +kernel) (by decide +kernel) (by decide) (by decide) (by decide) ⟨Nat.le_of_ble_eq_true rfl, Nat.le_of_ble_eq_true rfl⟩ dX3_init_50 (fun g2 ag2 Cg2 => ?_)
  rw [← ag2.2.2.2.2 9 (by decide)]
  have hg2 := hk_ag.tr hg1 ag2 (by decide)
  refine hk_putF (ci := 2) (j := 8) (k := 9) (t := 11) (fs := [none, none, none, none, none, none, none, some (some 10), some none, some none, some none, some none, some none, some none, some none, some none, some none]) (fs' := [none, none, none, none, none, none, none, some (some 10), some (some 11), some none, some none, some none, some none, some none, some none, some none, some none]) Cg2 (RX3, TX3, 17) tyX3 (hk_at 12 [(0, 2), (9, 2)]) hin2 hin_X3 tyX3_ok nmX3 rfl (by decide) (fl_X3_36_w) rfl rfl (by decide +kernel) hk_ref_ii (by decide +kernel) (by decide) (by decide) (by decide +kernel) dX3_init_52 (fun D52 => ?_)
  refine hc_aload_n D52 dX3_init_55 rfl rfl ?_
  refine hc_bipush D52 dX3_init_56 (v := 6) rfl ?_
  refine hk_newa D52 (z := false) (atype := .int) 6 (hk_at 13 [(0, 2), (9, 2)]) (by rw [hg2.2.2.2.1]; exact hb0) rfl kw_ai (n0 := 12) (by decide +kernel) (hk_M1_z (by decide)) (by decide +kernel) (by decide +kernel) (by decide) (by decide) (by decide) ⟨Nat.le_of_ble_eq_true rfl, Nat.le_of_ble_eq_true rfl⟩ dX3_init_58 (fun g3 ag3 Cg3 => ?_)
  rw [← ag3.2.2.2.2 9 (by decide)]
  have hg3 := hk_ag.tr hg2 ag3 (by decide)
  refine hk_putF (ci := 2) (j := 9) (k := 9) (t := 12) (fs := [none, none, none, none, none, none, none, some (some 10), some (some 11), some none, some none, some none, some none, some none, some none, some none, some none]) (fs' := [none, none, none, none, none, none, none, some (some 10), some (some 11), some (some 12), some none, some none, some none, some none, some none, some none, some none]) Cg3 (RX3, TX3, 17) tyX3 (hk_at 13 [(0, 2), (9, 3)]) hin2 hin_X3 tyX3_ok nmX3 rfl (by decide) (fl_X3_39_w) rfl rfl (by decide +kernel) hk_ref_ii (by decide +kernel) (by decide) (by decide) (by decide +kernel) dX3_init_60 (fun D60 => ?_)
  refine hc_aload_n D60 dX3_init_63 rfl rfl ?_
  refine hc_bipush D60 dX3_init_64 (v := 6) rfl ?_
  refine hk_newa D60 (z := false) (atype := .int) 6 (hk_at 14 [(0, 2), (9, 3)]) (by rw [hg3.2.2.2.1]; exact hb0) rfl kw_ai (n0 := 13) (by decide +kernel) (hk_M1_z (by decide)) (by decide +kernel) (by decide +kernel) (by decide) (by decide) (by decide) ⟨Nat.le_of_ble_eq_true rfl, Nat.le_of_ble_eq_true rfl⟩ dX3_init_66 (fun g4 ag4 Cg4 => ?_)
  rw [← ag4.2.2.2.2 9 (by decide)]
  have hg4 := hk_ag.tr hg3 ag4 (by decide)
  refine hk_putF (ci := 2) (j := 10) (k := 9) (t := 13) (fs := [none, none, none, none, none, none, none, some (some 10), some (some 11), some (some 12), some none, some none, some none, some none, some none, some none, some none]) (fs' := [none, none, none, none, none, none, none, some (some 10), some (some 11), some (some 12), some (some 13), some none, some none, some none, some none, some none, some none]) Cg4 (RX3, TX3, 17) tyX3 (hk_at 14 [(0, 2), (9, 4)]) hin2 hin_X3 tyX3_ok nmX3 rfl (by decide) (fl_X3_42_w) rfl rfl (by decide +kernel) hk_ref_ii (by decide +kernel) (by decide) (by decide) (by decide +kernel) dX3_init_68 (fun D68 => ?_)
  refine hc_aload_n D68 dX3_init_71 rfl rfl ?_
  refine hc_bipush D68 dX3_init_72 (v := 6) rfl ?_
  refine hk_newa D68 (z := false) (atype := .int) 6 (hk_at 15 [(0, 2), (9, 4)]) (by rw [hg4.2.2.2.1]; exact hb0) rfl kw_ai (n0 := 14) (by decide +kernel) (hk_M1_z (by decide)) (by decide +kernel) (by decide +kernel) (by decide) (by decide) (by decide) ⟨Nat.le_of_ble_eq_true rfl, Nat.le_of_ble_eq_true rfl⟩ dX3_init_74 (fun g5 ag5 Cg5 => ?_)
  rw [← ag5.2.2.2.2 9 (by decide)]
  have hg5 := hk_ag.tr hg4 ag5 (by decide)
  refine hk_putF (ci := 2) (j := 11) (k := 9) (t := 14) (fs := [none, none, none, none, none, none, none, some (some 10), some (some 11), some (some 12), some (some 13), some none, some none, some none, some none, some none, some none]) (fs' := [none, none, none, none, none, none, none, some (some 10), some (some 11), some (some 12), some (some 13), some (some 14), some none, some none, some none, some none, some none]) Cg5 (RX3, TX3, 17) tyX3 (hk_at 15 [(0, 2), (9, 5)]) hin2 hin_X3 tyX3_ok nmX3 rfl (by decide) (fl_X3_45_w) rfl rfl (by decide +kernel) hk_ref_ii (by decide +kernel) (by decide) (by decide) (by decide +kernel) dX3_init_76 (fun D76 => ?_)
  refine hc_aload_n D76 dX3_init_79 rfl rfl ?_
  refine hc_bipush D76 dX3_init_80 (v := 6) rfl ?_
  refine hk_newa D76 (z := false) (atype := .int) 6 (hk_at 16 [(0, 2), (9, 5)]) (by rw [hg5.2.2.2.1]; exact hb0) rfl kw_ai (n0 := 15) (by decide +kernel) (hk_M1_z (by decide)) (by decide +kernel) (by decide +kernel) (by decide) (by decide) (by decide) ⟨Nat.le_of_ble_eq_true rfl, Nat.le_of_ble_eq_true rfl⟩ dX3_init_82 (fun g6 ag6 Cg6 => ?_)
  rw [← ag6.2.2.2.2 9 (by decide)]
  have hg6 := hk_ag.tr hg5 ag6 (by decide)
  refine hk_putF (ci := 2) (j := 12) (k := 9) (t := 15) (fs := [none, none, none, none, none, none, none, some (some 10), some (some 11), some (some 12), some (some 13), some (some 14), some none, some none, some none, some none, some none]) (fs' := [none, none, none, none, none, none, none, some (some 10), some (some 11), some (some 12), some (some 13), some (some 14), some (some 15), some none, some none, some none, some none]) Cg6 (RX3, TX3, 17) tyX3 (hk_at 16 [(0, 2), (9, 6)]) hin2 hin_X3 tyX3_ok nmX3 rfl (by decide) (fl_X3_48_w) rfl rfl (by decide +kernel) hk_ref_ii (by decide +kernel) (by decide) (by decide) (by decide +kernel) dX3_init_84 (fun D84 => ?_)
  refine hc_aload_n D84 dX3_init_87 rfl rfl ?_
  refine hc_iconst D84 dX3_init_88 (v := 4) rfl ?_
  refine hk_newa D84 (z := false) (atype := .int) 4 (hk_at 17 [(0, 2), (9, 6)]) (by rw [hg6.2.2.2.1]; exact hb0) rfl kw_ai (n0 := 16) (by decide +kernel) (hk_M1_z (by decide)) (by decide +kernel) (by decide +kernel) (by decide) (by decide) (by decide) ⟨Nat.le_of_ble_eq_true rfl, Nat.le_of_ble_eq_true rfl⟩ dX3_init_89 (fun g7 ag7 Cg7 => ?_)
  rw [← ag7.2.2.2.2 9 (by decide)]
  have hg7 := hk_ag.tr hg6 ag7 (by decide)
  refine hk_putF (ci := 2) (j := 13) (k := 9) (t := 16) (fs := [none, none, none, none, none, none, none, some (some 10), some (some 11), some (some 12), some (some 13), some (some 14), some (some 15), some none, some none, some none, some none]) (fs' := [none, none, none, none, none, none, none, some (some 10), some (some 11), some (some 12), some (some 13), some (some 14), some (some 15), some (some 16), some none, some none, some none]) Cg7 (RX3, TX3, 17) tyX3 (hk_at 17 [(0, 2), (9, 7)]) hin2 hin_X3 tyX3_ok nmX3 rfl (by decide) (fl_X3_51_w) rfl rfl (by decide +kernel) hk_ref_ii (by decide +kernel) (by decide) (by decide) (by decide +kernel) dX3_init_91 (fun D91 => ?_)
  refine hc_aload_n D91 dX3_init_94 rfl rfl ?_
  refine hc_iconst D91 dX3_init_95 (v := 4) rfl ?_
  refine hk_newa D91 (z := false) (atype := .int) 4 (hk_at 18 [(0, 2), (9, 7)]) (by rw [hg7.2.2.2.1]; exact hb0) rfl kw_ai (n0 := 17) (by decide +kernel) (hk_M1_z (by decide)) (by decide +kernel) (by decide +kernel) (by decide) (by decide) (by decide) ⟨Nat.le_of_ble_eq_true rfl, Nat.le_of_ble_eq_true rfl⟩ dX3_init_96 (fun g8 ag8 Cg8 => ?_)
  rw [← ag8.2.2.2.2 9 (by decide)]
  have hg8 := hk_ag.tr hg7 ag8 (by decide)
  refine hk_putF (ci := 2) (j := 14) (k := 9) (t := 17) (fs := [none, none, none, none, none, none, none, some (some 10), some (some 11), some (some 12), some (some 13), some (some 14), some (some 15), some (some 16), some none, some none, some none]) (fs' := [none, none, none, none, none, none, none, some (some 10), some (some 11), some (some 12), some (some 13), some (some 14), some (some 15), some (some 16), some (some 17), some none, some none]) Cg8 (RX3, TX3, 17) tyX3 (hk_at 18 [(0, 2), (9, 8)]) hin2 hin_X3 tyX3_ok nmX3 rfl (by decide) (fl_X3_54_w) rfl rfl (by decide +kernel) hk_ref_ii (by decide +kernel) (by decide) (by decide) (by decide +kernel) dX3_init_98 (fun D98 => ?_)
  refine hc_aload_n D98 dX3_init_101 rfl rfl ?_
  refine hc_iconst D98 dX3_init_102 (v := 4) rfl ?_
  refine hk_newa D98 (z := false) (atype := .int) 4 (hk_at 19 [(0, 2), (9, 8)]) (by rw [hg8.2.2.2.1]; exact hb0) rfl kw_ai (n0 := 18) (by decide +kernel) (hk_M1_z (by decide)) (by decide +kernel) (by decide +kernel) (by decide) (by decide) (by decide) ⟨Nat.le_of_ble_eq_true rfl, Nat.le_of_ble_eq_true rfl⟩ dX3_init_103 (fun g9 ag9 Cg9 => ?_)
  rw [← ag9.2.2.2.2 9 (by decide)]
  have hg9 := hk_ag.tr hg8 ag9 (by decide)
  refine hk_putF (ci := 2) (j := 15) (k := 9) (t := 18) (fs := [none, none, none, none, none, none, none, some (some 10), some (some 11), some (some 12), some (some 13), some (some 14), some (some 15), some (some 16), some (some 17), some none, some none]) (fs' := [none, none, none, none, none, none, none, some (some 10), some (some 11), some (some 12), some (some 13), some (some 14), some (some 15), some (some 16), some (some 17), some (some 18), some none]) Cg9 (RX3, TX3, 17) tyX3 (hk_at 19 [(0, 2), (9, 9)]) hin2 hin_X3 tyX3_ok nmX3 rfl (by decide) (fl_X3_57_w) rfl rfl (by decide +kernel) hk_ref_ii (by decide +kernel) (by decide) (by decide) (by decide +kernel) dX3_init_105 (fun D105 => ?_)
  refine hc_aload_n D105 dX3_init_108 rfl rfl ?_
  refine hc_sipush D105 dX3_init_109 (v := 1000) rfl ?_
  refine hk_newa D105 (z := false) (atype := .int) 1000 (hk_at 20 [(0, 2), (9, 9)]) (by rw [hg9.2.2.2.1]; exact hb0) rfl kw_ai (n0 := 19) (by decide +kernel) (hk_M1_z (by decide)) (by decide +kernel) (by decide +kernel) (by decide) (by decide) (by decide) ⟨Nat.le_of_ble_eq_true rfl, Nat.le_of_ble_eq_true rfl⟩ dX3_init_112 (fun g10 ag10 Cg10 => ?_)
  rw [← ag10.2.2.2.2 9 (by decide)]
  have hg10 := hk_ag.tr hg9 ag10 (by decide)
  refine hk_putF (ci := 2) (j := 16) (k := 9) (t := 19) (fs := [none, none, none, none, none, none, none, some (some 10), some (some 11), some (some 12), some (some 13), some (some 14), some (some 15), some (some 16), some (some 17), some (some 18), some none]) (fs' := [none, none, none, none, none, none, none, some (some 10), some (some 11), some (some 12), some (some 13), some (some 14), some (some 15), some (some 16), some (some 17), some (some 18), some (some 19)]) Cg10 (RX3, TX3, 17) tyX3 (hk_at 20 [(0, 2)]) hin2 hin_X3 tyX3_ok nmX3 rfl (by decide) (fl_X3_60_w) rfl rfl (by decide +kernel) hk_ref_ii (by decide +kernel) (by decide) (by decide) (by decide +kernel) dX3_init_114 (fun D114 => ?_)
  exact hk_vret D114 (by decide +kernel) rfl dX3_init_117 hg10

set_option maxRecDepth 100000 in
set_option maxHeartbeats 4000000 in
theorem k_X3_init_b {l : Launch} {G : hc_Geo} (hG : hc_okL G (hk_at 21 [(0, 3), (20, 0)])) : hk_M l G yX3_init cX3_init 1 2 10 1048 [.ref (hc_ad G 20)] (hk_at 21 [(0, 3), (20, 0)]) hk_M1 (hk_at 31 [(0, 3)]) hk_M1 := by
  refine hk_M.of hG (by decide) rfl [some (.ref (hc_ad G 20))] rfl (Nat.le_of_ble_eq_true rfl) ?_
  intro p e s m args below meth c hin2 C hb1
  have hb0 : G.2.2.2.2 ≤ s.heap.size := hb1 (by decide +kernel)
  have hag0 : hk_ag G G 21 := hk_ag.rf
  refine hc_aload_n C dX3_init_0 rfl rfl ?_
  refine hk_obj C kw_oj_X3 kw_oi kw_oc (by decide) (Nat.le_of_ble_eq_true rfl) dX3_init_1 ?_
  refine hc_aload_n C dX3_init_4 rfl rfl ?_
  refine hc_iconst C dX3_init_5 (v := 0) rfl ?_
  refine hc_putT C fl_X3_7 pl_2_0 (k := 20) (fs := [none, none, none, none, none, none, none, some none, some none, some none, some none, some none, some none, some none, some none, some none, some none]) rfl rfl (by decide +kernel) rfl dX3_init_6 ?_
  refine hc_mem (M2 := hk_M1) (hk_M1_p (by decide)) ?_
  refine hc_aload_n C dX3_init_9 rfl rfl ?_
  refine hc_iconst C dX3_init_10 (v := 0) rfl ?_
  refine hc_putI C fl_X3_13 pl_2_1 (k := 20) (fs := [none, none, none, none, none, none, none, some none, some none, some none, some none, some none, some none, some none, some none, some none, some none]) (by decide +kernel) rfl dX3_init_11 ?_
  refine hc_mem (M2 := hk_M1) (hk_M1_p (by decide)) ?_
  refine hc_aload_n C dX3_init_14 rfl rfl ?_
  refine hc_iconst C dX3_init_15 (v := 0) rfl ?_
  refine hc_putI C fl_X3_17 pl_2_2 (k := 20) (fs := [none, none, none, none, none, none, none, some none, some none, some none, some none, some none, some none, some none, some none, some none, some none]) (by decide +kernel) rfl dX3_init_16 ?_
  refine hc_mem (M2 := hk_M1) (hk_M1_p (by decide)) ?_
  refine hc_aload_n C dX3_init_19 rfl rfl ?_
  refine hc_iconst C dX3_init_20 (v := 0) rfl ?_
  refine hc_putI C fl_X3_20 pl_2_3 (k := 20) (fs := [none, none, none, none, none, none, none, some none, some none, some none, some none, some none, some none, some none, some none, some none, some none]) (by decide +kernel) rfl dX3_init_21 ?_
  refine hc_mem (M2 := hk_M1) (hk_M1_p (by decide)) ?_
  refine hc_aload_n C dX3_init_24 rfl rfl ?_
  refine hc_iconst C dX3_init_25 (v := 0) rfl ?_
  refine hc_putI C fl_X3_23 pl_2_4 (k := 20) (fs := [none, none, none, none, none, none, none, some none, some none, some none, some none, some none, some none, some none, some none, some none, some none]) (by decide +kernel) rfl dX3_init_26 ?_
  refine hc_mem (M2 := hk_M1) (hk_M1_p (by decide)) ?_
  refine hc_aload_n C dX3_init_29 rfl rfl ?_
  refine hc_iconst C dX3_init_30 (v := 0) rfl ?_
  refine hc_putI C fl_X3_26 pl_2_5 (k := 20) (fs := [none, none, none, none, none, none, none, some none, some none, some none, some none, some none, some none, some none, some none, some none, some none]) (by decide +kernel) rfl dX3_init_31 ?_
  refine hc_mem (M2 := hk_M1) (hk_M1_p (by decide)) ?_
  refine hc_aload_n C dX3_init_34 rfl rfl ?_
  refine hc_iconst C dX3_init_35 (v := 0) rfl ?_
  refine hc_putI C fl_X3_29 pl_2_6 (k := 20) (fs := [none, none, none, none, none, none, none, some none, some none, some none, some none, some none, some none, some none, some none, some none, some none]) (by decide +kernel) rfl dX3_init_36 ?_
  refine hc_mem (M2 := hk_M1) (hk_M1_p (by decide)) ?_
  refine hc_aload_n C dX3_init_39 rfl rfl ?_
  refine hc_bipush C dX3_init_40 (v := 6) rfl ?_
  refine hk_newa C (z := false) (atype := .int) 6 (hk_at 22 [(0, 3), (20, 0)]) (by rw [hag0.2.2.2.1]; exact hb0) rfl kw_ai (n0 := 21) (by decide +kernel) (hk_M1_z (by decide)) (by decide +kernel) (by decide +kernel) (by decide) (by decide) (by decide) ⟨Nat.le_of_ble_eq_true rfl, Nat.le_of_ble_eq_true rfl⟩ dX3_init_42 (fun g1 ag1 Cg1 => ?_)
  rw [← ag1.2.2.2.2 20 (by decide)]
  have hg1 := hk_ag.tr hag0 ag1 (by decide)
  refine hk_putF (ci := 2) (j := 7) (k := 20) (t := 21) (fs := [none, none, none, none, none, none, none, some none, some none, some none, some none, some none, some none, some none, some none, some none, some none]) (fs' := [none, none, none, none, none, none, none, some (some 21), some none, some none, some none, some none, some none, some none, some none, some none, some none]) Cg1 (RX3, TX3, 17) tyX3 (hk_at 22 [(0, 3), (20, 1)]) hin2 hin_X3 tyX3_ok nmX3 rfl (by decide) (fl_X3_32_w) rfl rfl (by decide +kernel) hk_ref_ii (by decide +kernel) (by decide) (by decide) (by decide +kernel) dX3_init_44 (fun D44 => ?_)
  refine hc_aload_n D44 dX3_init_47 rfl rfl ?_
  refine hc_bipush D44 dX3_init_48 (v := 6) rfl ?_
  refine hk_newa D44 (z := false) (atype := .int) 6 (hk_at 23 [(0, 3), (20, 1)]) (by rw [hg1.2.2.2.1]; exact hb0) rfl kw_ai (n0 := 22) (by decide +kernel) (hk_M1_z (by decide)) (by decide +kernel) (by decide +kernel) (by decide) (by decide) (by decide) ⟨Nat.le_of_ble_eq_true rfl, Nat.le_of_ble_eq_true rfl⟩ dX3_init_50 (fun g2 ag2 Cg2 => ?_)
  rw [← ag2.2.2.2.2 20 (by decide)]
  have hg2 := hk_ag.tr hg1 ag2 (by decide)
  refine hk_putF (ci := 2) (j := 8) (k := 20) (t := 22) (fs := [none, none, none, none, none, none, none, some (some 21), some none, some none, some none, some none, some none, some none, some none, some none, some none]) (fs' := [none, none, none, none, none, none, none, some (some 21), some (some 22), some none, some none, some none, some none, some none, some none, some none, some none]) Cg2 (RX3, TX3, 17) tyX3 (hk_at 23 [(0, 3), (20, 2)]) hin2 hin_X3 tyX3_ok nmX3 rfl (by decide) (fl_X3_36_w) rfl rfl (by decide +kernel) hk_ref_ii (by decide +kernel) (by decide) (by decide) (by decide +kernel) dX3_init_52 (fun D52 => ?_)
  refine hc_aload_n D52 dX3_init_55 rfl rfl ?_
  refine hc_bipush D52 dX3_init_56 (v := 6) rfl ?_
  refine hk_newa D52 (z := false) (atype := .int) 6 (hk_at 24 [(0, 3), (20, 2)]) (by rw [hg2.2.2.2.1]; exact hb0) rfl kw_ai (n0 := 23) (by decide +kernel) (hk_M1_z (by decide)) (by decide +kernel) (by decide +kernel) (by decide) (by decide) (by decide) ⟨Nat.le_of_ble_eq_true rfl, Nat.le_of_ble_eq_true rfl⟩ dX3_init_58 (fun g3 ag3 Cg3 => ?_)
  rw [← ag3.2.2.2.2 20 (by decide)]
  have hg3 := hk_ag.tr hg2 ag3 (by decide)
  refine hk_putF (ci := 2) (j := 9) (k := 20) (t := 23) (fs := [none, none, none, none, none, none, none, some (some 21), some (some 22), some none, some none, some none, some none, some none, some none, some none, some none]) (fs' := [none, none, none, none, none, none, none, some (some 21), some (some 22), some (some 23), some none, some none, some none, some none, some none, some none, some none]) Cg3 (RX3, TX3, 17) tyX3 (hk_at 24 [(0, 3), (20, 3)]) hin2 hin_X3 tyX3_ok nmX3 rfl (by decide) (fl_X3_39_w) rfl rfl (by decide +kernel) hk_ref_ii (by decide +kernel) (by decide) (by decide) (by decide +kernel) dX3_init_60 (fun D60 => ?_)
  refine hc_aload_n D60 dX3_init_63 rfl rfl ?_
  refine hc_bipush D60 dX3_init_64 (v := 6) rfl ?_
  refine hk_newa D60 (z := false) (atype := .int) 6 (hk_at 25 [(0, 3), (20, 3)]) (by rw [hg3.2.2.2.1]; exact hb0) rfl kw_ai (n0 := 24) (by decide +kernel) (hk_M1_z (by decide)) (by decide +kernel) (by decide +kernel) (by decide) (by decide) (by decide) ⟨Nat.le_of_ble_eq_true rfl, Nat.le_of_ble_eq_true rfl⟩ dX3_init_66 (fun g4 ag4 Cg4 => ?_)
  rw [← ag4.2.2.2.2 20 (by decide)]
  have hg4 := hk_ag.tr hg3 ag4 (by decide)
  refine hk_putF (ci := 2) (j := 10) (k := 20) (t := 24) (fs := [none, none, none, none, none, none, none, some (some 21), some (some 22), some (some 23), some none, some none, some none, some none, some none, some none, some none]) (fs' := [none, none, none, none, none, none, none, some (some 21), some (some 22), some (some 23), some (some 24), some none, some none, some none, some none, some none, some none]) Cg4 (RX3, TX3, 17) tyX3 (hk_at 25 [(0, 3), (20, 4)]) hin2 hin_X3 tyX3_ok nmX3 rfl (by decide) (fl_X3_42_w) rfl rfl (by decide +kernel) hk_ref_ii (by decide +kernel) (by decide) (by decide) (by decide +kernel) dX3_init_68 (fun D68 => ?_)
  refine hc_aload_n D68 dX3_init_71 rfl rfl ?_
  refine hc_bipush D68 dX3_init_72 (v := 6) rfl ?_
  refine hk_newa D68 (z := false) (atype := .int) 6 (hk_at 26 [(0, 3), (20, 4)]) (by rw [hg4.2.2.2.1]; exact hb0) rfl kw_ai (n0 := 25) (by decide +kernel) (hk_M1_z (by decide)) (by decide +kernel) (by decide +kernel) (by decide) (by decide) (by decide) ⟨Nat.le_of_ble_eq_true rfl, Nat.le_of_ble_eq_true rfl⟩ dX3_init_74 (fun g5 ag5 Cg5 => ?_)
  rw [← ag5.2.2.2.2 20 (by decide)]
  have hg5 := hk_ag.tr hg4 ag5 (by decide)
  refine hk_putF (ci := 2) (j := 11) (k := 20) (t := 25) (fs := [none, none, none, none, none, none, none, some (some 21), some (some 22), some (some 23), some (some 24), some none, some none, some none, some none, some none, some none]) (fs' := [none, none, none, none, none, none, none, some (some 21), some (some 22), some (some 23), some (some 24), some (some 25), some none, some none, some none, some none, some none]) Cg5 (RX3, TX3, 17) tyX3 (hk_at 26 [(0, 3), (20, 5)]) hin2 hin_X3 tyX3_ok nmX3 rfl (by decide) (fl_X3_45_w) rfl rfl (by decide +kernel) hk_ref_ii (by decide +kernel) (by decide) (by decide) (by decide +kernel) dX3_init_76 (fun D76 => ?_)
  refine hc_aload_n D76 dX3_init_79 rfl rfl ?_
  refine hc_bipush D76 dX3_init_80 (v := 6) rfl ?_
  refine hk_newa D76 (z := false) (atype := .int) 6 (hk_at 27 [(0, 3), (20, 5)]) (by rw [hg5.2.2.2.1]; exact hb0) rfl kw_ai (n0 := 26) (by decide +kernel) (hk_M1_z (by decide)) (by decide +kernel) (by decide +kernel) (by decide) (by decide) (by decide) ⟨Nat.le_of_ble_eq_true rfl, Nat.le_of_ble_eq_true rfl⟩ dX3_init_82 (fun g6 ag6 Cg6 => ?_)
  rw [← ag6.2.2.2.2 20 (by decide)]
  have hg6 := hk_ag.tr hg5 ag6 (by decide)
  refine hk_putF (ci := 2) (j := 12) (k := 20) (t := 26) (fs := [none, none, none, none, none, none, none, some (some 21), some (some 22), some (some 23), some (some 24), some (some 25), some none, some none, some none, some none, some none]) (fs' := [none, none, none, none, none, none, none, some (some 21), some (some 22), some (some 23), some (some 24), some (some 25), some (some 26), some none, some none, some none, some none]) Cg6 (RX3, TX3, 17) tyX3 (hk_at 27 [(0, 3), (20, 6)]) hin2 hin_X3 tyX3_ok nmX3 rfl (by decide) (fl_X3_48_w) rfl rfl (by decide +kernel) hk_ref_ii (by decide +kernel) (by decide) (by decide) (by decide +kernel) dX3_init_84 (fun D84 => ?_)
  refine hc_aload_n D84 dX3_init_87 rfl rfl ?_
  refine hc_iconst D84 dX3_init_88 (v := 4) rfl ?_
  refine hk_newa D84 (z := false) (atype := .int) 4 (hk_at 28 [(0, 3), (20, 6)]) (by rw [hg6.2.2.2.1]; exact hb0) rfl kw_ai (n0 := 27) (by decide +kernel) (hk_M1_z (by decide)) (by decide +kernel) (by decide +kernel) (by decide) (by decide) (by decide) ⟨Nat.le_of_ble_eq_true rfl, Nat.le_of_ble_eq_true rfl⟩ dX3_init_89 (fun g7 ag7 Cg7 => ?_)
  rw [← ag7.2.2.2.2 20 (by decide)]
  have hg7 := hk_ag.tr hg6 ag7 (by decide)
  refine hk_putF (ci := 2) (j := 13) (k := 20) (t := 27) (fs := [none, none, none, none, none, none, none, some (some 21), some (some 22), some (some 23), some (some 24), some (some 25), some (some 26), some none, some none, some none, some none]) (fs' := [none, none, none, none, none, none, none, some (some 21), some (some 22), some (some 23), some (some 24), some (some 25), some (some 26), some (some 27), some none, some none, some none]) Cg7 (RX3, TX3, 17) tyX3 (hk_at 28 [(0, 3), (20, 7)]) hin2 hin_X3 tyX3_ok nmX3 rfl (by decide) (fl_X3_51_w) rfl rfl (by decide +kernel) hk_ref_ii (by decide +kernel) (by decide) (by decide) (by decide +kernel) dX3_init_91 (fun D91 => ?_)
  refine hc_aload_n D91 dX3_init_94 rfl rfl ?_
  refine hc_iconst D91 dX3_init_95 (v := 4) rfl ?_
  refine hk_newa D91 (z := false) (atype := .int) 4 (hk_at 29 [(0, 3), (20, 7)]) (by rw [hg7.2.2.2.1]; exact hb0) rfl kw_ai (n0 := 28) (by decide +kernel) (hk_M1_z (by decide)) (by decide +kernel) (by decide +kernel) (by decide) (by decide) (by decide) ⟨Nat.le_of_ble_eq_true rfl, Nat.le_of_ble_eq_true rfl⟩ dX3_init_96 (fun g8 ag8 Cg8 => ?_)
  rw [← ag8.2.2.2.2 20 (by decide)]
  have hg8 := hk_ag.tr hg7 ag8 (by decide)
  refine hk_putF (ci := 2) (j := 14) (k := 20) (t := 28) (fs := [none, none, none, none, none, none, none, some (some 21), some (some 22), some (some 23), some (some 24), some (some 25), some (some 26), some (some 27), some none, some none, some none]) (fs' := [none, none, none, none, none, none, none, some (some 21), some (some 22), some (some 23), some (some 24), some (some 25), some (some 26), some (some 27), some (some 28), some none, some none]) Cg8 (RX3, TX3, 17) tyX3 (hk_at 29 [(0, 3), (20, 8)]) hin2 hin_X3 tyX3_ok nmX3 rfl (by decide) (fl_X3_54_w) rfl rfl (by decide +kernel) hk_ref_ii (by decide +kernel) (by decide) (by decide) (by decide +kernel) dX3_init_98 (fun D98 => ?_)
  refine hc_aload_n D98 dX3_init_101 rfl rfl ?_
  refine hc_iconst D98 dX3_init_102 (v := 4) rfl ?_
  refine hk_newa D98 (z := false) (atype := .int) 4 (hk_at 30 [(0, 3), (20, 8)]) (by rw [hg8.2.2.2.1]; exact hb0) rfl kw_ai (n0 := 29) (by decide +kernel) (hk_M1_z (by decide)) (by decide +kernel) (by decide +kernel) (by decide) (by decide) (by decide) ⟨Nat.le_of_ble_eq_true rfl, Nat.le_of_ble_eq_true rfl⟩ dX3_init_103 (fun g9 ag9 Cg9 => ?_)
  rw [← ag9.2.2.2.2 20 (by decide)]
  have hg9 := hk_ag.tr hg8 ag9 (by decide)
  refine hk_putF (ci := 2) (j := 15) (k := 20) (t := 29) (fs := [none, none, none, none, none, none, none, some (some 21), some (some 22), some (some 23), some (some 24), some (some 25), some (some 26), some (some 27), some (some 28), some none, some none]) (fs' := [none, none, none, none, none, none, none, some (some 21), some (some 22), some (some 23), some (some 24), some (some 25), some (some 26), some (some 27), some (some 28), some (some 29), some none]) Cg9 (RX3, TX3, 17) tyX3 (hk_at 30 [(0, 3), (20, 9)]) hin2 hin_X3 tyX3_ok nmX3 rfl (by decide) (fl_X3_57_w) rfl rfl (by decide +kernel) hk_ref_ii (by decide +kernel) (by decide) (by decide) (by decide +kernel) dX3_init_105 (fun D105 => ?_)
  refine hc_aload_n D105 dX3_init_108 rfl rfl ?_
  refine hc_sipush D105 dX3_init_109 (v := 1000) rfl ?_
  refine hk_newa D105 (z := false) (atype := .int) 1000 (hk_at 31 [(0, 3), (20, 9)]) (by rw [hg9.2.2.2.1]; exact hb0) rfl kw_ai (n0 := 30) (by decide +kernel) (hk_M1_z (by decide)) (by decide +kernel) (by decide +kernel) (by decide) (by decide) (by decide) ⟨Nat.le_of_ble_eq_true rfl, Nat.le_of_ble_eq_true rfl⟩ dX3_init_112 (fun g10 ag10 Cg10 => ?_)
  rw [← ag10.2.2.2.2 20 (by decide)]
  have hg10 := hk_ag.tr hg9 ag10 (by decide)
  refine hk_putF (ci := 2) (j := 16) (k := 20) (t := 30) (fs := [none, none, none, none, none, none, none, some (some 21), some (some 22), some (some 23), some (some 24), some (some 25), some (some 26), some (some 27), some (some 28), some (some 29), some none]) (fs' := [none, none, none, none, none, none, none, some (some 21), some (some 22), some (some 23), some (some 24), some (some 25), some (some 26), some (some 27), some (some 28), some (some 29), some (some 30)]) Cg10 (RX3, TX3, 17) tyX3 (hk_at 31 [(0, 3)]) hin2 hin_X3 tyX3_ok nmX3 rfl (by decide) (fl_X3_60_w) rfl rfl (by decide +kernel) hk_ref_ii (by decide +kernel) (by decide) (by decide) (by decide +kernel) dX3_init_114 (fun D114 => ?_)
  exact hk_vret D114 (by decide +kernel) rfl dX3_init_117 hg10

set_option maxRecDepth 100000 in
set_option maxHeartbeats 4000000 in
theorem k_X3_init_c {l : Launch} {G : hc_Geo} (hG : hc_okL G (hk_at 32 [(0, 4), (31, 0)])) : hk_M l G yX3_init cX3_init 1 2 10 1048 [.ref (hc_ad G 31)] (hk_at 32 [(0, 4), (31, 0)]) hk_M1 (hk_at 42 [(0, 4)]) hk_M1 := by
  refine hk_M.of hG (by decide) rfl [some (.ref (hc_ad G 31))] rfl (Nat.le_of_ble_eq_true rfl) ?_
  intro p e s m args below meth c hin2 C hb1
  have hb0 : G.2.2.2.2 ≤ s.heap.size := hb1 (by decide +kernel)
  have hag0 : hk_ag G G 32 := hk_ag.rf
  refine hc_aload_n C dX3_init_0 rfl rfl ?_
  refine hk_obj C kw_oj_X3 kw_oi kw_oc (by decide) (Nat.le_of_ble_eq_true rfl) dX3_init_1 ?_
  refine hc_aload_n C dX3_init_4 rfl rfl ?_
  refine hc_iconst C dX3_init_5 (v := 0) rfl ?_
  refine hc_putT C fl_X3_7 pl_2_0 (k := 31) (fs := [none, none, none, none, none, none, none, some none, some none, some none, some none, some none, some none, some none, some none, some none, some none]) rfl rfl (by decide +kernel) rfl dX3_init_6 ?_
  refine hc_mem (M2 := hk_M1) (hk_M1_p (by decide)) ?_
  refine hc_aload_n C dX3_init_9 rfl rfl ?_
  refine hc_iconst C dX3_init_10 (v := 0) rfl ?_
  refine hc_putI C fl_X3_13 pl_2_1 (k := 31) (fs := [none, none, none, none, none, none, none, some none, some none, some none, some none, some none, some none, some none, some none, some none, some none]) (by decide +kernel) rfl dX3_init_11 ?_
  refine hc_mem (M2 := hk_M1) (hk_M1_p (by decide)) ?_
  refine hc_aload_n C dX3_init_14 rfl rfl ?_
  refine hc_iconst C dX3_init_15 (v := 0) rfl ?_
  refine hc_putI C fl_X3_17 pl_2_2 (k := 31) (fs := [none, none, none, none, none, none, none, some none, some none, some none, some none, some none, some none, some none, some none, some none, some none]) (by decide +kernel) rfl dX3_init_16 ?_
  refine hc_mem (M2 := hk_M1) (hk_M1_p (by decide)) ?_
  refine hc_aload_n C dX3_init_19 rfl rfl ?_
  refine hc_iconst C dX3_init_20 (v := 0) rfl ?_
  refine hc_putI C fl_X3_20 pl_2_3 (k := 31) (fs := [none, none, none, none, none, none, none, some none, some none, some none, some none, some none, some none, some none, some none, some none, some none]) (by decide +kernel) rfl dX3_init_21 ?_
  refine hc_mem (M2 := hk_M1) (hk_M1_p (by decide)) ?_
  refine hc_aload_n C dX3_init_24 rfl rfl ?_
  refine hc_iconst C dX3_init_25 (v := 0) rfl ?_
  refine hc_putI C fl_X3_23 pl_2_4 (k := 31) (fs := [none, none, none, none, none, none, none, some none, some none, some none, some none, some none, some none, some none, some none, some none, some none]) (by decide +kernel) rfl dX3_init_26 ?_
  refine hc_mem (M2 := hk_M1) (hk_M1_p (by decide)) ?_
  refine hc_aload_n C dX3_init_29 rfl rfl ?_
  refine hc_iconst C dX3_init_30 (v := 0) rfl ?_
  refine hc_putI C fl_X3_26 pl_2_5 (k := 31) (fs := [none, none, none, none, none, none, none, some none, some none, some none, some none, some none, some none, some none, some none, some none, some none]) (by decide +kernel) rfl dX3_init_31 ?_
  refine hc_mem (M2 := hk_M1) (hk_M1_p (by decide)) ?_
  refine hc_aload_n C dX3_init_34 rfl rfl ?_
  refine hc_iconst C dX3_init_35 (v := 0) rfl ?_
  refine hc_putI C fl_X3_29 pl_2_6 (k := 31) (fs := [none, none, none, none, none, none, none, some none, some none, some none, some none, some none, some none, some none, some none, some none, some none]) (by decide +kernel) rfl dX3_init_36 ?_
  refine hc_mem (M2 := hk_M1) (hk_M1_p (by decide)) ?_
  refine hc_aload_n C dX3_init_39 rfl rfl ?_
  refine hc_bipush C dX3_init_40 (v := 6) rfl ?_
  refine hk_newa C (z := false) (atype := .int) 6 (hk_at 33 [(0, 4), (31, 0)]) (by rw [hag0.2.2.2.1]; exact hb0) rfl kw_ai (n0 := 32) (by decide +kernel) (hk_M1_z (by decide)) (by decide +kernel) (by decide +kernel) (by decide) (by decide) (by decide) ⟨Nat.le_of_ble_eq_true rfl, Nat.le_of_ble_eq_true rfl⟩ dX3_init_42 (fun g1 ag1 Cg1 => ?_)
  rw [← ag1.2.2.2.2 31 (by decide)]
  have hg1 := hk_ag.tr hag0 ag1 (by decide)
  refine hk_putF (ci := 2) (j := 7) (k := 31) (t := 32) (fs := [none, none, none, none, none, none, none, some none, some none, some none, some none, some none, some none, some none, some none, some none, some none]) (fs' := [none, none, none, none, none, none, none, some (some 32), some none, some none, some none, some none, some none, some none, some none, some none, some none]) Cg1 (RX3, TX3, 17) tyX3 (hk_at 33 [(0, 4), (31, 1)]) hin2 hin_X3 tyX3_ok nmX3 rfl (by decide) (fl_X3_32_w) rfl rfl (by decide +kernel) hk_ref_ii (by decide +kernel) (by decide) (by decide) (by decide +kernel) dX3_init_44 (fun D44 => ?_)
  refine hc_aload_n D44 dX3_init_47 rfl rfl ?_
  refine hc_bipush D44 dX3_init_48 (v := 6) rfl ?_
  refine hk_newa D44 (z := false) (atype := .int) 6 (hk_at 34 [(0, 4), (31, 1)]) (by rw [hg1.2.2.2.1]; exact hb0) rfl kw_ai (n0 := 33) (by decide +kernel) (hk_M1_z (by decide)) (by decide +kernel) (by decide +kernel) (by decide) (by decide) (by decide) ⟨Nat.le_of_ble_eq_true rfl, Nat.le_of_ble_eq_true rfl⟩ dX3_init_50 (fun g2 ag2 Cg2 => ?_)
  rw [← ag2.2.2.2.2 31 (by decide)]
  have hg2 := hk_ag.tr hg1 ag2 (by decide)
  refine hk_putF (ci := 2) (j := 8) (k := 31) (t := 33) (fs := [none, none, none, none, none, none, none, some (some 32), some none, some none, some none, some none, some none, some none, some none, some none, some none]) (fs' := [none, none, none, none, none, none, none, some (some 32), some (some 33), some none, some none, some none, some none, some none, some none, some none, some none]) Cg2 (RX3, TX3, 17) tyX3 (hk_at 34 [(0, 4), (31, 2)]) hin2 hin_X3 tyX3_ok nmX3 rfl (by decide) (fl_X3_36_w) rfl rfl (by decide +kernel) hk_ref_ii (by decide +kernel) (by decide) (by decide) (by decide +kernel) dX3_init_52 (fun D52 => ?_)
  refine hc_aload_n D52 dX3_init_55 rfl rfl ?_
  refine hc_bipush D52 dX3_init_56 (v := 6) rfl ?_
  refine hk_newa D52 (z := false) (atype := .int) 6 (hk_at 35 [(0, 4), (31, 2)]) (by rw [hg2.2.2.2.1]; exact hb0) rfl kw_ai (n0 := 34) (by decide +kernel) (hk_M1_z (by decide)) (by decide +kernel) (by decide +kernel) (by decide) (by decide) (by decide) ⟨Nat.le_of_ble_eq_true rfl, Nat.le_of_ble_eq_true rfl⟩ dX3_init_58 (fun g3 ag3 Cg3 => ?_)
  rw [← ag3.2.2.2.2 31 (by decide)]
  have hg3 := hk_ag.tr hg2 ag3 (by decide)
  refine hk_putF (ci := 2) (j := 9) (k := 31) (t := 34) (fs := [none, none, none, none, none, none, none, some (some 32), some (some 33), some none, some none, some none, some none, some none, some none, some none, some none]) (fs' := [none, none, none, none, none, none, none, some (some 32), some (some 33), some (some 34), some none, some none, some none, some none, some none, some none, some none]) Cg3 (RX3, TX3, 17) tyX3 (hk_at 35 [(0, 4), (31, 3)]) hin2 hin_X3 tyX3_ok nmX3 rfl (by decide) (fl_X3_39_w) rfl rfl (by decide +kernel) hk_ref_ii (by decide +kernel) (by decide) (by decide) (by decide +kernel) dX3_init_60 (fun D60 => ?_)
  refine hc_aload_n D60 dX3_init_63 rfl rfl ?_
  refine hc_bipush D60 dX3_init_64 (v := 6) rfl ?_
  refine hk_newa D60 (z := false) (atype := .int) 6 (hk_at 36 [(0, 4), (31, 3)]) (by rw [hg3.2.2.2.1]; exact hb0) rfl kw_ai (n0 := 35) (by decide +kernel) (hk_M1_z (by decide)) (by decide +kernel) (by decide +kernel) (by decide) (by decide) (by decide) ⟨Nat.le_of_ble_eq_true rfl, Nat.le_of_ble_eq_true rfl⟩ dX3_init_66 (fun g4 ag4 Cg4 => ?_)
  rw [← ag4.2.2.2.2 31 (by decide)]
  have hg4 := hk_ag.tr hg3 ag4 (by decide)
  refine hk_putF (ci := 2) (j := 10) (k := 31) (t := 35) (fs := [none, none, none, none, none, none, none, some (some 32), some (some 33), some (some 34), some none, some none, some none, some none, some none, some none, some none]) (fs' := [none, none, none, none, none, none, none, some (some 32), some (some 33), some (some 34), some (some 35), some none, some none, some none, some none, some none, some none]) Cg4 (RX3, TX3, 17) tyX3 (hk_at 36 [(0, 4), (31, 4)]) hin2 hin_X3 tyX3_ok nmX3 rfl (by decide) (fl_X3_42_w) rfl rfl (by decide +kernel) hk_ref_ii (by decide +kernel) (by decide) (by decide) (by decide +kernel) dX3_init_68 (fun D68 => ?_)
  refine hc_aload_n D68 dX3_init_71 rfl rfl ?_
  refine hc_bipush D68 dX3_init_72 (v := 6) rfl ?_
  refine hk_newa D68 (z := false) (atype := .int) 6 (hk_at 37 [(0, 4), (31, 4)]) (by rw [hg4.2.2.2.1]; exact hb0) rfl kw_ai (n0 := 36) (by decide +kernel) (hk_M1_z (by decide)) (by decide +kernel) (by decide +kernel) (by decide) (by decide) (by decide) ⟨Nat.le_of_ble_eq_true rfl, Nat.le_of_ble_eq_true rfl⟩ dX3_init_74 (fun g5 ag5 Cg5 => ?_)
  rw [← ag5.2.2.2.2 31 (by decide)]
  have hg5 := hk_ag.tr hg4 ag5 (by decide)
  refine hk_putF (ci := 2) (j := 11) (k := 31) (t := 36) (fs := [none, none, none, none, none, none, none, some (some 32), some (some 33), some (some 34), some (some 35), some none, some none, some none, some none, some none, some none]) (fs' := [none, none, none, none, none, none, none, some (some 32), some (some 33), some (some 34), some (some 35), some (some 36), some none, some none, some none, some none, some none]) Cg5 (RX3, TX3, 17) tyX3 (hk_at 37 [(0, 4), (31, 5)]) hin2 hin_X3 tyX3_ok nmX3 rfl (by decide) (fl_X3_45_w) rfl rfl (by decide +kernel) hk_ref_ii (by decide +kernel) (by decide) (by decide) (by decide +kernel) dX3_init_76 (fun D76 => ?_)
  refine hc_aload_n D76 dX3_init_79 rfl rfl ?_
  refine hc_bipush D76 dX3_init_80 (v := 6) rfl ?_
  refine hk_newa D76 (z := false) (atype := .int) 6 (hk_at 38 [(0, 4), (31, 5)]) (by rw [hg5.2.2.2.1]; exact hb0) rfl kw_ai (n0 := 37) (by decide +kernel) (hk_M1_z (by decide)) (by decide +kernel) (by decide +kernel) (by decide) (by decide) (by decide) ⟨Nat.le_of_ble_eq_true rfl, Nat.le_of_ble_eq_true rfl⟩ dX3_init_82 (fun g6 ag6 Cg6 => ?_)
  rw [← ag6.2.2.2.2 31 (by decide)]
  have hg6 := hk_ag.tr hg5 ag6 (by decide)
  refine hk_putF (ci := 2) (j := 12) (k := 31) (t := 37) (fs := [none, none, none, none, none, none, none, some (some 32), some (some 33), some (some 34), some (some 35), some (some 36), some none, some none, some none, some none, some none]) (fs' := [none, none, none, none, none, none, none, some (some 32), some (some 33), some (some 34), some (some 35), some (some 36), some (some 37), some none, some none, some none, some none]) Cg6 (RX3, TX3, 17) tyX3 (hk_at 38 [(0, 4), (31, 6)]) hin2 hin_X3 tyX3_ok nmX3 rfl (by decide) (fl_X3_48_w) rfl rfl (by decide +kernel) hk_ref_ii (by decide +kernel) (by decide) (by decide) (by decide +kernel) dX3_init_84 (fun D84 => ?_)
  refine hc_aload_n D84 dX3_init_87 rfl rfl ?_
  refine hc_iconst D84 dX3_init_88 (v := 4) rfl ?_
  refine hk_newa D84 (z := false) (atype := .int) 4 (hk_at 39 [(0, 4), (31, 6)]) (by rw [hg6.2.2.2.1]; exact hb0) rfl kw_ai (n0 := 38) (by decide +kernel) (hk_M1_z (by decide)) (by decide +kernel) (by decide +kernel) (by decide) (by decide) (by decide) ⟨Nat.le_of_ble_eq_true rfl, Nat.le_of_ble_eq_true rfl⟩ dX3_init_89 (fun g7 ag7 Cg7 => ?_)
  rw [← ag7.2.2.2.2 31 (by decide)]
  have hg7 := hk_ag.tr hg6 ag7 (by decide)
  refine hk_putF (ci := 2) (j := 13) (k := 31) (t := 38) (fs := [none, none, none, none, none, none, none, some (some 32), some (some 33), some (some 34), some (some 35), some (some 36), some (some 37), some none, some none, some none, some none]) (fs' := [none, none, none, none, none, none, none, some (some 32), some (some 33), some (some 34), some (some 35), some (some 36), some (some 37), some (some 38), some none, some none, some none]) Cg7 (RX3, TX3, 17) tyX3 (hk_at 39 [(0, 4), (31, 7)]) hin2 hin_X3 tyX3_ok nmX3 rfl (by decide) (fl_X3_51_w) rfl rfl (by decide +kernel) hk_ref_ii (by decide +kernel) (by decide) (by decide) (by decide +kernel) dX3_init_91 (fun D91 => ?_)
  refine hc_aload_n D91 dX3_init_94 rfl rfl ?_
  refine hc_iconst D91 dX3_init_95 (v := 4) rfl ?_
  refine hk_newa D91 (z := false) (atype := .int) 4 (hk_at 40 [(0, 4), (31, 7)]) (by rw [hg7.2.2.2.1]; exact hb0) rfl kw_ai (n0 := 39) (by decide +kernel) (hk_M1_z (by decide)) (by decide +kernel) (by decide +kernel) (by decide) (by decide) (by decide) ⟨Nat.le_of_ble_eq_true rfl, Nat.le_of_ble_eq_true rfl⟩ dX3_init_96 (fun g8 ag8 Cg8 => ?_)
  rw [← ag8.2.2.2.2 31 (by decide)]
  have hg8 := hk_ag.tr hg7 ag8 (by decide)
  refine hk_putF (ci := 2) (j := 14) (k := 31) (t := 39) (fs := [none, none, none, none, none, none, none, some (some 32), some (some 33), some (some 34), some (some 35), some (some 36), some (some 37), some (some 38), some none, some none, some none]) (fs' := [none, none, none, none, none, none, none, some (some 32), some (some 33), some (some 34), some (some 35), some (some 36), some (some 37), some (some 38), some (some 39), some none, some none]) Cg8 (RX3, TX3, 17) tyX3 (hk_at 40 [(0, 4), (31, 8)]) hin2 hin_X3 tyX3_ok nmX3 rfl (by decide) (fl_X3_54_w) rfl rfl (by decide +kernel) hk_ref_ii (by decide +kernel) (by decide) (by decide) (by decide +kernel) dX3_init_98 (fun D98 => ?_)
  refine hc_aload_n D98 dX3_init_101 rfl rfl ?_
  refine hc_iconst D98 dX3_init_102 (v := 4) rfl ?_
  refine hk_newa D98 (z := false) (atype := .int) 4 (hk_at 41 [(0, 4), (31, 8)]) (by rw [hg8.2.2.2.1]; exact hb0) rfl kw_ai (n0 := 40) (by decide +kernel) (hk_M1_z (by decide)) (by decide +kernel) (by decide +kernel) (by decide) (by decide) (by decide) ⟨Nat.le_of_ble_eq_true rfl, Nat.le_of_ble_eq_true rfl⟩ dX3_init_103 (fun g9 ag9 Cg9 => ?_)
  rw [← ag9.2.2.2.2 31 (by decide)]
  have hg9 := hk_ag.tr hg8 ag9 (by decide)
  refine hk_putF (ci := 2) (j := 15) (k := 31) (t := 40) (fs := [none, none, none, none, none, none, none, some (some 32), some (some 33), some (some 34), some (some 35), some (some 36), some (some 37), some (some 38), some (some 39), some none, some none]) (fs' := [none, none, none, none, none, none, none, some (some 32), some (some 33), some (some 34), some (some 35), some (some 36), some (some 37), some (some 38), some (some 39), some (some 40), some none]) Cg9 (RX3, TX3, 17) tyX3 (hk_at 41 [(0, 4), (31, 9)]) hin2 hin_X3 tyX3_ok nmX3 rfl (by decide) (fl_X3_57_w) rfl rfl (by decide +kernel) hk_ref_ii (by decide +kernel) (by decide) (by decide) (by decide +kernel) dX3_init_105 (fun D105 => ?_)
  refine hc_aload_n D105 dX3_init_108 rfl rfl ?_
  refine hc_sipush D105 dX3_init_109 (v := 1000) rfl ?_
  refine hk_newa D105 (z := false) (atype := .int) 1000 (hk_at 42 [(0, 4), (31, 9)]) (by rw [hg9.2.2.2.1]; exact hb0) rfl kw_ai (n0 := 41) (by decide +kernel) (hk_M1_z (by decide)) (by decide +kernel) (by decide +kernel) (by decide) (by decide) (by decide) ⟨Nat.le_of_ble_eq_true rfl, Nat.le_of_ble_eq_true rfl⟩ dX3_init_112 (fun g10 ag10 Cg10 => ?_)
  rw [← ag10.2.2.2.2 31 (by decide)]
  have hg10 := hk_ag.tr hg9 ag10 (by decide)
  refine hk_putF (ci := 2) (j := 16) (k := 31) (t := 41) (fs := [none, none, none, none, none, none, none, some (some 32), some (some 33), some (some 34), some (some 35), some (some 36), some (some 37), some (some 38), some (some 39), some (some 40), some none]) (fs' := [none, none, none, none, none, none, none, some (some 32), some (some 33), some (some 34), some (some 35), some (some 36), some (some 37), some (some 38), some (some 39), some (some 40), some (some 41)]) Cg10 (RX3, TX3, 17) tyX3 (hk_at 42 [(0, 4)]) hin2 hin_X3 tyX3_ok nmX3 rfl (by decide) (fl_X3_60_w) rfl rfl (by decide +kernel) hk_ref_ii (by decide +kernel) (by decide) (by decide) (by decide +kernel) dX3_init_114 (fun D114 => ?_)
  exact hk_vret D114 (by decide +kernel) rfl dX3_init_117 hg10

set_option maxRecDepth 100000 in
set_option maxHeartbeats 4000000 in
theorem k_X0_init {l : Launch} {G : hc_Geo} (hG : hc_okL G (hk_at 43 [(0, 5), (42, 0)])) : hk_M l G yX0_init cX0_init 1 2 3 72 [.ref (hc_ad G 42)] (hk_at 43 [(0, 5), (42, 0)]) hk_M1 (hk_at 46 [(0, 5)]) hk_M1 := by
  refine hk_M.of hG (by decide) rfl [some (.ref (hc_ad G 42))] rfl (Nat.le_of_ble_eq_true rfl) ?_
  intro p e s m args below meth c hin2 C hb1
  have hb0 : G.2.2.2.2 ≤ s.heap.size := hb1 (by decide +kernel)
  have hag0 : hk_ag G G 43 := hk_ag.rf
  refine hc_aload_n C dX0_init_0 rfl rfl ?_
  refine hk_obj C kw_oj_X0 kw_oi kw_oc (by decide) (Nat.le_of_ble_eq_true rfl) dX0_init_1 ?_
  refine hc_aload_n C dX0_init_4 rfl rfl ?_
  refine hc_bipush C dX0_init_5 (v := 24) rfl ?_
  refine hk_newa C (z := false) (atype := .int) 24 (hk_at 44 [(0, 5), (42, 0)]) (by rw [hag0.2.2.2.1]; exact hb0) rfl kw_ai (n0 := 43) (by decide +kernel) (hk_M1_z (by decide)) (by decide +kernel) (by decide +kernel) (by decide) (by decide) (by decide) ⟨Nat.le_of_ble_eq_true rfl, Nat.le_of_ble_eq_true rfl⟩ dX0_init_7 (fun g1 ag1 Cg1 => ?_)
  rw [← ag1.2.2.2.2 42 (by decide)]
  have hg1 := hk_ag.tr hag0 ag1 (by decide)
  refine hk_putF (ci := 0) (j := 0) (k := 42) (t := 43) (fs := [some none, some none, some none, none]) (fs' := [some (some 43), some none, some none, none]) Cg1 (RX0, TX0, 4) tyX0 (hk_at 44 [(0, 5), (42, 1)]) hin2 hin_X0 tyX0_ok nmX0 rfl (by decide) (fl_X0_9_w) rfl rfl (by decide +kernel) hk_ref_ii (by decide +kernel) (by decide) (by decide) (by decide +kernel) dX0_init_9 (fun D9 => ?_)
  refine hc_aload_n D9 dX0_init_12 rfl rfl ?_
  refine hc_bipush D9 dX0_init_13 (v := 24) rfl ?_
  refine hk_newa D9 (z := false) (atype := .int) 24 (hk_at 45 [(0, 5), (42, 1)]) (by rw [hg1.2.2.2.1]; exact hb0) rfl kw_ai (n0 := 44) (by decide +kernel) (hk_M1_z (by decide)) (by decide +kernel) (by decide +kernel) (by decide) (by decide) (by decide) ⟨Nat.le_of_ble_eq_true rfl, Nat.le_of_ble_eq_true rfl⟩ dX0_init_15 (fun g2 ag2 Cg2 => ?_)
  rw [← ag2.2.2.2.2 42 (by decide)]
  have hg2 := hk_ag.tr hg1 ag2 (by decide)
  refine hk_putF (ci := 0) (j := 1) (k := 42) (t := 44) (fs := [some (some 43), some none, some none, none]) (fs' := [some (some 43), some (some 44), some none, none]) Cg2 (RX0, TX0, 4) tyX0 (hk_at 45 [(0, 5), (42, 2)]) hin2 hin_X0 tyX0_ok nmX0 rfl (by decide) (fl_X0_13_w) rfl rfl (by decide +kernel) hk_ref_ii (by decide +kernel) (by decide) (by decide) (by decide +kernel) dX0_init_17 (fun D17 => ?_)
  refine hc_aload_n D17 dX0_init_20 rfl rfl ?_
  refine hc_bipush D17 dX0_init_21 (v := 24) rfl ?_
  refine hk_newa D17 (z := false) (atype := .int) 24 (hk_at 46 [(0, 5), (42, 2)]) (by rw [hg2.2.2.2.1]; exact hb0) rfl kw_ai (n0 := 45) (by decide +kernel) (hk_M1_z (by decide)) (by decide +kernel) (by decide +kernel) (by decide) (by decide) (by decide) ⟨Nat.le_of_ble_eq_true rfl, Nat.le_of_ble_eq_true rfl⟩ dX0_init_23 (fun g3 ag3 Cg3 => ?_)
  rw [← ag3.2.2.2.2 42 (by decide)]
  have hg3 := hk_ag.tr hg2 ag3 (by decide)
  refine hk_putF (ci := 0) (j := 2) (k := 42) (t := 45) (fs := [some (some 43), some (some 44), some none, none]) (fs' := [some (some 43), some (some 44), some (some 45), none]) Cg3 (RX0, TX0, 4) tyX0 (hk_at 46 [(0, 5)]) hin2 hin_X0 tyX0_ok nmX0 rfl (by decide) (fl_X0_16_w) rfl rfl (by decide +kernel) hk_ref_ii (by decide +kernel) (by decide) (by decide) (by decide +kernel) dX0_init_25 (fun D25 => ?_)
  refine hc_aload_n D25 dX0_init_28 rfl rfl ?_
  refine hc_iconst D25 dX0_init_29 (v := 0) rfl ?_
  refine hc_putI D25 fl_X0_19 pl_0_3 (k := 42) (fs := [some (some 43), some (some 44), some (some 45), none]) (by decide +kernel) rfl dX0_init_30 ?_
  refine hc_mem (M2 := hk_M1) (hk_M1_p (by decide)) ?_
  exact hk_vret D25 (by decide +kernel) rfl dX0_init_33 hg3

set_option maxRecDepth 100000 in
set_option maxHeartbeats 4000000 in
theorem k_X1_init {l : Launch} {G : hc_Geo} (hG : hc_okL G (hk_at 47 [(0, 6), (46, 0)])) : hk_M l G yX1_init cX1_init 1 2 1 16 [.ref (hc_ad G 46)] (hk_at 47 [(0, 6), (46, 0)]) hk_M1 (hk_at 48 [(0, 6)]) hk_M1 := by
  refine hk_M.of hG (by decide) rfl [some (.ref (hc_ad G 46))] rfl (Nat.le_of_ble_eq_true rfl) ?_
  intro p e s m args below meth c hin2 C hb1
  have hb0 : G.2.2.2.2 ≤ s.heap.size := hb1 (by decide +kernel)
  have hag0 : hk_ag G G 47 := hk_ag.rf
  refine hc_aload_n C dX1_init_0 rfl rfl ?_
  refine hk_obj C kw_oj_X1 kw_oi kw_oc (by decide) (Nat.le_of_ble_eq_true rfl) dX1_init_1 ?_
  refine hc_aload_n C dX1_init_4 rfl rfl ?_
  refine hc_bipush C dX1_init_5 (v := 16) rfl ?_
  refine hk_newa C (z := false) (atype := .int) 16 (hk_at 48 [(0, 6), (46, 0)]) (by rw [hag0.2.2.2.1]; exact hb0) rfl kw_ai (n0 := 47) (by decide +kernel) (hk_M1_z (by decide)) (by decide +kernel) (by decide +kernel) (by decide) (by decide) (by decide) ⟨Nat.le_of_ble_eq_true rfl, Nat.le_of_ble_eq_true rfl⟩ dX1_init_7 (fun g1 ag1 Cg1 => ?_)
  rw [← ag1.2.2.2.2 46 (by decide)]
  have hg1 := hk_ag.tr hag0 ag1 (by decide)
  refine hk_putF (ci := 1) (j := 0) (k := 46) (t := 47) (fs := [some none, none, none, none, none, none]) (fs' := [some (some 47), none, none, none, none, none]) Cg1 (RX1, TX1, 6) tyX1 (hk_at 48 [(0, 6)]) hin2 hin_X1 tyX1_ok nmX1 rfl (by decide) (fl_X1_9_w) rfl rfl (by decide +kernel) hk_ref_ii (by decide +kernel) (by decide) (by decide) (by decide +kernel) dX1_init_9 (fun D9 => ?_)
  refine hc_aload_n D9 dX1_init_12 rfl rfl ?_
  refine hc_iconst D9 dX1_init_13 (v := 0) rfl ?_
  refine hc_putI D9 fl_X1_13 pl_1_1 (k := 46) (fs := [some (some 47), none, none, none, none, none]) (by decide +kernel) rfl dX1_init_14 ?_
  refine hc_mem (M2 := hk_M1) (hk_M1_p (by decide)) ?_
  refine hc_aload_n D9 dX1_init_17 rfl rfl ?_
  refine hc_iconst D9 dX1_init_18 (v := 0) rfl ?_
  refine hc_putI D9 fl_X1_17 pl_1_2 (k := 46) (fs := [some (some 47), none, none, none, none, none]) (by decide +kernel) rfl dX1_init_19 ?_
  refine hc_mem (M2 := hk_M1) (hk_M1_p (by decide)) ?_
  refine hc_aload_n D9 dX1_init_22 rfl rfl ?_
  refine hc_iconst D9 dX1_init_23 (v := 0) rfl ?_
  refine hc_putI D9 fl_X1_20 pl_1_3 (k := 46) (fs := [some (some 47), none, none, none, none, none]) (by decide +kernel) rfl dX1_init_24 ?_
  refine hc_mem (M2 := hk_M1) (hk_M1_p (by decide)) ?_
  refine hc_aload_n D9 dX1_init_27 rfl rfl ?_
  refine hc_iconst D9 dX1_init_28 (v := 0) rfl ?_
  refine hc_putI D9 fl_X1_23 pl_1_4 (k := 46) (fs := [some (some 47), none, none, none, none, none]) (by decide +kernel) rfl dX1_init_29 ?_
  refine hc_mem (M2 := hk_M1) (hk_M1_p (by decide)) ?_
  refine hc_aload_n D9 dX1_init_32 rfl rfl ?_
  refine hc_iconst D9 dX1_init_33 (v := 0) rfl ?_
  refine hc_putI D9 fl_X1_26 pl_1_5 (k := 46) (fs := [some (some 47), none, none, none, none, none]) (by decide +kernel) rfl dX1_init_34 ?_
  refine hc_mem (M2 := hk_M1) (hk_M1_p (by decide)) ?_
  exact hk_vret D9 (by decide +kernel) rfl dX1_init_37 hg1

set_option maxRecDepth 100000 in
set_option maxHeartbeats 4000000 in
theorem k_X7_init {l : Launch} {G : hc_Geo} (hG : hc_okL G (hk_at 1 [(0, 0)])) : hk_MN l G yX7_init cX7_init 1 5 47 3804 [.ref (hc_ad G 0)] (hk_at 1 [(0, 0)]) hk_M0 (hk_at 48 []) hk_M1 := by
  refine hk_MN.of hG (by decide) rfl [some (.ref (hc_ad G 0))] rfl (Nat.le_of_ble_eq_true rfl) ?_
  intro p e s m args below meth c hin2 C hN hb1
  have hb0 : G.2.2.2.2 ≤ s.heap.size := hb1 (by decide +kernel)
  have hag0 : hk_ag G G 1 := hk_ag.rf
  refine hc_aload_n C dX7_init_0 rfl rfl ?_
  refine hk_obj C kw_oj_X7 kw_oi kw_oc (by decide) (Nat.le_of_ble_eq_true rfl) dX7_init_1 ?_
  refine hc_aload_n C dX7_init_4 rfl rfl ?_
  refine hk_new C (ci := 3) (RX5, TX5, 3) tyX5 (hk_at 2 [(0, 0), (1, 0)]) [some none, some none, some none] (by rw [hag0.2.2.2.1]; exact hb0) hin_X5 tyX5_ok kw_cl_X7_7 kw_in_X5 kw_it_X5 rfl (n0 := 1) (by decide +kernel) hk_M0_z (by decide +kernel) (by decide) rfl (by decide +kernel) (by decide +kernel) ⟨Nat.le_of_ble_eq_true rfl, Nat.le_of_ble_eq_true rfl⟩ dX7_init_5 (fun g1 ag1 Cg1 => ?_)
  rw [← ag1.2.2.2.2 0 (by decide)]
  have hg1 := hk_ag.tr hag0 ag1 (by decide)
  refine hc_dup Cg1 dX7_init_8 rfl ?_
  refine hk_callI Cg1 kw_mi_X7_9 kw_im_X5_init rfl (k_X5_init Cg1.ok) (Nat.le_of_ble_eq_true rfl) (hk_rr (by decide)) ⟨Nat.le_of_ble_eq_true rfl, Nat.le_of_ble_eq_true rfl⟩ dX7_init_9 (n0 := 2) (by decide +kernel) (fun g2 ag2 Cg2 => ?_)
  rw [← ag2.2.2.2.2 0 (by decide), ← ag2.2.2.2.2 1 (by decide)]
  have hg2 := hk_ag.tr hg1 ag2 (by decide)
  refine hk_putF (ci := 5) (j := 0) (k := 0) (t := 1) (fs := [some none, some none, some none, some none, some none, some none, some none, none, none]) (fs' := [some (some 1), some none, some none, some none, some none, some none, some none, none, none]) Cg2 (RX7, TX7, 9) tyX7 (hk_at 5 [(0, 1)]) hin2 hin_X7 tyX7_ok nmX7 rfl (by decide) (fl_X7_10_w) rfl rfl (by decide +kernel) (hk_ref_o "HeedClock$Rows") (by decide +kernel) (by decide) (by decide) (by decide +kernel) dX7_init_12 (fun D12 => ?_)
  refine hc_aload_n D12 dX7_init_15 rfl rfl ?_
  refine hk_new D12 (ci := 4) (RX6, TX6, 9) tyX6 (hk_at 6 [(0, 1), (5, 0)]) [some none, none, none, none, some none, none, none, some none, none] (by rw [hg2.2.2.2.1]; exact hb0) hin_X6 tyX6_ok kw_cl_X7_16 kw_in_X6 kw_it_X6 rfl (n0 := 5) (by decide +kernel) (hk_M1_z (by decide)) (by decide +kernel) (by decide) rfl (by decide +kernel) (by decide +kernel) ⟨Nat.le_of_ble_eq_true rfl, Nat.le_of_ble_eq_true rfl⟩ dX7_init_16 (fun g3 ag3 Cg3 => ?_)
  rw [← ag3.2.2.2.2 0 (by decide)]
  have hg3 := hk_ag.tr hg2 ag3 (by decide)
  refine hc_dup Cg3 dX7_init_19 rfl ?_
  refine hk_callN Cg3 kw_nc_X6_init kw_it_X6 hN.1 kw_ni_X6_init (by decide) kw_im_X6_init rfl (k_X6_init Cg3.ok) (Nat.le_of_ble_eq_true rfl) (hk_rr (by decide)) ⟨Nat.le_of_ble_eq_true rfl, Nat.le_of_ble_eq_true rfl⟩ dX7_init_20 (n0 := 6) (by decide +kernel) (fun g4 ag4 Cg4 => ?_)
  rw [← ag4.2.2.2.2 0 (by decide), ← ag4.2.2.2.2 5 (by decide)]
  have hg4 := hk_ag.tr hg3 ag4 (by decide)
  refine hk_putF (ci := 5) (j := 1) (k := 0) (t := 5) (fs := [some (some 1), some none, some none, some none, some none, some none, some none, none, none]) (fs' := [some (some 1), some (some 5), some none, some none, some none, some none, some none, none, none]) Cg4 (RX7, TX7, 9) tyX7 (hk_at 9 [(0, 2)]) hin2 hin_X7 tyX7_ok nmX7 rfl (by decide) (fl_X7_19_w) rfl rfl (by decide +kernel) (hk_ref_o "HeedClock$Tape") (by decide +kernel) (by decide) (by decide) (by decide +kernel) dX7_init_23 (fun D23 => ?_)
  refine hc_aload_n D23 dX7_init_26 rfl rfl ?_
  refine hk_new D23 (ci := 2) (RX3, TX3, 17) tyX3 (hk_at 10 [(0, 2), (9, 0)]) [none, none, none, none, none, none, none, some none, some none, some none, some none, some none, some none, some none, some none, some none, some none] (by rw [hg4.2.2.2.1]; exact hb0) hin_X3 tyX3_ok kw_cl_X7_23 kw_in_X3 kw_it_X3 rfl (n0 := 9) (by decide +kernel) (hk_M1_z (by decide)) (by decide +kernel) (by decide) rfl (by decide +kernel) (by decide +kernel) ⟨Nat.le_of_ble_eq_true rfl, Nat.le_of_ble_eq_true rfl⟩ dX7_init_27 (fun g5 ag5 Cg5 => ?_)
  rw [← ag5.2.2.2.2 0 (by decide)]
  have hg5 := hk_ag.tr hg4 ag5 (by decide)
  refine hc_dup Cg5 dX7_init_30 rfl ?_
  refine hk_callN Cg5 kw_nc_X3_init kw_it_X3 hN.2.1 kw_ni_X3_init (by decide) kw_im_X3_init rfl (k_X3_init_a Cg5.ok) (Nat.le_of_ble_eq_true rfl) (hk_rr (by decide)) ⟨Nat.le_of_ble_eq_true rfl, Nat.le_of_ble_eq_true rfl⟩ dX7_init_31 (n0 := 10) (by decide +kernel) (fun g6 ag6 Cg6 => ?_)
  rw [← ag6.2.2.2.2 0 (by decide), ← ag6.2.2.2.2 9 (by decide)]
  have hg6 := hk_ag.tr hg5 ag6 (by decide)
  refine hk_putF (ci := 5) (j := 2) (k := 0) (t := 9) (fs := [some (some 1), some (some 5), some none, some none, some none, some none, some none, none, none]) (fs' := [some (some 1), some (some 5), some (some 9), some none, some none, some none, some none, none, none]) Cg6 (RX7, TX7, 9) tyX7 (hk_at 20 [(0, 3)]) hin2 hin_X7 tyX7_ok nmX7 rfl (by decide) (fl_X7_26_w) rfl rfl (by decide +kernel) (hk_ref_o "HeedClock$House") (by decide +kernel) (by decide) (by decide) (by decide +kernel) dX7_init_34 (fun D34 => ?_)
  refine hc_aload_n D34 dX7_init_37 rfl rfl ?_
  refine hk_new D34 (ci := 2) (RX3, TX3, 17) tyX3 (hk_at 21 [(0, 3), (20, 0)]) [none, none, none, none, none, none, none, some none, some none, some none, some none, some none, some none, some none, some none, some none, some none] (by rw [hg6.2.2.2.1]; exact hb0) hin_X3 tyX3_ok kw_cl_X7_23 kw_in_X3 kw_it_X3 rfl (n0 := 20) (by decide +kernel) (hk_M1_z (by decide)) (by decide +kernel) (by decide) rfl (by decide +kernel) (by decide +kernel) ⟨Nat.le_of_ble_eq_true rfl, Nat.le_of_ble_eq_true rfl⟩ dX7_init_38 (fun g7 ag7 Cg7 => ?_)
  rw [← ag7.2.2.2.2 0 (by decide)]
  have hg7 := hk_ag.tr hg6 ag7 (by decide)
  refine hc_dup Cg7 dX7_init_41 rfl ?_
  refine hk_callN Cg7 kw_nc_X3_init kw_it_X3 hN.2.1 kw_ni_X3_init (by decide) kw_im_X3_init rfl (k_X3_init_b Cg7.ok) (Nat.le_of_ble_eq_true rfl) (hk_rr (by decide)) ⟨Nat.le_of_ble_eq_true rfl, Nat.le_of_ble_eq_true rfl⟩ dX7_init_42 (n0 := 21) (by decide +kernel) (fun g8 ag8 Cg8 => ?_)
  rw [← ag8.2.2.2.2 0 (by decide), ← ag8.2.2.2.2 20 (by decide)]
  have hg8 := hk_ag.tr hg7 ag8 (by decide)
  refine hk_putF (ci := 5) (j := 3) (k := 0) (t := 20) (fs := [some (some 1), some (some 5), some (some 9), some none, some none, some none, some none, none, none]) (fs' := [some (some 1), some (some 5), some (some 9), some (some 20), some none, some none, some none, none, none]) Cg8 (RX7, TX7, 9) tyX7 (hk_at 31 [(0, 4)]) hin2 hin_X7 tyX7_ok nmX7 rfl (by decide) (fl_X7_30_w) rfl rfl (by decide +kernel) (hk_ref_o "HeedClock$House") (by decide +kernel) (by decide) (by decide) (by decide +kernel) dX7_init_45 (fun D45 => ?_)
  refine hc_aload_n D45 dX7_init_48 rfl rfl ?_
  refine hk_new D45 (ci := 2) (RX3, TX3, 17) tyX3 (hk_at 32 [(0, 4), (31, 0)]) [none, none, none, none, none, none, none, some none, some none, some none, some none, some none, some none, some none, some none, some none, some none] (by rw [hg8.2.2.2.1]; exact hb0) hin_X3 tyX3_ok kw_cl_X7_23 kw_in_X3 kw_it_X3 rfl (n0 := 31) (by decide +kernel) (hk_M1_z (by decide)) (by decide +kernel) (by decide) rfl (by decide +kernel) (by decide +kernel) ⟨Nat.le_of_ble_eq_true rfl, Nat.le_of_ble_eq_true rfl⟩ dX7_init_49 (fun g9 ag9 Cg9 => ?_)
  rw [← ag9.2.2.2.2 0 (by decide)]
  have hg9 := hk_ag.tr hg8 ag9 (by decide)
  refine hc_dup Cg9 dX7_init_52 rfl ?_
  refine hk_callN Cg9 kw_nc_X3_init kw_it_X3 hN.2.1 kw_ni_X3_init (by decide) kw_im_X3_init rfl (k_X3_init_c Cg9.ok) (Nat.le_of_ble_eq_true rfl) (hk_rr (by decide)) ⟨Nat.le_of_ble_eq_true rfl, Nat.le_of_ble_eq_true rfl⟩ dX7_init_53 (n0 := 32) (by decide +kernel) (fun g10 ag10 Cg10 => ?_)
  rw [← ag10.2.2.2.2 0 (by decide), ← ag10.2.2.2.2 31 (by decide)]
  have hg10 := hk_ag.tr hg9 ag10 (by decide)
  refine hk_putF (ci := 5) (j := 4) (k := 0) (t := 31) (fs := [some (some 1), some (some 5), some (some 9), some (some 20), some none, some none, some none, none, none]) (fs' := [some (some 1), some (some 5), some (some 9), some (some 20), some (some 31), some none, some none, none, none]) Cg10 (RX7, TX7, 9) tyX7 (hk_at 42 [(0, 5)]) hin2 hin_X7 tyX7_ok nmX7 rfl (by decide) (fl_X7_33_w) rfl rfl (by decide +kernel) (hk_ref_o "HeedClock$House") (by decide +kernel) (by decide) (by decide) (by decide +kernel) dX7_init_56 (fun D56 => ?_)
  refine hc_aload_n D56 dX7_init_59 rfl rfl ?_
  refine hk_new D56 (ci := 0) (RX0, TX0, 4) tyX0 (hk_at 43 [(0, 5), (42, 0)]) [some none, some none, some none, none] (by rw [hg10.2.2.2.1]; exact hb0) hin_X0 tyX0_ok kw_cl_X7_36 kw_in_X0 kw_it_X0 rfl (n0 := 42) (by decide +kernel) (hk_M1_z (by decide)) (by decide +kernel) (by decide) rfl (by decide +kernel) (by decide +kernel) ⟨Nat.le_of_ble_eq_true rfl, Nat.le_of_ble_eq_true rfl⟩ dX7_init_60 (fun g11 ag11 Cg11 => ?_)
  rw [← ag11.2.2.2.2 0 (by decide)]
  have hg11 := hk_ag.tr hg10 ag11 (by decide)
  refine hc_dup Cg11 dX7_init_63 rfl ?_
  refine hk_callN Cg11 kw_nc_X0_init kw_it_X0 hN.2.2.1 kw_ni_X0_init (by decide) kw_im_X0_init rfl (k_X0_init Cg11.ok) (Nat.le_of_ble_eq_true rfl) (hk_rr (by decide)) ⟨Nat.le_of_ble_eq_true rfl, Nat.le_of_ble_eq_true rfl⟩ dX7_init_64 (n0 := 43) (by decide +kernel) (fun g12 ag12 Cg12 => ?_)
  rw [← ag12.2.2.2.2 0 (by decide), ← ag12.2.2.2.2 42 (by decide)]
  have hg12 := hk_ag.tr hg11 ag12 (by decide)
  refine hk_putF (ci := 5) (j := 5) (k := 0) (t := 42) (fs := [some (some 1), some (some 5), some (some 9), some (some 20), some (some 31), some none, some none, none, none]) (fs' := [some (some 1), some (some 5), some (some 9), some (some 20), some (some 31), some (some 42), some none, none, none]) Cg12 (RX7, TX7, 9) tyX7 (hk_at 46 [(0, 6)]) hin2 hin_X7 tyX7_ok nmX7 rfl (by decide) (fl_X7_39_w) rfl rfl (by decide +kernel) (hk_ref_o "HeedClock$Acts") (by decide +kernel) (by decide) (by decide) (by decide +kernel) dX7_init_67 (fun D67 => ?_)
  refine hc_aload_n D67 dX7_init_70 rfl rfl ?_
  refine hk_new D67 (ci := 1) (RX1, TX1, 6) tyX1 (hk_at 47 [(0, 6), (46, 0)]) [some none, none, none, none, none, none] (by rw [hg12.2.2.2.1]; exact hb0) hin_X1 tyX1_ok kw_cl_X7_43 kw_in_X1 kw_it_X1 rfl (n0 := 46) (by decide +kernel) (hk_M1_z (by decide)) (by decide +kernel) (by decide) rfl (by decide +kernel) (by decide +kernel) ⟨Nat.le_of_ble_eq_true rfl, Nat.le_of_ble_eq_true rfl⟩ dX7_init_71 (fun g13 ag13 Cg13 => ?_)
  rw [← ag13.2.2.2.2 0 (by decide)]
  have hg13 := hk_ag.tr hg12 ag13 (by decide)
  refine hc_dup Cg13 dX7_init_74 rfl ?_
  refine hk_callN Cg13 kw_nc_X1_init kw_it_X1 hN.2.2.2 kw_ni_X1_init (by decide) kw_im_X1_init rfl (k_X1_init Cg13.ok) (Nat.le_of_ble_eq_true rfl) (hk_rr (by decide)) ⟨Nat.le_of_ble_eq_true rfl, Nat.le_of_ble_eq_true rfl⟩ dX7_init_75 (n0 := 47) (by decide +kernel) (fun g14 ag14 Cg14 => ?_)
  rw [← ag14.2.2.2.2 0 (by decide), ← ag14.2.2.2.2 46 (by decide)]
  have hg14 := hk_ag.tr hg13 ag14 (by decide)
  refine hk_putF (ci := 5) (j := 6) (k := 0) (t := 46) (fs := [some (some 1), some (some 5), some (some 9), some (some 20), some (some 31), some (some 42), some none, none, none]) (fs' := [some (some 1), some (some 5), some (some 9), some (some 20), some (some 31), some (some 42), some (some 46), none, none]) Cg14 (RX7, TX7, 9) tyX7 (hk_at 48 []) hin2 hin_X7 tyX7_ok nmX7 rfl (by decide) (fl_X7_46_w) rfl rfl (by decide +kernel) (hk_ref_o "HeedClock$Asks") (by decide +kernel) (by decide) (by decide) (by decide +kernel) dX7_init_78 (fun D78 => ?_)
  refine hc_aload_n D78 dX7_init_81 rfl rfl ?_
  refine hc_iconst D78 dX7_init_82 (v := 0) rfl ?_
  refine hc_putI D78 fl_X7_50 pl_5_7 (k := 0) (fs := [some (some 1), some (some 5), some (some 9), some (some 20), some (some 31), some (some 42), some (some 46), none, none]) (by decide +kernel) rfl dX7_init_83 ?_
  refine hc_mem (M2 := hk_M1) (hk_M1_p (by decide)) ?_
  refine hc_aload_n D78 dX7_init_86 rfl rfl ?_
  refine hc_iconst D78 dX7_init_87 (v := 0) rfl ?_
  refine hc_putI D78 fl_X7_54 pl_5_8 (k := 0) (fs := [some (some 1), some (some 5), some (some 9), some (some 20), some (some 31), some (some 42), some (some 46), none, none]) (by decide +kernel) rfl dX7_init_88 ?_
  refine hc_mem (M2 := hk_M1) (hk_M1_p (by decide)) ?_
  exact hk_vret D78 (by decide +kernel) rfl dX7_init_91 hg14

set_option maxRecDepth 100000 in
set_option maxHeartbeats 4000000 in
theorem lp_X8_init {G : hc_Geo} {p : Program} {l : Launch} {e : Env} {R : Room} {s : State} {m : MethodId} {args : Array Value} {below : List Frame} {meth : Method} {c : Code} {cells slots : Nat} {Q : State → Prop} (C : hc_Cx G (hk_at 62 []) cX8_init 2 none yX8_init.cls p s m args meth c)
    (kk : hc_W G (hk_at 62 []) p l e R s m args below meth c 2 cells slots Q 132 [some (.ref (hc_ad G 48)), some (.int (nI 8))] [] (hc_mf hk_M1 49 (fun j => if j < 8 then -1000000 else 0))) : ∀ (t i : Nat), i + t = 8 → hc_W G (hk_at 62 []) p l e R s m args below meth c 2 cells slots Q 112 [some (.ref (hc_ad G 48)), some (.int (nI i))] [] (hc_mf hk_M1 49 (fun j => if j < i then -1000000 else 0)) := by
  intro t
  induction t with
  | zero =>
    intro i hi
    refine hc_iload_n C dX8_init_112 rfl rfl ?_
    refine hc_bipush C dX8_init_113 (v := 8) rfl ?_
    refine hc_icmp_ge C (tgt := 132) dX8_init_115 (by decide) (fun c_115 => ?_) (fun c_115 => ?_)
    rotate_left
    · exact absurd (show (8 : Int32) ≤ nI i from by rw [show i = 8 by omega]; decide) c_115
    rw [show i = 8 by omega]
    exact kk
  | succ t ih =>
    intro i hi
    refine hc_iload_n C dX8_init_112 rfl rfl ?_
    refine hc_bipush C dX8_init_113 (v := 8) rfl ?_
    refine hc_icmp_ge C (tgt := 132) dX8_init_115 (by decide) (fun c_115 => ?_) (fun c_115 => ?_)
    · exact absurd (show nI 8 ≤ nI i from c_115) (nI_ge (show i < 8 by omega) (by omega))
    refine hc_aload_n C dX8_init_118 rfl rfl ?_
    refine hc_getR C fl_X8_7 (fs := [some (some 49), some (some 50), some (some 51), some (some 52), none, some (some 53), none, none, none, none, none, none, none, some (some 54), some (some 55), some (some 56), none, some (some 57), some (some 58), some (some 59), some (some 60), some (some 61), none]) (by decide +kernel) rfl dX8_init_119 ?_
    refine hc_iload_n C dX8_init_122 rfl rfl ?_
    refine hc_ldc C kc_X8_50 dX8_init_123 ?_
    refine hc_iast C (n := 8) (by decide +kernel) (vp_in_nI (show i < 8 by omega) (by omega)) dX8_init_125 ?_
    refine hc_iinc1 C (v := nI (i + 1)) dX8_init_126 (by decide) rfl rfl (nI_1 i) ?_
    refine hc_goto C (tgt := 112) dX8_init_129 (by decide) ?_
    refine hc_mem ?_ (ih (i + 1) (by omega))
    funext q
    by_cases hq : q = 49
    · subst hq
      simp only [hc_ms_s, hc_mf_s, nI_clamp (show i < 2 ^ 31 by omega)]
      funext j
      by_cases hj : j = i
      · subst hj
        simp [upd]
      · have e : (j < i + 1) ↔ (j < i) := by omega
        simp only [upd, hj, if_false, e]
    · simp only [hc_ms_n hq, hc_mf_n hq]

set_option maxRecDepth 100000 in
set_option maxHeartbeats 4000000 in
theorem k_X8_init {l : Launch} {G : hc_Geo} (hG : hc_okL G (hk_at 49 [(48, 0)])) : hk_M l G yX8_init cX8_init 2 2 13 2586 [.ref (hc_ad G 48)] (hk_at 49 [(48, 0)]) hk_M1 (hk_at 62 []) hk_M2 := by
  refine hk_M.of hG (by decide) rfl [some (.ref (hc_ad G 48)), none] rfl (Nat.le_of_ble_eq_true rfl) ?_
  intro p e s m args below meth c hin2 C hb1
  have hb0 : G.2.2.2.2 ≤ s.heap.size := hb1 (by decide +kernel)
  have hag0 : hk_ag G G 49 := hk_ag.rf
  refine hc_aload_n C dX8_init_0 rfl rfl ?_
  refine hk_obj C kw_oj_X8 kw_oi kw_oc (by decide) (Nat.le_of_ble_eq_true rfl) dX8_init_1 ?_
  refine hc_aload_n C dX8_init_4 rfl rfl ?_
  refine hc_bipush C dX8_init_5 (v := 8) rfl ?_
  refine hk_newa C (z := false) (atype := .int) 8 (hk_at 50 [(48, 0)]) (by rw [hag0.2.2.2.1]; exact hb0) rfl kw_ai (n0 := 49) (by decide +kernel) (hk_M1_z (by decide)) (by decide +kernel) (by decide +kernel) (by decide) (by decide) (by decide) ⟨Nat.le_of_ble_eq_true rfl, Nat.le_of_ble_eq_true rfl⟩ dX8_init_7 (fun g1 ag1 Cg1 => ?_)
  rw [← ag1.2.2.2.2 48 (by decide)]
  have hg1 := hk_ag.tr hag0 ag1 (by decide)
  refine hk_putF (ci := 6) (j := 0) (k := 48) (t := 49) (fs := [some none, some none, some none, some none, none, some none, none, none, none, none, none, none, none, some none, some none, some none, none, some none, some none, some none, some none, some none, none]) (fs' := [some (some 49), some none, some none, some none, none, some none, none, none, none, none, none, none, none, some none, some none, some none, none, some none, some none, some none, some none, some none, none]) Cg1 (RX8, TX8, 23) tyX8 (hk_at 50 [(48, 1)]) hin2 hin_X8 tyX8_ok nmX8 rfl (by decide) (fl_X8_7_w) rfl rfl (by decide +kernel) hk_ref_ii (by decide +kernel) (by decide) (by decide) (by decide +kernel) dX8_init_9 (fun D9 => ?_)
  refine hc_aload_n D9 dX8_init_12 rfl rfl ?_
  refine hc_bipush D9 dX8_init_13 (v := 8) rfl ?_
  refine hk_newa D9 (z := false) (atype := .int) 8 (hk_at 51 [(48, 1)]) (by rw [hg1.2.2.2.1]; exact hb0) rfl kw_ai (n0 := 50) (by decide +kernel) (hk_M1_z (by decide)) (by decide +kernel) (by decide +kernel) (by decide) (by decide) (by decide) ⟨Nat.le_of_ble_eq_true rfl, Nat.le_of_ble_eq_true rfl⟩ dX8_init_15 (fun g2 ag2 Cg2 => ?_)
  rw [← ag2.2.2.2.2 48 (by decide)]
  have hg2 := hk_ag.tr hg1 ag2 (by decide)
  refine hk_putF (ci := 6) (j := 1) (k := 48) (t := 50) (fs := [some (some 49), some none, some none, some none, none, some none, none, none, none, none, none, none, none, some none, some none, some none, none, some none, some none, some none, some none, some none, none]) (fs' := [some (some 49), some (some 50), some none, some none, none, some none, none, none, none, none, none, none, none, some none, some none, some none, none, some none, some none, some none, some none, some none, none]) Cg2 (RX8, TX8, 23) tyX8 (hk_at 51 [(48, 2)]) hin2 hin_X8 tyX8_ok nmX8 rfl (by decide) (fl_X8_13_w) rfl rfl (by decide +kernel) hk_ref_ii (by decide +kernel) (by decide) (by decide) (by decide +kernel) dX8_init_17 (fun D17 => ?_)
  refine hc_aload_n D17 dX8_init_20 rfl rfl ?_
  refine hc_sipush D17 dX8_init_21 (v := 320) rfl ?_
  refine hk_newa D17 (z := false) (atype := .int) 320 (hk_at 52 [(48, 2)]) (by rw [hg2.2.2.2.1]; exact hb0) rfl kw_ai (n0 := 51) (by decide +kernel) (hk_M1_z (by decide)) (by decide +kernel) (by decide +kernel) (by decide) (by decide) (by decide) ⟨Nat.le_of_ble_eq_true rfl, Nat.le_of_ble_eq_true rfl⟩ dX8_init_24 (fun g3 ag3 Cg3 => ?_)
  rw [← ag3.2.2.2.2 48 (by decide)]
  have hg3 := hk_ag.tr hg2 ag3 (by decide)
  refine hk_putF (ci := 6) (j := 2) (k := 48) (t := 51) (fs := [some (some 49), some (some 50), some none, some none, none, some none, none, none, none, none, none, none, none, some none, some none, some none, none, some none, some none, some none, some none, some none, none]) (fs' := [some (some 49), some (some 50), some (some 51), some none, none, some none, none, none, none, none, none, none, none, some none, some none, some none, none, some none, some none, some none, some none, some none, none]) Cg3 (RX8, TX8, 23) tyX8 (hk_at 52 [(48, 3)]) hin2 hin_X8 tyX8_ok nmX8 rfl (by decide) (fl_X8_16_w) rfl rfl (by decide +kernel) hk_ref_ii (by decide +kernel) (by decide) (by decide) (by decide +kernel) dX8_init_26 (fun D26 => ?_)
  refine hc_aload_n D26 dX8_init_29 rfl rfl ?_
  refine hc_bipush D26 dX8_init_30 (v := 40) rfl ?_
  refine hk_newa D26 (z := false) (atype := .int) 40 (hk_at 53 [(48, 3)]) (by rw [hg3.2.2.2.1]; exact hb0) rfl kw_ai (n0 := 52) (by decide +kernel) (hk_M1_z (by decide)) (by decide +kernel) (by decide +kernel) (by decide) (by decide) (by decide) ⟨Nat.le_of_ble_eq_true rfl, Nat.le_of_ble_eq_true rfl⟩ dX8_init_32 (fun g4 ag4 Cg4 => ?_)
  rw [← ag4.2.2.2.2 48 (by decide)]
  have hg4 := hk_ag.tr hg3 ag4 (by decide)
  refine hk_putF (ci := 6) (j := 3) (k := 48) (t := 52) (fs := [some (some 49), some (some 50), some (some 51), some none, none, some none, none, none, none, none, none, none, none, some none, some none, some none, none, some none, some none, some none, some none, some none, none]) (fs' := [some (some 49), some (some 50), some (some 51), some (some 52), none, some none, none, none, none, none, none, none, none, some none, some none, some none, none, some none, some none, some none, some none, some none, none]) Cg4 (RX8, TX8, 23) tyX8 (hk_at 53 [(48, 4)]) hin2 hin_X8 tyX8_ok nmX8 rfl (by decide) (fl_X8_19_w) rfl rfl (by decide +kernel) hk_ref_ii (by decide +kernel) (by decide) (by decide) (by decide +kernel) dX8_init_34 (fun D34 => ?_)
  refine hc_aload_n D34 dX8_init_37 rfl rfl ?_
  refine hc_bipush D34 dX8_init_38 (v := 120) rfl ?_
  refine hk_newa D34 (z := false) (atype := .int) 120 (hk_at 54 [(48, 4)]) (by rw [hg4.2.2.2.1]; exact hb0) rfl kw_ai (n0 := 53) (by decide +kernel) (hk_M1_z (by decide)) (by decide +kernel) (by decide +kernel) (by decide) (by decide) (by decide) ⟨Nat.le_of_ble_eq_true rfl, Nat.le_of_ble_eq_true rfl⟩ dX8_init_40 (fun g5 ag5 Cg5 => ?_)
  rw [← ag5.2.2.2.2 48 (by decide)]
  have hg5 := hk_ag.tr hg4 ag5 (by decide)
  refine hk_putF (ci := 6) (j := 5) (k := 48) (t := 53) (fs := [some (some 49), some (some 50), some (some 51), some (some 52), none, some none, none, none, none, none, none, none, none, some none, some none, some none, none, some none, some none, some none, some none, some none, none]) (fs' := [some (some 49), some (some 50), some (some 51), some (some 52), none, some (some 53), none, none, none, none, none, none, none, some none, some none, some none, none, some none, some none, some none, some none, some none, none]) Cg5 (RX8, TX8, 23) tyX8 (hk_at 54 [(48, 5)]) hin2 hin_X8 tyX8_ok nmX8 rfl (by decide) (fl_X8_22_w) rfl rfl (by decide +kernel) hk_ref_ii (by decide +kernel) (by decide) (by decide) (by decide +kernel) dX8_init_42 (fun D42 => ?_)
  refine hc_aload_n D42 dX8_init_45 rfl rfl ?_
  refine hc_bipush D42 dX8_init_46 (v := 68) rfl ?_
  refine hk_newa D42 (z := false) (atype := .int) 68 (hk_at 55 [(48, 5)]) (by rw [hg5.2.2.2.1]; exact hb0) rfl kw_ai (n0 := 54) (by decide +kernel) (hk_M1_z (by decide)) (by decide +kernel) (by decide +kernel) (by decide) (by decide) (by decide) ⟨Nat.le_of_ble_eq_true rfl, Nat.le_of_ble_eq_true rfl⟩ dX8_init_48 (fun g6 ag6 Cg6 => ?_)
  rw [← ag6.2.2.2.2 48 (by decide)]
  have hg6 := hk_ag.tr hg5 ag6 (by decide)
  refine hk_putF (ci := 6) (j := 13) (k := 48) (t := 54) (fs := [some (some 49), some (some 50), some (some 51), some (some 52), none, some (some 53), none, none, none, none, none, none, none, some none, some none, some none, none, some none, some none, some none, some none, some none, none]) (fs' := [some (some 49), some (some 50), some (some 51), some (some 52), none, some (some 53), none, none, none, none, none, none, none, some (some 54), some none, some none, none, some none, some none, some none, some none, some none, none]) Cg6 (RX8, TX8, 23) tyX8 (hk_at 55 [(48, 6)]) hin2 hin_X8 tyX8_ok nmX8 rfl (by decide) (fl_X8_25_w) rfl rfl (by decide +kernel) hk_ref_ii (by decide +kernel) (by decide) (by decide) (by decide +kernel) dX8_init_50 (fun D50 => ?_)
  refine hc_aload_n D50 dX8_init_53 rfl rfl ?_
  refine hc_bipush D50 dX8_init_54 (v := 68) rfl ?_
  refine hk_newa D50 (z := false) (atype := .int) 68 (hk_at 56 [(48, 6)]) (by rw [hg6.2.2.2.1]; exact hb0) rfl kw_ai (n0 := 55) (by decide +kernel) (hk_M1_z (by decide)) (by decide +kernel) (by decide +kernel) (by decide) (by decide) (by decide) ⟨Nat.le_of_ble_eq_true rfl, Nat.le_of_ble_eq_true rfl⟩ dX8_init_56 (fun g7 ag7 Cg7 => ?_)
  rw [← ag7.2.2.2.2 48 (by decide)]
  have hg7 := hk_ag.tr hg6 ag7 (by decide)
  refine hk_putF (ci := 6) (j := 14) (k := 48) (t := 55) (fs := [some (some 49), some (some 50), some (some 51), some (some 52), none, some (some 53), none, none, none, none, none, none, none, some (some 54), some none, some none, none, some none, some none, some none, some none, some none, none]) (fs' := [some (some 49), some (some 50), some (some 51), some (some 52), none, some (some 53), none, none, none, none, none, none, none, some (some 54), some (some 55), some none, none, some none, some none, some none, some none, some none, none]) Cg7 (RX8, TX8, 23) tyX8 (hk_at 56 [(48, 7)]) hin2 hin_X8 tyX8_ok nmX8 rfl (by decide) (fl_X8_28_w) rfl rfl (by decide +kernel) hk_ref_ii (by decide +kernel) (by decide) (by decide) (by decide +kernel) dX8_init_58 (fun D58 => ?_)
  refine hc_aload_n D58 dX8_init_61 rfl rfl ?_
  refine hc_sipush D58 dX8_init_62 (v := 1632) rfl ?_
  refine hk_newa D58 (z := false) (atype := .int) 1632 (hk_at 57 [(48, 7)]) (by rw [hg7.2.2.2.1]; exact hb0) rfl kw_ai (n0 := 56) (by decide +kernel) (hk_M1_z (by decide)) (by decide +kernel) (by decide +kernel) (by decide) (by decide) (by decide) ⟨Nat.le_of_ble_eq_true rfl, Nat.le_of_ble_eq_true rfl⟩ dX8_init_65 (fun g8 ag8 Cg8 => ?_)
  rw [← ag8.2.2.2.2 48 (by decide)]
  have hg8 := hk_ag.tr hg7 ag8 (by decide)
  refine hk_putF (ci := 6) (j := 15) (k := 48) (t := 56) (fs := [some (some 49), some (some 50), some (some 51), some (some 52), none, some (some 53), none, none, none, none, none, none, none, some (some 54), some (some 55), some none, none, some none, some none, some none, some none, some none, none]) (fs' := [some (some 49), some (some 50), some (some 51), some (some 52), none, some (some 53), none, none, none, none, none, none, none, some (some 54), some (some 55), some (some 56), none, some none, some none, some none, some none, some none, none]) Cg8 (RX8, TX8, 23) tyX8 (hk_at 57 [(48, 8)]) hin2 hin_X8 tyX8_ok nmX8 rfl (by decide) (fl_X8_31_w) rfl rfl (by decide +kernel) hk_ref_ii (by decide +kernel) (by decide) (by decide) (by decide +kernel) dX8_init_67 (fun D67 => ?_)
  refine hc_aload_n D67 dX8_init_70 rfl rfl ?_
  refine hc_sipush D67 dX8_init_71 (v := 136) rfl ?_
  refine hk_newa D67 (z := false) (atype := .int) 136 (hk_at 58 [(48, 8)]) (by rw [hg8.2.2.2.1]; exact hb0) rfl kw_ai (n0 := 57) (by decide +kernel) (hk_M1_z (by decide)) (by decide +kernel) (by decide +kernel) (by decide) (by decide) (by decide) ⟨Nat.le_of_ble_eq_true rfl, Nat.le_of_ble_eq_true rfl⟩ dX8_init_74 (fun g9 ag9 Cg9 => ?_)
  rw [← ag9.2.2.2.2 48 (by decide)]
  have hg9 := hk_ag.tr hg8 ag9 (by decide)
  refine hk_putF (ci := 6) (j := 17) (k := 48) (t := 57) (fs := [some (some 49), some (some 50), some (some 51), some (some 52), none, some (some 53), none, none, none, none, none, none, none, some (some 54), some (some 55), some (some 56), none, some none, some none, some none, some none, some none, none]) (fs' := [some (some 49), some (some 50), some (some 51), some (some 52), none, some (some 53), none, none, none, none, none, none, none, some (some 54), some (some 55), some (some 56), none, some (some 57), some none, some none, some none, some none, none]) Cg9 (RX8, TX8, 23) tyX8 (hk_at 58 [(48, 9)]) hin2 hin_X8 tyX8_ok nmX8 rfl (by decide) (fl_X8_34_w) rfl rfl (by decide +kernel) hk_ref_ii (by decide +kernel) (by decide) (by decide) (by decide +kernel) dX8_init_76 (fun D76 => ?_)
  refine hc_aload_n D76 dX8_init_79 rfl rfl ?_
  refine hc_iconst D76 dX8_init_80 (v := 2) rfl ?_
  refine hk_newa D76 (z := true) (atype := .boolean) 2 (hk_at 59 [(48, 9)]) (by rw [hg9.2.2.2.1]; exact hb0) rfl kw_az (n0 := 58) (by decide +kernel) (hk_M1_z (by decide)) (by decide +kernel) (by decide +kernel) (by decide) (by decide) (by decide) ⟨Nat.le_of_ble_eq_true rfl, Nat.le_of_ble_eq_true rfl⟩ dX8_init_81 (fun g10 ag10 Cg10 => ?_)
  rw [← ag10.2.2.2.2 48 (by decide)]
  have hg10 := hk_ag.tr hg9 ag10 (by decide)
  refine hk_putF (ci := 6) (j := 18) (k := 48) (t := 58) (fs := [some (some 49), some (some 50), some (some 51), some (some 52), none, some (some 53), none, none, none, none, none, none, none, some (some 54), some (some 55), some (some 56), none, some (some 57), some none, some none, some none, some none, none]) (fs' := [some (some 49), some (some 50), some (some 51), some (some 52), none, some (some 53), none, none, none, none, none, none, none, some (some 54), some (some 55), some (some 56), none, some (some 57), some (some 58), some none, some none, some none, none]) Cg10 (RX8, TX8, 23) tyX8 (hk_at 59 [(48, 10)]) hin2 hin_X8 tyX8_ok nmX8 rfl (by decide) (fl_X8_37_w) rfl rfl (by decide +kernel) hk_ref_iz (by decide +kernel) (by decide) (by decide) (by decide +kernel) dX8_init_83 (fun D83 => ?_)
  refine hc_aload_n D83 dX8_init_86 rfl rfl ?_
  refine hc_bipush D83 dX8_init_87 (v := 68) rfl ?_
  refine hk_newa D83 (z := false) (atype := .int) 68 (hk_at 60 [(48, 10)]) (by rw [hg10.2.2.2.1]; exact hb0) rfl kw_ai (n0 := 59) (by decide +kernel) (hk_M1_z (by decide)) (by decide +kernel) (by decide +kernel) (by decide) (by decide) (by decide) ⟨Nat.le_of_ble_eq_true rfl, Nat.le_of_ble_eq_true rfl⟩ dX8_init_89 (fun g11 ag11 Cg11 => ?_)
  rw [← ag11.2.2.2.2 48 (by decide)]
  have hg11 := hk_ag.tr hg10 ag11 (by decide)
  refine hk_putF (ci := 6) (j := 19) (k := 48) (t := 59) (fs := [some (some 49), some (some 50), some (some 51), some (some 52), none, some (some 53), none, none, none, none, none, none, none, some (some 54), some (some 55), some (some 56), none, some (some 57), some (some 58), some none, some none, some none, none]) (fs' := [some (some 49), some (some 50), some (some 51), some (some 52), none, some (some 53), none, none, none, none, none, none, none, some (some 54), some (some 55), some (some 56), none, some (some 57), some (some 58), some (some 59), some none, some none, none]) Cg11 (RX8, TX8, 23) tyX8 (hk_at 60 [(48, 11)]) hin2 hin_X8 tyX8_ok nmX8 rfl (by decide) (fl_X8_41_w) rfl rfl (by decide +kernel) hk_ref_ii (by decide +kernel) (by decide) (by decide) (by decide +kernel) dX8_init_91 (fun D91 => ?_)
  refine hc_aload_n D91 dX8_init_94 rfl rfl ?_
  refine hc_bipush D91 dX8_init_95 (v := 100) rfl ?_
  refine hk_newa D91 (z := false) (atype := .int) 100 (hk_at 61 [(48, 11)]) (by rw [hg11.2.2.2.1]; exact hb0) rfl kw_ai (n0 := 60) (by decide +kernel) (hk_M1_z (by decide)) (by decide +kernel) (by decide +kernel) (by decide) (by decide) (by decide) ⟨Nat.le_of_ble_eq_true rfl, Nat.le_of_ble_eq_true rfl⟩ dX8_init_97 (fun g12 ag12 Cg12 => ?_)
  rw [← ag12.2.2.2.2 48 (by decide)]
  have hg12 := hk_ag.tr hg11 ag12 (by decide)
  refine hk_putF (ci := 6) (j := 20) (k := 48) (t := 60) (fs := [some (some 49), some (some 50), some (some 51), some (some 52), none, some (some 53), none, none, none, none, none, none, none, some (some 54), some (some 55), some (some 56), none, some (some 57), some (some 58), some (some 59), some none, some none, none]) (fs' := [some (some 49), some (some 50), some (some 51), some (some 52), none, some (some 53), none, none, none, none, none, none, none, some (some 54), some (some 55), some (some 56), none, some (some 57), some (some 58), some (some 59), some (some 60), some none, none]) Cg12 (RX8, TX8, 23) tyX8 (hk_at 61 [(48, 12)]) hin2 hin_X8 tyX8_ok nmX8 rfl (by decide) (fl_X8_44_w) rfl rfl (by decide +kernel) hk_ref_ii (by decide +kernel) (by decide) (by decide) (by decide +kernel) dX8_init_99 (fun D99 => ?_)
  refine hc_aload_n D99 dX8_init_102 rfl rfl ?_
  refine hc_bipush D99 dX8_init_103 (v := 16) rfl ?_
  refine hk_newa D99 (z := false) (atype := .int) 16 (hk_at 62 [(48, 12)]) (by rw [hg12.2.2.2.1]; exact hb0) rfl kw_ai (n0 := 61) (by decide +kernel) (hk_M1_z (by decide)) (by decide +kernel) (by decide +kernel) (by decide) (by decide) (by decide) ⟨Nat.le_of_ble_eq_true rfl, Nat.le_of_ble_eq_true rfl⟩ dX8_init_105 (fun g13 ag13 Cg13 => ?_)
  rw [← ag13.2.2.2.2 48 (by decide)]
  have hg13 := hk_ag.tr hg12 ag13 (by decide)
  refine hk_putF (ci := 6) (j := 21) (k := 48) (t := 61) (fs := [some (some 49), some (some 50), some (some 51), some (some 52), none, some (some 53), none, none, none, none, none, none, none, some (some 54), some (some 55), some (some 56), none, some (some 57), some (some 58), some (some 59), some (some 60), some none, none]) (fs' := [some (some 49), some (some 50), some (some 51), some (some 52), none, some (some 53), none, none, none, none, none, none, none, some (some 54), some (some 55), some (some 56), none, some (some 57), some (some 58), some (some 59), some (some 60), some (some 61), none]) Cg13 (RX8, TX8, 23) tyX8 (hk_at 62 []) hin2 hin_X8 tyX8_ok nmX8 rfl (by decide) (fl_X8_47_w) rfl rfl (by decide +kernel) hk_ref_ii (by decide +kernel) (by decide) (by decide) (by decide +kernel) dX8_init_107 (fun D107 => ?_)
  refine hc_iconst D107 dX8_init_110 (v := 0) rfl ?_
  refine hc_istore_n1 D107 dX8_init_111 rfl (by decide) rfl ?_
  refine hc_mem (M2 := hc_mf hk_M1 49 (fun j => if j < 0 then -1000000 else 0)) ?_ ?_
  · funext q
    by_cases hq : q = 49
    · subst hq; rfl
    · rw [hc_mf_n hq]
  refine lp_X8_init D107 ?_ 8 0 rfl
  exact hk_vret D107 (by decide +kernel) rfl dX8_init_132 hg13

