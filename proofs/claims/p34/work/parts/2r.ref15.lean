/-- the draft g beside the reader's state r -/
def mG (M : hc_Mem) (g : Nat → Int32) (r : rPs) : hc_Mem := mR (hc_mf M 55 g) r
theorem mG_55 {M : hc_Mem} {g : Nat → Int32} {r : rPs} {j : Nat} {v : Int32} : hc_ms (mG M g r) 55 j v = mG M (upd g j v) r := by
  funext q
  by_cases h5 : q = 55
  · subst h5
    rw [hc_ms_s]
    rfl
  · rw [hc_ms_n h5]
    by_cases h4 : q = 48
    · subst h4; rfl
    · unfold mG; rw [mR_n h4, mR_n h4, hc_mf_n h5, hc_mf_n h5]
def rKo (b : Int32) : Int32 := if b = 112 then 1 else if b = 119 then 2 else if b = 116 then 3 else if b = 107 then 4 else if b = 100 then 5 else 0
def rB7 (c : Nat) : Nat := 6 + 7 * (if c < 6 then c else 0)
theorem rB7_le (c : Nat) : rB7 c ≤ 41 := by unfold rB7; split <;> omega
def rE1 (T : Nat → Int32) (n c : Nat) (r : rPs) : rPs := (rTk T n (hb (¬ 6 ≤ nI c)) 3 r).2
def rE2 (T : Nat → Int32) (n c : Nat) (r : rPs) : Int32 × rPs := rFg T n 1 12 (rE1 T n c r)
def rE3 (T : Nat → Int32) (n c : Nat) (r : rPs) : Int32 × rPs := rNx T n 0 3 (rE2 T n c r).2
def rE4 (T : Nat → Int32) (n c : Nat) (r : rPs) : Int32 × rPs := rNx T n 0 7 (rE3 T n c r).2
def rE5 (T : Nat → Int32) (n c : Nat) (r : rPs) : Int32 × rPs := rNx T n 1 8 (rE4 T n c r).2
def rE6 (T : Nat → Int32) (n c : Nat) (r : rPs) : rPs := (rTk T n (hb ((rE5 T n c r).2.2.2.2.2.1 = 4)) 1 (rE5 T n c r).2).2
theorem rE1_ps {T : Nat → Int32} {n c : Nat} {r : rPs} (h : r.2.2.1 ≤ n) : (rE1 T n c r).2.2.1 ≤ n := by
  unfold rE1
  exact rTk_ps h
theorem rE2_ps {T : Nat → Int32} {n c : Nat} {r : rPs} (h : r.2.2.1 ≤ n) : (rE2 T n c r).2.2.2.1 ≤ n := by
  unfold rE2
  exact rFg_ps (rE1_ps h)
theorem rE3_ps {T : Nat → Int32} {n c : Nat} {r : rPs} (h : r.2.2.1 ≤ n) : (rE3 T n c r).2.2.2.1 ≤ n := by
  unfold rE3
  exact rNx_ps (rE2_ps h)
theorem rE4_ps {T : Nat → Int32} {n c : Nat} {r : rPs} (h : r.2.2.1 ≤ n) : (rE4 T n c r).2.2.2.1 ≤ n := by
  unfold rE4
  exact rNx_ps (rE3_ps h)
theorem rE5_ps {T : Nat → Int32} {n c : Nat} {r : rPs} (h : r.2.2.1 ≤ n) : (rE5 T n c r).2.2.2.1 ≤ n := by
  unfold rE5
  exact rNx_ps (rE4_ps h)
def rE7 (T : Nat → Int32) (n c : Nat) (r : rPs) (g : Nat → Int32) : Nat → Int32 := upd (upd (upd (upd (upd g (rB7 c) (rKo r.2.2.2.2.2)) (rB7 c + 1) (rE2 T n c r).1) (rB7 c + 2) (rE3 T n c r).1) (rB7 c + 3) (rE4 T n c r).1) (rB7 c + 4) (rE5 T n c r).1
def rE8 (T : Nat → Int32) (n c : Nat) (r : rPs) (g : Nat → Int32) : Nat → Int32 := if ¬ 0 ≤ (rE6 T n c r).2.1 then upd (rE7 T n c r g) 4 (rE7 T n c r g 4 + 1) else g

set_option maxRecDepth 100000 in
set_option maxHeartbeats 4000000 in
theorem c_X8_kindOf {l : Launch} {G : hc_Geo} (hG : hc_ok G) {M : hc_Mem} {b : Int32}  : hc_M l G yX8_kindOf cX8_kindOf 1 (some .int) 1 [.int b] M (hc_pi (fun z M' => rKo b = z ∧ M = M')) := by
  refine hc_M.of hG (by decide) [some (.int b)] rfl (Nat.le_of_ble_eq_true rfl) ?_
  intro p e s m args below meth c C
  refine hc_iload_n C dX8_kindOf_0 rfl rfl ?_
  refine hc_bipush C dX8_kindOf_1 (v := 112) rfl ?_
  refine hc_icmp_ne C (tgt := 10) dX8_kindOf_3 (by decide) (fun c_3 => ?_) (fun c_3 => ?_)
  · refine hc_iload_n C dX8_kindOf_10 rfl rfl ?_
    refine hc_bipush C dX8_kindOf_11 (v := 119) rfl ?_
    refine hc_icmp_ne C (tgt := 20) dX8_kindOf_13 (by decide) (fun c_13 => ?_) (fun c_13 => ?_)
    · refine hc_iload_n C dX8_kindOf_20 rfl rfl ?_
      refine hc_bipush C dX8_kindOf_21 (v := 116) rfl ?_
      refine hc_icmp_ne C (tgt := 30) dX8_kindOf_23 (by decide) (fun c_23 => ?_) (fun c_23 => ?_)
      · refine hc_iload_n C dX8_kindOf_30 rfl rfl ?_
        refine hc_bipush C dX8_kindOf_31 (v := 107) rfl ?_
        refine hc_icmp_ne C (tgt := 40) dX8_kindOf_33 (by decide) (fun c_33 => ?_) (fun c_33 => ?_)
        · refine hc_iload_n C dX8_kindOf_40 rfl rfl ?_
          refine hc_bipush C dX8_kindOf_41 (v := 100) rfl ?_
          refine hc_icmp_ne C (tgt := 50) dX8_kindOf_43 (by decide) (fun c_43 => ?_) (fun c_43 => ?_)
          · refine hc_iconst C dX8_kindOf_50 (v := 0) rfl ?_
            refine hc_iret C rfl dX8_kindOf_51 ?_
            refine ⟨?_, rfl⟩
            unfold rKo
            first
              | exact if_pos c_3
              | exact (if_neg c_3).trans (if_pos c_13)
              | exact (if_neg c_3).trans ((if_neg c_13).trans (if_pos c_23))
              | exact (if_neg c_3).trans ((if_neg c_13).trans ((if_neg c_23).trans (if_pos c_33)))
              | exact (if_neg c_3).trans ((if_neg c_13).trans ((if_neg c_23).trans ((if_neg c_33).trans (if_pos c_43))))
              | exact (if_neg c_3).trans ((if_neg c_13).trans ((if_neg c_23).trans ((if_neg c_33).trans (if_neg c_43))))
          · refine hc_iconst C dX8_kindOf_46 (v := 5) rfl ?_
            refine hc_goto C (tgt := 51) dX8_kindOf_47 (by decide) ?_
            refine hc_iret C rfl dX8_kindOf_51 ?_
            refine ⟨?_, rfl⟩
            unfold rKo
            first
              | exact if_pos c_3
              | exact (if_neg c_3).trans (if_pos c_13)
              | exact (if_neg c_3).trans ((if_neg c_13).trans (if_pos c_23))
              | exact (if_neg c_3).trans ((if_neg c_13).trans ((if_neg c_23).trans (if_pos c_33)))
              | exact (if_neg c_3).trans ((if_neg c_13).trans ((if_neg c_23).trans ((if_neg c_33).trans (if_pos c_43))))
              | exact (if_neg c_3).trans ((if_neg c_13).trans ((if_neg c_23).trans ((if_neg c_33).trans (if_neg c_43))))
        · refine hc_iconst C dX8_kindOf_36 (v := 4) rfl ?_
          refine hc_goto C (tgt := 51) dX8_kindOf_37 (by decide) ?_
          refine hc_iret C rfl dX8_kindOf_51 ?_
          refine ⟨?_, rfl⟩
          unfold rKo
          first
            | exact if_pos c_3
            | exact (if_neg c_3).trans (if_pos c_13)
            | exact (if_neg c_3).trans ((if_neg c_13).trans (if_pos c_23))
            | exact (if_neg c_3).trans ((if_neg c_13).trans ((if_neg c_23).trans (if_pos c_33)))
            | exact (if_neg c_3).trans ((if_neg c_13).trans ((if_neg c_23).trans ((if_neg c_33).trans (if_pos c_43))))
            | exact (if_neg c_3).trans ((if_neg c_13).trans ((if_neg c_23).trans ((if_neg c_33).trans (if_neg c_43))))
      · refine hc_iconst C dX8_kindOf_26 (v := 3) rfl ?_
        refine hc_goto C (tgt := 51) dX8_kindOf_27 (by decide) ?_
        refine hc_iret C rfl dX8_kindOf_51 ?_
        refine ⟨?_, rfl⟩
        unfold rKo
        first
          | exact if_pos c_3
          | exact (if_neg c_3).trans (if_pos c_13)
          | exact (if_neg c_3).trans ((if_neg c_13).trans (if_pos c_23))
          | exact (if_neg c_3).trans ((if_neg c_13).trans ((if_neg c_23).trans (if_pos c_33)))
          | exact (if_neg c_3).trans ((if_neg c_13).trans ((if_neg c_23).trans ((if_neg c_33).trans (if_pos c_43))))
          | exact (if_neg c_3).trans ((if_neg c_13).trans ((if_neg c_23).trans ((if_neg c_33).trans (if_neg c_43))))
    · refine hc_iconst C dX8_kindOf_16 (v := 2) rfl ?_
      refine hc_goto C (tgt := 51) dX8_kindOf_17 (by decide) ?_
      refine hc_iret C rfl dX8_kindOf_51 ?_
      refine ⟨?_, rfl⟩
      unfold rKo
      first
        | exact if_pos c_3
        | exact (if_neg c_3).trans (if_pos c_13)
        | exact (if_neg c_3).trans ((if_neg c_13).trans (if_pos c_23))
        | exact (if_neg c_3).trans ((if_neg c_13).trans ((if_neg c_23).trans (if_pos c_33)))
        | exact (if_neg c_3).trans ((if_neg c_13).trans ((if_neg c_23).trans ((if_neg c_33).trans (if_pos c_43))))
        | exact (if_neg c_3).trans ((if_neg c_13).trans ((if_neg c_23).trans ((if_neg c_33).trans (if_neg c_43))))
  · refine hc_iconst C dX8_kindOf_6 (v := 1) rfl ?_
    refine hc_goto C (tgt := 51) dX8_kindOf_7 (by decide) ?_
    refine hc_iret C rfl dX8_kindOf_51 ?_
    refine ⟨?_, rfl⟩
    unfold rKo
    first
      | exact if_pos c_3
      | exact (if_neg c_3).trans (if_pos c_13)
      | exact (if_neg c_3).trans ((if_neg c_13).trans (if_pos c_23))
      | exact (if_neg c_3).trans ((if_neg c_13).trans ((if_neg c_23).trans (if_pos c_33)))
      | exact (if_neg c_3).trans ((if_neg c_13).trans ((if_neg c_23).trans ((if_neg c_33).trans (if_pos c_43))))
      | exact (if_neg c_3).trans ((if_neg c_13).trans ((if_neg c_23).trans ((if_neg c_33).trans (if_neg c_43))))

set_option maxRecDepth 100000 in
set_option maxHeartbeats 4000000 in
theorem c_X8_readsEar {l : Launch} {G : hc_Geo} (hG : hc_ok G) {M : hc_Mem} {n c0 : Nat} {r : rPs} {g : Nat → Int32}  (hn : M 48 6 = nI n) (hn1 : n ≤ 120) (hps : r.2.2.1 ≤ n) (hg : g 4 = nI c0) (hc6 : c0 ≤ 6) : hc_M l G yX8_readsEar cX8_readsEar 7 none 6 [.ref (hc_ad G 48)] (mG M g r) (hc_pv (fun M' => mG M (rE8 (M 53) n c0 r g) (rE6 (M 53) n c0 r) = M')) := by
  refine hc_M.of hG (by decide) [some (.ref (hc_ad G 48)), none, none, none, none, none, none] rfl (Nat.le_of_ble_eq_true rfl) ?_
  intro p e s m args below meth c C
  refine hc_aload_n C dX8_readsEar_0 rfl rfl ?_
  refine hc_getI C fl_X8_95 rfl rfl dX8_readsEar_1 ?_
  refine hc_top (v := r.2.2.2.2.2) rfl ?_
  refine hc_cS1i C ms_X8_121 (c_X8_kindOf C.ok) (Nat.le_of_ble_eq_true rfl) (hc_rr_rm (by decide)) ⟨Nat.zero_le _, Nat.zero_le _⟩ dX8_readsEar_4 (fun r_4 M_4 h_4 => ?_)
  obtain ⟨rfl, rfl⟩ := h_4
  refine hc_istore_n1 C dX8_readsEar_7 rfl (by decide) rfl ?_
  refine hc_aload_n C dX8_readsEar_8 rfl rfl ?_
  refine hc_aload_n C dX8_readsEar_9 rfl rfl ?_
  refine hc_getR C fl_X8_28 rfl rfl dX8_readsEar_10 ?_
  refine hc_iconst C dX8_readsEar_13 (v := 4) rfl ?_
  refine hc_ialdN C (j := 4) rfl rfl (by decide) dX8_readsEar_14 ?_
  refine hc_top (v := nI c0) hg ?_
  refine hc_bipush C dX8_readsEar_15 (v := 6) rfl ?_
  refine hc_icmp_ge C (tgt := 24) dX8_readsEar_17 (by decide) (fun c_17 => ?_) (fun c_17 => ?_)
  · refine hc_iconst C dX8_readsEar_24 (v := 0) rfl ?_
    refine hc_top (v := hb (¬ 6 ≤ nI c0)) ?_ ?_
    · symm
      first
        | (refine hb_f (fun w => absurd ?_ w); exact c_17)
        | exact hb_t c_17
    refine hc_iconst C dX8_readsEar_25 (v := 3) rfl ?_
    refine hc_cV2i C mv_X8_114 (c_X8_takes (M := hc_mf M 55 g) (n := n) (r := r) C.ok hn hn1 hps) rfl rfl rfl (Nat.le_of_ble_eq_true rfl) (hc_rr_rm (by decide)) ⟨Nat.zero_le _, Nat.zero_le _⟩ dX8_readsEar_26 (fun r_26 M_26 h_26 => ?_)
    obtain ⟨rfl, rfl⟩ := h_26
    obtain ⟨q1, hq1⟩ : ∃ q, q = rE1 (M 53) n c0 r := ⟨_, rfl⟩
    have e1 : (rTk (M 53) n (hb (¬ 6 ≤ nI c0)) 3 r).2 = q1 := by
      rw [hq1]
      unfold rE1
      rfl
    have hp1 : q1.2.2.1 ≤ n := by
      rw [hq1]
      exact rE1_ps hps
    refine hc_mem (M2 := mG M g q1) (by rw [← e1]; rfl) ?_
    refine hc_pop C dX8_readsEar_29 rfl ?_
    refine hc_bipush C dX8_readsEar_30 (v := 6) rfl ?_
    refine hc_bipush C dX8_readsEar_32 (v := 7) rfl ?_
    refine hc_aload_n C dX8_readsEar_34 rfl rfl ?_
    refine hc_getR C fl_X8_28 rfl rfl dX8_readsEar_35 ?_
    refine hc_iconst C dX8_readsEar_38 (v := 4) rfl ?_
    refine hc_ialdN C (j := 4) rfl rfl (by decide) dX8_readsEar_39 ?_
    refine hc_top (v := nI c0) hg ?_
    refine hc_bipush C dX8_readsEar_40 (v := 6) rfl ?_
    refine hc_icmp_ge C (tgt := 54) dX8_readsEar_42 (by decide) (fun c_42 => ?_) (fun c_42 => ?_)
    · refine hc_iconst C dX8_readsEar_54 (v := 0) rfl ?_
      refine hc_imul C dX8_readsEar_55 ?_
      refine hc_iadd C dX8_readsEar_56 ?_
      refine hc_top (v := nI (rB7 c0)) ?_ ?_
      · unfold rB7
        rcases Nat.lt_or_ge c0 6 with q | q
        · rw [if_pos q]
          first
            | exact absurd (show nI 6 ≤ nI c0 from c_42) (nI_ge q (by decide))
            | exact hx_670 c0
        · rw [if_neg (by omega)]
          first
            | exact absurd (show nI 6 ≤ nI c0 from nI_le q (by omega)) c_42
            | rfl
      refine hc_istore_n2 C dX8_readsEar_57 rfl (by decide) rfl ?_
      refine hc_aload_n C dX8_readsEar_58 rfl rfl ?_
      refine hc_iconst C dX8_readsEar_59 (v := 1) rfl ?_
      refine hc_bipush C dX8_readsEar_60 (v := 12) rfl ?_
      refine hc_cV2i C mv_X8_118 (c_X8_figure (M := hc_mf M 55 g) (n := n) (r := q1) C.ok hn hn1 hp1) rfl rfl rfl (Nat.le_of_ble_eq_true rfl) (hc_rr_rm (by decide)) ⟨Nat.zero_le _, Nat.zero_le _⟩ dX8_readsEar_62 (fun r_62 M_62 h_62 => ?_)
      obtain ⟨rfl, rfl⟩ := h_62
      obtain ⟨q2, hq2⟩ : ∃ q, q = rE2 (M 53) n c0 r := ⟨_, rfl⟩
      have e2 : rFg (M 53) n 1 12 q1 = q2 := by
        rw [hq2]
        unfold rE2
        rw [← hq1]
      have hp2 : q2.2.2.2.1 ≤ n := by
        rw [hq2]
        exact rE2_ps hps
      refine hc_mem (M2 := mG M g q2.2) (by rw [← e2]; rfl) ?_
      refine hc_top (v := q2.1) (by rw [← e2]; rfl) ?_
      refine hc_istore_n3 C dX8_readsEar_65 rfl (by decide) rfl ?_
      refine hc_aload_n C dX8_readsEar_66 rfl rfl ?_
      refine hc_iconst C dX8_readsEar_67 (v := 0) rfl ?_
      refine hc_iconst C dX8_readsEar_68 (v := 3) rfl ?_
      refine hc_cV2i C mv_X8_124 (c_X8_next (M := hc_mf M 55 g) (n := n) (r := q2.2) C.ok hn hn1 hp2) rfl rfl rfl (Nat.le_of_ble_eq_true rfl) (hc_rr_rm (by decide)) ⟨Nat.zero_le _, Nat.zero_le _⟩ dX8_readsEar_69 (fun r_69 M_69 h_69 => ?_)
      obtain ⟨rfl, rfl⟩ := h_69
      obtain ⟨q3, hq3⟩ : ∃ q, q = rE3 (M 53) n c0 r := ⟨_, rfl⟩
      have e3 : rNx (M 53) n 0 3 q2.2 = q3 := by
        rw [hq3]
        unfold rE3
        rw [← hq2]
      have hp3 : q3.2.2.2.1 ≤ n := by
        rw [hq3]
        exact rE3_ps hps
      refine hc_mem (M2 := mG M g q3.2) (by rw [← e3]; rfl) ?_
      refine hc_top (v := q3.1) (by rw [← e3]; rfl) ?_
      refine hc_istore4 C dX8_readsEar_72 (by decide) rfl ?_
      refine hc_aload_n C dX8_readsEar_74 rfl rfl ?_
      refine hc_iconst C dX8_readsEar_75 (v := 0) rfl ?_
      refine hc_bipush C dX8_readsEar_76 (v := 7) rfl ?_
      refine hc_cV2i C mv_X8_124 (c_X8_next (M := hc_mf M 55 g) (n := n) (r := q3.2) C.ok hn hn1 hp3) rfl rfl rfl (Nat.le_of_ble_eq_true rfl) (hc_rr_rm (by decide)) ⟨Nat.zero_le _, Nat.zero_le _⟩ dX8_readsEar_78 (fun r_78 M_78 h_78 => ?_)
      obtain ⟨rfl, rfl⟩ := h_78
      obtain ⟨q4, hq4⟩ : ∃ q, q = rE4 (M 53) n c0 r := ⟨_, rfl⟩
      have e4 : rNx (M 53) n 0 7 q3.2 = q4 := by
        rw [hq4]
        unfold rE4
        rw [← hq3]
      have hp4 : q4.2.2.2.1 ≤ n := by
        rw [hq4]
        exact rE4_ps hps
      refine hc_mem (M2 := mG M g q4.2) (by rw [← e4]; rfl) ?_
      refine hc_top (v := q4.1) (by rw [← e4]; rfl) ?_
      refine hc_istore5 C dX8_readsEar_81 (by decide) rfl ?_
      refine hc_aload_n C dX8_readsEar_83 rfl rfl ?_
      refine hc_iconst C dX8_readsEar_84 (v := 1) rfl ?_
      refine hc_bipush C dX8_readsEar_85 (v := 8) rfl ?_
      refine hc_cV2i C mv_X8_124 (c_X8_next (M := hc_mf M 55 g) (n := n) (r := q4.2) C.ok hn hn1 hp4) rfl rfl rfl (Nat.le_of_ble_eq_true rfl) (hc_rr_rm (by decide)) ⟨Nat.zero_le _, Nat.zero_le _⟩ dX8_readsEar_87 (fun r_87 M_87 h_87 => ?_)
      obtain ⟨rfl, rfl⟩ := h_87
      obtain ⟨q5, hq5⟩ : ∃ q, q = rE5 (M 53) n c0 r := ⟨_, rfl⟩
      have e5 : rNx (M 53) n 1 8 q4.2 = q5 := by
        rw [hq5]
        unfold rE5
        rw [← hq4]
      have hp5 : q5.2.2.2.1 ≤ n := by
        rw [hq5]
        exact rE5_ps hps
      refine hc_mem (M2 := mG M g q5.2) (by rw [← e5]; rfl) ?_
      refine hc_top (v := q5.1) (by rw [← e5]; rfl) ?_
      refine hc_istore6 C dX8_readsEar_90 (by decide) rfl ?_
      refine hc_aload_n C dX8_readsEar_92 rfl rfl ?_
      refine hc_aload_n C dX8_readsEar_93 rfl rfl ?_
      refine hc_getI C fl_X8_98 rfl rfl dX8_readsEar_94 ?_
      refine hc_top (v := q5.2.2.2.2.2.1) rfl ?_
      refine hc_iconst C dX8_readsEar_97 (v := 4) rfl ?_
      refine hc_icmp_ne C (tgt := 105) dX8_readsEar_98 (by decide) (fun c_98 => ?_) (fun c_98 => ?_)
      · refine hc_iconst C dX8_readsEar_105 (v := 0) rfl ?_
        refine hc_top (v := hb (q5.2.2.2.2.2.1 = 4)) ?_ ?_
        · symm
          first | exact hb_t c_98 | exact hb_f c_98
        refine hc_iconst C dX8_readsEar_106 (v := 1) rfl ?_
        refine hc_cV2i C mv_X8_114 (c_X8_takes (M := hc_mf M 55 g) (n := n) (r := q5.2) C.ok hn hn1 hp5) rfl rfl rfl (Nat.le_of_ble_eq_true rfl) (hc_rr_rm (by decide)) ⟨Nat.zero_le _, Nat.zero_le _⟩ dX8_readsEar_107 (fun r_107 M_107 h_107 => ?_)
        obtain ⟨rfl, rfl⟩ := h_107
        obtain ⟨q6, hq6⟩ : ∃ q, q = rE6 (M 53) n c0 r := ⟨_, rfl⟩
        have e6 : (rTk (M 53) n (hb (q5.2.2.2.2.2.1 = 4)) 1 q5.2).2 = q6 := by
          rw [hq6]
          unfold rE6
          rw [← hq5]
        refine hc_mem (M2 := mG M g q6) (by rw [← e6]; rfl) ?_
        refine hc_pop C dX8_readsEar_110 rfl ?_
        refine hc_aload_n C dX8_readsEar_111 rfl rfl ?_
        refine hc_cV0i C mv_X8_104 (c_X8_isWell C.ok) rfl rfl rfl (Nat.le_of_ble_eq_true rfl) (hc_rr_rm (by decide)) ⟨Nat.zero_le _, Nat.zero_le _⟩ dX8_readsEar_112 (fun r_112 M_112 h_112 => ?_)
        obtain ⟨rfl, rfl⟩ := h_112
        refine hc_if_eq C (tgt := 174) dX8_readsEar_115 (by decide) (fun c_115 => ?_) (fun c_115 => ?_)
        · refine hc_vret C rfl dX8_readsEar_174 ?_
          show mG M (rE8 (M 53) n c0 r g) (rE6 (M 53) n c0 r) = _
          unfold rE8 rE7
          rw [← hq6, ← hq5, ← hq4, ← hq3, ← hq2]
          first
            | rw [if_neg (show ¬ ¬ 0 ≤ q6.2.1 from hb_z.mp c_115)]
            | (rw [if_pos (show ¬ 0 ≤ q6.2.1 from hb_nz.mp c_115)]; rfl)
        · refine hc_aload_n C dX8_readsEar_118 rfl rfl ?_
          refine hc_getR C fl_X8_28 rfl rfl dX8_readsEar_119 ?_
          refine hc_iload_n C dX8_readsEar_122 rfl rfl ?_
          refine hc_iload_n C dX8_readsEar_123 rfl rfl ?_
          refine hc_iastN C (j := (rB7 c0)) rfl rfl (by have := rB7_le c0; omega) dX8_readsEar_124 ?_
          refine hc_mem mG_55 ?_
          refine hc_aload_n C dX8_readsEar_125 rfl rfl ?_
          refine hc_getR C fl_X8_28 rfl rfl dX8_readsEar_126 ?_
          refine hc_iload_n C dX8_readsEar_129 rfl rfl ?_
          refine hc_iconst C dX8_readsEar_130 (v := 1) rfl ?_
          refine hc_iadd C dX8_readsEar_131 ?_
          refine hc_iload_n C dX8_readsEar_132 rfl rfl ?_
          refine hc_iastN C (j := (rB7 c0 + 1)) rfl (show nI (rB7 c0) + nI 1 = nI (rB7 c0 + 1) from nI_add _ _) (by have := rB7_le c0; omega) dX8_readsEar_133 ?_
          refine hc_mem mG_55 ?_
          refine hc_aload_n C dX8_readsEar_134 rfl rfl ?_
          refine hc_getR C fl_X8_28 rfl rfl dX8_readsEar_135 ?_
          refine hc_iload_n C dX8_readsEar_138 rfl rfl ?_
          refine hc_iconst C dX8_readsEar_139 (v := 2) rfl ?_
          refine hc_iadd C dX8_readsEar_140 ?_
          refine hc_iload C dX8_readsEar_141 rfl ?_
          refine hc_iastN C (j := (rB7 c0 + 2)) rfl (show nI (rB7 c0) + nI 2 = nI (rB7 c0 + 2) from nI_add _ _) (by have := rB7_le c0; omega) dX8_readsEar_143 ?_
          refine hc_mem mG_55 ?_
          refine hc_aload_n C dX8_readsEar_144 rfl rfl ?_
          refine hc_getR C fl_X8_28 rfl rfl dX8_readsEar_145 ?_
          refine hc_iload_n C dX8_readsEar_148 rfl rfl ?_
          refine hc_iconst C dX8_readsEar_149 (v := 3) rfl ?_
          refine hc_iadd C dX8_readsEar_150 ?_
          refine hc_iload C dX8_readsEar_151 rfl ?_
          refine hc_iastN C (j := (rB7 c0 + 3)) rfl (show nI (rB7 c0) + nI 3 = nI (rB7 c0 + 3) from nI_add _ _) (by have := rB7_le c0; omega) dX8_readsEar_153 ?_
          refine hc_mem mG_55 ?_
          refine hc_aload_n C dX8_readsEar_154 rfl rfl ?_
          refine hc_getR C fl_X8_28 rfl rfl dX8_readsEar_155 ?_
          refine hc_iload_n C dX8_readsEar_158 rfl rfl ?_
          refine hc_iconst C dX8_readsEar_159 (v := 4) rfl ?_
          refine hc_iadd C dX8_readsEar_160 ?_
          refine hc_iload C dX8_readsEar_161 rfl ?_
          refine hc_iastN C (j := (rB7 c0 + 4)) rfl (show nI (rB7 c0) + nI 4 = nI (rB7 c0 + 4) from nI_add _ _) (by have := rB7_le c0; omega) dX8_readsEar_163 ?_
          refine hc_mem mG_55 ?_
          refine hc_aload_n C dX8_readsEar_164 rfl rfl ?_
          refine hc_getR C fl_X8_28 rfl rfl dX8_readsEar_165 ?_
          refine hc_iconst C dX8_readsEar_168 (v := 4) rfl ?_
          refine hc_dup2 C dX8_readsEar_169 rfl rfl ?_
          refine hc_ialdN C (j := 4) rfl rfl (by decide) dX8_readsEar_170 ?_
          refine hc_iconst C dX8_readsEar_171 (v := 1) rfl ?_
          refine hc_iadd C dX8_readsEar_172 ?_
          refine hc_iastN C (j := 4) rfl rfl (by decide) dX8_readsEar_173 ?_
          refine hc_mem mG_55 ?_
          refine hc_vret C rfl dX8_readsEar_174 ?_
          show mG M (rE8 (M 53) n c0 r g) (rE6 (M 53) n c0 r) = _
          unfold rE8 rE7
          rw [← hq6, ← hq5, ← hq4, ← hq3, ← hq2]
          first
            | rw [if_neg (show ¬ ¬ 0 ≤ q6.2.1 from hb_z.mp c_115)]
            | (rw [if_pos (show ¬ 0 ≤ q6.2.1 from hb_nz.mp c_115)]; rfl)
      · refine hc_iconst C dX8_readsEar_101 (v := 1) rfl ?_
        refine hc_goto C (tgt := 106) dX8_readsEar_102 (by decide) ?_
        refine hc_top (v := hb (q5.2.2.2.2.2.1 = 4)) ?_ ?_
        · symm
          first | exact hb_t c_98 | exact hb_f c_98
        refine hc_iconst C dX8_readsEar_106 (v := 1) rfl ?_
        refine hc_cV2i C mv_X8_114 (c_X8_takes (M := hc_mf M 55 g) (n := n) (r := q5.2) C.ok hn hn1 hp5) rfl rfl rfl (Nat.le_of_ble_eq_true rfl) (hc_rr_rm (by decide)) ⟨Nat.zero_le _, Nat.zero_le _⟩ dX8_readsEar_107 (fun r_107 M_107 h_107 => ?_)
        obtain ⟨rfl, rfl⟩ := h_107
        obtain ⟨q6, hq6⟩ : ∃ q, q = rE6 (M 53) n c0 r := ⟨_, rfl⟩
        have e6 : (rTk (M 53) n (hb (q5.2.2.2.2.2.1 = 4)) 1 q5.2).2 = q6 := by
          rw [hq6]
          unfold rE6
          rw [← hq5]
        refine hc_mem (M2 := mG M g q6) (by rw [← e6]; rfl) ?_
        refine hc_pop C dX8_readsEar_110 rfl ?_
        refine hc_aload_n C dX8_readsEar_111 rfl rfl ?_
        refine hc_cV0i C mv_X8_104 (c_X8_isWell C.ok) rfl rfl rfl (Nat.le_of_ble_eq_true rfl) (hc_rr_rm (by decide)) ⟨Nat.zero_le _, Nat.zero_le _⟩ dX8_readsEar_112 (fun r_112 M_112 h_112 => ?_)
        obtain ⟨rfl, rfl⟩ := h_112
        refine hc_if_eq C (tgt := 174) dX8_readsEar_115 (by decide) (fun c_115 => ?_) (fun c_115 => ?_)
        · refine hc_vret C rfl dX8_readsEar_174 ?_
          show mG M (rE8 (M 53) n c0 r g) (rE6 (M 53) n c0 r) = _
          unfold rE8 rE7
          rw [← hq6, ← hq5, ← hq4, ← hq3, ← hq2]
          first
            | rw [if_neg (show ¬ ¬ 0 ≤ q6.2.1 from hb_z.mp c_115)]
            | (rw [if_pos (show ¬ 0 ≤ q6.2.1 from hb_nz.mp c_115)]; rfl)
        · refine hc_aload_n C dX8_readsEar_118 rfl rfl ?_
          refine hc_getR C fl_X8_28 rfl rfl dX8_readsEar_119 ?_
          refine hc_iload_n C dX8_readsEar_122 rfl rfl ?_
          refine hc_iload_n C dX8_readsEar_123 rfl rfl ?_
          refine hc_iastN C (j := (rB7 c0)) rfl rfl (by have := rB7_le c0; omega) dX8_readsEar_124 ?_
          refine hc_mem mG_55 ?_
          refine hc_aload_n C dX8_readsEar_125 rfl rfl ?_
          refine hc_getR C fl_X8_28 rfl rfl dX8_readsEar_126 ?_
          refine hc_iload_n C dX8_readsEar_129 rfl rfl ?_
          refine hc_iconst C dX8_readsEar_130 (v := 1) rfl ?_
          refine hc_iadd C dX8_readsEar_131 ?_
          refine hc_iload_n C dX8_readsEar_132 rfl rfl ?_
          refine hc_iastN C (j := (rB7 c0 + 1)) rfl (show nI (rB7 c0) + nI 1 = nI (rB7 c0 + 1) from nI_add _ _) (by have := rB7_le c0; omega) dX8_readsEar_133 ?_
          refine hc_mem mG_55 ?_
          refine hc_aload_n C dX8_readsEar_134 rfl rfl ?_
          refine hc_getR C fl_X8_28 rfl rfl dX8_readsEar_135 ?_
          refine hc_iload_n C dX8_readsEar_138 rfl rfl ?_
          refine hc_iconst C dX8_readsEar_139 (v := 2) rfl ?_
          refine hc_iadd C dX8_readsEar_140 ?_
          refine hc_iload C dX8_readsEar_141 rfl ?_
          refine hc_iastN C (j := (rB7 c0 + 2)) rfl (show nI (rB7 c0) + nI 2 = nI (rB7 c0 + 2) from nI_add _ _) (by have := rB7_le c0; omega) dX8_readsEar_143 ?_
          refine hc_mem mG_55 ?_
          refine hc_aload_n C dX8_readsEar_144 rfl rfl ?_
          refine hc_getR C fl_X8_28 rfl rfl dX8_readsEar_145 ?_
          refine hc_iload_n C dX8_readsEar_148 rfl rfl ?_
          refine hc_iconst C dX8_readsEar_149 (v := 3) rfl ?_
          refine hc_iadd C dX8_readsEar_150 ?_
          refine hc_iload C dX8_readsEar_151 rfl ?_
          refine hc_iastN C (j := (rB7 c0 + 3)) rfl (show nI (rB7 c0) + nI 3 = nI (rB7 c0 + 3) from nI_add _ _) (by have := rB7_le c0; omega) dX8_readsEar_153 ?_
          refine hc_mem mG_55 ?_
          refine hc_aload_n C dX8_readsEar_154 rfl rfl ?_
          refine hc_getR C fl_X8_28 rfl rfl dX8_readsEar_155 ?_
          refine hc_iload_n C dX8_readsEar_158 rfl rfl ?_
          refine hc_iconst C dX8_readsEar_159 (v := 4) rfl ?_
          refine hc_iadd C dX8_readsEar_160 ?_
          refine hc_iload C dX8_readsEar_161 rfl ?_
          refine hc_iastN C (j := (rB7 c0 + 4)) rfl (show nI (rB7 c0) + nI 4 = nI (rB7 c0 + 4) from nI_add _ _) (by have := rB7_le c0; omega) dX8_readsEar_163 ?_
          refine hc_mem mG_55 ?_
          refine hc_aload_n C dX8_readsEar_164 rfl rfl ?_
          refine hc_getR C fl_X8_28 rfl rfl dX8_readsEar_165 ?_
          refine hc_iconst C dX8_readsEar_168 (v := 4) rfl ?_
          refine hc_dup2 C dX8_readsEar_169 rfl rfl ?_
          refine hc_ialdN C (j := 4) rfl rfl (by decide) dX8_readsEar_170 ?_
          refine hc_iconst C dX8_readsEar_171 (v := 1) rfl ?_
          refine hc_iadd C dX8_readsEar_172 ?_
          refine hc_iastN C (j := 4) rfl rfl (by decide) dX8_readsEar_173 ?_
          refine hc_mem mG_55 ?_
          refine hc_vret C rfl dX8_readsEar_174 ?_
          show mG M (rE8 (M 53) n c0 r g) (rE6 (M 53) n c0 r) = _
          unfold rE8 rE7
          rw [← hq6, ← hq5, ← hq4, ← hq3, ← hq2]
          first
            | rw [if_neg (show ¬ ¬ 0 ≤ q6.2.1 from hb_z.mp c_115)]
            | (rw [if_pos (show ¬ 0 ≤ q6.2.1 from hb_nz.mp c_115)]; rfl)
    · refine hc_aload_n C dX8_readsEar_45 rfl rfl ?_
      refine hc_getR C fl_X8_28 rfl rfl dX8_readsEar_46 ?_
      refine hc_iconst C dX8_readsEar_49 (v := 4) rfl ?_
      refine hc_ialdN C (j := 4) rfl rfl (by decide) dX8_readsEar_50 ?_
      refine hc_top (v := nI c0) hg ?_
      refine hc_goto C (tgt := 55) dX8_readsEar_51 (by decide) ?_
      refine hc_imul C dX8_readsEar_55 ?_
      refine hc_iadd C dX8_readsEar_56 ?_
      refine hc_top (v := nI (rB7 c0)) ?_ ?_
      · unfold rB7
        rcases Nat.lt_or_ge c0 6 with q | q
        · rw [if_pos q]
          first
            | exact absurd (show nI 6 ≤ nI c0 from c_42) (nI_ge q (by decide))
            | exact hx_670 c0
        · rw [if_neg (by omega)]
          first
            | exact absurd (show nI 6 ≤ nI c0 from nI_le q (by omega)) c_42
            | rfl
      refine hc_istore_n2 C dX8_readsEar_57 rfl (by decide) rfl ?_
      refine hc_aload_n C dX8_readsEar_58 rfl rfl ?_
      refine hc_iconst C dX8_readsEar_59 (v := 1) rfl ?_
      refine hc_bipush C dX8_readsEar_60 (v := 12) rfl ?_
      refine hc_cV2i C mv_X8_118 (c_X8_figure (M := hc_mf M 55 g) (n := n) (r := q1) C.ok hn hn1 hp1) rfl rfl rfl (Nat.le_of_ble_eq_true rfl) (hc_rr_rm (by decide)) ⟨Nat.zero_le _, Nat.zero_le _⟩ dX8_readsEar_62 (fun r_62 M_62 h_62 => ?_)
      obtain ⟨rfl, rfl⟩ := h_62
      obtain ⟨q2, hq2⟩ : ∃ q, q = rE2 (M 53) n c0 r := ⟨_, rfl⟩
      have e2 : rFg (M 53) n 1 12 q1 = q2 := by
        rw [hq2]
        unfold rE2
        rw [← hq1]
      have hp2 : q2.2.2.2.1 ≤ n := by
        rw [hq2]
        exact rE2_ps hps
      refine hc_mem (M2 := mG M g q2.2) (by rw [← e2]; rfl) ?_
      refine hc_top (v := q2.1) (by rw [← e2]; rfl) ?_
      refine hc_istore_n3 C dX8_readsEar_65 rfl (by decide) rfl ?_
      refine hc_aload_n C dX8_readsEar_66 rfl rfl ?_
      refine hc_iconst C dX8_readsEar_67 (v := 0) rfl ?_
      refine hc_iconst C dX8_readsEar_68 (v := 3) rfl ?_
      refine hc_cV2i C mv_X8_124 (c_X8_next (M := hc_mf M 55 g) (n := n) (r := q2.2) C.ok hn hn1 hp2) rfl rfl rfl (Nat.le_of_ble_eq_true rfl) (hc_rr_rm (by decide)) ⟨Nat.zero_le _, Nat.zero_le _⟩ dX8_readsEar_69 (fun r_69 M_69 h_69 => ?_)
      obtain ⟨rfl, rfl⟩ := h_69
      obtain ⟨q3, hq3⟩ : ∃ q, q = rE3 (M 53) n c0 r := ⟨_, rfl⟩
      have e3 : rNx (M 53) n 0 3 q2.2 = q3 := by
        rw [hq3]
        unfold rE3
        rw [← hq2]
      have hp3 : q3.2.2.2.1 ≤ n := by
        rw [hq3]
        exact rE3_ps hps
      refine hc_mem (M2 := mG M g q3.2) (by rw [← e3]; rfl) ?_
      refine hc_top (v := q3.1) (by rw [← e3]; rfl) ?_
      refine hc_istore4 C dX8_readsEar_72 (by decide) rfl ?_
      refine hc_aload_n C dX8_readsEar_74 rfl rfl ?_
      refine hc_iconst C dX8_readsEar_75 (v := 0) rfl ?_
      refine hc_bipush C dX8_readsEar_76 (v := 7) rfl ?_
      refine hc_cV2i C mv_X8_124 (c_X8_next (M := hc_mf M 55 g) (n := n) (r := q3.2) C.ok hn hn1 hp3) rfl rfl rfl (Nat.le_of_ble_eq_true rfl) (hc_rr_rm (by decide)) ⟨Nat.zero_le _, Nat.zero_le _⟩ dX8_readsEar_78 (fun r_78 M_78 h_78 => ?_)
      obtain ⟨rfl, rfl⟩ := h_78
      obtain ⟨q4, hq4⟩ : ∃ q, q = rE4 (M 53) n c0 r := ⟨_, rfl⟩
      have e4 : rNx (M 53) n 0 7 q3.2 = q4 := by
        rw [hq4]
        unfold rE4
        rw [← hq3]
      have hp4 : q4.2.2.2.1 ≤ n := by
        rw [hq4]
        exact rE4_ps hps
      refine hc_mem (M2 := mG M g q4.2) (by rw [← e4]; rfl) ?_
      refine hc_top (v := q4.1) (by rw [← e4]; rfl) ?_
      refine hc_istore5 C dX8_readsEar_81 (by decide) rfl ?_
      refine hc_aload_n C dX8_readsEar_83 rfl rfl ?_
      refine hc_iconst C dX8_readsEar_84 (v := 1) rfl ?_
      refine hc_bipush C dX8_readsEar_85 (v := 8) rfl ?_
      refine hc_cV2i C mv_X8_124 (c_X8_next (M := hc_mf M 55 g) (n := n) (r := q4.2) C.ok hn hn1 hp4) rfl rfl rfl (Nat.le_of_ble_eq_true rfl) (hc_rr_rm (by decide)) ⟨Nat.zero_le _, Nat.zero_le _⟩ dX8_readsEar_87 (fun r_87 M_87 h_87 => ?_)
      obtain ⟨rfl, rfl⟩ := h_87
      obtain ⟨q5, hq5⟩ : ∃ q, q = rE5 (M 53) n c0 r := ⟨_, rfl⟩
      have e5 : rNx (M 53) n 1 8 q4.2 = q5 := by
        rw [hq5]
        unfold rE5
        rw [← hq4]
      have hp5 : q5.2.2.2.1 ≤ n := by
        rw [hq5]
        exact rE5_ps hps
      refine hc_mem (M2 := mG M g q5.2) (by rw [← e5]; rfl) ?_
      refine hc_top (v := q5.1) (by rw [← e5]; rfl) ?_
      refine hc_istore6 C dX8_readsEar_90 (by decide) rfl ?_
      refine hc_aload_n C dX8_readsEar_92 rfl rfl ?_
      refine hc_aload_n C dX8_readsEar_93 rfl rfl ?_
      refine hc_getI C fl_X8_98 rfl rfl dX8_readsEar_94 ?_
      refine hc_top (v := q5.2.2.2.2.2.1) rfl ?_
      refine hc_iconst C dX8_readsEar_97 (v := 4) rfl ?_
      refine hc_icmp_ne C (tgt := 105) dX8_readsEar_98 (by decide) (fun c_98 => ?_) (fun c_98 => ?_)
      · refine hc_iconst C dX8_readsEar_105 (v := 0) rfl ?_
        refine hc_top (v := hb (q5.2.2.2.2.2.1 = 4)) ?_ ?_
        · symm
          first | exact hb_t c_98 | exact hb_f c_98
        refine hc_iconst C dX8_readsEar_106 (v := 1) rfl ?_
        refine hc_cV2i C mv_X8_114 (c_X8_takes (M := hc_mf M 55 g) (n := n) (r := q5.2) C.ok hn hn1 hp5) rfl rfl rfl (Nat.le_of_ble_eq_true rfl) (hc_rr_rm (by decide)) ⟨Nat.zero_le _, Nat.zero_le _⟩ dX8_readsEar_107 (fun r_107 M_107 h_107 => ?_)
        obtain ⟨rfl, rfl⟩ := h_107
        obtain ⟨q6, hq6⟩ : ∃ q, q = rE6 (M 53) n c0 r := ⟨_, rfl⟩
        have e6 : (rTk (M 53) n (hb (q5.2.2.2.2.2.1 = 4)) 1 q5.2).2 = q6 := by
          rw [hq6]
          unfold rE6
          rw [← hq5]
        refine hc_mem (M2 := mG M g q6) (by rw [← e6]; rfl) ?_
        refine hc_pop C dX8_readsEar_110 rfl ?_
        refine hc_aload_n C dX8_readsEar_111 rfl rfl ?_
        refine hc_cV0i C mv_X8_104 (c_X8_isWell C.ok) rfl rfl rfl (Nat.le_of_ble_eq_true rfl) (hc_rr_rm (by decide)) ⟨Nat.zero_le _, Nat.zero_le _⟩ dX8_readsEar_112 (fun r_112 M_112 h_112 => ?_)
        obtain ⟨rfl, rfl⟩ := h_112
        refine hc_if_eq C (tgt := 174) dX8_readsEar_115 (by decide) (fun c_115 => ?_) (fun c_115 => ?_)
        · refine hc_vret C rfl dX8_readsEar_174 ?_
          show mG M (rE8 (M 53) n c0 r g) (rE6 (M 53) n c0 r) = _
          unfold rE8 rE7
          rw [← hq6, ← hq5, ← hq4, ← hq3, ← hq2]
          first
            | rw [if_neg (show ¬ ¬ 0 ≤ q6.2.1 from hb_z.mp c_115)]
            | (rw [if_pos (show ¬ 0 ≤ q6.2.1 from hb_nz.mp c_115)]; rfl)
        · refine hc_aload_n C dX8_readsEar_118 rfl rfl ?_
          refine hc_getR C fl_X8_28 rfl rfl dX8_readsEar_119 ?_
          refine hc_iload_n C dX8_readsEar_122 rfl rfl ?_
          refine hc_iload_n C dX8_readsEar_123 rfl rfl ?_
          refine hc_iastN C (j := (rB7 c0)) rfl rfl (by have := rB7_le c0; omega) dX8_readsEar_124 ?_
          refine hc_mem mG_55 ?_
          refine hc_aload_n C dX8_readsEar_125 rfl rfl ?_
          refine hc_getR C fl_X8_28 rfl rfl dX8_readsEar_126 ?_
          refine hc_iload_n C dX8_readsEar_129 rfl rfl ?_
          refine hc_iconst C dX8_readsEar_130 (v := 1) rfl ?_
          refine hc_iadd C dX8_readsEar_131 ?_
          refine hc_iload_n C dX8_readsEar_132 rfl rfl ?_
          refine hc_iastN C (j := (rB7 c0 + 1)) rfl (show nI (rB7 c0) + nI 1 = nI (rB7 c0 + 1) from nI_add _ _) (by have := rB7_le c0; omega) dX8_readsEar_133 ?_
          refine hc_mem mG_55 ?_
          refine hc_aload_n C dX8_readsEar_134 rfl rfl ?_
          refine hc_getR C fl_X8_28 rfl rfl dX8_readsEar_135 ?_
          refine hc_iload_n C dX8_readsEar_138 rfl rfl ?_
          refine hc_iconst C dX8_readsEar_139 (v := 2) rfl ?_
          refine hc_iadd C dX8_readsEar_140 ?_
          refine hc_iload C dX8_readsEar_141 rfl ?_
          refine hc_iastN C (j := (rB7 c0 + 2)) rfl (show nI (rB7 c0) + nI 2 = nI (rB7 c0 + 2) from nI_add _ _) (by have := rB7_le c0; omega) dX8_readsEar_143 ?_
          refine hc_mem mG_55 ?_
          refine hc_aload_n C dX8_readsEar_144 rfl rfl ?_
          refine hc_getR C fl_X8_28 rfl rfl dX8_readsEar_145 ?_
          refine hc_iload_n C dX8_readsEar_148 rfl rfl ?_
          refine hc_iconst C dX8_readsEar_149 (v := 3) rfl ?_
          refine hc_iadd C dX8_readsEar_150 ?_
          refine hc_iload C dX8_readsEar_151 rfl ?_
          refine hc_iastN C (j := (rB7 c0 + 3)) rfl (show nI (rB7 c0) + nI 3 = nI (rB7 c0 + 3) from nI_add _ _) (by have := rB7_le c0; omega) dX8_readsEar_153 ?_
          refine hc_mem mG_55 ?_
          refine hc_aload_n C dX8_readsEar_154 rfl rfl ?_
          refine hc_getR C fl_X8_28 rfl rfl dX8_readsEar_155 ?_
          refine hc_iload_n C dX8_readsEar_158 rfl rfl ?_
          refine hc_iconst C dX8_readsEar_159 (v := 4) rfl ?_
          refine hc_iadd C dX8_readsEar_160 ?_
          refine hc_iload C dX8_readsEar_161 rfl ?_
          refine hc_iastN C (j := (rB7 c0 + 4)) rfl (show nI (rB7 c0) + nI 4 = nI (rB7 c0 + 4) from nI_add _ _) (by have := rB7_le c0; omega) dX8_readsEar_163 ?_
          refine hc_mem mG_55 ?_
          refine hc_aload_n C dX8_readsEar_164 rfl rfl ?_
          refine hc_getR C fl_X8_28 rfl rfl dX8_readsEar_165 ?_
          refine hc_iconst C dX8_readsEar_168 (v := 4) rfl ?_
          refine hc_dup2 C dX8_readsEar_169 rfl rfl ?_
          refine hc_ialdN C (j := 4) rfl rfl (by decide) dX8_readsEar_170 ?_
          refine hc_iconst C dX8_readsEar_171 (v := 1) rfl ?_
          refine hc_iadd C dX8_readsEar_172 ?_
          refine hc_iastN C (j := 4) rfl rfl (by decide) dX8_readsEar_173 ?_
          refine hc_mem mG_55 ?_
          refine hc_vret C rfl dX8_readsEar_174 ?_
          show mG M (rE8 (M 53) n c0 r g) (rE6 (M 53) n c0 r) = _
          unfold rE8 rE7
          rw [← hq6, ← hq5, ← hq4, ← hq3, ← hq2]
          first
            | rw [if_neg (show ¬ ¬ 0 ≤ q6.2.1 from hb_z.mp c_115)]
            | (rw [if_pos (show ¬ 0 ≤ q6.2.1 from hb_nz.mp c_115)]; rfl)
      · refine hc_iconst C dX8_readsEar_101 (v := 1) rfl ?_
        refine hc_goto C (tgt := 106) dX8_readsEar_102 (by decide) ?_
        refine hc_top (v := hb (q5.2.2.2.2.2.1 = 4)) ?_ ?_
        · symm
          first | exact hb_t c_98 | exact hb_f c_98
        refine hc_iconst C dX8_readsEar_106 (v := 1) rfl ?_
        refine hc_cV2i C mv_X8_114 (c_X8_takes (M := hc_mf M 55 g) (n := n) (r := q5.2) C.ok hn hn1 hp5) rfl rfl rfl (Nat.le_of_ble_eq_true rfl) (hc_rr_rm (by decide)) ⟨Nat.zero_le _, Nat.zero_le _⟩ dX8_readsEar_107 (fun r_107 M_107 h_107 => ?_)
        obtain ⟨rfl, rfl⟩ := h_107
        obtain ⟨q6, hq6⟩ : ∃ q, q = rE6 (M 53) n c0 r := ⟨_, rfl⟩
        have e6 : (rTk (M 53) n (hb (q5.2.2.2.2.2.1 = 4)) 1 q5.2).2 = q6 := by
          rw [hq6]
          unfold rE6
          rw [← hq5]
        refine hc_mem (M2 := mG M g q6) (by rw [← e6]; rfl) ?_
        refine hc_pop C dX8_readsEar_110 rfl ?_
        refine hc_aload_n C dX8_readsEar_111 rfl rfl ?_
        refine hc_cV0i C mv_X8_104 (c_X8_isWell C.ok) rfl rfl rfl (Nat.le_of_ble_eq_true rfl) (hc_rr_rm (by decide)) ⟨Nat.zero_le _, Nat.zero_le _⟩ dX8_readsEar_112 (fun r_112 M_112 h_112 => ?_)
        obtain ⟨rfl, rfl⟩ := h_112
        refine hc_if_eq C (tgt := 174) dX8_readsEar_115 (by decide) (fun c_115 => ?_) (fun c_115 => ?_)
        · refine hc_vret C rfl dX8_readsEar_174 ?_
          show mG M (rE8 (M 53) n c0 r g) (rE6 (M 53) n c0 r) = _
          unfold rE8 rE7
          rw [← hq6, ← hq5, ← hq4, ← hq3, ← hq2]
          first
            | rw [if_neg (show ¬ ¬ 0 ≤ q6.2.1 from hb_z.mp c_115)]
            | (rw [if_pos (show ¬ 0 ≤ q6.2.1 from hb_nz.mp c_115)]; rfl)
        · refine hc_aload_n C dX8_readsEar_118 rfl rfl ?_
          refine hc_getR C fl_X8_28 rfl rfl dX8_readsEar_119 ?_
          refine hc_iload_n C dX8_readsEar_122 rfl rfl ?_
          refine hc_iload_n C dX8_readsEar_123 rfl rfl ?_
          refine hc_iastN C (j := (rB7 c0)) rfl rfl (by have := rB7_le c0; omega) dX8_readsEar_124 ?_
          refine hc_mem mG_55 ?_
          refine hc_aload_n C dX8_readsEar_125 rfl rfl ?_
          refine hc_getR C fl_X8_28 rfl rfl dX8_readsEar_126 ?_
          refine hc_iload_n C dX8_readsEar_129 rfl rfl ?_
          refine hc_iconst C dX8_readsEar_130 (v := 1) rfl ?_
          refine hc_iadd C dX8_readsEar_131 ?_
          refine hc_iload_n C dX8_readsEar_132 rfl rfl ?_
          refine hc_iastN C (j := (rB7 c0 + 1)) rfl (show nI (rB7 c0) + nI 1 = nI (rB7 c0 + 1) from nI_add _ _) (by have := rB7_le c0; omega) dX8_readsEar_133 ?_
          refine hc_mem mG_55 ?_
          refine hc_aload_n C dX8_readsEar_134 rfl rfl ?_
          refine hc_getR C fl_X8_28 rfl rfl dX8_readsEar_135 ?_
          refine hc_iload_n C dX8_readsEar_138 rfl rfl ?_
          refine hc_iconst C dX8_readsEar_139 (v := 2) rfl ?_
          refine hc_iadd C dX8_readsEar_140 ?_
          refine hc_iload C dX8_readsEar_141 rfl ?_
          refine hc_iastN C (j := (rB7 c0 + 2)) rfl (show nI (rB7 c0) + nI 2 = nI (rB7 c0 + 2) from nI_add _ _) (by have := rB7_le c0; omega) dX8_readsEar_143 ?_
          refine hc_mem mG_55 ?_
          refine hc_aload_n C dX8_readsEar_144 rfl rfl ?_
          refine hc_getR C fl_X8_28 rfl rfl dX8_readsEar_145 ?_
          refine hc_iload_n C dX8_readsEar_148 rfl rfl ?_
          refine hc_iconst C dX8_readsEar_149 (v := 3) rfl ?_
          refine hc_iadd C dX8_readsEar_150 ?_
          refine hc_iload C dX8_readsEar_151 rfl ?_
          refine hc_iastN C (j := (rB7 c0 + 3)) rfl (show nI (rB7 c0) + nI 3 = nI (rB7 c0 + 3) from nI_add _ _) (by have := rB7_le c0; omega) dX8_readsEar_153 ?_
          refine hc_mem mG_55 ?_
          refine hc_aload_n C dX8_readsEar_154 rfl rfl ?_
          refine hc_getR C fl_X8_28 rfl rfl dX8_readsEar_155 ?_
          refine hc_iload_n C dX8_readsEar_158 rfl rfl ?_
          refine hc_iconst C dX8_readsEar_159 (v := 4) rfl ?_
          refine hc_iadd C dX8_readsEar_160 ?_
          refine hc_iload C dX8_readsEar_161 rfl ?_
          refine hc_iastN C (j := (rB7 c0 + 4)) rfl (show nI (rB7 c0) + nI 4 = nI (rB7 c0 + 4) from nI_add _ _) (by have := rB7_le c0; omega) dX8_readsEar_163 ?_
          refine hc_mem mG_55 ?_
          refine hc_aload_n C dX8_readsEar_164 rfl rfl ?_
          refine hc_getR C fl_X8_28 rfl rfl dX8_readsEar_165 ?_
          refine hc_iconst C dX8_readsEar_168 (v := 4) rfl ?_
          refine hc_dup2 C dX8_readsEar_169 rfl rfl ?_
          refine hc_ialdN C (j := 4) rfl rfl (by decide) dX8_readsEar_170 ?_
          refine hc_iconst C dX8_readsEar_171 (v := 1) rfl ?_
          refine hc_iadd C dX8_readsEar_172 ?_
          refine hc_iastN C (j := 4) rfl rfl (by decide) dX8_readsEar_173 ?_
          refine hc_mem mG_55 ?_
          refine hc_vret C rfl dX8_readsEar_174 ?_
          show mG M (rE8 (M 53) n c0 r g) (rE6 (M 53) n c0 r) = _
          unfold rE8 rE7
          rw [← hq6, ← hq5, ← hq4, ← hq3, ← hq2]
          first
            | rw [if_neg (show ¬ ¬ 0 ≤ q6.2.1 from hb_z.mp c_115)]
            | (rw [if_pos (show ¬ 0 ≤ q6.2.1 from hb_nz.mp c_115)]; rfl)
  · refine hc_iconst C dX8_readsEar_20 (v := 1) rfl ?_
    refine hc_goto C (tgt := 25) dX8_readsEar_21 (by decide) ?_
    refine hc_top (v := hb (¬ 6 ≤ nI c0)) ?_ ?_
    · symm
      first
        | (refine hb_f (fun w => absurd ?_ w); exact c_17)
        | exact hb_t c_17
    refine hc_iconst C dX8_readsEar_25 (v := 3) rfl ?_
    refine hc_cV2i C mv_X8_114 (c_X8_takes (M := hc_mf M 55 g) (n := n) (r := r) C.ok hn hn1 hps) rfl rfl rfl (Nat.le_of_ble_eq_true rfl) (hc_rr_rm (by decide)) ⟨Nat.zero_le _, Nat.zero_le _⟩ dX8_readsEar_26 (fun r_26 M_26 h_26 => ?_)
    obtain ⟨rfl, rfl⟩ := h_26
    obtain ⟨q1, hq1⟩ : ∃ q, q = rE1 (M 53) n c0 r := ⟨_, rfl⟩
    have e1 : (rTk (M 53) n (hb (¬ 6 ≤ nI c0)) 3 r).2 = q1 := by
      rw [hq1]
      unfold rE1
      rfl
    have hp1 : q1.2.2.1 ≤ n := by
      rw [hq1]
      exact rE1_ps hps
    refine hc_mem (M2 := mG M g q1) (by rw [← e1]; rfl) ?_
    refine hc_pop C dX8_readsEar_29 rfl ?_
    refine hc_bipush C dX8_readsEar_30 (v := 6) rfl ?_
    refine hc_bipush C dX8_readsEar_32 (v := 7) rfl ?_
    refine hc_aload_n C dX8_readsEar_34 rfl rfl ?_
    refine hc_getR C fl_X8_28 rfl rfl dX8_readsEar_35 ?_
    refine hc_iconst C dX8_readsEar_38 (v := 4) rfl ?_
    refine hc_ialdN C (j := 4) rfl rfl (by decide) dX8_readsEar_39 ?_
    refine hc_top (v := nI c0) hg ?_
    refine hc_bipush C dX8_readsEar_40 (v := 6) rfl ?_
    refine hc_icmp_ge C (tgt := 54) dX8_readsEar_42 (by decide) (fun c_42 => ?_) (fun c_42 => ?_)
    · refine hc_iconst C dX8_readsEar_54 (v := 0) rfl ?_
      refine hc_imul C dX8_readsEar_55 ?_
      refine hc_iadd C dX8_readsEar_56 ?_
      refine hc_top (v := nI (rB7 c0)) ?_ ?_
      · unfold rB7
        rcases Nat.lt_or_ge c0 6 with q | q
        · rw [if_pos q]
          first
            | exact absurd (show nI 6 ≤ nI c0 from c_42) (nI_ge q (by decide))
            | exact hx_670 c0
        · rw [if_neg (by omega)]
          first
            | exact absurd (show nI 6 ≤ nI c0 from nI_le q (by omega)) c_42
            | rfl
      refine hc_istore_n2 C dX8_readsEar_57 rfl (by decide) rfl ?_
      refine hc_aload_n C dX8_readsEar_58 rfl rfl ?_
      refine hc_iconst C dX8_readsEar_59 (v := 1) rfl ?_
      refine hc_bipush C dX8_readsEar_60 (v := 12) rfl ?_
      refine hc_cV2i C mv_X8_118 (c_X8_figure (M := hc_mf M 55 g) (n := n) (r := q1) C.ok hn hn1 hp1) rfl rfl rfl (Nat.le_of_ble_eq_true rfl) (hc_rr_rm (by decide)) ⟨Nat.zero_le _, Nat.zero_le _⟩ dX8_readsEar_62 (fun r_62 M_62 h_62 => ?_)
      obtain ⟨rfl, rfl⟩ := h_62
      obtain ⟨q2, hq2⟩ : ∃ q, q = rE2 (M 53) n c0 r := ⟨_, rfl⟩
      have e2 : rFg (M 53) n 1 12 q1 = q2 := by
        rw [hq2]
        unfold rE2
        rw [← hq1]
      have hp2 : q2.2.2.2.1 ≤ n := by
        rw [hq2]
        exact rE2_ps hps
      refine hc_mem (M2 := mG M g q2.2) (by rw [← e2]; rfl) ?_
      refine hc_top (v := q2.1) (by rw [← e2]; rfl) ?_
      refine hc_istore_n3 C dX8_readsEar_65 rfl (by decide) rfl ?_
      refine hc_aload_n C dX8_readsEar_66 rfl rfl ?_
      refine hc_iconst C dX8_readsEar_67 (v := 0) rfl ?_
      refine hc_iconst C dX8_readsEar_68 (v := 3) rfl ?_
      refine hc_cV2i C mv_X8_124 (c_X8_next (M := hc_mf M 55 g) (n := n) (r := q2.2) C.ok hn hn1 hp2) rfl rfl rfl (Nat.le_of_ble_eq_true rfl) (hc_rr_rm (by decide)) ⟨Nat.zero_le _, Nat.zero_le _⟩ dX8_readsEar_69 (fun r_69 M_69 h_69 => ?_)
      obtain ⟨rfl, rfl⟩ := h_69
      obtain ⟨q3, hq3⟩ : ∃ q, q = rE3 (M 53) n c0 r := ⟨_, rfl⟩
      have e3 : rNx (M 53) n 0 3 q2.2 = q3 := by
        rw [hq3]
        unfold rE3
        rw [← hq2]
      have hp3 : q3.2.2.2.1 ≤ n := by
        rw [hq3]
        exact rE3_ps hps
      refine hc_mem (M2 := mG M g q3.2) (by rw [← e3]; rfl) ?_
      refine hc_top (v := q3.1) (by rw [← e3]; rfl) ?_
      refine hc_istore4 C dX8_readsEar_72 (by decide) rfl ?_
      refine hc_aload_n C dX8_readsEar_74 rfl rfl ?_
      refine hc_iconst C dX8_readsEar_75 (v := 0) rfl ?_
      refine hc_bipush C dX8_readsEar_76 (v := 7) rfl ?_
      refine hc_cV2i C mv_X8_124 (c_X8_next (M := hc_mf M 55 g) (n := n) (r := q3.2) C.ok hn hn1 hp3) rfl rfl rfl (Nat.le_of_ble_eq_true rfl) (hc_rr_rm (by decide)) ⟨Nat.zero_le _, Nat.zero_le _⟩ dX8_readsEar_78 (fun r_78 M_78 h_78 => ?_)
      obtain ⟨rfl, rfl⟩ := h_78
      obtain ⟨q4, hq4⟩ : ∃ q, q = rE4 (M 53) n c0 r := ⟨_, rfl⟩
      have e4 : rNx (M 53) n 0 7 q3.2 = q4 := by
        rw [hq4]
        unfold rE4
        rw [← hq3]
      have hp4 : q4.2.2.2.1 ≤ n := by
        rw [hq4]
        exact rE4_ps hps
      refine hc_mem (M2 := mG M g q4.2) (by rw [← e4]; rfl) ?_
      refine hc_top (v := q4.1) (by rw [← e4]; rfl) ?_
      refine hc_istore5 C dX8_readsEar_81 (by decide) rfl ?_
      refine hc_aload_n C dX8_readsEar_83 rfl rfl ?_
      refine hc_iconst C dX8_readsEar_84 (v := 1) rfl ?_
      refine hc_bipush C dX8_readsEar_85 (v := 8) rfl ?_
      refine hc_cV2i C mv_X8_124 (c_X8_next (M := hc_mf M 55 g) (n := n) (r := q4.2) C.ok hn hn1 hp4) rfl rfl rfl (Nat.le_of_ble_eq_true rfl) (hc_rr_rm (by decide)) ⟨Nat.zero_le _, Nat.zero_le _⟩ dX8_readsEar_87 (fun r_87 M_87 h_87 => ?_)
      obtain ⟨rfl, rfl⟩ := h_87
      obtain ⟨q5, hq5⟩ : ∃ q, q = rE5 (M 53) n c0 r := ⟨_, rfl⟩
      have e5 : rNx (M 53) n 1 8 q4.2 = q5 := by
        rw [hq5]
        unfold rE5
        rw [← hq4]
      have hp5 : q5.2.2.2.1 ≤ n := by
        rw [hq5]
        exact rE5_ps hps
      refine hc_mem (M2 := mG M g q5.2) (by rw [← e5]; rfl) ?_
      refine hc_top (v := q5.1) (by rw [← e5]; rfl) ?_
      refine hc_istore6 C dX8_readsEar_90 (by decide) rfl ?_
      refine hc_aload_n C dX8_readsEar_92 rfl rfl ?_
      refine hc_aload_n C dX8_readsEar_93 rfl rfl ?_
      refine hc_getI C fl_X8_98 rfl rfl dX8_readsEar_94 ?_
      refine hc_top (v := q5.2.2.2.2.2.1) rfl ?_
      refine hc_iconst C dX8_readsEar_97 (v := 4) rfl ?_
      refine hc_icmp_ne C (tgt := 105) dX8_readsEar_98 (by decide) (fun c_98 => ?_) (fun c_98 => ?_)
      · refine hc_iconst C dX8_readsEar_105 (v := 0) rfl ?_
        refine hc_top (v := hb (q5.2.2.2.2.2.1 = 4)) ?_ ?_
        · symm
          first | exact hb_t c_98 | exact hb_f c_98
        refine hc_iconst C dX8_readsEar_106 (v := 1) rfl ?_
        refine hc_cV2i C mv_X8_114 (c_X8_takes (M := hc_mf M 55 g) (n := n) (r := q5.2) C.ok hn hn1 hp5) rfl rfl rfl (Nat.le_of_ble_eq_true rfl) (hc_rr_rm (by decide)) ⟨Nat.zero_le _, Nat.zero_le _⟩ dX8_readsEar_107 (fun r_107 M_107 h_107 => ?_)
        obtain ⟨rfl, rfl⟩ := h_107
        obtain ⟨q6, hq6⟩ : ∃ q, q = rE6 (M 53) n c0 r := ⟨_, rfl⟩
        have e6 : (rTk (M 53) n (hb (q5.2.2.2.2.2.1 = 4)) 1 q5.2).2 = q6 := by
          rw [hq6]
          unfold rE6
          rw [← hq5]
        refine hc_mem (M2 := mG M g q6) (by rw [← e6]; rfl) ?_
        refine hc_pop C dX8_readsEar_110 rfl ?_
        refine hc_aload_n C dX8_readsEar_111 rfl rfl ?_
        refine hc_cV0i C mv_X8_104 (c_X8_isWell C.ok) rfl rfl rfl (Nat.le_of_ble_eq_true rfl) (hc_rr_rm (by decide)) ⟨Nat.zero_le _, Nat.zero_le _⟩ dX8_readsEar_112 (fun r_112 M_112 h_112 => ?_)
        obtain ⟨rfl, rfl⟩ := h_112
        refine hc_if_eq C (tgt := 174) dX8_readsEar_115 (by decide) (fun c_115 => ?_) (fun c_115 => ?_)
        · refine hc_vret C rfl dX8_readsEar_174 ?_
          show mG M (rE8 (M 53) n c0 r g) (rE6 (M 53) n c0 r) = _
          unfold rE8 rE7
          rw [← hq6, ← hq5, ← hq4, ← hq3, ← hq2]
          first
            | rw [if_neg (show ¬ ¬ 0 ≤ q6.2.1 from hb_z.mp c_115)]
            | (rw [if_pos (show ¬ 0 ≤ q6.2.1 from hb_nz.mp c_115)]; rfl)
        · refine hc_aload_n C dX8_readsEar_118 rfl rfl ?_
          refine hc_getR C fl_X8_28 rfl rfl dX8_readsEar_119 ?_
          refine hc_iload_n C dX8_readsEar_122 rfl rfl ?_
          refine hc_iload_n C dX8_readsEar_123 rfl rfl ?_
          refine hc_iastN C (j := (rB7 c0)) rfl rfl (by have := rB7_le c0; omega) dX8_readsEar_124 ?_
          refine hc_mem mG_55 ?_
          refine hc_aload_n C dX8_readsEar_125 rfl rfl ?_
          refine hc_getR C fl_X8_28 rfl rfl dX8_readsEar_126 ?_
          refine hc_iload_n C dX8_readsEar_129 rfl rfl ?_
          refine hc_iconst C dX8_readsEar_130 (v := 1) rfl ?_
          refine hc_iadd C dX8_readsEar_131 ?_
          refine hc_iload_n C dX8_readsEar_132 rfl rfl ?_
          refine hc_iastN C (j := (rB7 c0 + 1)) rfl (show nI (rB7 c0) + nI 1 = nI (rB7 c0 + 1) from nI_add _ _) (by have := rB7_le c0; omega) dX8_readsEar_133 ?_
          refine hc_mem mG_55 ?_
          refine hc_aload_n C dX8_readsEar_134 rfl rfl ?_
          refine hc_getR C fl_X8_28 rfl rfl dX8_readsEar_135 ?_
          refine hc_iload_n C dX8_readsEar_138 rfl rfl ?_
          refine hc_iconst C dX8_readsEar_139 (v := 2) rfl ?_
          refine hc_iadd C dX8_readsEar_140 ?_
          refine hc_iload C dX8_readsEar_141 rfl ?_
          refine hc_iastN C (j := (rB7 c0 + 2)) rfl (show nI (rB7 c0) + nI 2 = nI (rB7 c0 + 2) from nI_add _ _) (by have := rB7_le c0; omega) dX8_readsEar_143 ?_
          refine hc_mem mG_55 ?_
          refine hc_aload_n C dX8_readsEar_144 rfl rfl ?_
          refine hc_getR C fl_X8_28 rfl rfl dX8_readsEar_145 ?_
          refine hc_iload_n C dX8_readsEar_148 rfl rfl ?_
          refine hc_iconst C dX8_readsEar_149 (v := 3) rfl ?_
          refine hc_iadd C dX8_readsEar_150 ?_
          refine hc_iload C dX8_readsEar_151 rfl ?_
          refine hc_iastN C (j := (rB7 c0 + 3)) rfl (show nI (rB7 c0) + nI 3 = nI (rB7 c0 + 3) from nI_add _ _) (by have := rB7_le c0; omega) dX8_readsEar_153 ?_
          refine hc_mem mG_55 ?_
          refine hc_aload_n C dX8_readsEar_154 rfl rfl ?_
          refine hc_getR C fl_X8_28 rfl rfl dX8_readsEar_155 ?_
          refine hc_iload_n C dX8_readsEar_158 rfl rfl ?_
          refine hc_iconst C dX8_readsEar_159 (v := 4) rfl ?_
          refine hc_iadd C dX8_readsEar_160 ?_
          refine hc_iload C dX8_readsEar_161 rfl ?_
          refine hc_iastN C (j := (rB7 c0 + 4)) rfl (show nI (rB7 c0) + nI 4 = nI (rB7 c0 + 4) from nI_add _ _) (by have := rB7_le c0; omega) dX8_readsEar_163 ?_
          refine hc_mem mG_55 ?_
          refine hc_aload_n C dX8_readsEar_164 rfl rfl ?_
          refine hc_getR C fl_X8_28 rfl rfl dX8_readsEar_165 ?_
          refine hc_iconst C dX8_readsEar_168 (v := 4) rfl ?_
          refine hc_dup2 C dX8_readsEar_169 rfl rfl ?_
          refine hc_ialdN C (j := 4) rfl rfl (by decide) dX8_readsEar_170 ?_
          refine hc_iconst C dX8_readsEar_171 (v := 1) rfl ?_
          refine hc_iadd C dX8_readsEar_172 ?_
          refine hc_iastN C (j := 4) rfl rfl (by decide) dX8_readsEar_173 ?_
          refine hc_mem mG_55 ?_
          refine hc_vret C rfl dX8_readsEar_174 ?_
          show mG M (rE8 (M 53) n c0 r g) (rE6 (M 53) n c0 r) = _
          unfold rE8 rE7
          rw [← hq6, ← hq5, ← hq4, ← hq3, ← hq2]
          first
            | rw [if_neg (show ¬ ¬ 0 ≤ q6.2.1 from hb_z.mp c_115)]
            | (rw [if_pos (show ¬ 0 ≤ q6.2.1 from hb_nz.mp c_115)]; rfl)
      · refine hc_iconst C dX8_readsEar_101 (v := 1) rfl ?_
        refine hc_goto C (tgt := 106) dX8_readsEar_102 (by decide) ?_
        refine hc_top (v := hb (q5.2.2.2.2.2.1 = 4)) ?_ ?_
        · symm
          first | exact hb_t c_98 | exact hb_f c_98
        refine hc_iconst C dX8_readsEar_106 (v := 1) rfl ?_
        refine hc_cV2i C mv_X8_114 (c_X8_takes (M := hc_mf M 55 g) (n := n) (r := q5.2) C.ok hn hn1 hp5) rfl rfl rfl (Nat.le_of_ble_eq_true rfl) (hc_rr_rm (by decide)) ⟨Nat.zero_le _, Nat.zero_le _⟩ dX8_readsEar_107 (fun r_107 M_107 h_107 => ?_)
        obtain ⟨rfl, rfl⟩ := h_107
        obtain ⟨q6, hq6⟩ : ∃ q, q = rE6 (M 53) n c0 r := ⟨_, rfl⟩
        have e6 : (rTk (M 53) n (hb (q5.2.2.2.2.2.1 = 4)) 1 q5.2).2 = q6 := by
          rw [hq6]
          unfold rE6
          rw [← hq5]
        refine hc_mem (M2 := mG M g q6) (by rw [← e6]; rfl) ?_
        refine hc_pop C dX8_readsEar_110 rfl ?_
        refine hc_aload_n C dX8_readsEar_111 rfl rfl ?_
        refine hc_cV0i C mv_X8_104 (c_X8_isWell C.ok) rfl rfl rfl (Nat.le_of_ble_eq_true rfl) (hc_rr_rm (by decide)) ⟨Nat.zero_le _, Nat.zero_le _⟩ dX8_readsEar_112 (fun r_112 M_112 h_112 => ?_)
        obtain ⟨rfl, rfl⟩ := h_112
        refine hc_if_eq C (tgt := 174) dX8_readsEar_115 (by decide) (fun c_115 => ?_) (fun c_115 => ?_)
        · refine hc_vret C rfl dX8_readsEar_174 ?_
          show mG M (rE8 (M 53) n c0 r g) (rE6 (M 53) n c0 r) = _
          unfold rE8 rE7
          rw [← hq6, ← hq5, ← hq4, ← hq3, ← hq2]
          first
            | rw [if_neg (show ¬ ¬ 0 ≤ q6.2.1 from hb_z.mp c_115)]
            | (rw [if_pos (show ¬ 0 ≤ q6.2.1 from hb_nz.mp c_115)]; rfl)
        · refine hc_aload_n C dX8_readsEar_118 rfl rfl ?_
          refine hc_getR C fl_X8_28 rfl rfl dX8_readsEar_119 ?_
          refine hc_iload_n C dX8_readsEar_122 rfl rfl ?_
          refine hc_iload_n C dX8_readsEar_123 rfl rfl ?_
          refine hc_iastN C (j := (rB7 c0)) rfl rfl (by have := rB7_le c0; omega) dX8_readsEar_124 ?_
          refine hc_mem mG_55 ?_
          refine hc_aload_n C dX8_readsEar_125 rfl rfl ?_
          refine hc_getR C fl_X8_28 rfl rfl dX8_readsEar_126 ?_
          refine hc_iload_n C dX8_readsEar_129 rfl rfl ?_
          refine hc_iconst C dX8_readsEar_130 (v := 1) rfl ?_
          refine hc_iadd C dX8_readsEar_131 ?_
          refine hc_iload_n C dX8_readsEar_132 rfl rfl ?_
          refine hc_iastN C (j := (rB7 c0 + 1)) rfl (show nI (rB7 c0) + nI 1 = nI (rB7 c0 + 1) from nI_add _ _) (by have := rB7_le c0; omega) dX8_readsEar_133 ?_
          refine hc_mem mG_55 ?_
          refine hc_aload_n C dX8_readsEar_134 rfl rfl ?_
          refine hc_getR C fl_X8_28 rfl rfl dX8_readsEar_135 ?_
          refine hc_iload_n C dX8_readsEar_138 rfl rfl ?_
          refine hc_iconst C dX8_readsEar_139 (v := 2) rfl ?_
          refine hc_iadd C dX8_readsEar_140 ?_
          refine hc_iload C dX8_readsEar_141 rfl ?_
          refine hc_iastN C (j := (rB7 c0 + 2)) rfl (show nI (rB7 c0) + nI 2 = nI (rB7 c0 + 2) from nI_add _ _) (by have := rB7_le c0; omega) dX8_readsEar_143 ?_
          refine hc_mem mG_55 ?_
          refine hc_aload_n C dX8_readsEar_144 rfl rfl ?_
          refine hc_getR C fl_X8_28 rfl rfl dX8_readsEar_145 ?_
          refine hc_iload_n C dX8_readsEar_148 rfl rfl ?_
          refine hc_iconst C dX8_readsEar_149 (v := 3) rfl ?_
          refine hc_iadd C dX8_readsEar_150 ?_
          refine hc_iload C dX8_readsEar_151 rfl ?_
          refine hc_iastN C (j := (rB7 c0 + 3)) rfl (show nI (rB7 c0) + nI 3 = nI (rB7 c0 + 3) from nI_add _ _) (by have := rB7_le c0; omega) dX8_readsEar_153 ?_
          refine hc_mem mG_55 ?_
          refine hc_aload_n C dX8_readsEar_154 rfl rfl ?_
          refine hc_getR C fl_X8_28 rfl rfl dX8_readsEar_155 ?_
          refine hc_iload_n C dX8_readsEar_158 rfl rfl ?_
          refine hc_iconst C dX8_readsEar_159 (v := 4) rfl ?_
          refine hc_iadd C dX8_readsEar_160 ?_
          refine hc_iload C dX8_readsEar_161 rfl ?_
          refine hc_iastN C (j := (rB7 c0 + 4)) rfl (show nI (rB7 c0) + nI 4 = nI (rB7 c0 + 4) from nI_add _ _) (by have := rB7_le c0; omega) dX8_readsEar_163 ?_
          refine hc_mem mG_55 ?_
          refine hc_aload_n C dX8_readsEar_164 rfl rfl ?_
          refine hc_getR C fl_X8_28 rfl rfl dX8_readsEar_165 ?_
          refine hc_iconst C dX8_readsEar_168 (v := 4) rfl ?_
          refine hc_dup2 C dX8_readsEar_169 rfl rfl ?_
          refine hc_ialdN C (j := 4) rfl rfl (by decide) dX8_readsEar_170 ?_
          refine hc_iconst C dX8_readsEar_171 (v := 1) rfl ?_
          refine hc_iadd C dX8_readsEar_172 ?_
          refine hc_iastN C (j := 4) rfl rfl (by decide) dX8_readsEar_173 ?_
          refine hc_mem mG_55 ?_
          refine hc_vret C rfl dX8_readsEar_174 ?_
          show mG M (rE8 (M 53) n c0 r g) (rE6 (M 53) n c0 r) = _
          unfold rE8 rE7
          rw [← hq6, ← hq5, ← hq4, ← hq3, ← hq2]
          first
            | rw [if_neg (show ¬ ¬ 0 ≤ q6.2.1 from hb_z.mp c_115)]
            | (rw [if_pos (show ¬ 0 ≤ q6.2.1 from hb_nz.mp c_115)]; rfl)
    · refine hc_aload_n C dX8_readsEar_45 rfl rfl ?_
      refine hc_getR C fl_X8_28 rfl rfl dX8_readsEar_46 ?_
      refine hc_iconst C dX8_readsEar_49 (v := 4) rfl ?_
      refine hc_ialdN C (j := 4) rfl rfl (by decide) dX8_readsEar_50 ?_
      refine hc_top (v := nI c0) hg ?_
      refine hc_goto C (tgt := 55) dX8_readsEar_51 (by decide) ?_
      refine hc_imul C dX8_readsEar_55 ?_
      refine hc_iadd C dX8_readsEar_56 ?_
      refine hc_top (v := nI (rB7 c0)) ?_ ?_
      · unfold rB7
        rcases Nat.lt_or_ge c0 6 with q | q
        · rw [if_pos q]
          first
            | exact absurd (show nI 6 ≤ nI c0 from c_42) (nI_ge q (by decide))
            | exact hx_670 c0
        · rw [if_neg (by omega)]
          first
            | exact absurd (show nI 6 ≤ nI c0 from nI_le q (by omega)) c_42
            | rfl
      refine hc_istore_n2 C dX8_readsEar_57 rfl (by decide) rfl ?_
      refine hc_aload_n C dX8_readsEar_58 rfl rfl ?_
      refine hc_iconst C dX8_readsEar_59 (v := 1) rfl ?_
      refine hc_bipush C dX8_readsEar_60 (v := 12) rfl ?_
      refine hc_cV2i C mv_X8_118 (c_X8_figure (M := hc_mf M 55 g) (n := n) (r := q1) C.ok hn hn1 hp1) rfl rfl rfl (Nat.le_of_ble_eq_true rfl) (hc_rr_rm (by decide)) ⟨Nat.zero_le _, Nat.zero_le _⟩ dX8_readsEar_62 (fun r_62 M_62 h_62 => ?_)
      obtain ⟨rfl, rfl⟩ := h_62
      obtain ⟨q2, hq2⟩ : ∃ q, q = rE2 (M 53) n c0 r := ⟨_, rfl⟩
      have e2 : rFg (M 53) n 1 12 q1 = q2 := by
        rw [hq2]
        unfold rE2
        rw [← hq1]
      have hp2 : q2.2.2.2.1 ≤ n := by
        rw [hq2]
        exact rE2_ps hps
      refine hc_mem (M2 := mG M g q2.2) (by rw [← e2]; rfl) ?_
      refine hc_top (v := q2.1) (by rw [← e2]; rfl) ?_
      refine hc_istore_n3 C dX8_readsEar_65 rfl (by decide) rfl ?_
      refine hc_aload_n C dX8_readsEar_66 rfl rfl ?_
      refine hc_iconst C dX8_readsEar_67 (v := 0) rfl ?_
      refine hc_iconst C dX8_readsEar_68 (v := 3) rfl ?_
      refine hc_cV2i C mv_X8_124 (c_X8_next (M := hc_mf M 55 g) (n := n) (r := q2.2) C.ok hn hn1 hp2) rfl rfl rfl (Nat.le_of_ble_eq_true rfl) (hc_rr_rm (by decide)) ⟨Nat.zero_le _, Nat.zero_le _⟩ dX8_readsEar_69 (fun r_69 M_69 h_69 => ?_)
      obtain ⟨rfl, rfl⟩ := h_69
      obtain ⟨q3, hq3⟩ : ∃ q, q = rE3 (M 53) n c0 r := ⟨_, rfl⟩
      have e3 : rNx (M 53) n 0 3 q2.2 = q3 := by
        rw [hq3]
        unfold rE3
        rw [← hq2]
      have hp3 : q3.2.2.2.1 ≤ n := by
        rw [hq3]
        exact rE3_ps hps
      refine hc_mem (M2 := mG M g q3.2) (by rw [← e3]; rfl) ?_
      refine hc_top (v := q3.1) (by rw [← e3]; rfl) ?_
      refine hc_istore4 C dX8_readsEar_72 (by decide) rfl ?_
      refine hc_aload_n C dX8_readsEar_74 rfl rfl ?_
      refine hc_iconst C dX8_readsEar_75 (v := 0) rfl ?_
      refine hc_bipush C dX8_readsEar_76 (v := 7) rfl ?_
      refine hc_cV2i C mv_X8_124 (c_X8_next (M := hc_mf M 55 g) (n := n) (r := q3.2) C.ok hn hn1 hp3) rfl rfl rfl (Nat.le_of_ble_eq_true rfl) (hc_rr_rm (by decide)) ⟨Nat.zero_le _, Nat.zero_le _⟩ dX8_readsEar_78 (fun r_78 M_78 h_78 => ?_)
      obtain ⟨rfl, rfl⟩ := h_78
      obtain ⟨q4, hq4⟩ : ∃ q, q = rE4 (M 53) n c0 r := ⟨_, rfl⟩
      have e4 : rNx (M 53) n 0 7 q3.2 = q4 := by
        rw [hq4]
        unfold rE4
        rw [← hq3]
      have hp4 : q4.2.2.2.1 ≤ n := by
        rw [hq4]
        exact rE4_ps hps
      refine hc_mem (M2 := mG M g q4.2) (by rw [← e4]; rfl) ?_
      refine hc_top (v := q4.1) (by rw [← e4]; rfl) ?_
      refine hc_istore5 C dX8_readsEar_81 (by decide) rfl ?_
      refine hc_aload_n C dX8_readsEar_83 rfl rfl ?_
      refine hc_iconst C dX8_readsEar_84 (v := 1) rfl ?_
      refine hc_bipush C dX8_readsEar_85 (v := 8) rfl ?_
      refine hc_cV2i C mv_X8_124 (c_X8_next (M := hc_mf M 55 g) (n := n) (r := q4.2) C.ok hn hn1 hp4) rfl rfl rfl (Nat.le_of_ble_eq_true rfl) (hc_rr_rm (by decide)) ⟨Nat.zero_le _, Nat.zero_le _⟩ dX8_readsEar_87 (fun r_87 M_87 h_87 => ?_)
      obtain ⟨rfl, rfl⟩ := h_87
      obtain ⟨q5, hq5⟩ : ∃ q, q = rE5 (M 53) n c0 r := ⟨_, rfl⟩
      have e5 : rNx (M 53) n 1 8 q4.2 = q5 := by
        rw [hq5]
        unfold rE5
        rw [← hq4]
      have hp5 : q5.2.2.2.1 ≤ n := by
        rw [hq5]
        exact rE5_ps hps
      refine hc_mem (M2 := mG M g q5.2) (by rw [← e5]; rfl) ?_
      refine hc_top (v := q5.1) (by rw [← e5]; rfl) ?_
      refine hc_istore6 C dX8_readsEar_90 (by decide) rfl ?_
      refine hc_aload_n C dX8_readsEar_92 rfl rfl ?_
      refine hc_aload_n C dX8_readsEar_93 rfl rfl ?_
      refine hc_getI C fl_X8_98 rfl rfl dX8_readsEar_94 ?_
      refine hc_top (v := q5.2.2.2.2.2.1) rfl ?_
      refine hc_iconst C dX8_readsEar_97 (v := 4) rfl ?_
      refine hc_icmp_ne C (tgt := 105) dX8_readsEar_98 (by decide) (fun c_98 => ?_) (fun c_98 => ?_)
      · refine hc_iconst C dX8_readsEar_105 (v := 0) rfl ?_
        refine hc_top (v := hb (q5.2.2.2.2.2.1 = 4)) ?_ ?_
        · symm
          first | exact hb_t c_98 | exact hb_f c_98
        refine hc_iconst C dX8_readsEar_106 (v := 1) rfl ?_
        refine hc_cV2i C mv_X8_114 (c_X8_takes (M := hc_mf M 55 g) (n := n) (r := q5.2) C.ok hn hn1 hp5) rfl rfl rfl (Nat.le_of_ble_eq_true rfl) (hc_rr_rm (by decide)) ⟨Nat.zero_le _, Nat.zero_le _⟩ dX8_readsEar_107 (fun r_107 M_107 h_107 => ?_)
        obtain ⟨rfl, rfl⟩ := h_107
        obtain ⟨q6, hq6⟩ : ∃ q, q = rE6 (M 53) n c0 r := ⟨_, rfl⟩
        have e6 : (rTk (M 53) n (hb (q5.2.2.2.2.2.1 = 4)) 1 q5.2).2 = q6 := by
          rw [hq6]
          unfold rE6
          rw [← hq5]
        refine hc_mem (M2 := mG M g q6) (by rw [← e6]; rfl) ?_
        refine hc_pop C dX8_readsEar_110 rfl ?_
        refine hc_aload_n C dX8_readsEar_111 rfl rfl ?_
        refine hc_cV0i C mv_X8_104 (c_X8_isWell C.ok) rfl rfl rfl (Nat.le_of_ble_eq_true rfl) (hc_rr_rm (by decide)) ⟨Nat.zero_le _, Nat.zero_le _⟩ dX8_readsEar_112 (fun r_112 M_112 h_112 => ?_)
        obtain ⟨rfl, rfl⟩ := h_112
        refine hc_if_eq C (tgt := 174) dX8_readsEar_115 (by decide) (fun c_115 => ?_) (fun c_115 => ?_)
        · refine hc_vret C rfl dX8_readsEar_174 ?_
          show mG M (rE8 (M 53) n c0 r g) (rE6 (M 53) n c0 r) = _
          unfold rE8 rE7
          rw [← hq6, ← hq5, ← hq4, ← hq3, ← hq2]
          first
            | rw [if_neg (show ¬ ¬ 0 ≤ q6.2.1 from hb_z.mp c_115)]
            | (rw [if_pos (show ¬ 0 ≤ q6.2.1 from hb_nz.mp c_115)]; rfl)
        · refine hc_aload_n C dX8_readsEar_118 rfl rfl ?_
          refine hc_getR C fl_X8_28 rfl rfl dX8_readsEar_119 ?_
          refine hc_iload_n C dX8_readsEar_122 rfl rfl ?_
          refine hc_iload_n C dX8_readsEar_123 rfl rfl ?_
          refine hc_iastN C (j := (rB7 c0)) rfl rfl (by have := rB7_le c0; omega) dX8_readsEar_124 ?_
          refine hc_mem mG_55 ?_
          refine hc_aload_n C dX8_readsEar_125 rfl rfl ?_
          refine hc_getR C fl_X8_28 rfl rfl dX8_readsEar_126 ?_
          refine hc_iload_n C dX8_readsEar_129 rfl rfl ?_
          refine hc_iconst C dX8_readsEar_130 (v := 1) rfl ?_
          refine hc_iadd C dX8_readsEar_131 ?_
          refine hc_iload_n C dX8_readsEar_132 rfl rfl ?_
          refine hc_iastN C (j := (rB7 c0 + 1)) rfl (show nI (rB7 c0) + nI 1 = nI (rB7 c0 + 1) from nI_add _ _) (by have := rB7_le c0; omega) dX8_readsEar_133 ?_
          refine hc_mem mG_55 ?_
          refine hc_aload_n C dX8_readsEar_134 rfl rfl ?_
          refine hc_getR C fl_X8_28 rfl rfl dX8_readsEar_135 ?_
          refine hc_iload_n C dX8_readsEar_138 rfl rfl ?_
          refine hc_iconst C dX8_readsEar_139 (v := 2) rfl ?_
          refine hc_iadd C dX8_readsEar_140 ?_
          refine hc_iload C dX8_readsEar_141 rfl ?_
          refine hc_iastN C (j := (rB7 c0 + 2)) rfl (show nI (rB7 c0) + nI 2 = nI (rB7 c0 + 2) from nI_add _ _) (by have := rB7_le c0; omega) dX8_readsEar_143 ?_
          refine hc_mem mG_55 ?_
          refine hc_aload_n C dX8_readsEar_144 rfl rfl ?_
          refine hc_getR C fl_X8_28 rfl rfl dX8_readsEar_145 ?_
          refine hc_iload_n C dX8_readsEar_148 rfl rfl ?_
          refine hc_iconst C dX8_readsEar_149 (v := 3) rfl ?_
          refine hc_iadd C dX8_readsEar_150 ?_
          refine hc_iload C dX8_readsEar_151 rfl ?_
          refine hc_iastN C (j := (rB7 c0 + 3)) rfl (show nI (rB7 c0) + nI 3 = nI (rB7 c0 + 3) from nI_add _ _) (by have := rB7_le c0; omega) dX8_readsEar_153 ?_
          refine hc_mem mG_55 ?_
          refine hc_aload_n C dX8_readsEar_154 rfl rfl ?_
          refine hc_getR C fl_X8_28 rfl rfl dX8_readsEar_155 ?_
          refine hc_iload_n C dX8_readsEar_158 rfl rfl ?_
          refine hc_iconst C dX8_readsEar_159 (v := 4) rfl ?_
          refine hc_iadd C dX8_readsEar_160 ?_
          refine hc_iload C dX8_readsEar_161 rfl ?_
          refine hc_iastN C (j := (rB7 c0 + 4)) rfl (show nI (rB7 c0) + nI 4 = nI (rB7 c0 + 4) from nI_add _ _) (by have := rB7_le c0; omega) dX8_readsEar_163 ?_
          refine hc_mem mG_55 ?_
          refine hc_aload_n C dX8_readsEar_164 rfl rfl ?_
          refine hc_getR C fl_X8_28 rfl rfl dX8_readsEar_165 ?_
          refine hc_iconst C dX8_readsEar_168 (v := 4) rfl ?_
          refine hc_dup2 C dX8_readsEar_169 rfl rfl ?_
          refine hc_ialdN C (j := 4) rfl rfl (by decide) dX8_readsEar_170 ?_
          refine hc_iconst C dX8_readsEar_171 (v := 1) rfl ?_
          refine hc_iadd C dX8_readsEar_172 ?_
          refine hc_iastN C (j := 4) rfl rfl (by decide) dX8_readsEar_173 ?_
          refine hc_mem mG_55 ?_
          refine hc_vret C rfl dX8_readsEar_174 ?_
          show mG M (rE8 (M 53) n c0 r g) (rE6 (M 53) n c0 r) = _
          unfold rE8 rE7
          rw [← hq6, ← hq5, ← hq4, ← hq3, ← hq2]
          first
            | rw [if_neg (show ¬ ¬ 0 ≤ q6.2.1 from hb_z.mp c_115)]
            | (rw [if_pos (show ¬ 0 ≤ q6.2.1 from hb_nz.mp c_115)]; rfl)
      · refine hc_iconst C dX8_readsEar_101 (v := 1) rfl ?_
        refine hc_goto C (tgt := 106) dX8_readsEar_102 (by decide) ?_
        refine hc_top (v := hb (q5.2.2.2.2.2.1 = 4)) ?_ ?_
        · symm
          first | exact hb_t c_98 | exact hb_f c_98
        refine hc_iconst C dX8_readsEar_106 (v := 1) rfl ?_
        refine hc_cV2i C mv_X8_114 (c_X8_takes (M := hc_mf M 55 g) (n := n) (r := q5.2) C.ok hn hn1 hp5) rfl rfl rfl (Nat.le_of_ble_eq_true rfl) (hc_rr_rm (by decide)) ⟨Nat.zero_le _, Nat.zero_le _⟩ dX8_readsEar_107 (fun r_107 M_107 h_107 => ?_)
        obtain ⟨rfl, rfl⟩ := h_107
        obtain ⟨q6, hq6⟩ : ∃ q, q = rE6 (M 53) n c0 r := ⟨_, rfl⟩
        have e6 : (rTk (M 53) n (hb (q5.2.2.2.2.2.1 = 4)) 1 q5.2).2 = q6 := by
          rw [hq6]
          unfold rE6
          rw [← hq5]
        refine hc_mem (M2 := mG M g q6) (by rw [← e6]; rfl) ?_
        refine hc_pop C dX8_readsEar_110 rfl ?_
        refine hc_aload_n C dX8_readsEar_111 rfl rfl ?_
        refine hc_cV0i C mv_X8_104 (c_X8_isWell C.ok) rfl rfl rfl (Nat.le_of_ble_eq_true rfl) (hc_rr_rm (by decide)) ⟨Nat.zero_le _, Nat.zero_le _⟩ dX8_readsEar_112 (fun r_112 M_112 h_112 => ?_)
        obtain ⟨rfl, rfl⟩ := h_112
        refine hc_if_eq C (tgt := 174) dX8_readsEar_115 (by decide) (fun c_115 => ?_) (fun c_115 => ?_)
        · refine hc_vret C rfl dX8_readsEar_174 ?_
          show mG M (rE8 (M 53) n c0 r g) (rE6 (M 53) n c0 r) = _
          unfold rE8 rE7
          rw [← hq6, ← hq5, ← hq4, ← hq3, ← hq2]
          first
            | rw [if_neg (show ¬ ¬ 0 ≤ q6.2.1 from hb_z.mp c_115)]
            | (rw [if_pos (show ¬ 0 ≤ q6.2.1 from hb_nz.mp c_115)]; rfl)
        · refine hc_aload_n C dX8_readsEar_118 rfl rfl ?_
          refine hc_getR C fl_X8_28 rfl rfl dX8_readsEar_119 ?_
          refine hc_iload_n C dX8_readsEar_122 rfl rfl ?_
          refine hc_iload_n C dX8_readsEar_123 rfl rfl ?_
          refine hc_iastN C (j := (rB7 c0)) rfl rfl (by have := rB7_le c0; omega) dX8_readsEar_124 ?_
          refine hc_mem mG_55 ?_
          refine hc_aload_n C dX8_readsEar_125 rfl rfl ?_
          refine hc_getR C fl_X8_28 rfl rfl dX8_readsEar_126 ?_
          refine hc_iload_n C dX8_readsEar_129 rfl rfl ?_
          refine hc_iconst C dX8_readsEar_130 (v := 1) rfl ?_
          refine hc_iadd C dX8_readsEar_131 ?_
          refine hc_iload_n C dX8_readsEar_132 rfl rfl ?_
          refine hc_iastN C (j := (rB7 c0 + 1)) rfl (show nI (rB7 c0) + nI 1 = nI (rB7 c0 + 1) from nI_add _ _) (by have := rB7_le c0; omega) dX8_readsEar_133 ?_
          refine hc_mem mG_55 ?_
          refine hc_aload_n C dX8_readsEar_134 rfl rfl ?_
          refine hc_getR C fl_X8_28 rfl rfl dX8_readsEar_135 ?_
          refine hc_iload_n C dX8_readsEar_138 rfl rfl ?_
          refine hc_iconst C dX8_readsEar_139 (v := 2) rfl ?_
          refine hc_iadd C dX8_readsEar_140 ?_
          refine hc_iload C dX8_readsEar_141 rfl ?_
          refine hc_iastN C (j := (rB7 c0 + 2)) rfl (show nI (rB7 c0) + nI 2 = nI (rB7 c0 + 2) from nI_add _ _) (by have := rB7_le c0; omega) dX8_readsEar_143 ?_
          refine hc_mem mG_55 ?_
          refine hc_aload_n C dX8_readsEar_144 rfl rfl ?_
          refine hc_getR C fl_X8_28 rfl rfl dX8_readsEar_145 ?_
          refine hc_iload_n C dX8_readsEar_148 rfl rfl ?_
          refine hc_iconst C dX8_readsEar_149 (v := 3) rfl ?_
          refine hc_iadd C dX8_readsEar_150 ?_
          refine hc_iload C dX8_readsEar_151 rfl ?_
          refine hc_iastN C (j := (rB7 c0 + 3)) rfl (show nI (rB7 c0) + nI 3 = nI (rB7 c0 + 3) from nI_add _ _) (by have := rB7_le c0; omega) dX8_readsEar_153 ?_
          refine hc_mem mG_55 ?_
          refine hc_aload_n C dX8_readsEar_154 rfl rfl ?_
          refine hc_getR C fl_X8_28 rfl rfl dX8_readsEar_155 ?_
          refine hc_iload_n C dX8_readsEar_158 rfl rfl ?_
          refine hc_iconst C dX8_readsEar_159 (v := 4) rfl ?_
          refine hc_iadd C dX8_readsEar_160 ?_
          refine hc_iload C dX8_readsEar_161 rfl ?_
          refine hc_iastN C (j := (rB7 c0 + 4)) rfl (show nI (rB7 c0) + nI 4 = nI (rB7 c0 + 4) from nI_add _ _) (by have := rB7_le c0; omega) dX8_readsEar_163 ?_
          refine hc_mem mG_55 ?_
          refine hc_aload_n C dX8_readsEar_164 rfl rfl ?_
          refine hc_getR C fl_X8_28 rfl rfl dX8_readsEar_165 ?_
          refine hc_iconst C dX8_readsEar_168 (v := 4) rfl ?_
          refine hc_dup2 C dX8_readsEar_169 rfl rfl ?_
          refine hc_ialdN C (j := 4) rfl rfl (by decide) dX8_readsEar_170 ?_
          refine hc_iconst C dX8_readsEar_171 (v := 1) rfl ?_
          refine hc_iadd C dX8_readsEar_172 ?_
          refine hc_iastN C (j := 4) rfl rfl (by decide) dX8_readsEar_173 ?_
          refine hc_mem mG_55 ?_
          refine hc_vret C rfl dX8_readsEar_174 ?_
          show mG M (rE8 (M 53) n c0 r g) (rE6 (M 53) n c0 r) = _
          unfold rE8 rE7
          rw [← hq6, ← hq5, ← hq4, ← hq3, ← hq2]
          first
            | rw [if_neg (show ¬ ¬ 0 ≤ q6.2.1 from hb_z.mp c_115)]
            | (rw [if_pos (show ¬ 0 ≤ q6.2.1 from hb_nz.mp c_115)]; rfl)
