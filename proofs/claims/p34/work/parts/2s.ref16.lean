def rB5 (c : Nat) : Nat := 48 + 5 * (if c < 4 then c else 0)
theorem rB5_le (c : Nat) : rB5 c ≤ 63 := by unfold rB5; split <;> omega
def rD1 (T : Nat → Int32) (n c : Nat) (r : rPs) : rPs := (rTk T n (hb (¬ 4 ≤ nI c)) 3 r).2
def rD2 (T : Nat → Int32) (n c : Nat) (r : rPs) : Int32 × rPs := rFg T n 0 99 (rD1 T n c r)
def rD3 (T : Nat → Int32) (n c : Nat) (r : rPs) : Int32 × rPs := rNx T n 1 40 (rD2 T n c r).2
def rD4 (T : Nat → Int32) (n c : Nat) (r : rPs) : Int32 × rPs := rNx T n 0 99 (rD3 T n c r).2
def rD5 (T : Nat → Int32) (n c : Nat) (r : rPs) : rPs := (rTk T n (hb ((rD4 T n c r).2.2.2.2.2.1 = 4)) 1 (rD4 T n c r).2).2
theorem rD1_ps {T : Nat → Int32} {n c : Nat} {r : rPs} (h : r.2.2.1 ≤ n) : (rD1 T n c r).2.2.1 ≤ n := by
  unfold rD1
  exact rTk_ps h
theorem rD2_ps {T : Nat → Int32} {n c : Nat} {r : rPs} (h : r.2.2.1 ≤ n) : (rD2 T n c r).2.2.2.1 ≤ n := by
  unfold rD2
  exact rFg_ps (rD1_ps h)
theorem rD3_ps {T : Nat → Int32} {n c : Nat} {r : rPs} (h : r.2.2.1 ≤ n) : (rD3 T n c r).2.2.2.1 ≤ n := by
  unfold rD3
  exact rNx_ps (rD2_ps h)
theorem rD4_ps {T : Nat → Int32} {n c : Nat} {r : rPs} (h : r.2.2.1 ≤ n) : (rD4 T n c r).2.2.2.1 ≤ n := by
  unfold rD4
  exact rNx_ps (rD3_ps h)
theorem rD5_ps {T : Nat → Int32} {n c : Nat} {r : rPs} (h : r.2.2.1 ≤ n) : (rD5 T n c r).2.2.1 ≤ n := by
  unfold rD5
  exact rTk_ps (rD4_ps h)
theorem rE6_ps {T : Nat → Int32} {n c : Nat} {r : rPs} (h : r.2.2.1 ≤ n) : (rE6 T n c r).2.2.1 ≤ n := by
  unfold rE6
  exact rTk_ps (rE5_ps h)
def rD7 (T : Nat → Int32) (n c : Nat) (r : rPs) (g : Nat → Int32) : Nat → Int32 := upd (upd (upd (upd (upd g (rB5 c + 0) (rD2 T n c r).1) (rB5 c + 1) (rD3 T n c r).1) (rB5 c + 2) (rD4 T n c r).1) (rB5 c + 3) (if (rD2 T n c r).1 = 0 then 0 else -1000000)) (rB5 c + 4) (-1000000)
def rD8 (T : Nat → Int32) (n c : Nat) (r : rPs) (g : Nat → Int32) : Nat → Int32 := if ¬ 0 ≤ (rD5 T n c r).2.1 then upd (rD7 T n c r g) 5 (rD7 T n c r g 5 + 1) else g

set_option maxRecDepth 100000 in
set_option maxHeartbeats 4000000 in
theorem c_X8_readsDoing {l : Launch} {G : hc_Geo} (hG : hc_ok G) {M : hc_Mem} {n c0 : Nat} {r : rPs} {g : Nat → Int32}  (hn : M 48 6 = nI n) (hn1 : n ≤ 120) (hps : r.2.2.1 ≤ n) (hg : g 5 = nI c0) (hc6 : c0 ≤ 4) : hc_M l G yX8_readsDoing cX8_readsDoing 5 none 6 [.ref (hc_ad G 48)] (mG M g r) (hc_pv (fun M' => mG M (rD8 (M 53) n c0 r g) (rD5 (M 53) n c0 r) = M')) := by
  refine hc_M.of hG (by decide) [some (.ref (hc_ad G 48)), none, none, none, none] rfl (Nat.le_of_ble_eq_true rfl) ?_
  intro p e s m args below meth c C
  refine hc_aload_n C dX8_readsDoing_0 rfl rfl ?_
  refine hc_aload_n C dX8_readsDoing_1 rfl rfl ?_
  refine hc_getR C fl_X8_28 rfl rfl dX8_readsDoing_2 ?_
  refine hc_iconst C dX8_readsDoing_5 (v := 5) rfl ?_
  refine hc_ialdN C (j := 5) rfl rfl (by decide) dX8_readsDoing_6 ?_
  refine hc_top (v := nI c0) hg ?_
  refine hc_iconst C dX8_readsDoing_7 (v := 4) rfl ?_
  refine hc_icmp_ge C (tgt := 15) dX8_readsDoing_8 (by decide) (fun c_8 => ?_) (fun c_8 => ?_)
  · refine hc_iconst C dX8_readsDoing_15 (v := 0) rfl ?_
    refine hc_top (v := hb (¬ 4 ≤ nI c0)) ?_ ?_
    · symm
      first
        | (refine hb_f (fun w => absurd ?_ w); exact c_8)
        | exact hb_t c_8
    refine hc_iconst C dX8_readsDoing_16 (v := 3) rfl ?_
    refine hc_cV2i C mv_X8_114 (c_X8_takes (M := hc_mf M 55 g) (n := n) (r := r) C.ok hn hn1 hps) rfl rfl rfl (Nat.le_of_ble_eq_true rfl) (hc_rr_rm (by decide)) ⟨Nat.zero_le _, Nat.zero_le _⟩ dX8_readsDoing_17 (fun r_17 M_17 h_17 => ?_)
    obtain ⟨rfl, rfl⟩ := h_17
    obtain ⟨q1, hq1⟩ : ∃ q, q = rD1 (M 53) n c0 r := ⟨_, rfl⟩
    have e1 : (rTk (M 53) n (hb (¬ 4 ≤ nI c0)) 3 r).2 = q1 := by
      rw [hq1]
      unfold rD1
      rfl
    have hp1 : q1.2.2.1 ≤ n := by
      rw [hq1]
      exact rD1_ps hps
    refine hc_mem (M2 := mG M g q1) (by rw [← e1]; rfl) ?_
    refine hc_pop C dX8_readsDoing_20 rfl ?_
    refine hc_bipush C dX8_readsDoing_21 (v := 48) rfl ?_
    refine hc_iconst C dX8_readsDoing_23 (v := 5) rfl ?_
    refine hc_aload_n C dX8_readsDoing_24 rfl rfl ?_
    refine hc_getR C fl_X8_28 rfl rfl dX8_readsDoing_25 ?_
    refine hc_iconst C dX8_readsDoing_28 (v := 5) rfl ?_
    refine hc_ialdN C (j := 5) rfl rfl (by decide) dX8_readsDoing_29 ?_
    refine hc_top (v := nI c0) hg ?_
    refine hc_iconst C dX8_readsDoing_30 (v := 4) rfl ?_
    refine hc_icmp_ge C (tgt := 43) dX8_readsDoing_31 (by decide) (fun c_31 => ?_) (fun c_31 => ?_)
    · refine hc_iconst C dX8_readsDoing_43 (v := 0) rfl ?_
      refine hc_imul C dX8_readsDoing_44 ?_
      refine hc_iadd C dX8_readsDoing_45 ?_
      refine hc_top (v := nI (rB5 c0)) ?_ ?_
      · unfold rB5
        rcases Nat.lt_or_ge c0 4 with q | q
        · rw [if_pos q]
          first
            | exact absurd (show nI 4 ≤ nI c0 from c_31) (nI_ge q (by decide))
            | exact hx_50 c0
        · rw [if_neg (by omega)]
          first
            | exact absurd (show nI 4 ≤ nI c0 from nI_le q (by omega)) c_31
            | rfl
      refine hc_istore_n1 C dX8_readsDoing_46 rfl (by decide) rfl ?_
      refine hc_aload_n C dX8_readsDoing_47 rfl rfl ?_
      refine hc_iconst C dX8_readsDoing_48 (v := 0) rfl ?_
      refine hc_bipush C dX8_readsDoing_49 (v := 99) rfl ?_
      refine hc_cV2i C mv_X8_118 (c_X8_figure (M := hc_mf M 55 g) (n := n) (r := q1) C.ok hn hn1 hp1) rfl rfl rfl (Nat.le_of_ble_eq_true rfl) (hc_rr_rm (by decide)) ⟨Nat.zero_le _, Nat.zero_le _⟩ dX8_readsDoing_51 (fun r_51 M_51 h_51 => ?_)
      obtain ⟨rfl, rfl⟩ := h_51
      obtain ⟨q2, hq2⟩ : ∃ q, q = rD2 (M 53) n c0 r := ⟨_, rfl⟩
      have e2 : rFg (M 53) n 0 99 q1 = q2 := by
        rw [hq2]
        unfold rD2
        rw [← hq1]
      have hp2 : q2.2.2.2.1 ≤ n := by
        rw [hq2]
        exact rD2_ps hps
      refine hc_mem (M2 := mG M g q2.2) (by rw [← e2]; rfl) ?_
      refine hc_top (v := q2.1) (by rw [← e2]; rfl) ?_
      refine hc_istore_n2 C dX8_readsDoing_54 rfl (by decide) rfl ?_
      refine hc_aload_n C dX8_readsDoing_55 rfl rfl ?_
      refine hc_iconst C dX8_readsDoing_56 (v := 1) rfl ?_
      refine hc_bipush C dX8_readsDoing_57 (v := 40) rfl ?_
      refine hc_cV2i C mv_X8_124 (c_X8_next (M := hc_mf M 55 g) (n := n) (r := q2.2) C.ok hn hn1 hp2) rfl rfl rfl (Nat.le_of_ble_eq_true rfl) (hc_rr_rm (by decide)) ⟨Nat.zero_le _, Nat.zero_le _⟩ dX8_readsDoing_59 (fun r_59 M_59 h_59 => ?_)
      obtain ⟨rfl, rfl⟩ := h_59
      obtain ⟨q3, hq3⟩ : ∃ q, q = rD3 (M 53) n c0 r := ⟨_, rfl⟩
      have e3 : rNx (M 53) n 1 40 q2.2 = q3 := by
        rw [hq3]
        unfold rD3
        rw [← hq2]
      have hp3 : q3.2.2.2.1 ≤ n := by
        rw [hq3]
        exact rD3_ps hps
      refine hc_mem (M2 := mG M g q3.2) (by rw [← e3]; rfl) ?_
      refine hc_top (v := q3.1) (by rw [← e3]; rfl) ?_
      refine hc_istore_n3 C dX8_readsDoing_62 rfl (by decide) rfl ?_
      refine hc_aload_n C dX8_readsDoing_63 rfl rfl ?_
      refine hc_iconst C dX8_readsDoing_64 (v := 0) rfl ?_
      refine hc_bipush C dX8_readsDoing_65 (v := 99) rfl ?_
      refine hc_cV2i C mv_X8_124 (c_X8_next (M := hc_mf M 55 g) (n := n) (r := q3.2) C.ok hn hn1 hp3) rfl rfl rfl (Nat.le_of_ble_eq_true rfl) (hc_rr_rm (by decide)) ⟨Nat.zero_le _, Nat.zero_le _⟩ dX8_readsDoing_67 (fun r_67 M_67 h_67 => ?_)
      obtain ⟨rfl, rfl⟩ := h_67
      obtain ⟨q4, hq4⟩ : ∃ q, q = rD4 (M 53) n c0 r := ⟨_, rfl⟩
      have e4 : rNx (M 53) n 0 99 q3.2 = q4 := by
        rw [hq4]
        unfold rD4
        rw [← hq3]
      have hp4 : q4.2.2.2.1 ≤ n := by
        rw [hq4]
        exact rD4_ps hps
      refine hc_mem (M2 := mG M g q4.2) (by rw [← e4]; rfl) ?_
      refine hc_top (v := q4.1) (by rw [← e4]; rfl) ?_
      refine hc_istore4 C dX8_readsDoing_70 (by decide) rfl ?_
      refine hc_aload_n C dX8_readsDoing_72 rfl rfl ?_
      refine hc_aload_n C dX8_readsDoing_73 rfl rfl ?_
      refine hc_getI C fl_X8_98 rfl rfl dX8_readsDoing_74 ?_
      refine hc_top (v := q4.2.2.2.2.2.1) rfl ?_
      refine hc_iconst C dX8_readsDoing_77 (v := 4) rfl ?_
      refine hc_icmp_ne C (tgt := 85) dX8_readsDoing_78 (by decide) (fun c_78 => ?_) (fun c_78 => ?_)
      · refine hc_iconst C dX8_readsDoing_85 (v := 0) rfl ?_
        refine hc_top (v := hb (q4.2.2.2.2.2.1 = 4)) ?_ ?_
        · symm
          first | exact hb_t c_78 | exact hb_f c_78
        refine hc_iconst C dX8_readsDoing_86 (v := 1) rfl ?_
        refine hc_cV2i C mv_X8_114 (c_X8_takes (M := hc_mf M 55 g) (n := n) (r := q4.2) C.ok hn hn1 hp4) rfl rfl rfl (Nat.le_of_ble_eq_true rfl) (hc_rr_rm (by decide)) ⟨Nat.zero_le _, Nat.zero_le _⟩ dX8_readsDoing_87 (fun r_87 M_87 h_87 => ?_)
        obtain ⟨rfl, rfl⟩ := h_87
        obtain ⟨q5, hq5⟩ : ∃ q, q = rD5 (M 53) n c0 r := ⟨_, rfl⟩
        have e5 : (rTk (M 53) n (hb (q4.2.2.2.2.2.1 = 4)) 1 q4.2).2 = q5 := by
          rw [hq5]
          unfold rD5
          rw [← hq4]
        have hp5 : q5.2.2.1 ≤ n := by
          rw [hq5]
          exact rD5_ps hps
        refine hc_mem (M2 := mG M g q5) (by rw [← e5]; rfl) ?_
        refine hc_pop C dX8_readsDoing_90 rfl ?_
        refine hc_aload_n C dX8_readsDoing_91 rfl rfl ?_
        refine hc_cV0i C mv_X8_104 (c_X8_isWell C.ok) rfl rfl rfl (Nat.le_of_ble_eq_true rfl) (hc_rr_rm (by decide)) ⟨Nat.zero_le _, Nat.zero_le _⟩ dX8_readsDoing_92 (fun r_92 M_92 h_92 => ?_)
        obtain ⟨rfl, rfl⟩ := h_92
        refine hc_if_eq C (tgt := 164) dX8_readsDoing_95 (by decide) (fun c_95 => ?_) (fun c_95 => ?_)
        · refine hc_vret C rfl dX8_readsDoing_164 ?_
          show mG M (rD8 (M 53) n c0 r g) (rD5 (M 53) n c0 r) = _
          unfold rD8 rD7
          rw [← hq5, ← hq4, ← hq3, ← hq2]
          first
            | rw [if_neg (show ¬ ¬ 0 ≤ q5.2.1 from hb_z.mp c_95)]
            | (rw [if_pos (show ¬ 0 ≤ q5.2.1 from hb_nz.mp c_95)]; rfl)
        · refine hc_aload_n C dX8_readsDoing_98 rfl rfl ?_
          refine hc_getR C fl_X8_28 rfl rfl dX8_readsDoing_99 ?_
          refine hc_iload_n C dX8_readsDoing_102 rfl rfl ?_
          refine hc_iconst C dX8_readsDoing_103 (v := 0) rfl ?_
          refine hc_iadd C dX8_readsDoing_104 ?_
          refine hc_iload_n C dX8_readsDoing_105 rfl rfl ?_
          refine hc_iastN C (j := (rB5 c0 + 0)) rfl (show nI (rB5 c0) + nI 0 = nI (rB5 c0 + 0) from nI_add _ _) (by have := rB5_le c0; omega) dX8_readsDoing_106 ?_
          refine hc_mem mG_55 ?_
          refine hc_aload_n C dX8_readsDoing_107 rfl rfl ?_
          refine hc_getR C fl_X8_28 rfl rfl dX8_readsDoing_108 ?_
          refine hc_iload_n C dX8_readsDoing_111 rfl rfl ?_
          refine hc_iconst C dX8_readsDoing_112 (v := 1) rfl ?_
          refine hc_iadd C dX8_readsDoing_113 ?_
          refine hc_iload_n C dX8_readsDoing_114 rfl rfl ?_
          refine hc_iastN C (j := (rB5 c0 + 1)) rfl (show nI (rB5 c0) + nI 1 = nI (rB5 c0 + 1) from nI_add _ _) (by have := rB5_le c0; omega) dX8_readsDoing_115 ?_
          refine hc_mem mG_55 ?_
          refine hc_aload_n C dX8_readsDoing_116 rfl rfl ?_
          refine hc_getR C fl_X8_28 rfl rfl dX8_readsDoing_117 ?_
          refine hc_iload_n C dX8_readsDoing_120 rfl rfl ?_
          refine hc_iconst C dX8_readsDoing_121 (v := 2) rfl ?_
          refine hc_iadd C dX8_readsDoing_122 ?_
          refine hc_iload C dX8_readsDoing_123 rfl ?_
          refine hc_iastN C (j := (rB5 c0 + 2)) rfl (show nI (rB5 c0) + nI 2 = nI (rB5 c0 + 2) from nI_add _ _) (by have := rB5_le c0; omega) dX8_readsDoing_125 ?_
          refine hc_mem mG_55 ?_
          refine hc_aload_n C dX8_readsDoing_126 rfl rfl ?_
          refine hc_getR C fl_X8_28 rfl rfl dX8_readsDoing_127 ?_
          refine hc_iload_n C dX8_readsDoing_130 rfl rfl ?_
          refine hc_iconst C dX8_readsDoing_131 (v := 3) rfl ?_
          refine hc_iadd C dX8_readsDoing_132 ?_
          refine hc_iload_n C dX8_readsDoing_133 rfl rfl ?_
          refine hc_if_ne C (tgt := 141) dX8_readsDoing_134 (by decide) (fun c_134 => ?_) (fun c_134 => ?_)
          · refine hc_ldc C kc_X8_50 dX8_readsDoing_141 ?_
            refine hc_top (v := if q2.1 = 0 then 0 else -1000000) ?_ ?_
            · symm
              first | exact if_pos c_134 | exact if_neg c_134
            refine hc_iastN C (j := (rB5 c0 + 3)) rfl (show nI (rB5 c0) + nI 3 = nI (rB5 c0 + 3) from nI_add _ _) (by have := rB5_le c0; omega) dX8_readsDoing_143 ?_
            refine hc_mem mG_55 ?_
            refine hc_aload_n C dX8_readsDoing_144 rfl rfl ?_
            refine hc_getR C fl_X8_28 rfl rfl dX8_readsDoing_145 ?_
            refine hc_iload_n C dX8_readsDoing_148 rfl rfl ?_
            refine hc_iconst C dX8_readsDoing_149 (v := 4) rfl ?_
            refine hc_iadd C dX8_readsDoing_150 ?_
            refine hc_ldc C kc_X8_50 dX8_readsDoing_151 ?_
            refine hc_iastN C (j := (rB5 c0 + 4)) rfl (show nI (rB5 c0) + nI 4 = nI (rB5 c0 + 4) from nI_add _ _) (by have := rB5_le c0; omega) dX8_readsDoing_153 ?_
            refine hc_mem mG_55 ?_
            refine hc_aload_n C dX8_readsDoing_154 rfl rfl ?_
            refine hc_getR C fl_X8_28 rfl rfl dX8_readsDoing_155 ?_
            refine hc_iconst C dX8_readsDoing_158 (v := 5) rfl ?_
            refine hc_dup2 C dX8_readsDoing_159 rfl rfl ?_
            refine hc_ialdN C (j := 5) rfl rfl (by decide) dX8_readsDoing_160 ?_
            refine hc_iconst C dX8_readsDoing_161 (v := 1) rfl ?_
            refine hc_iadd C dX8_readsDoing_162 ?_
            refine hc_iastN C (j := 5) rfl rfl (by decide) dX8_readsDoing_163 ?_
            refine hc_mem mG_55 ?_
            refine hc_vret C rfl dX8_readsDoing_164 ?_
            show mG M (rD8 (M 53) n c0 r g) (rD5 (M 53) n c0 r) = _
            unfold rD8 rD7
            rw [← hq5, ← hq4, ← hq3, ← hq2]
            first
              | rw [if_neg (show ¬ ¬ 0 ≤ q5.2.1 from hb_z.mp c_95)]
              | (rw [if_pos (show ¬ 0 ≤ q5.2.1 from hb_nz.mp c_95)]; rfl)
          · refine hc_iconst C dX8_readsDoing_137 (v := 0) rfl ?_
            refine hc_goto C (tgt := 143) dX8_readsDoing_138 (by decide) ?_
            refine hc_top (v := if q2.1 = 0 then 0 else -1000000) ?_ ?_
            · symm
              first | exact if_pos c_134 | exact if_neg c_134
            refine hc_iastN C (j := (rB5 c0 + 3)) rfl (show nI (rB5 c0) + nI 3 = nI (rB5 c0 + 3) from nI_add _ _) (by have := rB5_le c0; omega) dX8_readsDoing_143 ?_
            refine hc_mem mG_55 ?_
            refine hc_aload_n C dX8_readsDoing_144 rfl rfl ?_
            refine hc_getR C fl_X8_28 rfl rfl dX8_readsDoing_145 ?_
            refine hc_iload_n C dX8_readsDoing_148 rfl rfl ?_
            refine hc_iconst C dX8_readsDoing_149 (v := 4) rfl ?_
            refine hc_iadd C dX8_readsDoing_150 ?_
            refine hc_ldc C kc_X8_50 dX8_readsDoing_151 ?_
            refine hc_iastN C (j := (rB5 c0 + 4)) rfl (show nI (rB5 c0) + nI 4 = nI (rB5 c0 + 4) from nI_add _ _) (by have := rB5_le c0; omega) dX8_readsDoing_153 ?_
            refine hc_mem mG_55 ?_
            refine hc_aload_n C dX8_readsDoing_154 rfl rfl ?_
            refine hc_getR C fl_X8_28 rfl rfl dX8_readsDoing_155 ?_
            refine hc_iconst C dX8_readsDoing_158 (v := 5) rfl ?_
            refine hc_dup2 C dX8_readsDoing_159 rfl rfl ?_
            refine hc_ialdN C (j := 5) rfl rfl (by decide) dX8_readsDoing_160 ?_
            refine hc_iconst C dX8_readsDoing_161 (v := 1) rfl ?_
            refine hc_iadd C dX8_readsDoing_162 ?_
            refine hc_iastN C (j := 5) rfl rfl (by decide) dX8_readsDoing_163 ?_
            refine hc_mem mG_55 ?_
            refine hc_vret C rfl dX8_readsDoing_164 ?_
            show mG M (rD8 (M 53) n c0 r g) (rD5 (M 53) n c0 r) = _
            unfold rD8 rD7
            rw [← hq5, ← hq4, ← hq3, ← hq2]
            first
              | rw [if_neg (show ¬ ¬ 0 ≤ q5.2.1 from hb_z.mp c_95)]
              | (rw [if_pos (show ¬ 0 ≤ q5.2.1 from hb_nz.mp c_95)]; rfl)
      · refine hc_iconst C dX8_readsDoing_81 (v := 1) rfl ?_
        refine hc_goto C (tgt := 86) dX8_readsDoing_82 (by decide) ?_
        refine hc_top (v := hb (q4.2.2.2.2.2.1 = 4)) ?_ ?_
        · symm
          first | exact hb_t c_78 | exact hb_f c_78
        refine hc_iconst C dX8_readsDoing_86 (v := 1) rfl ?_
        refine hc_cV2i C mv_X8_114 (c_X8_takes (M := hc_mf M 55 g) (n := n) (r := q4.2) C.ok hn hn1 hp4) rfl rfl rfl (Nat.le_of_ble_eq_true rfl) (hc_rr_rm (by decide)) ⟨Nat.zero_le _, Nat.zero_le _⟩ dX8_readsDoing_87 (fun r_87 M_87 h_87 => ?_)
        obtain ⟨rfl, rfl⟩ := h_87
        obtain ⟨q5, hq5⟩ : ∃ q, q = rD5 (M 53) n c0 r := ⟨_, rfl⟩
        have e5 : (rTk (M 53) n (hb (q4.2.2.2.2.2.1 = 4)) 1 q4.2).2 = q5 := by
          rw [hq5]
          unfold rD5
          rw [← hq4]
        have hp5 : q5.2.2.1 ≤ n := by
          rw [hq5]
          exact rD5_ps hps
        refine hc_mem (M2 := mG M g q5) (by rw [← e5]; rfl) ?_
        refine hc_pop C dX8_readsDoing_90 rfl ?_
        refine hc_aload_n C dX8_readsDoing_91 rfl rfl ?_
        refine hc_cV0i C mv_X8_104 (c_X8_isWell C.ok) rfl rfl rfl (Nat.le_of_ble_eq_true rfl) (hc_rr_rm (by decide)) ⟨Nat.zero_le _, Nat.zero_le _⟩ dX8_readsDoing_92 (fun r_92 M_92 h_92 => ?_)
        obtain ⟨rfl, rfl⟩ := h_92
        refine hc_if_eq C (tgt := 164) dX8_readsDoing_95 (by decide) (fun c_95 => ?_) (fun c_95 => ?_)
        · refine hc_vret C rfl dX8_readsDoing_164 ?_
          show mG M (rD8 (M 53) n c0 r g) (rD5 (M 53) n c0 r) = _
          unfold rD8 rD7
          rw [← hq5, ← hq4, ← hq3, ← hq2]
          first
            | rw [if_neg (show ¬ ¬ 0 ≤ q5.2.1 from hb_z.mp c_95)]
            | (rw [if_pos (show ¬ 0 ≤ q5.2.1 from hb_nz.mp c_95)]; rfl)
        · refine hc_aload_n C dX8_readsDoing_98 rfl rfl ?_
          refine hc_getR C fl_X8_28 rfl rfl dX8_readsDoing_99 ?_
          refine hc_iload_n C dX8_readsDoing_102 rfl rfl ?_
          refine hc_iconst C dX8_readsDoing_103 (v := 0) rfl ?_
          refine hc_iadd C dX8_readsDoing_104 ?_
          refine hc_iload_n C dX8_readsDoing_105 rfl rfl ?_
          refine hc_iastN C (j := (rB5 c0 + 0)) rfl (show nI (rB5 c0) + nI 0 = nI (rB5 c0 + 0) from nI_add _ _) (by have := rB5_le c0; omega) dX8_readsDoing_106 ?_
          refine hc_mem mG_55 ?_
          refine hc_aload_n C dX8_readsDoing_107 rfl rfl ?_
          refine hc_getR C fl_X8_28 rfl rfl dX8_readsDoing_108 ?_
          refine hc_iload_n C dX8_readsDoing_111 rfl rfl ?_
          refine hc_iconst C dX8_readsDoing_112 (v := 1) rfl ?_
          refine hc_iadd C dX8_readsDoing_113 ?_
          refine hc_iload_n C dX8_readsDoing_114 rfl rfl ?_
          refine hc_iastN C (j := (rB5 c0 + 1)) rfl (show nI (rB5 c0) + nI 1 = nI (rB5 c0 + 1) from nI_add _ _) (by have := rB5_le c0; omega) dX8_readsDoing_115 ?_
          refine hc_mem mG_55 ?_
          refine hc_aload_n C dX8_readsDoing_116 rfl rfl ?_
          refine hc_getR C fl_X8_28 rfl rfl dX8_readsDoing_117 ?_
          refine hc_iload_n C dX8_readsDoing_120 rfl rfl ?_
          refine hc_iconst C dX8_readsDoing_121 (v := 2) rfl ?_
          refine hc_iadd C dX8_readsDoing_122 ?_
          refine hc_iload C dX8_readsDoing_123 rfl ?_
          refine hc_iastN C (j := (rB5 c0 + 2)) rfl (show nI (rB5 c0) + nI 2 = nI (rB5 c0 + 2) from nI_add _ _) (by have := rB5_le c0; omega) dX8_readsDoing_125 ?_
          refine hc_mem mG_55 ?_
          refine hc_aload_n C dX8_readsDoing_126 rfl rfl ?_
          refine hc_getR C fl_X8_28 rfl rfl dX8_readsDoing_127 ?_
          refine hc_iload_n C dX8_readsDoing_130 rfl rfl ?_
          refine hc_iconst C dX8_readsDoing_131 (v := 3) rfl ?_
          refine hc_iadd C dX8_readsDoing_132 ?_
          refine hc_iload_n C dX8_readsDoing_133 rfl rfl ?_
          refine hc_if_ne C (tgt := 141) dX8_readsDoing_134 (by decide) (fun c_134 => ?_) (fun c_134 => ?_)
          · refine hc_ldc C kc_X8_50 dX8_readsDoing_141 ?_
            refine hc_top (v := if q2.1 = 0 then 0 else -1000000) ?_ ?_
            · symm
              first | exact if_pos c_134 | exact if_neg c_134
            refine hc_iastN C (j := (rB5 c0 + 3)) rfl (show nI (rB5 c0) + nI 3 = nI (rB5 c0 + 3) from nI_add _ _) (by have := rB5_le c0; omega) dX8_readsDoing_143 ?_
            refine hc_mem mG_55 ?_
            refine hc_aload_n C dX8_readsDoing_144 rfl rfl ?_
            refine hc_getR C fl_X8_28 rfl rfl dX8_readsDoing_145 ?_
            refine hc_iload_n C dX8_readsDoing_148 rfl rfl ?_
            refine hc_iconst C dX8_readsDoing_149 (v := 4) rfl ?_
            refine hc_iadd C dX8_readsDoing_150 ?_
            refine hc_ldc C kc_X8_50 dX8_readsDoing_151 ?_
            refine hc_iastN C (j := (rB5 c0 + 4)) rfl (show nI (rB5 c0) + nI 4 = nI (rB5 c0 + 4) from nI_add _ _) (by have := rB5_le c0; omega) dX8_readsDoing_153 ?_
            refine hc_mem mG_55 ?_
            refine hc_aload_n C dX8_readsDoing_154 rfl rfl ?_
            refine hc_getR C fl_X8_28 rfl rfl dX8_readsDoing_155 ?_
            refine hc_iconst C dX8_readsDoing_158 (v := 5) rfl ?_
            refine hc_dup2 C dX8_readsDoing_159 rfl rfl ?_
            refine hc_ialdN C (j := 5) rfl rfl (by decide) dX8_readsDoing_160 ?_
            refine hc_iconst C dX8_readsDoing_161 (v := 1) rfl ?_
            refine hc_iadd C dX8_readsDoing_162 ?_
            refine hc_iastN C (j := 5) rfl rfl (by decide) dX8_readsDoing_163 ?_
            refine hc_mem mG_55 ?_
            refine hc_vret C rfl dX8_readsDoing_164 ?_
            show mG M (rD8 (M 53) n c0 r g) (rD5 (M 53) n c0 r) = _
            unfold rD8 rD7
            rw [← hq5, ← hq4, ← hq3, ← hq2]
            first
              | rw [if_neg (show ¬ ¬ 0 ≤ q5.2.1 from hb_z.mp c_95)]
              | (rw [if_pos (show ¬ 0 ≤ q5.2.1 from hb_nz.mp c_95)]; rfl)
          · refine hc_iconst C dX8_readsDoing_137 (v := 0) rfl ?_
            refine hc_goto C (tgt := 143) dX8_readsDoing_138 (by decide) ?_
            refine hc_top (v := if q2.1 = 0 then 0 else -1000000) ?_ ?_
            · symm
              first | exact if_pos c_134 | exact if_neg c_134
            refine hc_iastN C (j := (rB5 c0 + 3)) rfl (show nI (rB5 c0) + nI 3 = nI (rB5 c0 + 3) from nI_add _ _) (by have := rB5_le c0; omega) dX8_readsDoing_143 ?_
            refine hc_mem mG_55 ?_
            refine hc_aload_n C dX8_readsDoing_144 rfl rfl ?_
            refine hc_getR C fl_X8_28 rfl rfl dX8_readsDoing_145 ?_
            refine hc_iload_n C dX8_readsDoing_148 rfl rfl ?_
            refine hc_iconst C dX8_readsDoing_149 (v := 4) rfl ?_
            refine hc_iadd C dX8_readsDoing_150 ?_
            refine hc_ldc C kc_X8_50 dX8_readsDoing_151 ?_
            refine hc_iastN C (j := (rB5 c0 + 4)) rfl (show nI (rB5 c0) + nI 4 = nI (rB5 c0 + 4) from nI_add _ _) (by have := rB5_le c0; omega) dX8_readsDoing_153 ?_
            refine hc_mem mG_55 ?_
            refine hc_aload_n C dX8_readsDoing_154 rfl rfl ?_
            refine hc_getR C fl_X8_28 rfl rfl dX8_readsDoing_155 ?_
            refine hc_iconst C dX8_readsDoing_158 (v := 5) rfl ?_
            refine hc_dup2 C dX8_readsDoing_159 rfl rfl ?_
            refine hc_ialdN C (j := 5) rfl rfl (by decide) dX8_readsDoing_160 ?_
            refine hc_iconst C dX8_readsDoing_161 (v := 1) rfl ?_
            refine hc_iadd C dX8_readsDoing_162 ?_
            refine hc_iastN C (j := 5) rfl rfl (by decide) dX8_readsDoing_163 ?_
            refine hc_mem mG_55 ?_
            refine hc_vret C rfl dX8_readsDoing_164 ?_
            show mG M (rD8 (M 53) n c0 r g) (rD5 (M 53) n c0 r) = _
            unfold rD8 rD7
            rw [← hq5, ← hq4, ← hq3, ← hq2]
            first
              | rw [if_neg (show ¬ ¬ 0 ≤ q5.2.1 from hb_z.mp c_95)]
              | (rw [if_pos (show ¬ 0 ≤ q5.2.1 from hb_nz.mp c_95)]; rfl)
    · refine hc_aload_n C dX8_readsDoing_34 rfl rfl ?_
      refine hc_getR C fl_X8_28 rfl rfl dX8_readsDoing_35 ?_
      refine hc_iconst C dX8_readsDoing_38 (v := 5) rfl ?_
      refine hc_ialdN C (j := 5) rfl rfl (by decide) dX8_readsDoing_39 ?_
      refine hc_top (v := nI c0) hg ?_
      refine hc_goto C (tgt := 44) dX8_readsDoing_40 (by decide) ?_
      refine hc_imul C dX8_readsDoing_44 ?_
      refine hc_iadd C dX8_readsDoing_45 ?_
      refine hc_top (v := nI (rB5 c0)) ?_ ?_
      · unfold rB5
        rcases Nat.lt_or_ge c0 4 with q | q
        · rw [if_pos q]
          first
            | exact absurd (show nI 4 ≤ nI c0 from c_31) (nI_ge q (by decide))
            | exact hx_50 c0
        · rw [if_neg (by omega)]
          first
            | exact absurd (show nI 4 ≤ nI c0 from nI_le q (by omega)) c_31
            | rfl
      refine hc_istore_n1 C dX8_readsDoing_46 rfl (by decide) rfl ?_
      refine hc_aload_n C dX8_readsDoing_47 rfl rfl ?_
      refine hc_iconst C dX8_readsDoing_48 (v := 0) rfl ?_
      refine hc_bipush C dX8_readsDoing_49 (v := 99) rfl ?_
      refine hc_cV2i C mv_X8_118 (c_X8_figure (M := hc_mf M 55 g) (n := n) (r := q1) C.ok hn hn1 hp1) rfl rfl rfl (Nat.le_of_ble_eq_true rfl) (hc_rr_rm (by decide)) ⟨Nat.zero_le _, Nat.zero_le _⟩ dX8_readsDoing_51 (fun r_51 M_51 h_51 => ?_)
      obtain ⟨rfl, rfl⟩ := h_51
      obtain ⟨q2, hq2⟩ : ∃ q, q = rD2 (M 53) n c0 r := ⟨_, rfl⟩
      have e2 : rFg (M 53) n 0 99 q1 = q2 := by
        rw [hq2]
        unfold rD2
        rw [← hq1]
      have hp2 : q2.2.2.2.1 ≤ n := by
        rw [hq2]
        exact rD2_ps hps
      refine hc_mem (M2 := mG M g q2.2) (by rw [← e2]; rfl) ?_
      refine hc_top (v := q2.1) (by rw [← e2]; rfl) ?_
      refine hc_istore_n2 C dX8_readsDoing_54 rfl (by decide) rfl ?_
      refine hc_aload_n C dX8_readsDoing_55 rfl rfl ?_
      refine hc_iconst C dX8_readsDoing_56 (v := 1) rfl ?_
      refine hc_bipush C dX8_readsDoing_57 (v := 40) rfl ?_
      refine hc_cV2i C mv_X8_124 (c_X8_next (M := hc_mf M 55 g) (n := n) (r := q2.2) C.ok hn hn1 hp2) rfl rfl rfl (Nat.le_of_ble_eq_true rfl) (hc_rr_rm (by decide)) ⟨Nat.zero_le _, Nat.zero_le _⟩ dX8_readsDoing_59 (fun r_59 M_59 h_59 => ?_)
      obtain ⟨rfl, rfl⟩ := h_59
      obtain ⟨q3, hq3⟩ : ∃ q, q = rD3 (M 53) n c0 r := ⟨_, rfl⟩
      have e3 : rNx (M 53) n 1 40 q2.2 = q3 := by
        rw [hq3]
        unfold rD3
        rw [← hq2]
      have hp3 : q3.2.2.2.1 ≤ n := by
        rw [hq3]
        exact rD3_ps hps
      refine hc_mem (M2 := mG M g q3.2) (by rw [← e3]; rfl) ?_
      refine hc_top (v := q3.1) (by rw [← e3]; rfl) ?_
      refine hc_istore_n3 C dX8_readsDoing_62 rfl (by decide) rfl ?_
      refine hc_aload_n C dX8_readsDoing_63 rfl rfl ?_
      refine hc_iconst C dX8_readsDoing_64 (v := 0) rfl ?_
      refine hc_bipush C dX8_readsDoing_65 (v := 99) rfl ?_
      refine hc_cV2i C mv_X8_124 (c_X8_next (M := hc_mf M 55 g) (n := n) (r := q3.2) C.ok hn hn1 hp3) rfl rfl rfl (Nat.le_of_ble_eq_true rfl) (hc_rr_rm (by decide)) ⟨Nat.zero_le _, Nat.zero_le _⟩ dX8_readsDoing_67 (fun r_67 M_67 h_67 => ?_)
      obtain ⟨rfl, rfl⟩ := h_67
      obtain ⟨q4, hq4⟩ : ∃ q, q = rD4 (M 53) n c0 r := ⟨_, rfl⟩
      have e4 : rNx (M 53) n 0 99 q3.2 = q4 := by
        rw [hq4]
        unfold rD4
        rw [← hq3]
      have hp4 : q4.2.2.2.1 ≤ n := by
        rw [hq4]
        exact rD4_ps hps
      refine hc_mem (M2 := mG M g q4.2) (by rw [← e4]; rfl) ?_
      refine hc_top (v := q4.1) (by rw [← e4]; rfl) ?_
      refine hc_istore4 C dX8_readsDoing_70 (by decide) rfl ?_
      refine hc_aload_n C dX8_readsDoing_72 rfl rfl ?_
      refine hc_aload_n C dX8_readsDoing_73 rfl rfl ?_
      refine hc_getI C fl_X8_98 rfl rfl dX8_readsDoing_74 ?_
      refine hc_top (v := q4.2.2.2.2.2.1) rfl ?_
      refine hc_iconst C dX8_readsDoing_77 (v := 4) rfl ?_
      refine hc_icmp_ne C (tgt := 85) dX8_readsDoing_78 (by decide) (fun c_78 => ?_) (fun c_78 => ?_)
      · refine hc_iconst C dX8_readsDoing_85 (v := 0) rfl ?_
        refine hc_top (v := hb (q4.2.2.2.2.2.1 = 4)) ?_ ?_
        · symm
          first | exact hb_t c_78 | exact hb_f c_78
        refine hc_iconst C dX8_readsDoing_86 (v := 1) rfl ?_
        refine hc_cV2i C mv_X8_114 (c_X8_takes (M := hc_mf M 55 g) (n := n) (r := q4.2) C.ok hn hn1 hp4) rfl rfl rfl (Nat.le_of_ble_eq_true rfl) (hc_rr_rm (by decide)) ⟨Nat.zero_le _, Nat.zero_le _⟩ dX8_readsDoing_87 (fun r_87 M_87 h_87 => ?_)
        obtain ⟨rfl, rfl⟩ := h_87
        obtain ⟨q5, hq5⟩ : ∃ q, q = rD5 (M 53) n c0 r := ⟨_, rfl⟩
        have e5 : (rTk (M 53) n (hb (q4.2.2.2.2.2.1 = 4)) 1 q4.2).2 = q5 := by
          rw [hq5]
          unfold rD5
          rw [← hq4]
        have hp5 : q5.2.2.1 ≤ n := by
          rw [hq5]
          exact rD5_ps hps
        refine hc_mem (M2 := mG M g q5) (by rw [← e5]; rfl) ?_
        refine hc_pop C dX8_readsDoing_90 rfl ?_
        refine hc_aload_n C dX8_readsDoing_91 rfl rfl ?_
        refine hc_cV0i C mv_X8_104 (c_X8_isWell C.ok) rfl rfl rfl (Nat.le_of_ble_eq_true rfl) (hc_rr_rm (by decide)) ⟨Nat.zero_le _, Nat.zero_le _⟩ dX8_readsDoing_92 (fun r_92 M_92 h_92 => ?_)
        obtain ⟨rfl, rfl⟩ := h_92
        refine hc_if_eq C (tgt := 164) dX8_readsDoing_95 (by decide) (fun c_95 => ?_) (fun c_95 => ?_)
        · refine hc_vret C rfl dX8_readsDoing_164 ?_
          show mG M (rD8 (M 53) n c0 r g) (rD5 (M 53) n c0 r) = _
          unfold rD8 rD7
          rw [← hq5, ← hq4, ← hq3, ← hq2]
          first
            | rw [if_neg (show ¬ ¬ 0 ≤ q5.2.1 from hb_z.mp c_95)]
            | (rw [if_pos (show ¬ 0 ≤ q5.2.1 from hb_nz.mp c_95)]; rfl)
        · refine hc_aload_n C dX8_readsDoing_98 rfl rfl ?_
          refine hc_getR C fl_X8_28 rfl rfl dX8_readsDoing_99 ?_
          refine hc_iload_n C dX8_readsDoing_102 rfl rfl ?_
          refine hc_iconst C dX8_readsDoing_103 (v := 0) rfl ?_
          refine hc_iadd C dX8_readsDoing_104 ?_
          refine hc_iload_n C dX8_readsDoing_105 rfl rfl ?_
          refine hc_iastN C (j := (rB5 c0 + 0)) rfl (show nI (rB5 c0) + nI 0 = nI (rB5 c0 + 0) from nI_add _ _) (by have := rB5_le c0; omega) dX8_readsDoing_106 ?_
          refine hc_mem mG_55 ?_
          refine hc_aload_n C dX8_readsDoing_107 rfl rfl ?_
          refine hc_getR C fl_X8_28 rfl rfl dX8_readsDoing_108 ?_
          refine hc_iload_n C dX8_readsDoing_111 rfl rfl ?_
          refine hc_iconst C dX8_readsDoing_112 (v := 1) rfl ?_
          refine hc_iadd C dX8_readsDoing_113 ?_
          refine hc_iload_n C dX8_readsDoing_114 rfl rfl ?_
          refine hc_iastN C (j := (rB5 c0 + 1)) rfl (show nI (rB5 c0) + nI 1 = nI (rB5 c0 + 1) from nI_add _ _) (by have := rB5_le c0; omega) dX8_readsDoing_115 ?_
          refine hc_mem mG_55 ?_
          refine hc_aload_n C dX8_readsDoing_116 rfl rfl ?_
          refine hc_getR C fl_X8_28 rfl rfl dX8_readsDoing_117 ?_
          refine hc_iload_n C dX8_readsDoing_120 rfl rfl ?_
          refine hc_iconst C dX8_readsDoing_121 (v := 2) rfl ?_
          refine hc_iadd C dX8_readsDoing_122 ?_
          refine hc_iload C dX8_readsDoing_123 rfl ?_
          refine hc_iastN C (j := (rB5 c0 + 2)) rfl (show nI (rB5 c0) + nI 2 = nI (rB5 c0 + 2) from nI_add _ _) (by have := rB5_le c0; omega) dX8_readsDoing_125 ?_
          refine hc_mem mG_55 ?_
          refine hc_aload_n C dX8_readsDoing_126 rfl rfl ?_
          refine hc_getR C fl_X8_28 rfl rfl dX8_readsDoing_127 ?_
          refine hc_iload_n C dX8_readsDoing_130 rfl rfl ?_
          refine hc_iconst C dX8_readsDoing_131 (v := 3) rfl ?_
          refine hc_iadd C dX8_readsDoing_132 ?_
          refine hc_iload_n C dX8_readsDoing_133 rfl rfl ?_
          refine hc_if_ne C (tgt := 141) dX8_readsDoing_134 (by decide) (fun c_134 => ?_) (fun c_134 => ?_)
          · refine hc_ldc C kc_X8_50 dX8_readsDoing_141 ?_
            refine hc_top (v := if q2.1 = 0 then 0 else -1000000) ?_ ?_
            · symm
              first | exact if_pos c_134 | exact if_neg c_134
            refine hc_iastN C (j := (rB5 c0 + 3)) rfl (show nI (rB5 c0) + nI 3 = nI (rB5 c0 + 3) from nI_add _ _) (by have := rB5_le c0; omega) dX8_readsDoing_143 ?_
            refine hc_mem mG_55 ?_
            refine hc_aload_n C dX8_readsDoing_144 rfl rfl ?_
            refine hc_getR C fl_X8_28 rfl rfl dX8_readsDoing_145 ?_
            refine hc_iload_n C dX8_readsDoing_148 rfl rfl ?_
            refine hc_iconst C dX8_readsDoing_149 (v := 4) rfl ?_
            refine hc_iadd C dX8_readsDoing_150 ?_
            refine hc_ldc C kc_X8_50 dX8_readsDoing_151 ?_
            refine hc_iastN C (j := (rB5 c0 + 4)) rfl (show nI (rB5 c0) + nI 4 = nI (rB5 c0 + 4) from nI_add _ _) (by have := rB5_le c0; omega) dX8_readsDoing_153 ?_
            refine hc_mem mG_55 ?_
            refine hc_aload_n C dX8_readsDoing_154 rfl rfl ?_
            refine hc_getR C fl_X8_28 rfl rfl dX8_readsDoing_155 ?_
            refine hc_iconst C dX8_readsDoing_158 (v := 5) rfl ?_
            refine hc_dup2 C dX8_readsDoing_159 rfl rfl ?_
            refine hc_ialdN C (j := 5) rfl rfl (by decide) dX8_readsDoing_160 ?_
            refine hc_iconst C dX8_readsDoing_161 (v := 1) rfl ?_
            refine hc_iadd C dX8_readsDoing_162 ?_
            refine hc_iastN C (j := 5) rfl rfl (by decide) dX8_readsDoing_163 ?_
            refine hc_mem mG_55 ?_
            refine hc_vret C rfl dX8_readsDoing_164 ?_
            show mG M (rD8 (M 53) n c0 r g) (rD5 (M 53) n c0 r) = _
            unfold rD8 rD7
            rw [← hq5, ← hq4, ← hq3, ← hq2]
            first
              | rw [if_neg (show ¬ ¬ 0 ≤ q5.2.1 from hb_z.mp c_95)]
              | (rw [if_pos (show ¬ 0 ≤ q5.2.1 from hb_nz.mp c_95)]; rfl)
          · refine hc_iconst C dX8_readsDoing_137 (v := 0) rfl ?_
            refine hc_goto C (tgt := 143) dX8_readsDoing_138 (by decide) ?_
            refine hc_top (v := if q2.1 = 0 then 0 else -1000000) ?_ ?_
            · symm
              first | exact if_pos c_134 | exact if_neg c_134
            refine hc_iastN C (j := (rB5 c0 + 3)) rfl (show nI (rB5 c0) + nI 3 = nI (rB5 c0 + 3) from nI_add _ _) (by have := rB5_le c0; omega) dX8_readsDoing_143 ?_
            refine hc_mem mG_55 ?_
            refine hc_aload_n C dX8_readsDoing_144 rfl rfl ?_
            refine hc_getR C fl_X8_28 rfl rfl dX8_readsDoing_145 ?_
            refine hc_iload_n C dX8_readsDoing_148 rfl rfl ?_
            refine hc_iconst C dX8_readsDoing_149 (v := 4) rfl ?_
            refine hc_iadd C dX8_readsDoing_150 ?_
            refine hc_ldc C kc_X8_50 dX8_readsDoing_151 ?_
            refine hc_iastN C (j := (rB5 c0 + 4)) rfl (show nI (rB5 c0) + nI 4 = nI (rB5 c0 + 4) from nI_add _ _) (by have := rB5_le c0; omega) dX8_readsDoing_153 ?_
            refine hc_mem mG_55 ?_
            refine hc_aload_n C dX8_readsDoing_154 rfl rfl ?_
            refine hc_getR C fl_X8_28 rfl rfl dX8_readsDoing_155 ?_
            refine hc_iconst C dX8_readsDoing_158 (v := 5) rfl ?_
            refine hc_dup2 C dX8_readsDoing_159 rfl rfl ?_
            refine hc_ialdN C (j := 5) rfl rfl (by decide) dX8_readsDoing_160 ?_
            refine hc_iconst C dX8_readsDoing_161 (v := 1) rfl ?_
            refine hc_iadd C dX8_readsDoing_162 ?_
            refine hc_iastN C (j := 5) rfl rfl (by decide) dX8_readsDoing_163 ?_
            refine hc_mem mG_55 ?_
            refine hc_vret C rfl dX8_readsDoing_164 ?_
            show mG M (rD8 (M 53) n c0 r g) (rD5 (M 53) n c0 r) = _
            unfold rD8 rD7
            rw [← hq5, ← hq4, ← hq3, ← hq2]
            first
              | rw [if_neg (show ¬ ¬ 0 ≤ q5.2.1 from hb_z.mp c_95)]
              | (rw [if_pos (show ¬ 0 ≤ q5.2.1 from hb_nz.mp c_95)]; rfl)
      · refine hc_iconst C dX8_readsDoing_81 (v := 1) rfl ?_
        refine hc_goto C (tgt := 86) dX8_readsDoing_82 (by decide) ?_
        refine hc_top (v := hb (q4.2.2.2.2.2.1 = 4)) ?_ ?_
        · symm
          first | exact hb_t c_78 | exact hb_f c_78
        refine hc_iconst C dX8_readsDoing_86 (v := 1) rfl ?_
        refine hc_cV2i C mv_X8_114 (c_X8_takes (M := hc_mf M 55 g) (n := n) (r := q4.2) C.ok hn hn1 hp4) rfl rfl rfl (Nat.le_of_ble_eq_true rfl) (hc_rr_rm (by decide)) ⟨Nat.zero_le _, Nat.zero_le _⟩ dX8_readsDoing_87 (fun r_87 M_87 h_87 => ?_)
        obtain ⟨rfl, rfl⟩ := h_87
        obtain ⟨q5, hq5⟩ : ∃ q, q = rD5 (M 53) n c0 r := ⟨_, rfl⟩
        have e5 : (rTk (M 53) n (hb (q4.2.2.2.2.2.1 = 4)) 1 q4.2).2 = q5 := by
          rw [hq5]
          unfold rD5
          rw [← hq4]
        have hp5 : q5.2.2.1 ≤ n := by
          rw [hq5]
          exact rD5_ps hps
        refine hc_mem (M2 := mG M g q5) (by rw [← e5]; rfl) ?_
        refine hc_pop C dX8_readsDoing_90 rfl ?_
        refine hc_aload_n C dX8_readsDoing_91 rfl rfl ?_
        refine hc_cV0i C mv_X8_104 (c_X8_isWell C.ok) rfl rfl rfl (Nat.le_of_ble_eq_true rfl) (hc_rr_rm (by decide)) ⟨Nat.zero_le _, Nat.zero_le _⟩ dX8_readsDoing_92 (fun r_92 M_92 h_92 => ?_)
        obtain ⟨rfl, rfl⟩ := h_92
        refine hc_if_eq C (tgt := 164) dX8_readsDoing_95 (by decide) (fun c_95 => ?_) (fun c_95 => ?_)
        · refine hc_vret C rfl dX8_readsDoing_164 ?_
          show mG M (rD8 (M 53) n c0 r g) (rD5 (M 53) n c0 r) = _
          unfold rD8 rD7
          rw [← hq5, ← hq4, ← hq3, ← hq2]
          first
            | rw [if_neg (show ¬ ¬ 0 ≤ q5.2.1 from hb_z.mp c_95)]
            | (rw [if_pos (show ¬ 0 ≤ q5.2.1 from hb_nz.mp c_95)]; rfl)
        · refine hc_aload_n C dX8_readsDoing_98 rfl rfl ?_
          refine hc_getR C fl_X8_28 rfl rfl dX8_readsDoing_99 ?_
          refine hc_iload_n C dX8_readsDoing_102 rfl rfl ?_
          refine hc_iconst C dX8_readsDoing_103 (v := 0) rfl ?_
          refine hc_iadd C dX8_readsDoing_104 ?_
          refine hc_iload_n C dX8_readsDoing_105 rfl rfl ?_
          refine hc_iastN C (j := (rB5 c0 + 0)) rfl (show nI (rB5 c0) + nI 0 = nI (rB5 c0 + 0) from nI_add _ _) (by have := rB5_le c0; omega) dX8_readsDoing_106 ?_
          refine hc_mem mG_55 ?_
          refine hc_aload_n C dX8_readsDoing_107 rfl rfl ?_
          refine hc_getR C fl_X8_28 rfl rfl dX8_readsDoing_108 ?_
          refine hc_iload_n C dX8_readsDoing_111 rfl rfl ?_
          refine hc_iconst C dX8_readsDoing_112 (v := 1) rfl ?_
          refine hc_iadd C dX8_readsDoing_113 ?_
          refine hc_iload_n C dX8_readsDoing_114 rfl rfl ?_
          refine hc_iastN C (j := (rB5 c0 + 1)) rfl (show nI (rB5 c0) + nI 1 = nI (rB5 c0 + 1) from nI_add _ _) (by have := rB5_le c0; omega) dX8_readsDoing_115 ?_
          refine hc_mem mG_55 ?_
          refine hc_aload_n C dX8_readsDoing_116 rfl rfl ?_
          refine hc_getR C fl_X8_28 rfl rfl dX8_readsDoing_117 ?_
          refine hc_iload_n C dX8_readsDoing_120 rfl rfl ?_
          refine hc_iconst C dX8_readsDoing_121 (v := 2) rfl ?_
          refine hc_iadd C dX8_readsDoing_122 ?_
          refine hc_iload C dX8_readsDoing_123 rfl ?_
          refine hc_iastN C (j := (rB5 c0 + 2)) rfl (show nI (rB5 c0) + nI 2 = nI (rB5 c0 + 2) from nI_add _ _) (by have := rB5_le c0; omega) dX8_readsDoing_125 ?_
          refine hc_mem mG_55 ?_
          refine hc_aload_n C dX8_readsDoing_126 rfl rfl ?_
          refine hc_getR C fl_X8_28 rfl rfl dX8_readsDoing_127 ?_
          refine hc_iload_n C dX8_readsDoing_130 rfl rfl ?_
          refine hc_iconst C dX8_readsDoing_131 (v := 3) rfl ?_
          refine hc_iadd C dX8_readsDoing_132 ?_
          refine hc_iload_n C dX8_readsDoing_133 rfl rfl ?_
          refine hc_if_ne C (tgt := 141) dX8_readsDoing_134 (by decide) (fun c_134 => ?_) (fun c_134 => ?_)
          · refine hc_ldc C kc_X8_50 dX8_readsDoing_141 ?_
            refine hc_top (v := if q2.1 = 0 then 0 else -1000000) ?_ ?_
            · symm
              first | exact if_pos c_134 | exact if_neg c_134
            refine hc_iastN C (j := (rB5 c0 + 3)) rfl (show nI (rB5 c0) + nI 3 = nI (rB5 c0 + 3) from nI_add _ _) (by have := rB5_le c0; omega) dX8_readsDoing_143 ?_
            refine hc_mem mG_55 ?_
            refine hc_aload_n C dX8_readsDoing_144 rfl rfl ?_
            refine hc_getR C fl_X8_28 rfl rfl dX8_readsDoing_145 ?_
            refine hc_iload_n C dX8_readsDoing_148 rfl rfl ?_
            refine hc_iconst C dX8_readsDoing_149 (v := 4) rfl ?_
            refine hc_iadd C dX8_readsDoing_150 ?_
            refine hc_ldc C kc_X8_50 dX8_readsDoing_151 ?_
            refine hc_iastN C (j := (rB5 c0 + 4)) rfl (show nI (rB5 c0) + nI 4 = nI (rB5 c0 + 4) from nI_add _ _) (by have := rB5_le c0; omega) dX8_readsDoing_153 ?_
            refine hc_mem mG_55 ?_
            refine hc_aload_n C dX8_readsDoing_154 rfl rfl ?_
            refine hc_getR C fl_X8_28 rfl rfl dX8_readsDoing_155 ?_
            refine hc_iconst C dX8_readsDoing_158 (v := 5) rfl ?_
            refine hc_dup2 C dX8_readsDoing_159 rfl rfl ?_
            refine hc_ialdN C (j := 5) rfl rfl (by decide) dX8_readsDoing_160 ?_
            refine hc_iconst C dX8_readsDoing_161 (v := 1) rfl ?_
            refine hc_iadd C dX8_readsDoing_162 ?_
            refine hc_iastN C (j := 5) rfl rfl (by decide) dX8_readsDoing_163 ?_
            refine hc_mem mG_55 ?_
            refine hc_vret C rfl dX8_readsDoing_164 ?_
            show mG M (rD8 (M 53) n c0 r g) (rD5 (M 53) n c0 r) = _
            unfold rD8 rD7
            rw [← hq5, ← hq4, ← hq3, ← hq2]
            first
              | rw [if_neg (show ¬ ¬ 0 ≤ q5.2.1 from hb_z.mp c_95)]
              | (rw [if_pos (show ¬ 0 ≤ q5.2.1 from hb_nz.mp c_95)]; rfl)
          · refine hc_iconst C dX8_readsDoing_137 (v := 0) rfl ?_
            refine hc_goto C (tgt := 143) dX8_readsDoing_138 (by decide) ?_
            refine hc_top (v := if q2.1 = 0 then 0 else -1000000) ?_ ?_
            · symm
              first | exact if_pos c_134 | exact if_neg c_134
            refine hc_iastN C (j := (rB5 c0 + 3)) rfl (show nI (rB5 c0) + nI 3 = nI (rB5 c0 + 3) from nI_add _ _) (by have := rB5_le c0; omega) dX8_readsDoing_143 ?_
            refine hc_mem mG_55 ?_
            refine hc_aload_n C dX8_readsDoing_144 rfl rfl ?_
            refine hc_getR C fl_X8_28 rfl rfl dX8_readsDoing_145 ?_
            refine hc_iload_n C dX8_readsDoing_148 rfl rfl ?_
            refine hc_iconst C dX8_readsDoing_149 (v := 4) rfl ?_
            refine hc_iadd C dX8_readsDoing_150 ?_
            refine hc_ldc C kc_X8_50 dX8_readsDoing_151 ?_
            refine hc_iastN C (j := (rB5 c0 + 4)) rfl (show nI (rB5 c0) + nI 4 = nI (rB5 c0 + 4) from nI_add _ _) (by have := rB5_le c0; omega) dX8_readsDoing_153 ?_
            refine hc_mem mG_55 ?_
            refine hc_aload_n C dX8_readsDoing_154 rfl rfl ?_
            refine hc_getR C fl_X8_28 rfl rfl dX8_readsDoing_155 ?_
            refine hc_iconst C dX8_readsDoing_158 (v := 5) rfl ?_
            refine hc_dup2 C dX8_readsDoing_159 rfl rfl ?_
            refine hc_ialdN C (j := 5) rfl rfl (by decide) dX8_readsDoing_160 ?_
            refine hc_iconst C dX8_readsDoing_161 (v := 1) rfl ?_
            refine hc_iadd C dX8_readsDoing_162 ?_
            refine hc_iastN C (j := 5) rfl rfl (by decide) dX8_readsDoing_163 ?_
            refine hc_mem mG_55 ?_
            refine hc_vret C rfl dX8_readsDoing_164 ?_
            show mG M (rD8 (M 53) n c0 r g) (rD5 (M 53) n c0 r) = _
            unfold rD8 rD7
            rw [← hq5, ← hq4, ← hq3, ← hq2]
            first
              | rw [if_neg (show ¬ ¬ 0 ≤ q5.2.1 from hb_z.mp c_95)]
              | (rw [if_pos (show ¬ 0 ≤ q5.2.1 from hb_nz.mp c_95)]; rfl)
  · refine hc_iconst C dX8_readsDoing_11 (v := 1) rfl ?_
    refine hc_goto C (tgt := 16) dX8_readsDoing_12 (by decide) ?_
    refine hc_top (v := hb (¬ 4 ≤ nI c0)) ?_ ?_
    · symm
      first
        | (refine hb_f (fun w => absurd ?_ w); exact c_8)
        | exact hb_t c_8
    refine hc_iconst C dX8_readsDoing_16 (v := 3) rfl ?_
    refine hc_cV2i C mv_X8_114 (c_X8_takes (M := hc_mf M 55 g) (n := n) (r := r) C.ok hn hn1 hps) rfl rfl rfl (Nat.le_of_ble_eq_true rfl) (hc_rr_rm (by decide)) ⟨Nat.zero_le _, Nat.zero_le _⟩ dX8_readsDoing_17 (fun r_17 M_17 h_17 => ?_)
    obtain ⟨rfl, rfl⟩ := h_17
    obtain ⟨q1, hq1⟩ : ∃ q, q = rD1 (M 53) n c0 r := ⟨_, rfl⟩
    have e1 : (rTk (M 53) n (hb (¬ 4 ≤ nI c0)) 3 r).2 = q1 := by
      rw [hq1]
      unfold rD1
      rfl
    have hp1 : q1.2.2.1 ≤ n := by
      rw [hq1]
      exact rD1_ps hps
    refine hc_mem (M2 := mG M g q1) (by rw [← e1]; rfl) ?_
    refine hc_pop C dX8_readsDoing_20 rfl ?_
    refine hc_bipush C dX8_readsDoing_21 (v := 48) rfl ?_
    refine hc_iconst C dX8_readsDoing_23 (v := 5) rfl ?_
    refine hc_aload_n C dX8_readsDoing_24 rfl rfl ?_
    refine hc_getR C fl_X8_28 rfl rfl dX8_readsDoing_25 ?_
    refine hc_iconst C dX8_readsDoing_28 (v := 5) rfl ?_
    refine hc_ialdN C (j := 5) rfl rfl (by decide) dX8_readsDoing_29 ?_
    refine hc_top (v := nI c0) hg ?_
    refine hc_iconst C dX8_readsDoing_30 (v := 4) rfl ?_
    refine hc_icmp_ge C (tgt := 43) dX8_readsDoing_31 (by decide) (fun c_31 => ?_) (fun c_31 => ?_)
    · refine hc_iconst C dX8_readsDoing_43 (v := 0) rfl ?_
      refine hc_imul C dX8_readsDoing_44 ?_
      refine hc_iadd C dX8_readsDoing_45 ?_
      refine hc_top (v := nI (rB5 c0)) ?_ ?_
      · unfold rB5
        rcases Nat.lt_or_ge c0 4 with q | q
        · rw [if_pos q]
          first
            | exact absurd (show nI 4 ≤ nI c0 from c_31) (nI_ge q (by decide))
            | exact hx_50 c0
        · rw [if_neg (by omega)]
          first
            | exact absurd (show nI 4 ≤ nI c0 from nI_le q (by omega)) c_31
            | rfl
      refine hc_istore_n1 C dX8_readsDoing_46 rfl (by decide) rfl ?_
      refine hc_aload_n C dX8_readsDoing_47 rfl rfl ?_
      refine hc_iconst C dX8_readsDoing_48 (v := 0) rfl ?_
      refine hc_bipush C dX8_readsDoing_49 (v := 99) rfl ?_
      refine hc_cV2i C mv_X8_118 (c_X8_figure (M := hc_mf M 55 g) (n := n) (r := q1) C.ok hn hn1 hp1) rfl rfl rfl (Nat.le_of_ble_eq_true rfl) (hc_rr_rm (by decide)) ⟨Nat.zero_le _, Nat.zero_le _⟩ dX8_readsDoing_51 (fun r_51 M_51 h_51 => ?_)
      obtain ⟨rfl, rfl⟩ := h_51
      obtain ⟨q2, hq2⟩ : ∃ q, q = rD2 (M 53) n c0 r := ⟨_, rfl⟩
      have e2 : rFg (M 53) n 0 99 q1 = q2 := by
        rw [hq2]
        unfold rD2
        rw [← hq1]
      have hp2 : q2.2.2.2.1 ≤ n := by
        rw [hq2]
        exact rD2_ps hps
      refine hc_mem (M2 := mG M g q2.2) (by rw [← e2]; rfl) ?_
      refine hc_top (v := q2.1) (by rw [← e2]; rfl) ?_
      refine hc_istore_n2 C dX8_readsDoing_54 rfl (by decide) rfl ?_
      refine hc_aload_n C dX8_readsDoing_55 rfl rfl ?_
      refine hc_iconst C dX8_readsDoing_56 (v := 1) rfl ?_
      refine hc_bipush C dX8_readsDoing_57 (v := 40) rfl ?_
      refine hc_cV2i C mv_X8_124 (c_X8_next (M := hc_mf M 55 g) (n := n) (r := q2.2) C.ok hn hn1 hp2) rfl rfl rfl (Nat.le_of_ble_eq_true rfl) (hc_rr_rm (by decide)) ⟨Nat.zero_le _, Nat.zero_le _⟩ dX8_readsDoing_59 (fun r_59 M_59 h_59 => ?_)
      obtain ⟨rfl, rfl⟩ := h_59
      obtain ⟨q3, hq3⟩ : ∃ q, q = rD3 (M 53) n c0 r := ⟨_, rfl⟩
      have e3 : rNx (M 53) n 1 40 q2.2 = q3 := by
        rw [hq3]
        unfold rD3
        rw [← hq2]
      have hp3 : q3.2.2.2.1 ≤ n := by
        rw [hq3]
        exact rD3_ps hps
      refine hc_mem (M2 := mG M g q3.2) (by rw [← e3]; rfl) ?_
      refine hc_top (v := q3.1) (by rw [← e3]; rfl) ?_
      refine hc_istore_n3 C dX8_readsDoing_62 rfl (by decide) rfl ?_
      refine hc_aload_n C dX8_readsDoing_63 rfl rfl ?_
      refine hc_iconst C dX8_readsDoing_64 (v := 0) rfl ?_
      refine hc_bipush C dX8_readsDoing_65 (v := 99) rfl ?_
      refine hc_cV2i C mv_X8_124 (c_X8_next (M := hc_mf M 55 g) (n := n) (r := q3.2) C.ok hn hn1 hp3) rfl rfl rfl (Nat.le_of_ble_eq_true rfl) (hc_rr_rm (by decide)) ⟨Nat.zero_le _, Nat.zero_le _⟩ dX8_readsDoing_67 (fun r_67 M_67 h_67 => ?_)
      obtain ⟨rfl, rfl⟩ := h_67
      obtain ⟨q4, hq4⟩ : ∃ q, q = rD4 (M 53) n c0 r := ⟨_, rfl⟩
      have e4 : rNx (M 53) n 0 99 q3.2 = q4 := by
        rw [hq4]
        unfold rD4
        rw [← hq3]
      have hp4 : q4.2.2.2.1 ≤ n := by
        rw [hq4]
        exact rD4_ps hps
      refine hc_mem (M2 := mG M g q4.2) (by rw [← e4]; rfl) ?_
      refine hc_top (v := q4.1) (by rw [← e4]; rfl) ?_
      refine hc_istore4 C dX8_readsDoing_70 (by decide) rfl ?_
      refine hc_aload_n C dX8_readsDoing_72 rfl rfl ?_
      refine hc_aload_n C dX8_readsDoing_73 rfl rfl ?_
      refine hc_getI C fl_X8_98 rfl rfl dX8_readsDoing_74 ?_
      refine hc_top (v := q4.2.2.2.2.2.1) rfl ?_
      refine hc_iconst C dX8_readsDoing_77 (v := 4) rfl ?_
      refine hc_icmp_ne C (tgt := 85) dX8_readsDoing_78 (by decide) (fun c_78 => ?_) (fun c_78 => ?_)
      · refine hc_iconst C dX8_readsDoing_85 (v := 0) rfl ?_
        refine hc_top (v := hb (q4.2.2.2.2.2.1 = 4)) ?_ ?_
        · symm
          first | exact hb_t c_78 | exact hb_f c_78
        refine hc_iconst C dX8_readsDoing_86 (v := 1) rfl ?_
        refine hc_cV2i C mv_X8_114 (c_X8_takes (M := hc_mf M 55 g) (n := n) (r := q4.2) C.ok hn hn1 hp4) rfl rfl rfl (Nat.le_of_ble_eq_true rfl) (hc_rr_rm (by decide)) ⟨Nat.zero_le _, Nat.zero_le _⟩ dX8_readsDoing_87 (fun r_87 M_87 h_87 => ?_)
        obtain ⟨rfl, rfl⟩ := h_87
        obtain ⟨q5, hq5⟩ : ∃ q, q = rD5 (M 53) n c0 r := ⟨_, rfl⟩
        have e5 : (rTk (M 53) n (hb (q4.2.2.2.2.2.1 = 4)) 1 q4.2).2 = q5 := by
          rw [hq5]
          unfold rD5
          rw [← hq4]
        have hp5 : q5.2.2.1 ≤ n := by
          rw [hq5]
          exact rD5_ps hps
        refine hc_mem (M2 := mG M g q5) (by rw [← e5]; rfl) ?_
        refine hc_pop C dX8_readsDoing_90 rfl ?_
        refine hc_aload_n C dX8_readsDoing_91 rfl rfl ?_
        refine hc_cV0i C mv_X8_104 (c_X8_isWell C.ok) rfl rfl rfl (Nat.le_of_ble_eq_true rfl) (hc_rr_rm (by decide)) ⟨Nat.zero_le _, Nat.zero_le _⟩ dX8_readsDoing_92 (fun r_92 M_92 h_92 => ?_)
        obtain ⟨rfl, rfl⟩ := h_92
        refine hc_if_eq C (tgt := 164) dX8_readsDoing_95 (by decide) (fun c_95 => ?_) (fun c_95 => ?_)
        · refine hc_vret C rfl dX8_readsDoing_164 ?_
          show mG M (rD8 (M 53) n c0 r g) (rD5 (M 53) n c0 r) = _
          unfold rD8 rD7
          rw [← hq5, ← hq4, ← hq3, ← hq2]
          first
            | rw [if_neg (show ¬ ¬ 0 ≤ q5.2.1 from hb_z.mp c_95)]
            | (rw [if_pos (show ¬ 0 ≤ q5.2.1 from hb_nz.mp c_95)]; rfl)
        · refine hc_aload_n C dX8_readsDoing_98 rfl rfl ?_
          refine hc_getR C fl_X8_28 rfl rfl dX8_readsDoing_99 ?_
          refine hc_iload_n C dX8_readsDoing_102 rfl rfl ?_
          refine hc_iconst C dX8_readsDoing_103 (v := 0) rfl ?_
          refine hc_iadd C dX8_readsDoing_104 ?_
          refine hc_iload_n C dX8_readsDoing_105 rfl rfl ?_
          refine hc_iastN C (j := (rB5 c0 + 0)) rfl (show nI (rB5 c0) + nI 0 = nI (rB5 c0 + 0) from nI_add _ _) (by have := rB5_le c0; omega) dX8_readsDoing_106 ?_
          refine hc_mem mG_55 ?_
          refine hc_aload_n C dX8_readsDoing_107 rfl rfl ?_
          refine hc_getR C fl_X8_28 rfl rfl dX8_readsDoing_108 ?_
          refine hc_iload_n C dX8_readsDoing_111 rfl rfl ?_
          refine hc_iconst C dX8_readsDoing_112 (v := 1) rfl ?_
          refine hc_iadd C dX8_readsDoing_113 ?_
          refine hc_iload_n C dX8_readsDoing_114 rfl rfl ?_
          refine hc_iastN C (j := (rB5 c0 + 1)) rfl (show nI (rB5 c0) + nI 1 = nI (rB5 c0 + 1) from nI_add _ _) (by have := rB5_le c0; omega) dX8_readsDoing_115 ?_
          refine hc_mem mG_55 ?_
          refine hc_aload_n C dX8_readsDoing_116 rfl rfl ?_
          refine hc_getR C fl_X8_28 rfl rfl dX8_readsDoing_117 ?_
          refine hc_iload_n C dX8_readsDoing_120 rfl rfl ?_
          refine hc_iconst C dX8_readsDoing_121 (v := 2) rfl ?_
          refine hc_iadd C dX8_readsDoing_122 ?_
          refine hc_iload C dX8_readsDoing_123 rfl ?_
          refine hc_iastN C (j := (rB5 c0 + 2)) rfl (show nI (rB5 c0) + nI 2 = nI (rB5 c0 + 2) from nI_add _ _) (by have := rB5_le c0; omega) dX8_readsDoing_125 ?_
          refine hc_mem mG_55 ?_
          refine hc_aload_n C dX8_readsDoing_126 rfl rfl ?_
          refine hc_getR C fl_X8_28 rfl rfl dX8_readsDoing_127 ?_
          refine hc_iload_n C dX8_readsDoing_130 rfl rfl ?_
          refine hc_iconst C dX8_readsDoing_131 (v := 3) rfl ?_
          refine hc_iadd C dX8_readsDoing_132 ?_
          refine hc_iload_n C dX8_readsDoing_133 rfl rfl ?_
          refine hc_if_ne C (tgt := 141) dX8_readsDoing_134 (by decide) (fun c_134 => ?_) (fun c_134 => ?_)
          · refine hc_ldc C kc_X8_50 dX8_readsDoing_141 ?_
            refine hc_top (v := if q2.1 = 0 then 0 else -1000000) ?_ ?_
            · symm
              first | exact if_pos c_134 | exact if_neg c_134
            refine hc_iastN C (j := (rB5 c0 + 3)) rfl (show nI (rB5 c0) + nI 3 = nI (rB5 c0 + 3) from nI_add _ _) (by have := rB5_le c0; omega) dX8_readsDoing_143 ?_
            refine hc_mem mG_55 ?_
            refine hc_aload_n C dX8_readsDoing_144 rfl rfl ?_
            refine hc_getR C fl_X8_28 rfl rfl dX8_readsDoing_145 ?_
            refine hc_iload_n C dX8_readsDoing_148 rfl rfl ?_
            refine hc_iconst C dX8_readsDoing_149 (v := 4) rfl ?_
            refine hc_iadd C dX8_readsDoing_150 ?_
            refine hc_ldc C kc_X8_50 dX8_readsDoing_151 ?_
            refine hc_iastN C (j := (rB5 c0 + 4)) rfl (show nI (rB5 c0) + nI 4 = nI (rB5 c0 + 4) from nI_add _ _) (by have := rB5_le c0; omega) dX8_readsDoing_153 ?_
            refine hc_mem mG_55 ?_
            refine hc_aload_n C dX8_readsDoing_154 rfl rfl ?_
            refine hc_getR C fl_X8_28 rfl rfl dX8_readsDoing_155 ?_
            refine hc_iconst C dX8_readsDoing_158 (v := 5) rfl ?_
            refine hc_dup2 C dX8_readsDoing_159 rfl rfl ?_
            refine hc_ialdN C (j := 5) rfl rfl (by decide) dX8_readsDoing_160 ?_
            refine hc_iconst C dX8_readsDoing_161 (v := 1) rfl ?_
            refine hc_iadd C dX8_readsDoing_162 ?_
            refine hc_iastN C (j := 5) rfl rfl (by decide) dX8_readsDoing_163 ?_
            refine hc_mem mG_55 ?_
            refine hc_vret C rfl dX8_readsDoing_164 ?_
            show mG M (rD8 (M 53) n c0 r g) (rD5 (M 53) n c0 r) = _
            unfold rD8 rD7
            rw [← hq5, ← hq4, ← hq3, ← hq2]
            first
              | rw [if_neg (show ¬ ¬ 0 ≤ q5.2.1 from hb_z.mp c_95)]
              | (rw [if_pos (show ¬ 0 ≤ q5.2.1 from hb_nz.mp c_95)]; rfl)
          · refine hc_iconst C dX8_readsDoing_137 (v := 0) rfl ?_
            refine hc_goto C (tgt := 143) dX8_readsDoing_138 (by decide) ?_
            refine hc_top (v := if q2.1 = 0 then 0 else -1000000) ?_ ?_
            · symm
              first | exact if_pos c_134 | exact if_neg c_134
            refine hc_iastN C (j := (rB5 c0 + 3)) rfl (show nI (rB5 c0) + nI 3 = nI (rB5 c0 + 3) from nI_add _ _) (by have := rB5_le c0; omega) dX8_readsDoing_143 ?_
            refine hc_mem mG_55 ?_
            refine hc_aload_n C dX8_readsDoing_144 rfl rfl ?_
            refine hc_getR C fl_X8_28 rfl rfl dX8_readsDoing_145 ?_
            refine hc_iload_n C dX8_readsDoing_148 rfl rfl ?_
            refine hc_iconst C dX8_readsDoing_149 (v := 4) rfl ?_
            refine hc_iadd C dX8_readsDoing_150 ?_
            refine hc_ldc C kc_X8_50 dX8_readsDoing_151 ?_
            refine hc_iastN C (j := (rB5 c0 + 4)) rfl (show nI (rB5 c0) + nI 4 = nI (rB5 c0 + 4) from nI_add _ _) (by have := rB5_le c0; omega) dX8_readsDoing_153 ?_
            refine hc_mem mG_55 ?_
            refine hc_aload_n C dX8_readsDoing_154 rfl rfl ?_
            refine hc_getR C fl_X8_28 rfl rfl dX8_readsDoing_155 ?_
            refine hc_iconst C dX8_readsDoing_158 (v := 5) rfl ?_
            refine hc_dup2 C dX8_readsDoing_159 rfl rfl ?_
            refine hc_ialdN C (j := 5) rfl rfl (by decide) dX8_readsDoing_160 ?_
            refine hc_iconst C dX8_readsDoing_161 (v := 1) rfl ?_
            refine hc_iadd C dX8_readsDoing_162 ?_
            refine hc_iastN C (j := 5) rfl rfl (by decide) dX8_readsDoing_163 ?_
            refine hc_mem mG_55 ?_
            refine hc_vret C rfl dX8_readsDoing_164 ?_
            show mG M (rD8 (M 53) n c0 r g) (rD5 (M 53) n c0 r) = _
            unfold rD8 rD7
            rw [← hq5, ← hq4, ← hq3, ← hq2]
            first
              | rw [if_neg (show ¬ ¬ 0 ≤ q5.2.1 from hb_z.mp c_95)]
              | (rw [if_pos (show ¬ 0 ≤ q5.2.1 from hb_nz.mp c_95)]; rfl)
      · refine hc_iconst C dX8_readsDoing_81 (v := 1) rfl ?_
        refine hc_goto C (tgt := 86) dX8_readsDoing_82 (by decide) ?_
        refine hc_top (v := hb (q4.2.2.2.2.2.1 = 4)) ?_ ?_
        · symm
          first | exact hb_t c_78 | exact hb_f c_78
        refine hc_iconst C dX8_readsDoing_86 (v := 1) rfl ?_
        refine hc_cV2i C mv_X8_114 (c_X8_takes (M := hc_mf M 55 g) (n := n) (r := q4.2) C.ok hn hn1 hp4) rfl rfl rfl (Nat.le_of_ble_eq_true rfl) (hc_rr_rm (by decide)) ⟨Nat.zero_le _, Nat.zero_le _⟩ dX8_readsDoing_87 (fun r_87 M_87 h_87 => ?_)
        obtain ⟨rfl, rfl⟩ := h_87
        obtain ⟨q5, hq5⟩ : ∃ q, q = rD5 (M 53) n c0 r := ⟨_, rfl⟩
        have e5 : (rTk (M 53) n (hb (q4.2.2.2.2.2.1 = 4)) 1 q4.2).2 = q5 := by
          rw [hq5]
          unfold rD5
          rw [← hq4]
        have hp5 : q5.2.2.1 ≤ n := by
          rw [hq5]
          exact rD5_ps hps
        refine hc_mem (M2 := mG M g q5) (by rw [← e5]; rfl) ?_
        refine hc_pop C dX8_readsDoing_90 rfl ?_
        refine hc_aload_n C dX8_readsDoing_91 rfl rfl ?_
        refine hc_cV0i C mv_X8_104 (c_X8_isWell C.ok) rfl rfl rfl (Nat.le_of_ble_eq_true rfl) (hc_rr_rm (by decide)) ⟨Nat.zero_le _, Nat.zero_le _⟩ dX8_readsDoing_92 (fun r_92 M_92 h_92 => ?_)
        obtain ⟨rfl, rfl⟩ := h_92
        refine hc_if_eq C (tgt := 164) dX8_readsDoing_95 (by decide) (fun c_95 => ?_) (fun c_95 => ?_)
        · refine hc_vret C rfl dX8_readsDoing_164 ?_
          show mG M (rD8 (M 53) n c0 r g) (rD5 (M 53) n c0 r) = _
          unfold rD8 rD7
          rw [← hq5, ← hq4, ← hq3, ← hq2]
          first
            | rw [if_neg (show ¬ ¬ 0 ≤ q5.2.1 from hb_z.mp c_95)]
            | (rw [if_pos (show ¬ 0 ≤ q5.2.1 from hb_nz.mp c_95)]; rfl)
        · refine hc_aload_n C dX8_readsDoing_98 rfl rfl ?_
          refine hc_getR C fl_X8_28 rfl rfl dX8_readsDoing_99 ?_
          refine hc_iload_n C dX8_readsDoing_102 rfl rfl ?_
          refine hc_iconst C dX8_readsDoing_103 (v := 0) rfl ?_
          refine hc_iadd C dX8_readsDoing_104 ?_
          refine hc_iload_n C dX8_readsDoing_105 rfl rfl ?_
          refine hc_iastN C (j := (rB5 c0 + 0)) rfl (show nI (rB5 c0) + nI 0 = nI (rB5 c0 + 0) from nI_add _ _) (by have := rB5_le c0; omega) dX8_readsDoing_106 ?_
          refine hc_mem mG_55 ?_
          refine hc_aload_n C dX8_readsDoing_107 rfl rfl ?_
          refine hc_getR C fl_X8_28 rfl rfl dX8_readsDoing_108 ?_
          refine hc_iload_n C dX8_readsDoing_111 rfl rfl ?_
          refine hc_iconst C dX8_readsDoing_112 (v := 1) rfl ?_
          refine hc_iadd C dX8_readsDoing_113 ?_
          refine hc_iload_n C dX8_readsDoing_114 rfl rfl ?_
          refine hc_iastN C (j := (rB5 c0 + 1)) rfl (show nI (rB5 c0) + nI 1 = nI (rB5 c0 + 1) from nI_add _ _) (by have := rB5_le c0; omega) dX8_readsDoing_115 ?_
          refine hc_mem mG_55 ?_
          refine hc_aload_n C dX8_readsDoing_116 rfl rfl ?_
          refine hc_getR C fl_X8_28 rfl rfl dX8_readsDoing_117 ?_
          refine hc_iload_n C dX8_readsDoing_120 rfl rfl ?_
          refine hc_iconst C dX8_readsDoing_121 (v := 2) rfl ?_
          refine hc_iadd C dX8_readsDoing_122 ?_
          refine hc_iload C dX8_readsDoing_123 rfl ?_
          refine hc_iastN C (j := (rB5 c0 + 2)) rfl (show nI (rB5 c0) + nI 2 = nI (rB5 c0 + 2) from nI_add _ _) (by have := rB5_le c0; omega) dX8_readsDoing_125 ?_
          refine hc_mem mG_55 ?_
          refine hc_aload_n C dX8_readsDoing_126 rfl rfl ?_
          refine hc_getR C fl_X8_28 rfl rfl dX8_readsDoing_127 ?_
          refine hc_iload_n C dX8_readsDoing_130 rfl rfl ?_
          refine hc_iconst C dX8_readsDoing_131 (v := 3) rfl ?_
          refine hc_iadd C dX8_readsDoing_132 ?_
          refine hc_iload_n C dX8_readsDoing_133 rfl rfl ?_
          refine hc_if_ne C (tgt := 141) dX8_readsDoing_134 (by decide) (fun c_134 => ?_) (fun c_134 => ?_)
          · refine hc_ldc C kc_X8_50 dX8_readsDoing_141 ?_
            refine hc_top (v := if q2.1 = 0 then 0 else -1000000) ?_ ?_
            · symm
              first | exact if_pos c_134 | exact if_neg c_134
            refine hc_iastN C (j := (rB5 c0 + 3)) rfl (show nI (rB5 c0) + nI 3 = nI (rB5 c0 + 3) from nI_add _ _) (by have := rB5_le c0; omega) dX8_readsDoing_143 ?_
            refine hc_mem mG_55 ?_
            refine hc_aload_n C dX8_readsDoing_144 rfl rfl ?_
            refine hc_getR C fl_X8_28 rfl rfl dX8_readsDoing_145 ?_
            refine hc_iload_n C dX8_readsDoing_148 rfl rfl ?_
            refine hc_iconst C dX8_readsDoing_149 (v := 4) rfl ?_
            refine hc_iadd C dX8_readsDoing_150 ?_
            refine hc_ldc C kc_X8_50 dX8_readsDoing_151 ?_
            refine hc_iastN C (j := (rB5 c0 + 4)) rfl (show nI (rB5 c0) + nI 4 = nI (rB5 c0 + 4) from nI_add _ _) (by have := rB5_le c0; omega) dX8_readsDoing_153 ?_
            refine hc_mem mG_55 ?_
            refine hc_aload_n C dX8_readsDoing_154 rfl rfl ?_
            refine hc_getR C fl_X8_28 rfl rfl dX8_readsDoing_155 ?_
            refine hc_iconst C dX8_readsDoing_158 (v := 5) rfl ?_
            refine hc_dup2 C dX8_readsDoing_159 rfl rfl ?_
            refine hc_ialdN C (j := 5) rfl rfl (by decide) dX8_readsDoing_160 ?_
            refine hc_iconst C dX8_readsDoing_161 (v := 1) rfl ?_
            refine hc_iadd C dX8_readsDoing_162 ?_
            refine hc_iastN C (j := 5) rfl rfl (by decide) dX8_readsDoing_163 ?_
            refine hc_mem mG_55 ?_
            refine hc_vret C rfl dX8_readsDoing_164 ?_
            show mG M (rD8 (M 53) n c0 r g) (rD5 (M 53) n c0 r) = _
            unfold rD8 rD7
            rw [← hq5, ← hq4, ← hq3, ← hq2]
            first
              | rw [if_neg (show ¬ ¬ 0 ≤ q5.2.1 from hb_z.mp c_95)]
              | (rw [if_pos (show ¬ 0 ≤ q5.2.1 from hb_nz.mp c_95)]; rfl)
          · refine hc_iconst C dX8_readsDoing_137 (v := 0) rfl ?_
            refine hc_goto C (tgt := 143) dX8_readsDoing_138 (by decide) ?_
            refine hc_top (v := if q2.1 = 0 then 0 else -1000000) ?_ ?_
            · symm
              first | exact if_pos c_134 | exact if_neg c_134
            refine hc_iastN C (j := (rB5 c0 + 3)) rfl (show nI (rB5 c0) + nI 3 = nI (rB5 c0 + 3) from nI_add _ _) (by have := rB5_le c0; omega) dX8_readsDoing_143 ?_
            refine hc_mem mG_55 ?_
            refine hc_aload_n C dX8_readsDoing_144 rfl rfl ?_
            refine hc_getR C fl_X8_28 rfl rfl dX8_readsDoing_145 ?_
            refine hc_iload_n C dX8_readsDoing_148 rfl rfl ?_
            refine hc_iconst C dX8_readsDoing_149 (v := 4) rfl ?_
            refine hc_iadd C dX8_readsDoing_150 ?_
            refine hc_ldc C kc_X8_50 dX8_readsDoing_151 ?_
            refine hc_iastN C (j := (rB5 c0 + 4)) rfl (show nI (rB5 c0) + nI 4 = nI (rB5 c0 + 4) from nI_add _ _) (by have := rB5_le c0; omega) dX8_readsDoing_153 ?_
            refine hc_mem mG_55 ?_
            refine hc_aload_n C dX8_readsDoing_154 rfl rfl ?_
            refine hc_getR C fl_X8_28 rfl rfl dX8_readsDoing_155 ?_
            refine hc_iconst C dX8_readsDoing_158 (v := 5) rfl ?_
            refine hc_dup2 C dX8_readsDoing_159 rfl rfl ?_
            refine hc_ialdN C (j := 5) rfl rfl (by decide) dX8_readsDoing_160 ?_
            refine hc_iconst C dX8_readsDoing_161 (v := 1) rfl ?_
            refine hc_iadd C dX8_readsDoing_162 ?_
            refine hc_iastN C (j := 5) rfl rfl (by decide) dX8_readsDoing_163 ?_
            refine hc_mem mG_55 ?_
            refine hc_vret C rfl dX8_readsDoing_164 ?_
            show mG M (rD8 (M 53) n c0 r g) (rD5 (M 53) n c0 r) = _
            unfold rD8 rD7
            rw [← hq5, ← hq4, ← hq3, ← hq2]
            first
              | rw [if_neg (show ¬ ¬ 0 ≤ q5.2.1 from hb_z.mp c_95)]
              | (rw [if_pos (show ¬ 0 ≤ q5.2.1 from hb_nz.mp c_95)]; rfl)
    · refine hc_aload_n C dX8_readsDoing_34 rfl rfl ?_
      refine hc_getR C fl_X8_28 rfl rfl dX8_readsDoing_35 ?_
      refine hc_iconst C dX8_readsDoing_38 (v := 5) rfl ?_
      refine hc_ialdN C (j := 5) rfl rfl (by decide) dX8_readsDoing_39 ?_
      refine hc_top (v := nI c0) hg ?_
      refine hc_goto C (tgt := 44) dX8_readsDoing_40 (by decide) ?_
      refine hc_imul C dX8_readsDoing_44 ?_
      refine hc_iadd C dX8_readsDoing_45 ?_
      refine hc_top (v := nI (rB5 c0)) ?_ ?_
      · unfold rB5
        rcases Nat.lt_or_ge c0 4 with q | q
        · rw [if_pos q]
          first
            | exact absurd (show nI 4 ≤ nI c0 from c_31) (nI_ge q (by decide))
            | exact hx_50 c0
        · rw [if_neg (by omega)]
          first
            | exact absurd (show nI 4 ≤ nI c0 from nI_le q (by omega)) c_31
            | rfl
      refine hc_istore_n1 C dX8_readsDoing_46 rfl (by decide) rfl ?_
      refine hc_aload_n C dX8_readsDoing_47 rfl rfl ?_
      refine hc_iconst C dX8_readsDoing_48 (v := 0) rfl ?_
      refine hc_bipush C dX8_readsDoing_49 (v := 99) rfl ?_
      refine hc_cV2i C mv_X8_118 (c_X8_figure (M := hc_mf M 55 g) (n := n) (r := q1) C.ok hn hn1 hp1) rfl rfl rfl (Nat.le_of_ble_eq_true rfl) (hc_rr_rm (by decide)) ⟨Nat.zero_le _, Nat.zero_le _⟩ dX8_readsDoing_51 (fun r_51 M_51 h_51 => ?_)
      obtain ⟨rfl, rfl⟩ := h_51
      obtain ⟨q2, hq2⟩ : ∃ q, q = rD2 (M 53) n c0 r := ⟨_, rfl⟩
      have e2 : rFg (M 53) n 0 99 q1 = q2 := by
        rw [hq2]
        unfold rD2
        rw [← hq1]
      have hp2 : q2.2.2.2.1 ≤ n := by
        rw [hq2]
        exact rD2_ps hps
      refine hc_mem (M2 := mG M g q2.2) (by rw [← e2]; rfl) ?_
      refine hc_top (v := q2.1) (by rw [← e2]; rfl) ?_
      refine hc_istore_n2 C dX8_readsDoing_54 rfl (by decide) rfl ?_
      refine hc_aload_n C dX8_readsDoing_55 rfl rfl ?_
      refine hc_iconst C dX8_readsDoing_56 (v := 1) rfl ?_
      refine hc_bipush C dX8_readsDoing_57 (v := 40) rfl ?_
      refine hc_cV2i C mv_X8_124 (c_X8_next (M := hc_mf M 55 g) (n := n) (r := q2.2) C.ok hn hn1 hp2) rfl rfl rfl (Nat.le_of_ble_eq_true rfl) (hc_rr_rm (by decide)) ⟨Nat.zero_le _, Nat.zero_le _⟩ dX8_readsDoing_59 (fun r_59 M_59 h_59 => ?_)
      obtain ⟨rfl, rfl⟩ := h_59
      obtain ⟨q3, hq3⟩ : ∃ q, q = rD3 (M 53) n c0 r := ⟨_, rfl⟩
      have e3 : rNx (M 53) n 1 40 q2.2 = q3 := by
        rw [hq3]
        unfold rD3
        rw [← hq2]
      have hp3 : q3.2.2.2.1 ≤ n := by
        rw [hq3]
        exact rD3_ps hps
      refine hc_mem (M2 := mG M g q3.2) (by rw [← e3]; rfl) ?_
      refine hc_top (v := q3.1) (by rw [← e3]; rfl) ?_
      refine hc_istore_n3 C dX8_readsDoing_62 rfl (by decide) rfl ?_
      refine hc_aload_n C dX8_readsDoing_63 rfl rfl ?_
      refine hc_iconst C dX8_readsDoing_64 (v := 0) rfl ?_
      refine hc_bipush C dX8_readsDoing_65 (v := 99) rfl ?_
      refine hc_cV2i C mv_X8_124 (c_X8_next (M := hc_mf M 55 g) (n := n) (r := q3.2) C.ok hn hn1 hp3) rfl rfl rfl (Nat.le_of_ble_eq_true rfl) (hc_rr_rm (by decide)) ⟨Nat.zero_le _, Nat.zero_le _⟩ dX8_readsDoing_67 (fun r_67 M_67 h_67 => ?_)
      obtain ⟨rfl, rfl⟩ := h_67
      obtain ⟨q4, hq4⟩ : ∃ q, q = rD4 (M 53) n c0 r := ⟨_, rfl⟩
      have e4 : rNx (M 53) n 0 99 q3.2 = q4 := by
        rw [hq4]
        unfold rD4
        rw [← hq3]
      have hp4 : q4.2.2.2.1 ≤ n := by
        rw [hq4]
        exact rD4_ps hps
      refine hc_mem (M2 := mG M g q4.2) (by rw [← e4]; rfl) ?_
      refine hc_top (v := q4.1) (by rw [← e4]; rfl) ?_
      refine hc_istore4 C dX8_readsDoing_70 (by decide) rfl ?_
      refine hc_aload_n C dX8_readsDoing_72 rfl rfl ?_
      refine hc_aload_n C dX8_readsDoing_73 rfl rfl ?_
      refine hc_getI C fl_X8_98 rfl rfl dX8_readsDoing_74 ?_
      refine hc_top (v := q4.2.2.2.2.2.1) rfl ?_
      refine hc_iconst C dX8_readsDoing_77 (v := 4) rfl ?_
      refine hc_icmp_ne C (tgt := 85) dX8_readsDoing_78 (by decide) (fun c_78 => ?_) (fun c_78 => ?_)
      · refine hc_iconst C dX8_readsDoing_85 (v := 0) rfl ?_
        refine hc_top (v := hb (q4.2.2.2.2.2.1 = 4)) ?_ ?_
        · symm
          first | exact hb_t c_78 | exact hb_f c_78
        refine hc_iconst C dX8_readsDoing_86 (v := 1) rfl ?_
        refine hc_cV2i C mv_X8_114 (c_X8_takes (M := hc_mf M 55 g) (n := n) (r := q4.2) C.ok hn hn1 hp4) rfl rfl rfl (Nat.le_of_ble_eq_true rfl) (hc_rr_rm (by decide)) ⟨Nat.zero_le _, Nat.zero_le _⟩ dX8_readsDoing_87 (fun r_87 M_87 h_87 => ?_)
        obtain ⟨rfl, rfl⟩ := h_87
        obtain ⟨q5, hq5⟩ : ∃ q, q = rD5 (M 53) n c0 r := ⟨_, rfl⟩
        have e5 : (rTk (M 53) n (hb (q4.2.2.2.2.2.1 = 4)) 1 q4.2).2 = q5 := by
          rw [hq5]
          unfold rD5
          rw [← hq4]
        have hp5 : q5.2.2.1 ≤ n := by
          rw [hq5]
          exact rD5_ps hps
        refine hc_mem (M2 := mG M g q5) (by rw [← e5]; rfl) ?_
        refine hc_pop C dX8_readsDoing_90 rfl ?_
        refine hc_aload_n C dX8_readsDoing_91 rfl rfl ?_
        refine hc_cV0i C mv_X8_104 (c_X8_isWell C.ok) rfl rfl rfl (Nat.le_of_ble_eq_true rfl) (hc_rr_rm (by decide)) ⟨Nat.zero_le _, Nat.zero_le _⟩ dX8_readsDoing_92 (fun r_92 M_92 h_92 => ?_)
        obtain ⟨rfl, rfl⟩ := h_92
        refine hc_if_eq C (tgt := 164) dX8_readsDoing_95 (by decide) (fun c_95 => ?_) (fun c_95 => ?_)
        · refine hc_vret C rfl dX8_readsDoing_164 ?_
          show mG M (rD8 (M 53) n c0 r g) (rD5 (M 53) n c0 r) = _
          unfold rD8 rD7
          rw [← hq5, ← hq4, ← hq3, ← hq2]
          first
            | rw [if_neg (show ¬ ¬ 0 ≤ q5.2.1 from hb_z.mp c_95)]
            | (rw [if_pos (show ¬ 0 ≤ q5.2.1 from hb_nz.mp c_95)]; rfl)
        · refine hc_aload_n C dX8_readsDoing_98 rfl rfl ?_
          refine hc_getR C fl_X8_28 rfl rfl dX8_readsDoing_99 ?_
          refine hc_iload_n C dX8_readsDoing_102 rfl rfl ?_
          refine hc_iconst C dX8_readsDoing_103 (v := 0) rfl ?_
          refine hc_iadd C dX8_readsDoing_104 ?_
          refine hc_iload_n C dX8_readsDoing_105 rfl rfl ?_
          refine hc_iastN C (j := (rB5 c0 + 0)) rfl (show nI (rB5 c0) + nI 0 = nI (rB5 c0 + 0) from nI_add _ _) (by have := rB5_le c0; omega) dX8_readsDoing_106 ?_
          refine hc_mem mG_55 ?_
          refine hc_aload_n C dX8_readsDoing_107 rfl rfl ?_
          refine hc_getR C fl_X8_28 rfl rfl dX8_readsDoing_108 ?_
          refine hc_iload_n C dX8_readsDoing_111 rfl rfl ?_
          refine hc_iconst C dX8_readsDoing_112 (v := 1) rfl ?_
          refine hc_iadd C dX8_readsDoing_113 ?_
          refine hc_iload_n C dX8_readsDoing_114 rfl rfl ?_
          refine hc_iastN C (j := (rB5 c0 + 1)) rfl (show nI (rB5 c0) + nI 1 = nI (rB5 c0 + 1) from nI_add _ _) (by have := rB5_le c0; omega) dX8_readsDoing_115 ?_
          refine hc_mem mG_55 ?_
          refine hc_aload_n C dX8_readsDoing_116 rfl rfl ?_
          refine hc_getR C fl_X8_28 rfl rfl dX8_readsDoing_117 ?_
          refine hc_iload_n C dX8_readsDoing_120 rfl rfl ?_
          refine hc_iconst C dX8_readsDoing_121 (v := 2) rfl ?_
          refine hc_iadd C dX8_readsDoing_122 ?_
          refine hc_iload C dX8_readsDoing_123 rfl ?_
          refine hc_iastN C (j := (rB5 c0 + 2)) rfl (show nI (rB5 c0) + nI 2 = nI (rB5 c0 + 2) from nI_add _ _) (by have := rB5_le c0; omega) dX8_readsDoing_125 ?_
          refine hc_mem mG_55 ?_
          refine hc_aload_n C dX8_readsDoing_126 rfl rfl ?_
          refine hc_getR C fl_X8_28 rfl rfl dX8_readsDoing_127 ?_
          refine hc_iload_n C dX8_readsDoing_130 rfl rfl ?_
          refine hc_iconst C dX8_readsDoing_131 (v := 3) rfl ?_
          refine hc_iadd C dX8_readsDoing_132 ?_
          refine hc_iload_n C dX8_readsDoing_133 rfl rfl ?_
          refine hc_if_ne C (tgt := 141) dX8_readsDoing_134 (by decide) (fun c_134 => ?_) (fun c_134 => ?_)
          · refine hc_ldc C kc_X8_50 dX8_readsDoing_141 ?_
            refine hc_top (v := if q2.1 = 0 then 0 else -1000000) ?_ ?_
            · symm
              first | exact if_pos c_134 | exact if_neg c_134
            refine hc_iastN C (j := (rB5 c0 + 3)) rfl (show nI (rB5 c0) + nI 3 = nI (rB5 c0 + 3) from nI_add _ _) (by have := rB5_le c0; omega) dX8_readsDoing_143 ?_
            refine hc_mem mG_55 ?_
            refine hc_aload_n C dX8_readsDoing_144 rfl rfl ?_
            refine hc_getR C fl_X8_28 rfl rfl dX8_readsDoing_145 ?_
            refine hc_iload_n C dX8_readsDoing_148 rfl rfl ?_
            refine hc_iconst C dX8_readsDoing_149 (v := 4) rfl ?_
            refine hc_iadd C dX8_readsDoing_150 ?_
            refine hc_ldc C kc_X8_50 dX8_readsDoing_151 ?_
            refine hc_iastN C (j := (rB5 c0 + 4)) rfl (show nI (rB5 c0) + nI 4 = nI (rB5 c0 + 4) from nI_add _ _) (by have := rB5_le c0; omega) dX8_readsDoing_153 ?_
            refine hc_mem mG_55 ?_
            refine hc_aload_n C dX8_readsDoing_154 rfl rfl ?_
            refine hc_getR C fl_X8_28 rfl rfl dX8_readsDoing_155 ?_
            refine hc_iconst C dX8_readsDoing_158 (v := 5) rfl ?_
            refine hc_dup2 C dX8_readsDoing_159 rfl rfl ?_
            refine hc_ialdN C (j := 5) rfl rfl (by decide) dX8_readsDoing_160 ?_
            refine hc_iconst C dX8_readsDoing_161 (v := 1) rfl ?_
            refine hc_iadd C dX8_readsDoing_162 ?_
            refine hc_iastN C (j := 5) rfl rfl (by decide) dX8_readsDoing_163 ?_
            refine hc_mem mG_55 ?_
            refine hc_vret C rfl dX8_readsDoing_164 ?_
            show mG M (rD8 (M 53) n c0 r g) (rD5 (M 53) n c0 r) = _
            unfold rD8 rD7
            rw [← hq5, ← hq4, ← hq3, ← hq2]
            first
              | rw [if_neg (show ¬ ¬ 0 ≤ q5.2.1 from hb_z.mp c_95)]
              | (rw [if_pos (show ¬ 0 ≤ q5.2.1 from hb_nz.mp c_95)]; rfl)
          · refine hc_iconst C dX8_readsDoing_137 (v := 0) rfl ?_
            refine hc_goto C (tgt := 143) dX8_readsDoing_138 (by decide) ?_
            refine hc_top (v := if q2.1 = 0 then 0 else -1000000) ?_ ?_
            · symm
              first | exact if_pos c_134 | exact if_neg c_134
            refine hc_iastN C (j := (rB5 c0 + 3)) rfl (show nI (rB5 c0) + nI 3 = nI (rB5 c0 + 3) from nI_add _ _) (by have := rB5_le c0; omega) dX8_readsDoing_143 ?_
            refine hc_mem mG_55 ?_
            refine hc_aload_n C dX8_readsDoing_144 rfl rfl ?_
            refine hc_getR C fl_X8_28 rfl rfl dX8_readsDoing_145 ?_
            refine hc_iload_n C dX8_readsDoing_148 rfl rfl ?_
            refine hc_iconst C dX8_readsDoing_149 (v := 4) rfl ?_
            refine hc_iadd C dX8_readsDoing_150 ?_
            refine hc_ldc C kc_X8_50 dX8_readsDoing_151 ?_
            refine hc_iastN C (j := (rB5 c0 + 4)) rfl (show nI (rB5 c0) + nI 4 = nI (rB5 c0 + 4) from nI_add _ _) (by have := rB5_le c0; omega) dX8_readsDoing_153 ?_
            refine hc_mem mG_55 ?_
            refine hc_aload_n C dX8_readsDoing_154 rfl rfl ?_
            refine hc_getR C fl_X8_28 rfl rfl dX8_readsDoing_155 ?_
            refine hc_iconst C dX8_readsDoing_158 (v := 5) rfl ?_
            refine hc_dup2 C dX8_readsDoing_159 rfl rfl ?_
            refine hc_ialdN C (j := 5) rfl rfl (by decide) dX8_readsDoing_160 ?_
            refine hc_iconst C dX8_readsDoing_161 (v := 1) rfl ?_
            refine hc_iadd C dX8_readsDoing_162 ?_
            refine hc_iastN C (j := 5) rfl rfl (by decide) dX8_readsDoing_163 ?_
            refine hc_mem mG_55 ?_
            refine hc_vret C rfl dX8_readsDoing_164 ?_
            show mG M (rD8 (M 53) n c0 r g) (rD5 (M 53) n c0 r) = _
            unfold rD8 rD7
            rw [← hq5, ← hq4, ← hq3, ← hq2]
            first
              | rw [if_neg (show ¬ ¬ 0 ≤ q5.2.1 from hb_z.mp c_95)]
              | (rw [if_pos (show ¬ 0 ≤ q5.2.1 from hb_nz.mp c_95)]; rfl)
      · refine hc_iconst C dX8_readsDoing_81 (v := 1) rfl ?_
        refine hc_goto C (tgt := 86) dX8_readsDoing_82 (by decide) ?_
        refine hc_top (v := hb (q4.2.2.2.2.2.1 = 4)) ?_ ?_
        · symm
          first | exact hb_t c_78 | exact hb_f c_78
        refine hc_iconst C dX8_readsDoing_86 (v := 1) rfl ?_
        refine hc_cV2i C mv_X8_114 (c_X8_takes (M := hc_mf M 55 g) (n := n) (r := q4.2) C.ok hn hn1 hp4) rfl rfl rfl (Nat.le_of_ble_eq_true rfl) (hc_rr_rm (by decide)) ⟨Nat.zero_le _, Nat.zero_le _⟩ dX8_readsDoing_87 (fun r_87 M_87 h_87 => ?_)
        obtain ⟨rfl, rfl⟩ := h_87
        obtain ⟨q5, hq5⟩ : ∃ q, q = rD5 (M 53) n c0 r := ⟨_, rfl⟩
        have e5 : (rTk (M 53) n (hb (q4.2.2.2.2.2.1 = 4)) 1 q4.2).2 = q5 := by
          rw [hq5]
          unfold rD5
          rw [← hq4]
        have hp5 : q5.2.2.1 ≤ n := by
          rw [hq5]
          exact rD5_ps hps
        refine hc_mem (M2 := mG M g q5) (by rw [← e5]; rfl) ?_
        refine hc_pop C dX8_readsDoing_90 rfl ?_
        refine hc_aload_n C dX8_readsDoing_91 rfl rfl ?_
        refine hc_cV0i C mv_X8_104 (c_X8_isWell C.ok) rfl rfl rfl (Nat.le_of_ble_eq_true rfl) (hc_rr_rm (by decide)) ⟨Nat.zero_le _, Nat.zero_le _⟩ dX8_readsDoing_92 (fun r_92 M_92 h_92 => ?_)
        obtain ⟨rfl, rfl⟩ := h_92
        refine hc_if_eq C (tgt := 164) dX8_readsDoing_95 (by decide) (fun c_95 => ?_) (fun c_95 => ?_)
        · refine hc_vret C rfl dX8_readsDoing_164 ?_
          show mG M (rD8 (M 53) n c0 r g) (rD5 (M 53) n c0 r) = _
          unfold rD8 rD7
          rw [← hq5, ← hq4, ← hq3, ← hq2]
          first
            | rw [if_neg (show ¬ ¬ 0 ≤ q5.2.1 from hb_z.mp c_95)]
            | (rw [if_pos (show ¬ 0 ≤ q5.2.1 from hb_nz.mp c_95)]; rfl)
        · refine hc_aload_n C dX8_readsDoing_98 rfl rfl ?_
          refine hc_getR C fl_X8_28 rfl rfl dX8_readsDoing_99 ?_
          refine hc_iload_n C dX8_readsDoing_102 rfl rfl ?_
          refine hc_iconst C dX8_readsDoing_103 (v := 0) rfl ?_
          refine hc_iadd C dX8_readsDoing_104 ?_
          refine hc_iload_n C dX8_readsDoing_105 rfl rfl ?_
          refine hc_iastN C (j := (rB5 c0 + 0)) rfl (show nI (rB5 c0) + nI 0 = nI (rB5 c0 + 0) from nI_add _ _) (by have := rB5_le c0; omega) dX8_readsDoing_106 ?_
          refine hc_mem mG_55 ?_
          refine hc_aload_n C dX8_readsDoing_107 rfl rfl ?_
          refine hc_getR C fl_X8_28 rfl rfl dX8_readsDoing_108 ?_
          refine hc_iload_n C dX8_readsDoing_111 rfl rfl ?_
          refine hc_iconst C dX8_readsDoing_112 (v := 1) rfl ?_
          refine hc_iadd C dX8_readsDoing_113 ?_
          refine hc_iload_n C dX8_readsDoing_114 rfl rfl ?_
          refine hc_iastN C (j := (rB5 c0 + 1)) rfl (show nI (rB5 c0) + nI 1 = nI (rB5 c0 + 1) from nI_add _ _) (by have := rB5_le c0; omega) dX8_readsDoing_115 ?_
          refine hc_mem mG_55 ?_
          refine hc_aload_n C dX8_readsDoing_116 rfl rfl ?_
          refine hc_getR C fl_X8_28 rfl rfl dX8_readsDoing_117 ?_
          refine hc_iload_n C dX8_readsDoing_120 rfl rfl ?_
          refine hc_iconst C dX8_readsDoing_121 (v := 2) rfl ?_
          refine hc_iadd C dX8_readsDoing_122 ?_
          refine hc_iload C dX8_readsDoing_123 rfl ?_
          refine hc_iastN C (j := (rB5 c0 + 2)) rfl (show nI (rB5 c0) + nI 2 = nI (rB5 c0 + 2) from nI_add _ _) (by have := rB5_le c0; omega) dX8_readsDoing_125 ?_
          refine hc_mem mG_55 ?_
          refine hc_aload_n C dX8_readsDoing_126 rfl rfl ?_
          refine hc_getR C fl_X8_28 rfl rfl dX8_readsDoing_127 ?_
          refine hc_iload_n C dX8_readsDoing_130 rfl rfl ?_
          refine hc_iconst C dX8_readsDoing_131 (v := 3) rfl ?_
          refine hc_iadd C dX8_readsDoing_132 ?_
          refine hc_iload_n C dX8_readsDoing_133 rfl rfl ?_
          refine hc_if_ne C (tgt := 141) dX8_readsDoing_134 (by decide) (fun c_134 => ?_) (fun c_134 => ?_)
          · refine hc_ldc C kc_X8_50 dX8_readsDoing_141 ?_
            refine hc_top (v := if q2.1 = 0 then 0 else -1000000) ?_ ?_
            · symm
              first | exact if_pos c_134 | exact if_neg c_134
            refine hc_iastN C (j := (rB5 c0 + 3)) rfl (show nI (rB5 c0) + nI 3 = nI (rB5 c0 + 3) from nI_add _ _) (by have := rB5_le c0; omega) dX8_readsDoing_143 ?_
            refine hc_mem mG_55 ?_
            refine hc_aload_n C dX8_readsDoing_144 rfl rfl ?_
            refine hc_getR C fl_X8_28 rfl rfl dX8_readsDoing_145 ?_
            refine hc_iload_n C dX8_readsDoing_148 rfl rfl ?_
            refine hc_iconst C dX8_readsDoing_149 (v := 4) rfl ?_
            refine hc_iadd C dX8_readsDoing_150 ?_
            refine hc_ldc C kc_X8_50 dX8_readsDoing_151 ?_
            refine hc_iastN C (j := (rB5 c0 + 4)) rfl (show nI (rB5 c0) + nI 4 = nI (rB5 c0 + 4) from nI_add _ _) (by have := rB5_le c0; omega) dX8_readsDoing_153 ?_
            refine hc_mem mG_55 ?_
            refine hc_aload_n C dX8_readsDoing_154 rfl rfl ?_
            refine hc_getR C fl_X8_28 rfl rfl dX8_readsDoing_155 ?_
            refine hc_iconst C dX8_readsDoing_158 (v := 5) rfl ?_
            refine hc_dup2 C dX8_readsDoing_159 rfl rfl ?_
            refine hc_ialdN C (j := 5) rfl rfl (by decide) dX8_readsDoing_160 ?_
            refine hc_iconst C dX8_readsDoing_161 (v := 1) rfl ?_
            refine hc_iadd C dX8_readsDoing_162 ?_
            refine hc_iastN C (j := 5) rfl rfl (by decide) dX8_readsDoing_163 ?_
            refine hc_mem mG_55 ?_
            refine hc_vret C rfl dX8_readsDoing_164 ?_
            show mG M (rD8 (M 53) n c0 r g) (rD5 (M 53) n c0 r) = _
            unfold rD8 rD7
            rw [← hq5, ← hq4, ← hq3, ← hq2]
            first
              | rw [if_neg (show ¬ ¬ 0 ≤ q5.2.1 from hb_z.mp c_95)]
              | (rw [if_pos (show ¬ 0 ≤ q5.2.1 from hb_nz.mp c_95)]; rfl)
          · refine hc_iconst C dX8_readsDoing_137 (v := 0) rfl ?_
            refine hc_goto C (tgt := 143) dX8_readsDoing_138 (by decide) ?_
            refine hc_top (v := if q2.1 = 0 then 0 else -1000000) ?_ ?_
            · symm
              first | exact if_pos c_134 | exact if_neg c_134
            refine hc_iastN C (j := (rB5 c0 + 3)) rfl (show nI (rB5 c0) + nI 3 = nI (rB5 c0 + 3) from nI_add _ _) (by have := rB5_le c0; omega) dX8_readsDoing_143 ?_
            refine hc_mem mG_55 ?_
            refine hc_aload_n C dX8_readsDoing_144 rfl rfl ?_
            refine hc_getR C fl_X8_28 rfl rfl dX8_readsDoing_145 ?_
            refine hc_iload_n C dX8_readsDoing_148 rfl rfl ?_
            refine hc_iconst C dX8_readsDoing_149 (v := 4) rfl ?_
            refine hc_iadd C dX8_readsDoing_150 ?_
            refine hc_ldc C kc_X8_50 dX8_readsDoing_151 ?_
            refine hc_iastN C (j := (rB5 c0 + 4)) rfl (show nI (rB5 c0) + nI 4 = nI (rB5 c0 + 4) from nI_add _ _) (by have := rB5_le c0; omega) dX8_readsDoing_153 ?_
            refine hc_mem mG_55 ?_
            refine hc_aload_n C dX8_readsDoing_154 rfl rfl ?_
            refine hc_getR C fl_X8_28 rfl rfl dX8_readsDoing_155 ?_
            refine hc_iconst C dX8_readsDoing_158 (v := 5) rfl ?_
            refine hc_dup2 C dX8_readsDoing_159 rfl rfl ?_
            refine hc_ialdN C (j := 5) rfl rfl (by decide) dX8_readsDoing_160 ?_
            refine hc_iconst C dX8_readsDoing_161 (v := 1) rfl ?_
            refine hc_iadd C dX8_readsDoing_162 ?_
            refine hc_iastN C (j := 5) rfl rfl (by decide) dX8_readsDoing_163 ?_
            refine hc_mem mG_55 ?_
            refine hc_vret C rfl dX8_readsDoing_164 ?_
            show mG M (rD8 (M 53) n c0 r g) (rD5 (M 53) n c0 r) = _
            unfold rD8 rD7
            rw [← hq5, ← hq4, ← hq3, ← hq2]
            first
              | rw [if_neg (show ¬ ¬ 0 ≤ q5.2.1 from hb_z.mp c_95)]
              | (rw [if_pos (show ¬ 0 ≤ q5.2.1 from hb_nz.mp c_95)]; rfl)
