set_option maxRecDepth 100000 in
set_option maxHeartbeats 4000000 in
theorem lp_RtoC1 {G : hc_Geo} {p : Program} {l : Launch} {e : Env} {d : Nat} {s : State} {m : MethodId} {args : Array Value} {below : List Frame} {meth : Method} {c : Code} {Q : State → Prop} (C : hc_Cx G hc_lay cX8_toCall 7 (some .int) yX8_toCall.cls p s m args meth c) {Y : hc_Mem} {a1 a2 a3 a4 : Option Value} {x E D : Nat} (hd : 1 < d) (hE : Y 54 4 = nI E) (hE6 : E ≤ 6) (kk : ∀ f : Nat → Int32, f 4 = nI E → f 5 = nI D → hc_W G hc_lay p l e (hc_rm d) s m args below meth c 7 0 0 Q 184 [some (.ref (hc_ad G 48)), a1, a2, a3, a4, some (.int (nI x)), some (.int (nI E))] [] (hc_mf Y 59 f))  :
    ∀ (t : Nat) (k : Nat) (f : Nat → Int32), k + t = E → f 4 = nI E → f 5 = nI D → hc_W G hc_lay p l e (hc_rm d) s m args below meth c 7 0 0 Q 79 [some (.ref (hc_ad G 48)), a1, a2, a3, a4, some (.int (nI x)), some (.int (nI k))] [] (hc_mf Y 59 f) := by
  intro t
  induction t with
  | zero =>
    intro k f hk h4 h5
    refine hc_iload C dX8_toCall_79 rfl ?_
    refine hc_aload_n C dX8_toCall_81 rfl rfl ?_
    refine hc_getR C fl_X8_25 rfl rfl dX8_toCall_82 ?_
    refine hc_iconst C dX8_toCall_85 (v := 4) rfl ?_
    refine hc_ialdN C (j := 4) rfl rfl (by decide) dX8_toCall_86 ?_
    rw [hc_mf_n (by decide)]
    refine hc_icmp_ge C (tgt := 184) dX8_toCall_87 (by decide) (fun c_87 => ?_) (fun c_87 => ?_)
    rotate_left
    · exact absurd (by rw [hE]; exact nI_le (show E ≤ k by omega) (by omega)) c_87
    obtain rfl : k = E := by omega
    exact kk f h4 h5
  | succ t ih =>
    intro k f hk h4 h5
    refine hc_iload C dX8_toCall_79 rfl ?_
    refine hc_aload_n C dX8_toCall_81 rfl rfl ?_
    refine hc_getR C fl_X8_25 rfl rfl dX8_toCall_82 ?_
    refine hc_iconst C dX8_toCall_85 (v := 4) rfl ?_
    refine hc_ialdN C (j := 4) rfl rfl (by decide) dX8_toCall_86 ?_
    rw [hc_mf_n (by decide)]
    refine hc_icmp_ge C (tgt := 184) dX8_toCall_87 (by decide) (fun c_87 => ?_) (fun c_87 => ?_)
    · exact absurd (hE ▸ c_87) (nI_ge (show k < E by omega) (by omega))
    refine hc_aload_n C dX8_toCall_90 rfl rfl ?_
    refine hc_getR C fl_X8_41 rfl rfl dX8_toCall_91 ?_
    refine hc_bipush C dX8_toCall_94 (v := 6) rfl ?_
    refine hc_bipush C dX8_toCall_96 (v := 7) rfl ?_
    refine hc_iload C dX8_toCall_98 rfl ?_
    refine hc_imul C dX8_toCall_100 ?_
    refine hc_iadd C dX8_toCall_101 ?_
    refine hc_iconst C dX8_toCall_102 (v := 5) rfl ?_
    refine hc_iadd C dX8_toCall_103 ?_
    refine hc_iload C dX8_toCall_104 rfl ?_
    refine hc_iload C dX8_toCall_106 rfl ?_
    refine hc_cS2i C ms_X8_145 (c_X8_has C.ok) (Nat.le_of_ble_eq_true rfl) (hc_rr_rm hd) ⟨Nat.zero_le _, Nat.zero_le _⟩ dX8_toCall_108 (fun r_108 M_108 h_108 => ?_)
    obtain ⟨rfl, rfl⟩ := h_108
    refine hc_if_eq C (tgt := 118) dX8_toCall_111 (by decide) (fun c_111 => ?_) (fun c_111 => ?_)
    · refine hc_aload_n C dX8_toCall_118 rfl rfl ?_
      refine hc_getR C fl_X8_25 rfl rfl dX8_toCall_119 ?_
      refine hc_bipush C dX8_toCall_122 (v := 6) rfl ?_
      refine hc_bipush C dX8_toCall_124 (v := 7) rfl ?_
      refine hc_iload C dX8_toCall_126 rfl ?_
      refine hc_imul C dX8_toCall_128 ?_
      refine hc_iadd C dX8_toCall_129 ?_
      refine hc_iconst C dX8_toCall_130 (v := 5) rfl ?_
      refine hc_iadd C dX8_toCall_131 ?_
      refine hc_ialdN C (j := (6 + 7 * k + 5)) rfl (hx_67 k 5) (by omega) dX8_toCall_132 ?_
      rw [hc_mf_n (by decide)]
      refine hc_iastN C (j := (6 + 7 * k + 5)) rfl (hx_67 k 5) (by omega) dX8_toCall_133 ?_
      rw [hc_ms_mf]
      refine hc_aload_n C dX8_toCall_134 rfl rfl ?_
      refine hc_getR C fl_X8_41 rfl rfl dX8_toCall_135 ?_
      refine hc_bipush C dX8_toCall_138 (v := 6) rfl ?_
      refine hc_bipush C dX8_toCall_140 (v := 7) rfl ?_
      refine hc_iload C dX8_toCall_142 rfl ?_
      refine hc_imul C dX8_toCall_144 ?_
      refine hc_iadd C dX8_toCall_145 ?_
      refine hc_iconst C dX8_toCall_146 (v := 2) rfl ?_
      refine hc_iadd C dX8_toCall_147 ?_
      refine hc_iload C dX8_toCall_148 rfl ?_
      refine hc_iload C dX8_toCall_150 rfl ?_
      refine hc_cS2i C ms_X8_145 (c_X8_has C.ok) (Nat.le_of_ble_eq_true rfl) (hc_rr_rm hd) ⟨Nat.zero_le _, Nat.zero_le _⟩ dX8_toCall_152 (fun r_152 M_152 h_152 => ?_)
      obtain ⟨rfl, rfl⟩ := h_152
      refine hc_if_eq C (tgt := 162) dX8_toCall_155 (by decide) (fun c_155 => ?_) (fun c_155 => ?_)
      · refine hc_aload_n C dX8_toCall_162 rfl rfl ?_
        refine hc_getR C fl_X8_25 rfl rfl dX8_toCall_163 ?_
        refine hc_bipush C dX8_toCall_166 (v := 6) rfl ?_
        refine hc_bipush C dX8_toCall_168 (v := 7) rfl ?_
        refine hc_iload C dX8_toCall_170 rfl ?_
        refine hc_imul C dX8_toCall_172 ?_
        refine hc_iadd C dX8_toCall_173 ?_
        refine hc_iconst C dX8_toCall_174 (v := 2) rfl ?_
        refine hc_iadd C dX8_toCall_175 ?_
        refine hc_ialdN C (j := (6 + 7 * k + 2)) rfl (hx_67 k 2) (by omega) dX8_toCall_176 ?_
        rw [hc_mf_n (by decide)]
        refine hc_iastN C (j := (6 + 7 * k + 2)) rfl (hx_67 k 2) (by omega) dX8_toCall_177 ?_
        rw [hc_ms_mf]
        refine hc_iinc6 C (v := nI (k + 1)) dX8_toCall_178 (by decide) rfl rfl (nI_1 k) ?_
        refine hc_goto C (tgt := 79) dX8_toCall_181 (by decide) ?_
        refine ih (k + 1) _ (by omega) ?_ ?_
        · unfold upd; rw [if_neg (by omega), if_neg (by omega)]; exact h4
        · unfold upd; rw [if_neg (by omega), if_neg (by omega)]; exact h5
      · refine hc_iconst C dX8_toCall_158 (v := 0) rfl ?_
        refine hc_goto C (tgt := 177) dX8_toCall_159 (by decide) ?_
        refine hc_iastN C (j := (6 + 7 * k + 2)) rfl (hx_67 k 2) (by omega) dX8_toCall_177 ?_
        rw [hc_ms_mf]
        refine hc_iinc6 C (v := nI (k + 1)) dX8_toCall_178 (by decide) rfl rfl (nI_1 k) ?_
        refine hc_goto C (tgt := 79) dX8_toCall_181 (by decide) ?_
        refine ih (k + 1) _ (by omega) ?_ ?_
        · unfold upd; rw [if_neg (by omega), if_neg (by omega)]; exact h4
        · unfold upd; rw [if_neg (by omega), if_neg (by omega)]; exact h5
    · refine hc_iconst C dX8_toCall_114 (v := 0) rfl ?_
      refine hc_goto C (tgt := 133) dX8_toCall_115 (by decide) ?_
      refine hc_iastN C (j := (6 + 7 * k + 5)) rfl (hx_67 k 5) (by omega) dX8_toCall_133 ?_
      rw [hc_ms_mf]
      refine hc_aload_n C dX8_toCall_134 rfl rfl ?_
      refine hc_getR C fl_X8_41 rfl rfl dX8_toCall_135 ?_
      refine hc_bipush C dX8_toCall_138 (v := 6) rfl ?_
      refine hc_bipush C dX8_toCall_140 (v := 7) rfl ?_
      refine hc_iload C dX8_toCall_142 rfl ?_
      refine hc_imul C dX8_toCall_144 ?_
      refine hc_iadd C dX8_toCall_145 ?_
      refine hc_iconst C dX8_toCall_146 (v := 2) rfl ?_
      refine hc_iadd C dX8_toCall_147 ?_
      refine hc_iload C dX8_toCall_148 rfl ?_
      refine hc_iload C dX8_toCall_150 rfl ?_
      refine hc_cS2i C ms_X8_145 (c_X8_has C.ok) (Nat.le_of_ble_eq_true rfl) (hc_rr_rm hd) ⟨Nat.zero_le _, Nat.zero_le _⟩ dX8_toCall_152 (fun r_152 M_152 h_152 => ?_)
      obtain ⟨rfl, rfl⟩ := h_152
      refine hc_if_eq C (tgt := 162) dX8_toCall_155 (by decide) (fun c_155 => ?_) (fun c_155 => ?_)
      · refine hc_aload_n C dX8_toCall_162 rfl rfl ?_
        refine hc_getR C fl_X8_25 rfl rfl dX8_toCall_163 ?_
        refine hc_bipush C dX8_toCall_166 (v := 6) rfl ?_
        refine hc_bipush C dX8_toCall_168 (v := 7) rfl ?_
        refine hc_iload C dX8_toCall_170 rfl ?_
        refine hc_imul C dX8_toCall_172 ?_
        refine hc_iadd C dX8_toCall_173 ?_
        refine hc_iconst C dX8_toCall_174 (v := 2) rfl ?_
        refine hc_iadd C dX8_toCall_175 ?_
        refine hc_ialdN C (j := (6 + 7 * k + 2)) rfl (hx_67 k 2) (by omega) dX8_toCall_176 ?_
        rw [hc_mf_n (by decide)]
        refine hc_iastN C (j := (6 + 7 * k + 2)) rfl (hx_67 k 2) (by omega) dX8_toCall_177 ?_
        rw [hc_ms_mf]
        refine hc_iinc6 C (v := nI (k + 1)) dX8_toCall_178 (by decide) rfl rfl (nI_1 k) ?_
        refine hc_goto C (tgt := 79) dX8_toCall_181 (by decide) ?_
        refine ih (k + 1) _ (by omega) ?_ ?_
        · unfold upd; rw [if_neg (by omega), if_neg (by omega)]; exact h4
        · unfold upd; rw [if_neg (by omega), if_neg (by omega)]; exact h5
      · refine hc_iconst C dX8_toCall_158 (v := 0) rfl ?_
        refine hc_goto C (tgt := 177) dX8_toCall_159 (by decide) ?_
        refine hc_iastN C (j := (6 + 7 * k + 2)) rfl (hx_67 k 2) (by omega) dX8_toCall_177 ?_
        rw [hc_ms_mf]
        refine hc_iinc6 C (v := nI (k + 1)) dX8_toCall_178 (by decide) rfl rfl (nI_1 k) ?_
        refine hc_goto C (tgt := 79) dX8_toCall_181 (by decide) ?_
        refine ih (k + 1) _ (by omega) ?_ ?_
        · unfold upd; rw [if_neg (by omega), if_neg (by omega)]; exact h4
        · unfold upd; rw [if_neg (by omega), if_neg (by omega)]; exact h5

set_option maxRecDepth 100000 in
set_option maxHeartbeats 4000000 in
theorem lp_RtoC {G : hc_Geo} {p : Program} {l : Launch} {e : Env} {d : Nat} {s : State} {m : MethodId} {args : Array Value} {below : List Frame} {meth : Method} {c : Code} {Q : State → Prop} (C : hc_Cx G hc_lay cX8_toCall 7 (some .int) yX8_toCall.cls p s m args meth c) {M : hc_Mem} {E D n : Nat} {v1 v3 : Int32} (hd : 6 < d) (hE : M 54 4 = nI E) (hE6 : E ≤ 6) (hD : M 54 5 = nI D) (hD4 : D ≤ 4) (hn : n ≤ 99) (kk : ∀ (Y : hc_Mem) (bb : Int32) (v6 : Option Value), (∀ q, q ≠ 59 → q ≠ 60 → Y q = M q) → hc_W G hc_lay p l e (hc_rm d) s m args below meth c 7 0 0 Q 243 [some (.ref (hc_ad G 48)), some (.int v1), some (.int (nI n)), some (.int v3), some (.int bb), some (.int (nI (2 ^ E))), v6] [] Y)  :
    ∀ (t : Nat) (x : Nat) (Y : hc_Mem) (bb : Int32) (v6 : Option Value), x + t = 2 ^ E → (∀ q, q ≠ 59 → q ≠ 60 → Y q = M q) → hc_W G hc_lay p l e (hc_rm d) s m args below meth c 7 0 0 Q 50 [some (.ref (hc_ad G 48)), some (.int v1), some (.int (nI n)), some (.int v3), some (.int bb), some (.int (nI x)), v6] [] Y := by
  intro t
  induction t with
  | zero =>
    intro x Y bb v6 hx hY
    have hy54 : Y 54 = M 54 := hY 54 (by decide) (by decide)
    refine hc_iload C dX8_toCall_50 rfl ?_
    refine hc_iconst C dX8_toCall_52 (v := 1) rfl ?_
    refine hc_aload_n C dX8_toCall_53 rfl rfl ?_
    refine hc_getR C fl_X8_25 rfl rfl dX8_toCall_54 ?_
    refine hc_iconst C dX8_toCall_57 (v := 4) rfl ?_
    refine hc_ialdN C (j := 4) rfl rfl (by decide) dX8_toCall_58 ?_
    refine hc_ishl C dX8_toCall_59 ?_
    refine hc_top (hx_shE (by rw [hy54]; exact hE) hE6) ?_
    refine hc_icmp_ge C (tgt := 243) dX8_toCall_60 (by decide) (fun c_60 => ?_) (fun c_60 => ?_)
    rotate_left
    · exact absurd (nI_le (show 2 ^ E ≤ x by omega) (by have := hx_p6 hE6; omega)) c_60
    obtain rfl : x = 2 ^ E := by omega
    exact kk Y bb v6 hY
  | succ t ih =>
    intro x Y bb v6 hx hY
    have hy54 : Y 54 = M 54 := hY 54 (by decide) (by decide)
    refine hc_iload C dX8_toCall_50 rfl ?_
    refine hc_iconst C dX8_toCall_52 (v := 1) rfl ?_
    refine hc_aload_n C dX8_toCall_53 rfl rfl ?_
    refine hc_getR C fl_X8_25 rfl rfl dX8_toCall_54 ?_
    refine hc_iconst C dX8_toCall_57 (v := 4) rfl ?_
    refine hc_ialdN C (j := 4) rfl rfl (by decide) dX8_toCall_58 ?_
    refine hc_ishl C dX8_toCall_59 ?_
    refine hc_top (hx_shE (by rw [hy54]; exact hE) hE6) ?_
    refine hc_icmp_ge C (tgt := 243) dX8_toCall_60 (by decide) (fun c_60 => ?_) (fun c_60 => ?_)
    · exact absurd c_60 (nI_ge (show x < 2 ^ E by omega) (by have := hx_p6 hE6; omega))
    refine hc_aload_n C dX8_toCall_63 rfl rfl ?_
    refine hc_getR C fl_X8_25 rfl rfl dX8_toCall_64 ?_
    refine hc_iconst C dX8_toCall_67 (v := 0) rfl ?_
    refine hc_aload_n C dX8_toCall_68 rfl rfl ?_
    refine hc_getR C fl_X8_41 rfl rfl dX8_toCall_69 ?_
    refine hc_iconst C dX8_toCall_72 (v := 0) rfl ?_
    refine hc_cS4v C ms_X8_134 (c_X8_copies (a := 0) (b := 0) C.ok rfl rfl (by decide) (by decide) (by decide)) (Nat.le_of_ble_eq_true rfl) (hc_rr_rm (by omega)) ⟨Nat.zero_le _, Nat.zero_le _⟩ dX8_toCall_73 (fun M_73 h_73 => ?_)
    obtain rfl := h_73
    refine hc_iconst C dX8_toCall_76 (v := 0) rfl ?_
    refine hc_istore6 C dX8_toCall_77 (by decide) rfl ?_
    refine lp_RtoC1 (Y := Y) (D := D) C (by omega) (by rw [hy54]; exact hE) hE6 (fun f h4 h5 => ?_) E 0 _ (by omega) ((rAg_cpy 4 (by decide)).trans (by rw [hy54]; exact hE)) ((rAg_cpy 5 (by decide)).trans (by rw [hy54]; exact hD))
    refine hc_iload C dX8_toCall_184 rfl ?_
    refine hc_ldc C kc_X8_50 dX8_toCall_186 ?_
    refine hc_icmp_eq C (tgt := 204) dX8_toCall_188 (by decide) (fun c_188 => ?_) (fun c_188 => ?_)
    · refine hc_iconst C dX8_toCall_204 (v := 1) rfl ?_
      refine hc_goto C (tgt := 209) dX8_toCall_205 (by decide) ?_
      refine hc_istore6 C dX8_toCall_209 (by decide) rfl ?_
      refine hc_iload C dX8_toCall_211 rfl ?_
      refine hc_if_eq C (tgt := 233) dX8_toCall_213 (by decide) (fun c_213 => ?_) (fun c_213 => ?_)
      · refine hc_iload C dX8_toCall_233 rfl ?_
        refine hc_istore4 C dX8_toCall_235 (by decide) rfl ?_
        refine hc_iinc5 C (v := nI (x + 1)) dX8_toCall_237 (by decide) rfl rfl (nI_1 x) ?_
        refine hc_goto C (tgt := 50) dX8_toCall_240 (by decide) ?_
        refine ih (x + 1) _ _ _ (by omega) ?_
        intro q h1 h2
        first | rw [hc_mf_n h1, hc_mf_n h1, hY q h1 h2] | rw [hc_mf_n h1, hY q h1 h2]
      · refine hc_aload_n C dX8_toCall_216 rfl rfl ?_
        refine hc_iload_n C dX8_toCall_217 rfl rfl ?_
        refine hc_cV1i C mv_X8_188 (c_X8_partsIn (E := E) (D := D) (n := n) C.ok hn (by rw [hc_mf_s]; exact h4) hE6 (by rw [hc_mf_s]; exact h5) hD4) rfl rfl rfl (Nat.le_of_ble_eq_true rfl) (hc_rr_rm hd) ⟨Nat.zero_le _, Nat.zero_le _⟩ dX8_toCall_218 (fun r_218 M_218 h_218 => ?_)
        obtain ⟨rfl, rfl⟩ := h_218
        refine hc_bipush C dX8_toCall_221 (v := 12) rfl ?_
        refine hc_idiv C dX8_toCall_223 (by decide) ?_
        refine hc_iload_n C dX8_toCall_224 rfl rfl ?_
        refine hc_icmp_lt C (tgt := 233) dX8_toCall_225 (by decide) (fun c_225 => ?_) (fun c_225 => ?_)
        · refine hc_iload C dX8_toCall_233 rfl ?_
          refine hc_istore4 C dX8_toCall_235 (by decide) rfl ?_
          refine hc_iinc5 C (v := nI (x + 1)) dX8_toCall_237 (by decide) rfl rfl (nI_1 x) ?_
          refine hc_goto C (tgt := 50) dX8_toCall_240 (by decide) ?_
          refine ih (x + 1) _ _ _ (by omega) ?_
          intro q h1 h2
          first | rw [hc_mf_n h1, hc_mf_n h1, hY q h1 h2] | rw [hc_mf_n h1, hY q h1 h2]
        · refine hc_iload C dX8_toCall_228 rfl ?_
          refine hc_goto C (tgt := 235) dX8_toCall_230 (by decide) ?_
          refine hc_istore4 C dX8_toCall_235 (by decide) rfl ?_
          refine hc_iinc5 C (v := nI (x + 1)) dX8_toCall_237 (by decide) rfl rfl (nI_1 x) ?_
          refine hc_goto C (tgt := 50) dX8_toCall_240 (by decide) ?_
          refine ih (x + 1) _ _ _ (by omega) ?_
          intro q h1 h2
          first | rw [hc_mf_n h1, hc_mf_n h1, hY q h1 h2] | rw [hc_mf_n h1, hY q h1 h2]
    · refine hc_iload C dX8_toCall_191 rfl ?_
      refine hc_cS1i C ms_X8_197 (c_X8_ones C.ok) (Nat.le_of_ble_eq_true rfl) (hc_rr_rm (by omega)) ⟨Nat.zero_le _, Nat.zero_le _⟩ dX8_toCall_193 (fun r_193 M_193 h_193 => ?_)
      obtain ⟨rfl, rfl⟩ := h_193
      refine hc_iload C dX8_toCall_196 rfl ?_
      refine hc_cS1i C ms_X8_197 (c_X8_ones C.ok) (Nat.le_of_ble_eq_true rfl) (hc_rr_rm (by omega)) ⟨Nat.zero_le _, Nat.zero_le _⟩ dX8_toCall_198 (fun r_198 M_198 h_198 => ?_)
      obtain ⟨rfl, rfl⟩ := h_198
      refine hc_icmp_ge C (tgt := 208) dX8_toCall_201 (by decide) (fun c_201 => ?_) (fun c_201 => ?_)
      · refine hc_iconst C dX8_toCall_208 (v := 0) rfl ?_
        refine hc_istore6 C dX8_toCall_209 (by decide) rfl ?_
        refine hc_iload C dX8_toCall_211 rfl ?_
        refine hc_if_eq C (tgt := 233) dX8_toCall_213 (by decide) (fun c_213 => ?_) (fun c_213 => ?_)
        · refine hc_iload C dX8_toCall_233 rfl ?_
          refine hc_istore4 C dX8_toCall_235 (by decide) rfl ?_
          refine hc_iinc5 C (v := nI (x + 1)) dX8_toCall_237 (by decide) rfl rfl (nI_1 x) ?_
          refine hc_goto C (tgt := 50) dX8_toCall_240 (by decide) ?_
          refine ih (x + 1) _ _ _ (by omega) ?_
          intro q h1 h2
          first | rw [hc_mf_n h1, hc_mf_n h1, hY q h1 h2] | rw [hc_mf_n h1, hY q h1 h2]
        · refine hc_aload_n C dX8_toCall_216 rfl rfl ?_
          refine hc_iload_n C dX8_toCall_217 rfl rfl ?_
          refine hc_cV1i C mv_X8_188 (c_X8_partsIn (E := E) (D := D) (n := n) C.ok hn (by rw [hc_mf_s]; exact h4) hE6 (by rw [hc_mf_s]; exact h5) hD4) rfl rfl rfl (Nat.le_of_ble_eq_true rfl) (hc_rr_rm hd) ⟨Nat.zero_le _, Nat.zero_le _⟩ dX8_toCall_218 (fun r_218 M_218 h_218 => ?_)
          obtain ⟨rfl, rfl⟩ := h_218
          refine hc_bipush C dX8_toCall_221 (v := 12) rfl ?_
          refine hc_idiv C dX8_toCall_223 (by decide) ?_
          refine hc_iload_n C dX8_toCall_224 rfl rfl ?_
          refine hc_icmp_lt C (tgt := 233) dX8_toCall_225 (by decide) (fun c_225 => ?_) (fun c_225 => ?_)
          · refine hc_iload C dX8_toCall_233 rfl ?_
            refine hc_istore4 C dX8_toCall_235 (by decide) rfl ?_
            refine hc_iinc5 C (v := nI (x + 1)) dX8_toCall_237 (by decide) rfl rfl (nI_1 x) ?_
            refine hc_goto C (tgt := 50) dX8_toCall_240 (by decide) ?_
            refine ih (x + 1) _ _ _ (by omega) ?_
            intro q h1 h2
            first | rw [hc_mf_n h1, hc_mf_n h1, hY q h1 h2] | rw [hc_mf_n h1, hY q h1 h2]
          · refine hc_iload C dX8_toCall_228 rfl ?_
            refine hc_goto C (tgt := 235) dX8_toCall_230 (by decide) ?_
            refine hc_istore4 C dX8_toCall_235 (by decide) rfl ?_
            refine hc_iinc5 C (v := nI (x + 1)) dX8_toCall_237 (by decide) rfl rfl (nI_1 x) ?_
            refine hc_goto C (tgt := 50) dX8_toCall_240 (by decide) ?_
            refine ih (x + 1) _ _ _ (by omega) ?_
            intro q h1 h2
            first | rw [hc_mf_n h1, hc_mf_n h1, hY q h1 h2] | rw [hc_mf_n h1, hY q h1 h2]
      · refine hc_iconst C dX8_toCall_204 (v := 1) rfl ?_
        refine hc_goto C (tgt := 209) dX8_toCall_205 (by decide) ?_
        refine hc_istore6 C dX8_toCall_209 (by decide) rfl ?_
        refine hc_iload C dX8_toCall_211 rfl ?_
        refine hc_if_eq C (tgt := 233) dX8_toCall_213 (by decide) (fun c_213 => ?_) (fun c_213 => ?_)
        · refine hc_iload C dX8_toCall_233 rfl ?_
          refine hc_istore4 C dX8_toCall_235 (by decide) rfl ?_
          refine hc_iinc5 C (v := nI (x + 1)) dX8_toCall_237 (by decide) rfl rfl (nI_1 x) ?_
          refine hc_goto C (tgt := 50) dX8_toCall_240 (by decide) ?_
          refine ih (x + 1) _ _ _ (by omega) ?_
          intro q h1 h2
          first | rw [hc_mf_n h1, hc_mf_n h1, hY q h1 h2] | rw [hc_mf_n h1, hY q h1 h2]
        · refine hc_aload_n C dX8_toCall_216 rfl rfl ?_
          refine hc_iload_n C dX8_toCall_217 rfl rfl ?_
          refine hc_cV1i C mv_X8_188 (c_X8_partsIn (E := E) (D := D) (n := n) C.ok hn (by rw [hc_mf_s]; exact h4) hE6 (by rw [hc_mf_s]; exact h5) hD4) rfl rfl rfl (Nat.le_of_ble_eq_true rfl) (hc_rr_rm hd) ⟨Nat.zero_le _, Nat.zero_le _⟩ dX8_toCall_218 (fun r_218 M_218 h_218 => ?_)
          obtain ⟨rfl, rfl⟩ := h_218
          refine hc_bipush C dX8_toCall_221 (v := 12) rfl ?_
          refine hc_idiv C dX8_toCall_223 (by decide) ?_
          refine hc_iload_n C dX8_toCall_224 rfl rfl ?_
          refine hc_icmp_lt C (tgt := 233) dX8_toCall_225 (by decide) (fun c_225 => ?_) (fun c_225 => ?_)
          · refine hc_iload C dX8_toCall_233 rfl ?_
            refine hc_istore4 C dX8_toCall_235 (by decide) rfl ?_
            refine hc_iinc5 C (v := nI (x + 1)) dX8_toCall_237 (by decide) rfl rfl (nI_1 x) ?_
            refine hc_goto C (tgt := 50) dX8_toCall_240 (by decide) ?_
            refine ih (x + 1) _ _ _ (by omega) ?_
            intro q h1 h2
            first | rw [hc_mf_n h1, hc_mf_n h1, hY q h1 h2] | rw [hc_mf_n h1, hY q h1 h2]
          · refine hc_iload C dX8_toCall_228 rfl ?_
            refine hc_goto C (tgt := 235) dX8_toCall_230 (by decide) ?_
            refine hc_istore4 C dX8_toCall_235 (by decide) rfl ?_
            refine hc_iinc5 C (v := nI (x + 1)) dX8_toCall_237 (by decide) rfl rfl (nI_1 x) ?_
            refine hc_goto C (tgt := 50) dX8_toCall_240 (by decide) ?_
            refine ih (x + 1) _ _ _ (by omega) ?_
            intro q h1 h2
            first | rw [hc_mf_n h1, hc_mf_n h1, hY q h1 h2] | rw [hc_mf_n h1, hY q h1 h2]

set_option maxRecDepth 100000 in
set_option maxHeartbeats 4000000 in
theorem c_X8_toCall_w {l : Launch} {G : hc_Geo} (hG : hc_ok G) {M : hc_Mem} {E D n : Nat} {v1 v3 : Int32}  (h0 : M 54 0 = 1) (hE : M 54 4 = nI E) (hE6 : E ≤ 6) (hD : M 54 5 = nI D) (hD4 : D ≤ 4) (h1 : ¬ v1 < 0 ∧ ¬ 999 < v1) (hn : n ≤ 99) (h3 : ¬ v3 < 0 ∧ ¬ 1 < v3) : hc_M l G yX8_toCall cX8_toCall 7 (some .int) 7 [.ref (hc_ad G 48), .int v1, .int (nI n), .int v3] M (hc_pi (fun z M' => ∀ q, q ≠ 59 → q ≠ 60 → M' q = M q)) := by
  refine hc_M.of hG (by decide) [some (.ref (hc_ad G 48)), some (.int v1), some (.int (nI n)), some (.int v3), none, none, none] rfl (Nat.le_of_ble_eq_true rfl) ?_
  intro p e s m args below meth c C
  refine hc_aload_n C dX8_toCall_0 rfl rfl ?_
  refine hc_cV0i C mv_X8_171 (c_X8_isHouse C.ok) rfl rfl rfl (Nat.le_of_ble_eq_true rfl) (hc_rr_rm (by decide)) ⟨Nat.zero_le _, Nat.zero_le _⟩ dX8_toCall_1 (fun r_1 M_1 h_1 => ?_)
  obtain ⟨rfl, rfl⟩ := h_1
  refine hc_if_ne C (tgt := 10) dX8_toCall_4 (by decide) (fun c_4 => ?_) (fun c_4 => ?_)
  rotate_left
  · exact absurd h0 (hb_z.mp c_4)
  refine hc_iload_n C dX8_toCall_10 rfl rfl ?_
  refine hc_iconst C dX8_toCall_11 (v := 0) rfl ?_
  refine hc_sipush C dX8_toCall_12 (v := 999) rfl ?_
  refine hc_cS3i C ms_X8_56 (c_X8_in C.ok) (Nat.le_of_ble_eq_true rfl) (hc_rr_rm (by decide)) ⟨Nat.zero_le _, Nat.zero_le _⟩ dX8_toCall_15 (fun r_15 M_15 h_15 => ?_)
  obtain ⟨rfl, rfl⟩ := h_15
  refine hc_if_eq C (tgt := 40) dX8_toCall_18 (by decide) (fun c_18 => ?_) (fun c_18 => ?_)
  · exact absurd h1 (hb_z.mp c_18)
  refine hc_iload_n C dX8_toCall_21 rfl rfl ?_
  refine hc_iconst C dX8_toCall_22 (v := 0) rfl ?_
  refine hc_bipush C dX8_toCall_23 (v := 99) rfl ?_
  refine hc_cS3i C ms_X8_56 (c_X8_in C.ok) (Nat.le_of_ble_eq_true rfl) (hc_rr_rm (by decide)) ⟨Nat.zero_le _, Nat.zero_le _⟩ dX8_toCall_25 (fun r_25 M_25 h_25 => ?_)
  obtain ⟨rfl, rfl⟩ := h_25
  refine hc_if_eq C (tgt := 40) dX8_toCall_28 (by decide) (fun c_28 => ?_) (fun c_28 => ?_)
  · exact absurd (hx_in (lo := 0) (hi := 99) (Nat.zero_le _) hn (by decide)) (hb_z.mp c_28)
  refine hc_iload_n C dX8_toCall_31 rfl rfl ?_
  refine hc_iconst C dX8_toCall_32 (v := 0) rfl ?_
  refine hc_iconst C dX8_toCall_33 (v := 1) rfl ?_
  refine hc_cS3i C ms_X8_56 (c_X8_in C.ok) (Nat.le_of_ble_eq_true rfl) (hc_rr_rm (by decide)) ⟨Nat.zero_le _, Nat.zero_le _⟩ dX8_toCall_34 (fun r_34 M_34 h_34 => ?_)
  obtain ⟨rfl, rfl⟩ := h_34
  refine hc_if_ne C (tgt := 43) dX8_toCall_37 (by decide) (fun c_37 => ?_) (fun c_37 => ?_)
  rotate_left
  · exact absurd h3 (hb_z.mp c_37)
  refine hc_ldc C kc_X8_50 dX8_toCall_43 ?_
  refine hc_istore4 C dX8_toCall_45 (by decide) rfl ?_
  refine hc_iconst C dX8_toCall_47 (v := 0) rfl ?_
  refine hc_istore5 C dX8_toCall_48 (by decide) rfl ?_
  refine lp_RtoC C (by decide) hE hE6 hD hD4 hn (fun Y bb v6 hY => ?_) (2 ^ E) 0 M _ none (by omega) (fun q _ _ => rfl)
  refine hc_aload_n C dX8_toCall_243 rfl rfl ?_
  refine hc_iload C dX8_toCall_244 rfl ?_
  refine hc_iload_n C dX8_toCall_246 rfl rfl ?_
  refine hc_cV2i C mv_X8_200 (c_X8_told C.ok) rfl rfl rfl (Nat.le_of_ble_eq_true rfl) (hc_rr_rm (by decide)) ⟨Nat.zero_le _, Nat.zero_le _⟩ dX8_toCall_247 (fun r_247 M_247 h_247 => ?_)
  obtain ⟨rfl, rfl⟩ := h_247
  refine hc_iret C rfl dX8_toCall_250 ?_
  exact hY
