def rHF (f g : Nat → Int32) (s : Int32) : Nat → (Nat → Int32)
  | 0 => f
  | e + 1 => upd (rHF f g s e) (6 + 7 * e + 5) (if hIn s (nI e) then 1 else g (6 + 7 * e + 5))
def rHk (g : Nat → Int32) (s b : Int32) : Nat → Int32
  | 0 => b
  | e + 1 => hb (¬ rHk g s b e = 0 ∧ (¬ hIn s (nI e) ∨ g (6 + 7 * e + 5) = 0))
def rHb (f : Nat → Int32) (E D : Nat) (v : Int32) (n : Nat) : Nat → Int32
  | 0 => -1000000
  | s + 1 => if ¬ rHk f (nI s) (hb (rHb f E D v n s = -1000000 ∨ ¬ rOnes (rHb f E D v n s) 8 ≤ rOnes (nI s) 8)) E = 0 ∧ ¬ v < rIter E D n (rHF f f (nI s) E) 3 / 12 then nI s else rHb f E D v n s
theorem rHF_c {f f' g : Nat → Int32} {s : Int32} (h : rAg f f') : ∀ e, rAg (rHF f g s e) (rHF f' g s e) := by
  intro e
  induction e with
  | zero => exact h
  | succ e ih => exact rAg.upd ih rfl
theorem rHF_o {f g : Nat → Int32} {s : Int32} {j : Nat} (hj : j < 6) : ∀ e, rHF f g s e j = f j := by
  intro e
  induction e with
  | zero => rfl
  | succ e ih => unfold rHF upd; rw [if_neg (by omega)]; exact ih

set_option maxRecDepth 100000 in
set_option maxHeartbeats 4000000 in
theorem c_X8_toHush_b {l : Launch} {G : hc_Geo} (hG : hc_ok G) {M : hc_Mem} {v1 v2 v3 : Int32}  (h0 : M 54 0 = 1) (h1 : ¬ ((¬ v1 < 0 ∧ ¬ 999 < v1) ∧ (¬ v2 < 0 ∧ ¬ 99 < v2) ∧ (¬ v3 < 0 ∧ ¬ 1 < v3))) : hc_M l G yX8_toHush cX8_toHush 8 (some .int) 2 [.ref (hc_ad G 48), .int v1, .int v2, .int v3] M (hc_pi (fun z M' => -1000001 = z ∧ M = M')) := by
  refine hc_M.of hG (by decide) [some (.ref (hc_ad G 48)), some (.int v1), some (.int v2), some (.int v3), none, none, none, none] rfl (Nat.le_of_ble_eq_true rfl) ?_
  intro p e s m args below meth c C
  refine hc_aload_n C dX8_toHush_0 rfl rfl ?_
  refine hc_cV0i C mv_X8_171 (c_X8_isHouse C.ok) rfl rfl rfl (Nat.le_of_ble_eq_true rfl) (hc_rr_rm (by decide)) ⟨Nat.zero_le _, Nat.zero_le _⟩ dX8_toHush_1 (fun r_1 M_1 h_1 => ?_)
  obtain ⟨rfl, rfl⟩ := h_1
  refine hc_if_ne C (tgt := 10) dX8_toHush_4 (by decide) (fun c_4 => ?_) (fun c_4 => ?_)
  rotate_left
  · exact absurd h0 (hb_z.mp c_4)
  refine hc_iload_n C dX8_toHush_10 rfl rfl ?_
  refine hc_iconst C dX8_toHush_11 (v := 0) rfl ?_
  refine hc_sipush C dX8_toHush_12 (v := 999) rfl ?_
  refine hc_cS3i C ms_X8_56 (c_X8_in C.ok) (Nat.le_of_ble_eq_true rfl) (hc_rr_rm (by decide)) ⟨Nat.zero_le _, Nat.zero_le _⟩ dX8_toHush_15 (fun r_15 M_15 h_15 => ?_)
  obtain ⟨rfl, rfl⟩ := h_15
  refine hc_if_eq C (tgt := 40) dX8_toHush_18 (by decide) (fun c_18 => ?_) (fun c_18 => ?_)
  · refine hc_ldc C kc_X8_64 dX8_toHush_40 ?_
    refine hc_iret C rfl dX8_toHush_42 ?_
    exact ⟨rfl, rfl⟩
  · refine hc_iload_n C dX8_toHush_21 rfl rfl ?_
    refine hc_iconst C dX8_toHush_22 (v := 0) rfl ?_
    refine hc_bipush C dX8_toHush_23 (v := 99) rfl ?_
    refine hc_cS3i C ms_X8_56 (c_X8_in C.ok) (Nat.le_of_ble_eq_true rfl) (hc_rr_rm (by decide)) ⟨Nat.zero_le _, Nat.zero_le _⟩ dX8_toHush_25 (fun r_25 M_25 h_25 => ?_)
    obtain ⟨rfl, rfl⟩ := h_25
    refine hc_if_eq C (tgt := 40) dX8_toHush_28 (by decide) (fun c_28 => ?_) (fun c_28 => ?_)
    · refine hc_ldc C kc_X8_64 dX8_toHush_40 ?_
      refine hc_iret C rfl dX8_toHush_42 ?_
      exact ⟨rfl, rfl⟩
    · refine hc_iload_n C dX8_toHush_31 rfl rfl ?_
      refine hc_iconst C dX8_toHush_32 (v := 0) rfl ?_
      refine hc_iconst C dX8_toHush_33 (v := 1) rfl ?_
      refine hc_cS3i C ms_X8_56 (c_X8_in C.ok) (Nat.le_of_ble_eq_true rfl) (hc_rr_rm (by decide)) ⟨Nat.zero_le _, Nat.zero_le _⟩ dX8_toHush_34 (fun r_34 M_34 h_34 => ?_)
      obtain ⟨rfl, rfl⟩ := h_34
      refine hc_if_ne C (tgt := 43) dX8_toHush_37 (by decide) (fun c_37 => ?_) (fun c_37 => ?_)
      · exact absurd ⟨hb_nz.mp c_18, hb_nz.mp c_28, hb_nz.mp c_37⟩ h1
      · refine hc_ldc C kc_X8_64 dX8_toHush_40 ?_
        refine hc_iret C rfl dX8_toHush_42 ?_
        exact ⟨rfl, rfl⟩

set_option maxRecDepth 100000 in
set_option maxHeartbeats 4000000 in
theorem c_X8_toCall_b {l : Launch} {G : hc_Geo} (hG : hc_ok G) {M : hc_Mem} {v1 v2 v3 : Int32}  (h0 : M 54 0 = 1) (h1 : ¬ ((¬ v1 < 0 ∧ ¬ 999 < v1) ∧ (¬ v2 < 0 ∧ ¬ 99 < v2) ∧ (¬ v3 < 0 ∧ ¬ 1 < v3))) : hc_M l G yX8_toCall cX8_toCall 7 (some .int) 2 [.ref (hc_ad G 48), .int v1, .int v2, .int v3] M (hc_pi (fun z M' => -1000001 = z ∧ M = M')) := by
  refine hc_M.of hG (by decide) [some (.ref (hc_ad G 48)), some (.int v1), some (.int v2), some (.int v3), none, none, none] rfl (Nat.le_of_ble_eq_true rfl) ?_
  intro p e s m args below meth c C
  refine hc_aload_n C dX8_toCall_0 rfl rfl ?_
  refine hc_cV0i C mv_X8_171 (c_X8_isHouse C.ok) rfl rfl rfl (Nat.le_of_ble_eq_true rfl) (hc_rr_rm (by decide)) ⟨Nat.zero_le _, Nat.zero_le _⟩ dX8_toCall_1 (fun r_1 M_1 h_1 => ?_)
  obtain ⟨rfl, rfl⟩ := h_1
  refine hc_if_ne C (tgt := 10) dX8_toCall_4 (by decide) (fun c_4 => ?_) (fun c_4 => ?_)
  rotate_left
  · exact absurd h0 (hb_z.mp c_4)
  refine hc_iload_n C dX8_toCall_10 rfl rfl ?_
  refine hc_iconst C dX8_toCall_11 (v := 0) rfl ?_
  refine hc_sipush C dX8_toCall_12 (v := 999) rfl ?_
  refine hc_cS3i C ms_X8_56 (c_X8_in C.ok) (Nat.le_of_ble_eq_true rfl) (hc_rr_rm (by decide)) ⟨Nat.zero_le _, Nat.zero_le _⟩ dX8_toCall_15 (fun r_15 M_15 h_15 => ?_)
  obtain ⟨rfl, rfl⟩ := h_15
  refine hc_if_eq C (tgt := 40) dX8_toCall_18 (by decide) (fun c_18 => ?_) (fun c_18 => ?_)
  · refine hc_ldc C kc_X8_64 dX8_toCall_40 ?_
    refine hc_iret C rfl dX8_toCall_42 ?_
    exact ⟨rfl, rfl⟩
  · refine hc_iload_n C dX8_toCall_21 rfl rfl ?_
    refine hc_iconst C dX8_toCall_22 (v := 0) rfl ?_
    refine hc_bipush C dX8_toCall_23 (v := 99) rfl ?_
    refine hc_cS3i C ms_X8_56 (c_X8_in C.ok) (Nat.le_of_ble_eq_true rfl) (hc_rr_rm (by decide)) ⟨Nat.zero_le _, Nat.zero_le _⟩ dX8_toCall_25 (fun r_25 M_25 h_25 => ?_)
    obtain ⟨rfl, rfl⟩ := h_25
    refine hc_if_eq C (tgt := 40) dX8_toCall_28 (by decide) (fun c_28 => ?_) (fun c_28 => ?_)
    · refine hc_ldc C kc_X8_64 dX8_toCall_40 ?_
      refine hc_iret C rfl dX8_toCall_42 ?_
      exact ⟨rfl, rfl⟩
    · refine hc_iload_n C dX8_toCall_31 rfl rfl ?_
      refine hc_iconst C dX8_toCall_32 (v := 0) rfl ?_
      refine hc_iconst C dX8_toCall_33 (v := 1) rfl ?_
      refine hc_cS3i C ms_X8_56 (c_X8_in C.ok) (Nat.le_of_ble_eq_true rfl) (hc_rr_rm (by decide)) ⟨Nat.zero_le _, Nat.zero_le _⟩ dX8_toCall_34 (fun r_34 M_34 h_34 => ?_)
      obtain ⟨rfl, rfl⟩ := h_34
      refine hc_if_ne C (tgt := 43) dX8_toCall_37 (by decide) (fun c_37 => ?_) (fun c_37 => ?_)
      · exact absurd ⟨hb_nz.mp c_18, hb_nz.mp c_28, hb_nz.mp c_37⟩ h1
      · refine hc_ldc C kc_X8_64 dX8_toCall_40 ?_
        refine hc_iret C rfl dX8_toCall_42 ?_
        exact ⟨rfl, rfl⟩

set_option maxRecDepth 100000 in
set_option maxHeartbeats 4000000 in
theorem lp_RtoH1 {G : hc_Geo} {p : Program} {l : Launch} {e : Env} {d : Nat} {s : State} {m : MethodId} {args : Array Value} {below : List Frame} {meth : Method} {c : Code} {Q : State → Prop} (C : hc_Cx G hc_lay cX8_toHush 8 (some .int) yX8_toHush.cls p s m args meth c) {Y : hc_Mem} {f0 : Nat → Int32} {a1 a2 a3 a4 : Option Value} {bb : Int32} {x E : Nat} (hd : 1 < d) (hE : Y 54 4 = nI E) (hE6 : E ≤ 6) 
    (kk : hc_W G hc_lay p l e (hc_rm d) s m args below meth c 8 0 0 Q 207 [some (.ref (hc_ad G 48)), a1, a2, a3, a4, some (.int (nI x)), some (.int (rHk (Y 54) (nI x) bb E)), some (.int (nI E))] [] (hc_mf Y 59 (rHF f0 (Y 54) (nI x) E))) :
    ∀ (t : Nat) (k : Nat), k + t = E → hc_W G hc_lay p l e (hc_rm d) s m args below meth c 8 0 0 Q 106 [some (.ref (hc_ad G 48)), a1, a2, a3, a4, some (.int (nI x)), some (.int (rHk (Y 54) (nI x) bb k)), some (.int (nI k))] [] (hc_mf Y 59 (rHF f0 (Y 54) (nI x) k)) := by
  intro t
  induction t with
  | zero =>
    intro k hk
    refine hc_iload C dX8_toHush_106 rfl ?_
    refine hc_aload_n C dX8_toHush_108 rfl rfl ?_
    refine hc_getR C fl_X8_25 rfl rfl dX8_toHush_109 ?_
    refine hc_iconst C dX8_toHush_112 (v := 4) rfl ?_
    refine hc_ialdN C (j := 4) rfl rfl (by decide) dX8_toHush_113 ?_
    rw [hc_mf_n (by decide)]
    refine hc_icmp_ge C (tgt := 207) dX8_toHush_114 (by decide) (fun c_114 => ?_) (fun c_114 => ?_)
    rotate_left
    · exact absurd (by rw [hE]; exact nI_le (show E ≤ k by omega) (by omega)) c_114
    obtain rfl : k = E := by omega
    exact kk
  | succ t ih =>
    intro k hk
    refine hc_iload C dX8_toHush_106 rfl ?_
    refine hc_aload_n C dX8_toHush_108 rfl rfl ?_
    refine hc_getR C fl_X8_25 rfl rfl dX8_toHush_109 ?_
    refine hc_iconst C dX8_toHush_112 (v := 4) rfl ?_
    refine hc_ialdN C (j := 4) rfl rfl (by decide) dX8_toHush_113 ?_
    rw [hc_mf_n (by decide)]
    refine hc_icmp_ge C (tgt := 207) dX8_toHush_114 (by decide) (fun c_114 => ?_) (fun c_114 => ?_)
    · exact absurd (hE ▸ c_114) (nI_ge (show k < E by omega) (by omega))
    refine hc_iload C dX8_toHush_117 rfl ?_
    refine hc_if_eq C (tgt := 154) dX8_toHush_119 (by decide) (fun c_119 => ?_) (fun c_119 => ?_)
    · refine hc_iconst C dX8_toHush_154 (v := 0) rfl ?_
      refine hc_top (v := rHk (Y 54) (nI x) bb (k + 1)) ?_ ?_
      · rw [rHk]
        symm
        first
          | exact hb_f (fun w => w.1 c_119)
          | exact hb_t ⟨c_119, Or.inl (hb_z.mp c_129)⟩
          | exact hb_t ⟨c_119, Or.inr c_147⟩
          | exact hb_f (fun w => Or.rec (fun q => q (hb_nz.mp c_129)) (fun q => c_147 q) w.2)
      refine hc_istore6 C dX8_toHush_155 (by decide) rfl ?_
      refine hc_aload_n C dX8_toHush_157 rfl rfl ?_
      refine hc_getR C fl_X8_41 rfl rfl dX8_toHush_158 ?_
      refine hc_bipush C dX8_toHush_161 (v := 6) rfl ?_
      refine hc_bipush C dX8_toHush_163 (v := 7) rfl ?_
      refine hc_iload C dX8_toHush_165 rfl ?_
      refine hc_imul C dX8_toHush_167 ?_
      refine hc_iadd C dX8_toHush_168 ?_
      refine hc_iconst C dX8_toHush_169 (v := 5) rfl ?_
      refine hc_iadd C dX8_toHush_170 ?_
      refine hc_iload C dX8_toHush_171 rfl ?_
      refine hc_iload C dX8_toHush_173 rfl ?_
      refine hc_cS2i C ms_X8_145 (c_X8_has C.ok) (Nat.le_of_ble_eq_true rfl) (hc_rr_rm hd) ⟨Nat.zero_le _, Nat.zero_le _⟩ dX8_toHush_175 (fun r_175 M_175 h_175 => ?_)
      obtain ⟨rfl, rfl⟩ := h_175
      refine hc_if_eq C (tgt := 185) dX8_toHush_178 (by decide) (fun c_178 => ?_) (fun c_178 => ?_)
      · refine hc_aload_n C dX8_toHush_185 rfl rfl ?_
        refine hc_getR C fl_X8_25 rfl rfl dX8_toHush_186 ?_
        refine hc_bipush C dX8_toHush_189 (v := 6) rfl ?_
        refine hc_bipush C dX8_toHush_191 (v := 7) rfl ?_
        refine hc_iload C dX8_toHush_193 rfl ?_
        refine hc_imul C dX8_toHush_195 ?_
        refine hc_iadd C dX8_toHush_196 ?_
        refine hc_iconst C dX8_toHush_197 (v := 5) rfl ?_
        refine hc_iadd C dX8_toHush_198 ?_
        refine hc_ialdN C (j := (6 + 7 * k + 5)) rfl (hx_67 k 5) (by omega) dX8_toHush_199 ?_
        rw [hc_mf_n (by decide)]
        refine hc_iastN C (j := (6 + 7 * k + 5)) rfl (hx_67 k 5) (by omega) dX8_toHush_200 ?_
        rw [hc_ms_mf]
        refine hc_mem (M2 := (hc_mf Y 59 (rHF f0 (Y 54) (nI x) (k + 1)))) (by rw [rHF]; first | rw [if_neg (hb_z.mp c_178)] | rw [if_pos (hb_nz.mp c_178)]) ?_
        refine hc_iinc7 C (v := nI (k + 1)) dX8_toHush_201 (by decide) rfl rfl (nI_1 k) ?_
        refine hc_goto C (tgt := 106) dX8_toHush_204 (by decide) ?_
        exact ih (k + 1) (by omega)
      · refine hc_iconst C dX8_toHush_181 (v := 1) rfl ?_
        refine hc_goto C (tgt := 200) dX8_toHush_182 (by decide) ?_
        refine hc_iastN C (j := (6 + 7 * k + 5)) rfl (hx_67 k 5) (by omega) dX8_toHush_200 ?_
        rw [hc_ms_mf]
        refine hc_mem (M2 := (hc_mf Y 59 (rHF f0 (Y 54) (nI x) (k + 1)))) (by rw [rHF]; first | rw [if_neg (hb_z.mp c_178)] | rw [if_pos (hb_nz.mp c_178)]) ?_
        refine hc_iinc7 C (v := nI (k + 1)) dX8_toHush_201 (by decide) rfl rfl (nI_1 k) ?_
        refine hc_goto C (tgt := 106) dX8_toHush_204 (by decide) ?_
        exact ih (k + 1) (by omega)
    · refine hc_iload C dX8_toHush_122 rfl ?_
      refine hc_iload C dX8_toHush_124 rfl ?_
      refine hc_cS2i C ms_X8_145 (c_X8_has C.ok) (Nat.le_of_ble_eq_true rfl) (hc_rr_rm hd) ⟨Nat.zero_le _, Nat.zero_le _⟩ dX8_toHush_126 (fun r_126 M_126 h_126 => ?_)
      obtain ⟨rfl, rfl⟩ := h_126
      refine hc_if_eq C (tgt := 150) dX8_toHush_129 (by decide) (fun c_129 => ?_) (fun c_129 => ?_)
      · refine hc_iconst C dX8_toHush_150 (v := 1) rfl ?_
        refine hc_goto C (tgt := 155) dX8_toHush_151 (by decide) ?_
        refine hc_top (v := rHk (Y 54) (nI x) bb (k + 1)) ?_ ?_
        · rw [rHk]
          symm
          first
            | exact hb_f (fun w => w.1 c_119)
            | exact hb_t ⟨c_119, Or.inl (hb_z.mp c_129)⟩
            | exact hb_t ⟨c_119, Or.inr c_147⟩
            | exact hb_f (fun w => Or.rec (fun q => q (hb_nz.mp c_129)) (fun q => c_147 q) w.2)
        refine hc_istore6 C dX8_toHush_155 (by decide) rfl ?_
        refine hc_aload_n C dX8_toHush_157 rfl rfl ?_
        refine hc_getR C fl_X8_41 rfl rfl dX8_toHush_158 ?_
        refine hc_bipush C dX8_toHush_161 (v := 6) rfl ?_
        refine hc_bipush C dX8_toHush_163 (v := 7) rfl ?_
        refine hc_iload C dX8_toHush_165 rfl ?_
        refine hc_imul C dX8_toHush_167 ?_
        refine hc_iadd C dX8_toHush_168 ?_
        refine hc_iconst C dX8_toHush_169 (v := 5) rfl ?_
        refine hc_iadd C dX8_toHush_170 ?_
        refine hc_iload C dX8_toHush_171 rfl ?_
        refine hc_iload C dX8_toHush_173 rfl ?_
        refine hc_cS2i C ms_X8_145 (c_X8_has C.ok) (Nat.le_of_ble_eq_true rfl) (hc_rr_rm hd) ⟨Nat.zero_le _, Nat.zero_le _⟩ dX8_toHush_175 (fun r_175 M_175 h_175 => ?_)
        obtain ⟨rfl, rfl⟩ := h_175
        refine hc_if_eq C (tgt := 185) dX8_toHush_178 (by decide) (fun c_178 => ?_) (fun c_178 => ?_)
        · refine hc_aload_n C dX8_toHush_185 rfl rfl ?_
          refine hc_getR C fl_X8_25 rfl rfl dX8_toHush_186 ?_
          refine hc_bipush C dX8_toHush_189 (v := 6) rfl ?_
          refine hc_bipush C dX8_toHush_191 (v := 7) rfl ?_
          refine hc_iload C dX8_toHush_193 rfl ?_
          refine hc_imul C dX8_toHush_195 ?_
          refine hc_iadd C dX8_toHush_196 ?_
          refine hc_iconst C dX8_toHush_197 (v := 5) rfl ?_
          refine hc_iadd C dX8_toHush_198 ?_
          refine hc_ialdN C (j := (6 + 7 * k + 5)) rfl (hx_67 k 5) (by omega) dX8_toHush_199 ?_
          rw [hc_mf_n (by decide)]
          refine hc_iastN C (j := (6 + 7 * k + 5)) rfl (hx_67 k 5) (by omega) dX8_toHush_200 ?_
          rw [hc_ms_mf]
          refine hc_mem (M2 := (hc_mf Y 59 (rHF f0 (Y 54) (nI x) (k + 1)))) (by rw [rHF]; first | rw [if_neg (hb_z.mp c_178)] | rw [if_pos (hb_nz.mp c_178)]) ?_
          refine hc_iinc7 C (v := nI (k + 1)) dX8_toHush_201 (by decide) rfl rfl (nI_1 k) ?_
          refine hc_goto C (tgt := 106) dX8_toHush_204 (by decide) ?_
          exact ih (k + 1) (by omega)
        · refine hc_iconst C dX8_toHush_181 (v := 1) rfl ?_
          refine hc_goto C (tgt := 200) dX8_toHush_182 (by decide) ?_
          refine hc_iastN C (j := (6 + 7 * k + 5)) rfl (hx_67 k 5) (by omega) dX8_toHush_200 ?_
          rw [hc_ms_mf]
          refine hc_mem (M2 := (hc_mf Y 59 (rHF f0 (Y 54) (nI x) (k + 1)))) (by rw [rHF]; first | rw [if_neg (hb_z.mp c_178)] | rw [if_pos (hb_nz.mp c_178)]) ?_
          refine hc_iinc7 C (v := nI (k + 1)) dX8_toHush_201 (by decide) rfl rfl (nI_1 k) ?_
          refine hc_goto C (tgt := 106) dX8_toHush_204 (by decide) ?_
          exact ih (k + 1) (by omega)
      · refine hc_aload_n C dX8_toHush_132 rfl rfl ?_
        refine hc_getR C fl_X8_25 rfl rfl dX8_toHush_133 ?_
        refine hc_bipush C dX8_toHush_136 (v := 6) rfl ?_
        refine hc_bipush C dX8_toHush_138 (v := 7) rfl ?_
        refine hc_iload C dX8_toHush_140 rfl ?_
        refine hc_imul C dX8_toHush_142 ?_
        refine hc_iadd C dX8_toHush_143 ?_
        refine hc_iconst C dX8_toHush_144 (v := 5) rfl ?_
        refine hc_iadd C dX8_toHush_145 ?_
        refine hc_ialdN C (j := (6 + 7 * k + 5)) rfl (hx_67 k 5) (by omega) dX8_toHush_146 ?_
        rw [hc_mf_n (by decide)]
        refine hc_if_ne C (tgt := 154) dX8_toHush_147 (by decide) (fun c_147 => ?_) (fun c_147 => ?_)
        · refine hc_iconst C dX8_toHush_154 (v := 0) rfl ?_
          refine hc_top (v := rHk (Y 54) (nI x) bb (k + 1)) ?_ ?_
          · rw [rHk]
            symm
            first
              | exact hb_f (fun w => w.1 c_119)
              | exact hb_t ⟨c_119, Or.inl (hb_z.mp c_129)⟩
              | exact hb_t ⟨c_119, Or.inr c_147⟩
              | exact hb_f (fun w => Or.rec (fun q => q (hb_nz.mp c_129)) (fun q => c_147 q) w.2)
          refine hc_istore6 C dX8_toHush_155 (by decide) rfl ?_
          refine hc_aload_n C dX8_toHush_157 rfl rfl ?_
          refine hc_getR C fl_X8_41 rfl rfl dX8_toHush_158 ?_
          refine hc_bipush C dX8_toHush_161 (v := 6) rfl ?_
          refine hc_bipush C dX8_toHush_163 (v := 7) rfl ?_
          refine hc_iload C dX8_toHush_165 rfl ?_
          refine hc_imul C dX8_toHush_167 ?_
          refine hc_iadd C dX8_toHush_168 ?_
          refine hc_iconst C dX8_toHush_169 (v := 5) rfl ?_
          refine hc_iadd C dX8_toHush_170 ?_
          refine hc_iload C dX8_toHush_171 rfl ?_
          refine hc_iload C dX8_toHush_173 rfl ?_
          refine hc_cS2i C ms_X8_145 (c_X8_has C.ok) (Nat.le_of_ble_eq_true rfl) (hc_rr_rm hd) ⟨Nat.zero_le _, Nat.zero_le _⟩ dX8_toHush_175 (fun r_175 M_175 h_175 => ?_)
          obtain ⟨rfl, rfl⟩ := h_175
          refine hc_if_eq C (tgt := 185) dX8_toHush_178 (by decide) (fun c_178 => ?_) (fun c_178 => ?_)
          · refine hc_aload_n C dX8_toHush_185 rfl rfl ?_
            refine hc_getR C fl_X8_25 rfl rfl dX8_toHush_186 ?_
            refine hc_bipush C dX8_toHush_189 (v := 6) rfl ?_
            refine hc_bipush C dX8_toHush_191 (v := 7) rfl ?_
            refine hc_iload C dX8_toHush_193 rfl ?_
            refine hc_imul C dX8_toHush_195 ?_
            refine hc_iadd C dX8_toHush_196 ?_
            refine hc_iconst C dX8_toHush_197 (v := 5) rfl ?_
            refine hc_iadd C dX8_toHush_198 ?_
            refine hc_ialdN C (j := (6 + 7 * k + 5)) rfl (hx_67 k 5) (by omega) dX8_toHush_199 ?_
            rw [hc_mf_n (by decide)]
            refine hc_iastN C (j := (6 + 7 * k + 5)) rfl (hx_67 k 5) (by omega) dX8_toHush_200 ?_
            rw [hc_ms_mf]
            refine hc_mem (M2 := (hc_mf Y 59 (rHF f0 (Y 54) (nI x) (k + 1)))) (by rw [rHF]; first | rw [if_neg (hb_z.mp c_178)] | rw [if_pos (hb_nz.mp c_178)]) ?_
            refine hc_iinc7 C (v := nI (k + 1)) dX8_toHush_201 (by decide) rfl rfl (nI_1 k) ?_
            refine hc_goto C (tgt := 106) dX8_toHush_204 (by decide) ?_
            exact ih (k + 1) (by omega)
          · refine hc_iconst C dX8_toHush_181 (v := 1) rfl ?_
            refine hc_goto C (tgt := 200) dX8_toHush_182 (by decide) ?_
            refine hc_iastN C (j := (6 + 7 * k + 5)) rfl (hx_67 k 5) (by omega) dX8_toHush_200 ?_
            rw [hc_ms_mf]
            refine hc_mem (M2 := (hc_mf Y 59 (rHF f0 (Y 54) (nI x) (k + 1)))) (by rw [rHF]; first | rw [if_neg (hb_z.mp c_178)] | rw [if_pos (hb_nz.mp c_178)]) ?_
            refine hc_iinc7 C (v := nI (k + 1)) dX8_toHush_201 (by decide) rfl rfl (nI_1 k) ?_
            refine hc_goto C (tgt := 106) dX8_toHush_204 (by decide) ?_
            exact ih (k + 1) (by omega)
        · refine hc_iconst C dX8_toHush_150 (v := 1) rfl ?_
          refine hc_goto C (tgt := 155) dX8_toHush_151 (by decide) ?_
          refine hc_top (v := rHk (Y 54) (nI x) bb (k + 1)) ?_ ?_
          · rw [rHk]
            symm
            first
              | exact hb_f (fun w => w.1 c_119)
              | exact hb_t ⟨c_119, Or.inl (hb_z.mp c_129)⟩
              | exact hb_t ⟨c_119, Or.inr c_147⟩
              | exact hb_f (fun w => Or.rec (fun q => q (hb_nz.mp c_129)) (fun q => c_147 q) w.2)
          refine hc_istore6 C dX8_toHush_155 (by decide) rfl ?_
          refine hc_aload_n C dX8_toHush_157 rfl rfl ?_
          refine hc_getR C fl_X8_41 rfl rfl dX8_toHush_158 ?_
          refine hc_bipush C dX8_toHush_161 (v := 6) rfl ?_
          refine hc_bipush C dX8_toHush_163 (v := 7) rfl ?_
          refine hc_iload C dX8_toHush_165 rfl ?_
          refine hc_imul C dX8_toHush_167 ?_
          refine hc_iadd C dX8_toHush_168 ?_
          refine hc_iconst C dX8_toHush_169 (v := 5) rfl ?_
          refine hc_iadd C dX8_toHush_170 ?_
          refine hc_iload C dX8_toHush_171 rfl ?_
          refine hc_iload C dX8_toHush_173 rfl ?_
          refine hc_cS2i C ms_X8_145 (c_X8_has C.ok) (Nat.le_of_ble_eq_true rfl) (hc_rr_rm hd) ⟨Nat.zero_le _, Nat.zero_le _⟩ dX8_toHush_175 (fun r_175 M_175 h_175 => ?_)
          obtain ⟨rfl, rfl⟩ := h_175
          refine hc_if_eq C (tgt := 185) dX8_toHush_178 (by decide) (fun c_178 => ?_) (fun c_178 => ?_)
          · refine hc_aload_n C dX8_toHush_185 rfl rfl ?_
            refine hc_getR C fl_X8_25 rfl rfl dX8_toHush_186 ?_
            refine hc_bipush C dX8_toHush_189 (v := 6) rfl ?_
            refine hc_bipush C dX8_toHush_191 (v := 7) rfl ?_
            refine hc_iload C dX8_toHush_193 rfl ?_
            refine hc_imul C dX8_toHush_195 ?_
            refine hc_iadd C dX8_toHush_196 ?_
            refine hc_iconst C dX8_toHush_197 (v := 5) rfl ?_
            refine hc_iadd C dX8_toHush_198 ?_
            refine hc_ialdN C (j := (6 + 7 * k + 5)) rfl (hx_67 k 5) (by omega) dX8_toHush_199 ?_
            rw [hc_mf_n (by decide)]
            refine hc_iastN C (j := (6 + 7 * k + 5)) rfl (hx_67 k 5) (by omega) dX8_toHush_200 ?_
            rw [hc_ms_mf]
            refine hc_mem (M2 := (hc_mf Y 59 (rHF f0 (Y 54) (nI x) (k + 1)))) (by rw [rHF]; first | rw [if_neg (hb_z.mp c_178)] | rw [if_pos (hb_nz.mp c_178)]) ?_
            refine hc_iinc7 C (v := nI (k + 1)) dX8_toHush_201 (by decide) rfl rfl (nI_1 k) ?_
            refine hc_goto C (tgt := 106) dX8_toHush_204 (by decide) ?_
            exact ih (k + 1) (by omega)
          · refine hc_iconst C dX8_toHush_181 (v := 1) rfl ?_
            refine hc_goto C (tgt := 200) dX8_toHush_182 (by decide) ?_
            refine hc_iastN C (j := (6 + 7 * k + 5)) rfl (hx_67 k 5) (by omega) dX8_toHush_200 ?_
            rw [hc_ms_mf]
            refine hc_mem (M2 := (hc_mf Y 59 (rHF f0 (Y 54) (nI x) (k + 1)))) (by rw [rHF]; first | rw [if_neg (hb_z.mp c_178)] | rw [if_pos (hb_nz.mp c_178)]) ?_
            refine hc_iinc7 C (v := nI (k + 1)) dX8_toHush_201 (by decide) rfl rfl (nI_1 k) ?_
            refine hc_goto C (tgt := 106) dX8_toHush_204 (by decide) ?_
            exact ih (k + 1) (by omega)

set_option maxRecDepth 100000 in
set_option maxHeartbeats 4000000 in
theorem lp_RtoH {G : hc_Geo} {p : Program} {l : Launch} {e : Env} {d : Nat} {s : State} {m : MethodId} {args : Array Value} {below : List Frame} {meth : Method} {c : Code} {Q : State → Prop} (C : hc_Cx G hc_lay cX8_toHush 8 (some .int) yX8_toHush.cls p s m args meth c) {M : hc_Mem} {E D n : Nat} {v1 v3 : Int32} (hd : 6 < d) (hE : M 54 4 = nI E) (hE6 : E ≤ 6) (hD : M 54 5 = nI D) (hD4 : D ≤ 4) (hn : n ≤ 99) (kk : ∀ (Y : hc_Mem) (v6 v7 : Option Value), (∀ q, q ≠ 59 → q ≠ 60 → Y q = M q) → hc_W G hc_lay p l e (hc_rm d) s m args below meth c 8 0 0 Q 239 [some (.ref (hc_ad G 48)), some (.int v1), some (.int (nI n)), some (.int v3), some (.int (rHb (M 54) E D v1 n (2 ^ E))), some (.int (nI (2 ^ E))), v6, v7] [] Y)  :
    ∀ (t : Nat) (x : Nat) (Y : hc_Mem) (v6 v7 : Option Value), x + t = 2 ^ E → (∀ q, q ≠ 59 → q ≠ 60 → Y q = M q) → hc_W G hc_lay p l e (hc_rm d) s m args below meth c 8 0 0 Q 50 [some (.ref (hc_ad G 48)), some (.int v1), some (.int (nI n)), some (.int v3), some (.int (rHb (M 54) E D v1 n x)), some (.int (nI x)), v6, v7] [] Y := by
  intro t
  induction t with
  | zero =>
    intro x Y v6 v7 hx hY
    have hy54 : Y 54 = M 54 := hY 54 (by decide) (by decide)
    refine hc_iload C dX8_toHush_50 rfl ?_
    refine hc_iconst C dX8_toHush_52 (v := 1) rfl ?_
    refine hc_aload_n C dX8_toHush_53 rfl rfl ?_
    refine hc_getR C fl_X8_25 rfl rfl dX8_toHush_54 ?_
    refine hc_iconst C dX8_toHush_57 (v := 4) rfl ?_
    refine hc_ialdN C (j := 4) rfl rfl (by decide) dX8_toHush_58 ?_
    refine hc_ishl C dX8_toHush_59 ?_
    refine hc_top (hx_shE (by rw [hy54]; exact hE) hE6) ?_
    refine hc_icmp_ge C (tgt := 239) dX8_toHush_60 (by decide) (fun c_60 => ?_) (fun c_60 => ?_)
    rotate_left
    · exact absurd (nI_le (show 2 ^ E ≤ x by omega) (by have := hx_p6 hE6; omega)) c_60
    obtain rfl : x = 2 ^ E := by omega
    exact kk Y v6 v7 hY
  | succ t ih =>
    intro x Y v6 v7 hx hY
    have hy54 : Y 54 = M 54 := hY 54 (by decide) (by decide)
    refine hc_iload C dX8_toHush_50 rfl ?_
    refine hc_iconst C dX8_toHush_52 (v := 1) rfl ?_
    refine hc_aload_n C dX8_toHush_53 rfl rfl ?_
    refine hc_getR C fl_X8_25 rfl rfl dX8_toHush_54 ?_
    refine hc_iconst C dX8_toHush_57 (v := 4) rfl ?_
    refine hc_ialdN C (j := 4) rfl rfl (by decide) dX8_toHush_58 ?_
    refine hc_ishl C dX8_toHush_59 ?_
    refine hc_top (hx_shE (by rw [hy54]; exact hE) hE6) ?_
    refine hc_icmp_ge C (tgt := 239) dX8_toHush_60 (by decide) (fun c_60 => ?_) (fun c_60 => ?_)
    · exact absurd c_60 (nI_ge (show x < 2 ^ E by omega) (by have := hx_p6 hE6; omega))
    refine hc_aload_n C dX8_toHush_63 rfl rfl ?_
    refine hc_getR C fl_X8_25 rfl rfl dX8_toHush_64 ?_
    refine hc_iconst C dX8_toHush_67 (v := 0) rfl ?_
    refine hc_aload_n C dX8_toHush_68 rfl rfl ?_
    refine hc_getR C fl_X8_41 rfl rfl dX8_toHush_69 ?_
    refine hc_iconst C dX8_toHush_72 (v := 0) rfl ?_
    refine hc_cS4v C ms_X8_134 (c_X8_copies (a := 0) (b := 0) C.ok rfl rfl (by decide) (by decide) (by decide)) (Nat.le_of_ble_eq_true rfl) (hc_rr_rm (by omega)) ⟨Nat.zero_le _, Nat.zero_le _⟩ dX8_toHush_73 (fun M_73 h_73 => ?_)
    obtain rfl := h_73
    refine hc_iload C dX8_toHush_76 rfl ?_
    refine hc_ldc C kc_X8_50 dX8_toHush_78 ?_
    refine hc_icmp_eq C (tgt := 96) dX8_toHush_80 (by decide) (fun c_80 => ?_) (fun c_80 => ?_)
    · refine hc_iconst C dX8_toHush_96 (v := 1) rfl ?_
      refine hc_goto C (tgt := 101) dX8_toHush_97 (by decide) ?_
      refine hc_top (v := (hb (rHb (M 54) E D v1 n x = -1000000 ∨ ¬ rOnes (rHb (M 54) E D v1 n x) 8 ≤ rOnes (nI x) 8))) ?_ ?_
      · symm
        first
          | exact hb_t (Or.inl c_80)
          | exact hb_t (Or.inr c_93)
          | exact hb_f (not_or.mpr ⟨c_80, fun w => w c_93⟩)
      refine hc_istore6 C dX8_toHush_101 (by decide) rfl ?_
      refine hc_iconst C dX8_toHush_103 (v := 0) rfl ?_
      refine hc_istore7 C dX8_toHush_104 (by decide) rfl ?_
      refine hc_mem (M2 := hc_mf Y 59 (rHF (va_cpy (Y 54) (Y 59) 0 0 68) (Y 54) (nI x) 0)) rfl ?_
      refine lp_RtoH1 (Y := Y) (f0 := va_cpy (Y 54) (Y 59) 0 0 68) (bb := (hb (rHb (M 54) E D v1 n x = -1000000 ∨ ¬ rOnes (rHb (M 54) E D v1 n x) 8 ≤ rOnes (nI x) 8))) C (by omega) (by rw [hy54]; exact hE) hE6 ?_ E 0 (by omega)
      refine hc_iload C dX8_toHush_207 rfl ?_
      refine hc_if_eq C (tgt := 229) dX8_toHush_209 (by decide) (fun c_209 => ?_) (fun c_209 => ?_)
      · refine hc_iload C dX8_toHush_229 rfl ?_
        refine hc_top (v := rHb (M 54) E D v1 n (x + 1)) ?_ ?_
        · rw [rHb]
          rw [hy54] at c_209
          symm
          first
            | (refine if_neg (fun w => absurd ?_ w.1); exact c_209)
            | (refine if_neg (fun w => absurd ?_ w.2); exact c_221)
            | exact if_pos ⟨c_209, c_221⟩
        refine hc_istore4 C dX8_toHush_231 (by decide) rfl ?_
        refine hc_iinc5 C (v := nI (x + 1)) dX8_toHush_233 (by decide) rfl rfl (nI_1 x) ?_
        refine hc_goto C (tgt := 50) dX8_toHush_236 (by decide) ?_
        refine ih (x + 1) _ _ _ (by omega) ?_
        intro q h1 h2
        first | rw [hc_mf_n h1, hc_mf_n h1, hY q h1 h2] | rw [hc_mf_n h1, hY q h1 h2]
      · refine hc_aload_n C dX8_toHush_212 rfl rfl ?_
        refine hc_iload_n C dX8_toHush_213 rfl rfl ?_
        refine hc_cV1i C mv_X8_188 (c_X8_partsIn (E := E) (D := D) (n := n) C.ok hn (by rw [hc_mf_s, rHF_o (by decide), rAg_cpy (f := Y 54) (g := Y 59) 4 (by decide), hy54]; exact hE) hE6 (by rw [hc_mf_s, rHF_o (by decide), rAg_cpy (f := Y 54) (g := Y 59) 5 (by decide), hy54]; exact hD) hD4) rfl rfl rfl (Nat.le_of_ble_eq_true rfl) (hc_rr_rm hd) ⟨Nat.zero_le _, Nat.zero_le _⟩ dX8_toHush_214 (fun r_214 M_214 h_214 => ?_)
        obtain ⟨rfl, rfl⟩ := h_214
        refine hc_top (v := rIter E D n (rHF (M 54) (M 54) (nI x) E) 3) (by rw [hc_mf_s, hy54]; exact rIter_c hE6 hD4 n (rHF_c (rAg_cpy (f := M 54)) E) 3 (by decide)) ?_
        refine hc_bipush C dX8_toHush_217 (v := 12) rfl ?_
        refine hc_idiv C dX8_toHush_219 (by decide) ?_
        refine hc_iload_n C dX8_toHush_220 rfl rfl ?_
        refine hc_icmp_gt C (tgt := 229) dX8_toHush_221 (by decide) (fun c_221 => ?_) (fun c_221 => ?_)
        · refine hc_iload C dX8_toHush_229 rfl ?_
          refine hc_top (v := rHb (M 54) E D v1 n (x + 1)) ?_ ?_
          · rw [rHb]
            rw [hy54] at c_209
            symm
            first
              | (refine if_neg (fun w => absurd ?_ w.1); exact c_209)
              | (refine if_neg (fun w => absurd ?_ w.2); exact c_221)
              | exact if_pos ⟨c_209, c_221⟩
          refine hc_istore4 C dX8_toHush_231 (by decide) rfl ?_
          refine hc_iinc5 C (v := nI (x + 1)) dX8_toHush_233 (by decide) rfl rfl (nI_1 x) ?_
          refine hc_goto C (tgt := 50) dX8_toHush_236 (by decide) ?_
          refine ih (x + 1) _ _ _ (by omega) ?_
          intro q h1 h2
          first | rw [hc_mf_n h1, hc_mf_n h1, hY q h1 h2] | rw [hc_mf_n h1, hY q h1 h2]
        · refine hc_iload C dX8_toHush_224 rfl ?_
          refine hc_goto C (tgt := 231) dX8_toHush_226 (by decide) ?_
          refine hc_top (v := rHb (M 54) E D v1 n (x + 1)) ?_ ?_
          · rw [rHb]
            rw [hy54] at c_209
            symm
            first
              | (refine if_neg (fun w => absurd ?_ w.1); exact c_209)
              | (refine if_neg (fun w => absurd ?_ w.2); exact c_221)
              | exact if_pos ⟨c_209, c_221⟩
          refine hc_istore4 C dX8_toHush_231 (by decide) rfl ?_
          refine hc_iinc5 C (v := nI (x + 1)) dX8_toHush_233 (by decide) rfl rfl (nI_1 x) ?_
          refine hc_goto C (tgt := 50) dX8_toHush_236 (by decide) ?_
          refine ih (x + 1) _ _ _ (by omega) ?_
          intro q h1 h2
          first | rw [hc_mf_n h1, hc_mf_n h1, hY q h1 h2] | rw [hc_mf_n h1, hY q h1 h2]
    · refine hc_iload C dX8_toHush_83 rfl ?_
      refine hc_cS1i C ms_X8_197 (c_X8_ones C.ok) (Nat.le_of_ble_eq_true rfl) (hc_rr_rm (by omega)) ⟨Nat.zero_le _, Nat.zero_le _⟩ dX8_toHush_85 (fun r_85 M_85 h_85 => ?_)
      obtain ⟨rfl, rfl⟩ := h_85
      refine hc_iload C dX8_toHush_88 rfl ?_
      refine hc_cS1i C ms_X8_197 (c_X8_ones C.ok) (Nat.le_of_ble_eq_true rfl) (hc_rr_rm (by omega)) ⟨Nat.zero_le _, Nat.zero_le _⟩ dX8_toHush_90 (fun r_90 M_90 h_90 => ?_)
      obtain ⟨rfl, rfl⟩ := h_90
      refine hc_icmp_ge C (tgt := 100) dX8_toHush_93 (by decide) (fun c_93 => ?_) (fun c_93 => ?_)
      · refine hc_iconst C dX8_toHush_100 (v := 0) rfl ?_
        refine hc_top (v := (hb (rHb (M 54) E D v1 n x = -1000000 ∨ ¬ rOnes (rHb (M 54) E D v1 n x) 8 ≤ rOnes (nI x) 8))) ?_ ?_
        · symm
          first
            | exact hb_t (Or.inl c_80)
            | exact hb_t (Or.inr c_93)
            | exact hb_f (not_or.mpr ⟨c_80, fun w => w c_93⟩)
        refine hc_istore6 C dX8_toHush_101 (by decide) rfl ?_
        refine hc_iconst C dX8_toHush_103 (v := 0) rfl ?_
        refine hc_istore7 C dX8_toHush_104 (by decide) rfl ?_
        refine hc_mem (M2 := hc_mf Y 59 (rHF (va_cpy (Y 54) (Y 59) 0 0 68) (Y 54) (nI x) 0)) rfl ?_
        refine lp_RtoH1 (Y := Y) (f0 := va_cpy (Y 54) (Y 59) 0 0 68) (bb := (hb (rHb (M 54) E D v1 n x = -1000000 ∨ ¬ rOnes (rHb (M 54) E D v1 n x) 8 ≤ rOnes (nI x) 8))) C (by omega) (by rw [hy54]; exact hE) hE6 ?_ E 0 (by omega)
        refine hc_iload C dX8_toHush_207 rfl ?_
        refine hc_if_eq C (tgt := 229) dX8_toHush_209 (by decide) (fun c_209 => ?_) (fun c_209 => ?_)
        · refine hc_iload C dX8_toHush_229 rfl ?_
          refine hc_top (v := rHb (M 54) E D v1 n (x + 1)) ?_ ?_
          · rw [rHb]
            rw [hy54] at c_209
            symm
            first
              | (refine if_neg (fun w => absurd ?_ w.1); exact c_209)
              | (refine if_neg (fun w => absurd ?_ w.2); exact c_221)
              | exact if_pos ⟨c_209, c_221⟩
          refine hc_istore4 C dX8_toHush_231 (by decide) rfl ?_
          refine hc_iinc5 C (v := nI (x + 1)) dX8_toHush_233 (by decide) rfl rfl (nI_1 x) ?_
          refine hc_goto C (tgt := 50) dX8_toHush_236 (by decide) ?_
          refine ih (x + 1) _ _ _ (by omega) ?_
          intro q h1 h2
          first | rw [hc_mf_n h1, hc_mf_n h1, hY q h1 h2] | rw [hc_mf_n h1, hY q h1 h2]
        · refine hc_aload_n C dX8_toHush_212 rfl rfl ?_
          refine hc_iload_n C dX8_toHush_213 rfl rfl ?_
          refine hc_cV1i C mv_X8_188 (c_X8_partsIn (E := E) (D := D) (n := n) C.ok hn (by rw [hc_mf_s, rHF_o (by decide), rAg_cpy (f := Y 54) (g := Y 59) 4 (by decide), hy54]; exact hE) hE6 (by rw [hc_mf_s, rHF_o (by decide), rAg_cpy (f := Y 54) (g := Y 59) 5 (by decide), hy54]; exact hD) hD4) rfl rfl rfl (Nat.le_of_ble_eq_true rfl) (hc_rr_rm hd) ⟨Nat.zero_le _, Nat.zero_le _⟩ dX8_toHush_214 (fun r_214 M_214 h_214 => ?_)
          obtain ⟨rfl, rfl⟩ := h_214
          refine hc_top (v := rIter E D n (rHF (M 54) (M 54) (nI x) E) 3) (by rw [hc_mf_s, hy54]; exact rIter_c hE6 hD4 n (rHF_c (rAg_cpy (f := M 54)) E) 3 (by decide)) ?_
          refine hc_bipush C dX8_toHush_217 (v := 12) rfl ?_
          refine hc_idiv C dX8_toHush_219 (by decide) ?_
          refine hc_iload_n C dX8_toHush_220 rfl rfl ?_
          refine hc_icmp_gt C (tgt := 229) dX8_toHush_221 (by decide) (fun c_221 => ?_) (fun c_221 => ?_)
          · refine hc_iload C dX8_toHush_229 rfl ?_
            refine hc_top (v := rHb (M 54) E D v1 n (x + 1)) ?_ ?_
            · rw [rHb]
              rw [hy54] at c_209
              symm
              first
                | (refine if_neg (fun w => absurd ?_ w.1); exact c_209)
                | (refine if_neg (fun w => absurd ?_ w.2); exact c_221)
                | exact if_pos ⟨c_209, c_221⟩
            refine hc_istore4 C dX8_toHush_231 (by decide) rfl ?_
            refine hc_iinc5 C (v := nI (x + 1)) dX8_toHush_233 (by decide) rfl rfl (nI_1 x) ?_
            refine hc_goto C (tgt := 50) dX8_toHush_236 (by decide) ?_
            refine ih (x + 1) _ _ _ (by omega) ?_
            intro q h1 h2
            first | rw [hc_mf_n h1, hc_mf_n h1, hY q h1 h2] | rw [hc_mf_n h1, hY q h1 h2]
          · refine hc_iload C dX8_toHush_224 rfl ?_
            refine hc_goto C (tgt := 231) dX8_toHush_226 (by decide) ?_
            refine hc_top (v := rHb (M 54) E D v1 n (x + 1)) ?_ ?_
            · rw [rHb]
              rw [hy54] at c_209
              symm
              first
                | (refine if_neg (fun w => absurd ?_ w.1); exact c_209)
                | (refine if_neg (fun w => absurd ?_ w.2); exact c_221)
                | exact if_pos ⟨c_209, c_221⟩
            refine hc_istore4 C dX8_toHush_231 (by decide) rfl ?_
            refine hc_iinc5 C (v := nI (x + 1)) dX8_toHush_233 (by decide) rfl rfl (nI_1 x) ?_
            refine hc_goto C (tgt := 50) dX8_toHush_236 (by decide) ?_
            refine ih (x + 1) _ _ _ (by omega) ?_
            intro q h1 h2
            first | rw [hc_mf_n h1, hc_mf_n h1, hY q h1 h2] | rw [hc_mf_n h1, hY q h1 h2]
      · refine hc_iconst C dX8_toHush_96 (v := 1) rfl ?_
        refine hc_goto C (tgt := 101) dX8_toHush_97 (by decide) ?_
        refine hc_top (v := (hb (rHb (M 54) E D v1 n x = -1000000 ∨ ¬ rOnes (rHb (M 54) E D v1 n x) 8 ≤ rOnes (nI x) 8))) ?_ ?_
        · symm
          first
            | exact hb_t (Or.inl c_80)
            | exact hb_t (Or.inr c_93)
            | exact hb_f (not_or.mpr ⟨c_80, fun w => w c_93⟩)
        refine hc_istore6 C dX8_toHush_101 (by decide) rfl ?_
        refine hc_iconst C dX8_toHush_103 (v := 0) rfl ?_
        refine hc_istore7 C dX8_toHush_104 (by decide) rfl ?_
        refine hc_mem (M2 := hc_mf Y 59 (rHF (va_cpy (Y 54) (Y 59) 0 0 68) (Y 54) (nI x) 0)) rfl ?_
        refine lp_RtoH1 (Y := Y) (f0 := va_cpy (Y 54) (Y 59) 0 0 68) (bb := (hb (rHb (M 54) E D v1 n x = -1000000 ∨ ¬ rOnes (rHb (M 54) E D v1 n x) 8 ≤ rOnes (nI x) 8))) C (by omega) (by rw [hy54]; exact hE) hE6 ?_ E 0 (by omega)
        refine hc_iload C dX8_toHush_207 rfl ?_
        refine hc_if_eq C (tgt := 229) dX8_toHush_209 (by decide) (fun c_209 => ?_) (fun c_209 => ?_)
        · refine hc_iload C dX8_toHush_229 rfl ?_
          refine hc_top (v := rHb (M 54) E D v1 n (x + 1)) ?_ ?_
          · rw [rHb]
            rw [hy54] at c_209
            symm
            first
              | (refine if_neg (fun w => absurd ?_ w.1); exact c_209)
              | (refine if_neg (fun w => absurd ?_ w.2); exact c_221)
              | exact if_pos ⟨c_209, c_221⟩
          refine hc_istore4 C dX8_toHush_231 (by decide) rfl ?_
          refine hc_iinc5 C (v := nI (x + 1)) dX8_toHush_233 (by decide) rfl rfl (nI_1 x) ?_
          refine hc_goto C (tgt := 50) dX8_toHush_236 (by decide) ?_
          refine ih (x + 1) _ _ _ (by omega) ?_
          intro q h1 h2
          first | rw [hc_mf_n h1, hc_mf_n h1, hY q h1 h2] | rw [hc_mf_n h1, hY q h1 h2]
        · refine hc_aload_n C dX8_toHush_212 rfl rfl ?_
          refine hc_iload_n C dX8_toHush_213 rfl rfl ?_
          refine hc_cV1i C mv_X8_188 (c_X8_partsIn (E := E) (D := D) (n := n) C.ok hn (by rw [hc_mf_s, rHF_o (by decide), rAg_cpy (f := Y 54) (g := Y 59) 4 (by decide), hy54]; exact hE) hE6 (by rw [hc_mf_s, rHF_o (by decide), rAg_cpy (f := Y 54) (g := Y 59) 5 (by decide), hy54]; exact hD) hD4) rfl rfl rfl (Nat.le_of_ble_eq_true rfl) (hc_rr_rm hd) ⟨Nat.zero_le _, Nat.zero_le _⟩ dX8_toHush_214 (fun r_214 M_214 h_214 => ?_)
          obtain ⟨rfl, rfl⟩ := h_214
          refine hc_top (v := rIter E D n (rHF (M 54) (M 54) (nI x) E) 3) (by rw [hc_mf_s, hy54]; exact rIter_c hE6 hD4 n (rHF_c (rAg_cpy (f := M 54)) E) 3 (by decide)) ?_
          refine hc_bipush C dX8_toHush_217 (v := 12) rfl ?_
          refine hc_idiv C dX8_toHush_219 (by decide) ?_
          refine hc_iload_n C dX8_toHush_220 rfl rfl ?_
          refine hc_icmp_gt C (tgt := 229) dX8_toHush_221 (by decide) (fun c_221 => ?_) (fun c_221 => ?_)
          · refine hc_iload C dX8_toHush_229 rfl ?_
            refine hc_top (v := rHb (M 54) E D v1 n (x + 1)) ?_ ?_
            · rw [rHb]
              rw [hy54] at c_209
              symm
              first
                | (refine if_neg (fun w => absurd ?_ w.1); exact c_209)
                | (refine if_neg (fun w => absurd ?_ w.2); exact c_221)
                | exact if_pos ⟨c_209, c_221⟩
            refine hc_istore4 C dX8_toHush_231 (by decide) rfl ?_
            refine hc_iinc5 C (v := nI (x + 1)) dX8_toHush_233 (by decide) rfl rfl (nI_1 x) ?_
            refine hc_goto C (tgt := 50) dX8_toHush_236 (by decide) ?_
            refine ih (x + 1) _ _ _ (by omega) ?_
            intro q h1 h2
            first | rw [hc_mf_n h1, hc_mf_n h1, hY q h1 h2] | rw [hc_mf_n h1, hY q h1 h2]
          · refine hc_iload C dX8_toHush_224 rfl ?_
            refine hc_goto C (tgt := 231) dX8_toHush_226 (by decide) ?_
            refine hc_top (v := rHb (M 54) E D v1 n (x + 1)) ?_ ?_
            · rw [rHb]
              rw [hy54] at c_209
              symm
              first
                | (refine if_neg (fun w => absurd ?_ w.1); exact c_209)
                | (refine if_neg (fun w => absurd ?_ w.2); exact c_221)
                | exact if_pos ⟨c_209, c_221⟩
            refine hc_istore4 C dX8_toHush_231 (by decide) rfl ?_
            refine hc_iinc5 C (v := nI (x + 1)) dX8_toHush_233 (by decide) rfl rfl (nI_1 x) ?_
            refine hc_goto C (tgt := 50) dX8_toHush_236 (by decide) ?_
            refine ih (x + 1) _ _ _ (by omega) ?_
            intro q h1 h2
            first | rw [hc_mf_n h1, hc_mf_n h1, hY q h1 h2] | rw [hc_mf_n h1, hY q h1 h2]

set_option maxRecDepth 100000 in
set_option maxHeartbeats 4000000 in
theorem c_X8_toHush_o {l : Launch} {G : hc_Geo} (hG : hc_ok G) {M : hc_Mem} {E D n : Nat} {v1 v3 : Int32}  (h0 : M 54 0 = 1) (hE : M 54 4 = nI E) (hE6 : E ≤ 6) (hD : M 54 5 = nI D) (hD4 : D ≤ 4) (h1 : ¬ v1 < 0 ∧ ¬ 999 < v1) (hn : n ≤ 99) (h3 : ¬ v3 < 0 ∧ ¬ 1 < v3) : hc_M l G yX8_toHush cX8_toHush 8 (some .int) 7 [.ref (hc_ad G 48), .int v1, .int (nI n), .int v3] M (hc_pi (fun z M' => (if rHb (M 54) E D v1 n (2 ^ E) = -1000000 ∨ v3 = 1 then rHb (M 54) E D v1 n (2 ^ E) else rOnes (rHb (M 54) E D v1 n (2 ^ E)) 8) = z ∧ ∀ q, q ≠ 59 → q ≠ 60 → M' q = M q)) := by
  refine hc_M.of hG (by decide) [some (.ref (hc_ad G 48)), some (.int v1), some (.int (nI n)), some (.int v3), none, none, none, none] rfl (Nat.le_of_ble_eq_true rfl) ?_
  intro p e s m args below meth c C
  refine hc_aload_n C dX8_toHush_0 rfl rfl ?_
  refine hc_cV0i C mv_X8_171 (c_X8_isHouse C.ok) rfl rfl rfl (Nat.le_of_ble_eq_true rfl) (hc_rr_rm (by decide)) ⟨Nat.zero_le _, Nat.zero_le _⟩ dX8_toHush_1 (fun r_1 M_1 h_1 => ?_)
  obtain ⟨rfl, rfl⟩ := h_1
  refine hc_if_ne C (tgt := 10) dX8_toHush_4 (by decide) (fun c_4 => ?_) (fun c_4 => ?_)
  rotate_left
  · exact absurd h0 (hb_z.mp c_4)
  refine hc_iload_n C dX8_toHush_10 rfl rfl ?_
  refine hc_iconst C dX8_toHush_11 (v := 0) rfl ?_
  refine hc_sipush C dX8_toHush_12 (v := 999) rfl ?_
  refine hc_cS3i C ms_X8_56 (c_X8_in C.ok) (Nat.le_of_ble_eq_true rfl) (hc_rr_rm (by decide)) ⟨Nat.zero_le _, Nat.zero_le _⟩ dX8_toHush_15 (fun r_15 M_15 h_15 => ?_)
  obtain ⟨rfl, rfl⟩ := h_15
  refine hc_if_eq C (tgt := 40) dX8_toHush_18 (by decide) (fun c_18 => ?_) (fun c_18 => ?_)
  · exact absurd h1 (hb_z.mp c_18)
  refine hc_iload_n C dX8_toHush_21 rfl rfl ?_
  refine hc_iconst C dX8_toHush_22 (v := 0) rfl ?_
  refine hc_bipush C dX8_toHush_23 (v := 99) rfl ?_
  refine hc_cS3i C ms_X8_56 (c_X8_in C.ok) (Nat.le_of_ble_eq_true rfl) (hc_rr_rm (by decide)) ⟨Nat.zero_le _, Nat.zero_le _⟩ dX8_toHush_25 (fun r_25 M_25 h_25 => ?_)
  obtain ⟨rfl, rfl⟩ := h_25
  refine hc_if_eq C (tgt := 40) dX8_toHush_28 (by decide) (fun c_28 => ?_) (fun c_28 => ?_)
  · exact absurd (hx_in (lo := 0) (hi := 99) (Nat.zero_le _) hn (by decide)) (hb_z.mp c_28)
  refine hc_iload_n C dX8_toHush_31 rfl rfl ?_
  refine hc_iconst C dX8_toHush_32 (v := 0) rfl ?_
  refine hc_iconst C dX8_toHush_33 (v := 1) rfl ?_
  refine hc_cS3i C ms_X8_56 (c_X8_in C.ok) (Nat.le_of_ble_eq_true rfl) (hc_rr_rm (by decide)) ⟨Nat.zero_le _, Nat.zero_le _⟩ dX8_toHush_34 (fun r_34 M_34 h_34 => ?_)
  obtain ⟨rfl, rfl⟩ := h_34
  refine hc_if_ne C (tgt := 43) dX8_toHush_37 (by decide) (fun c_37 => ?_) (fun c_37 => ?_)
  rotate_left
  · exact absurd h3 (hb_z.mp c_37)
  refine hc_ldc C kc_X8_50 dX8_toHush_43 ?_
  refine hc_istore4 C dX8_toHush_45 (by decide) rfl ?_
  refine hc_iconst C dX8_toHush_47 (v := 0) rfl ?_
  refine hc_istore5 C dX8_toHush_48 (by decide) rfl ?_
  refine lp_RtoH C (by decide) hE hE6 hD hD4 hn (fun Y v6 v7 hY => ?_) (2 ^ E) 0 M none none (by omega) (fun q _ _ => rfl)
  refine hc_aload_n C dX8_toHush_239 rfl rfl ?_
  refine hc_iload C dX8_toHush_240 rfl ?_
  refine hc_iload_n C dX8_toHush_242 rfl rfl ?_
  refine hc_cV2i C mv_X8_200 (c_X8_told C.ok) rfl rfl rfl (Nat.le_of_ble_eq_true rfl) (hc_rr_rm (by decide)) ⟨Nat.zero_le _, Nat.zero_le _⟩ dX8_toHush_243 (fun r_243 M_243 h_243 => ?_)
  obtain ⟨rfl, rfl⟩ := h_243
  refine hc_iret C rfl dX8_toHush_246 ?_
  exact ⟨rfl, hY⟩
