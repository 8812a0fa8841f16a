def rOw (ls : Int32) : Nat → Int32
  | 0 => 1
  | e + 1 => rOw ls e * (if hIn ls (nI e) then 10 else 1)
def rOp (ls x v : Int32) : Nat → Int32
  | 0 => if x &&& (ls ^^^ -1) = 0 then 1 else 0
  | e + 1 => rOp ls x v e * (if hIn ls (nI e) then (if hIn x (nI e) then 10 - v else v) else 1)
def rOs (f : Nat → Int32) (E : Nat) (ls u v : Int32) : Nat → Int32
  | 0 => 0
  | x + 1 => rOs f E ls u v x + (if rBy f E (nI x &&& ls) < u then 0 else rOp ls (nI x) v E)
def rGe : Nat → Int32 → Int32 → Prop
  | 0, _, y => y = 0
  | t + 1, x, y => y = 0 ∨ rGe t y (x - x / y * y)

set_option maxRecDepth 100000 in
set_option maxHeartbeats 4000000 in
theorem c_X8_odds_b {l : Launch} {G : hc_Geo} (hG : hc_ok G) {M : hc_Mem} {v1 v2 v3 : Int32}  (h0 : M 54 0 = 1) (h1 : ¬ ((¬ v1 < 0 ∧ ¬ 99 < v1) ∧ (¬ v2 < 0 ∧ ¬ 10 < v2) ∧ (¬ v3 < 0 ∧ ¬ 1 < v3))) : hc_M l G yX8_odds cX8_odds 10 (some .int) 2 [.ref (hc_ad G 48), .int v1, .int v2, .int v3] M (hc_pi (fun z M' => -1000001 = z ∧ M = M')) := by
  refine hc_M.of hG (by decide) [some (.ref (hc_ad G 48)), some (.int v1), some (.int v2), some (.int v3), none, none, none, none, none, none] rfl (Nat.le_of_ble_eq_true rfl) ?_
  intro p e s m args below meth c C
  refine hc_aload_n C dX8_odds_0 rfl rfl ?_
  refine hc_cV0i C mv_X8_171 (c_X8_isHouse C.ok) rfl rfl rfl (Nat.le_of_ble_eq_true rfl) (hc_rr_rm (by decide)) ⟨Nat.zero_le _, Nat.zero_le _⟩ dX8_odds_1 (fun r_1 M_1 h_1 => ?_)
  obtain ⟨rfl, rfl⟩ := h_1
  refine hc_if_ne C (tgt := 10) dX8_odds_4 (by decide) (fun c_4 => ?_) (fun c_4 => ?_)
  rotate_left
  · exact absurd h0 (hb_z.mp c_4)
  refine hc_iload_n C dX8_odds_10 rfl rfl ?_
  refine hc_iconst C dX8_odds_11 (v := 0) rfl ?_
  refine hc_bipush C dX8_odds_12 (v := 99) rfl ?_
  refine hc_cS3i C ms_X8_56 (c_X8_in C.ok) (Nat.le_of_ble_eq_true rfl) (hc_rr_rm (by decide)) ⟨Nat.zero_le _, Nat.zero_le _⟩ dX8_odds_14 (fun r_14 M_14 h_14 => ?_)
  obtain ⟨rfl, rfl⟩ := h_14
  refine hc_if_eq C (tgt := 39) dX8_odds_17 (by decide) (fun c_17 => ?_) (fun c_17 => ?_)
  · refine hc_ldc C kc_X8_64 dX8_odds_39 ?_
    refine hc_iret C rfl dX8_odds_41 ?_
    exact ⟨rfl, rfl⟩
  · refine hc_iload_n C dX8_odds_20 rfl rfl ?_
    refine hc_iconst C dX8_odds_21 (v := 0) rfl ?_
    refine hc_bipush C dX8_odds_22 (v := 10) rfl ?_
    refine hc_cS3i C ms_X8_56 (c_X8_in C.ok) (Nat.le_of_ble_eq_true rfl) (hc_rr_rm (by decide)) ⟨Nat.zero_le _, Nat.zero_le _⟩ dX8_odds_24 (fun r_24 M_24 h_24 => ?_)
    obtain ⟨rfl, rfl⟩ := h_24
    refine hc_if_eq C (tgt := 39) dX8_odds_27 (by decide) (fun c_27 => ?_) (fun c_27 => ?_)
    · refine hc_ldc C kc_X8_64 dX8_odds_39 ?_
      refine hc_iret C rfl dX8_odds_41 ?_
      exact ⟨rfl, rfl⟩
    · refine hc_iload_n C dX8_odds_30 rfl rfl ?_
      refine hc_iconst C dX8_odds_31 (v := 0) rfl ?_
      refine hc_iconst C dX8_odds_32 (v := 1) rfl ?_
      refine hc_cS3i C ms_X8_56 (c_X8_in C.ok) (Nat.le_of_ble_eq_true rfl) (hc_rr_rm (by decide)) ⟨Nat.zero_le _, Nat.zero_le _⟩ dX8_odds_33 (fun r_33 M_33 h_33 => ?_)
      obtain ⟨rfl, rfl⟩ := h_33
      refine hc_if_ne C (tgt := 42) dX8_odds_36 (by decide) (fun c_36 => ?_) (fun c_36 => ?_)
      · exact absurd ⟨hb_nz.mp c_17, hb_nz.mp c_27, hb_nz.mp c_36⟩ h1
      · refine hc_ldc C kc_X8_64 dX8_odds_39 ?_
        refine hc_iret C rfl dX8_odds_41 ?_
        exact ⟨rfl, rfl⟩

set_option maxRecDepth 100000 in
set_option maxHeartbeats 4000000 in
theorem lp_Rodd1 {G : hc_Geo} {p : Program} {l : Launch} {e : Env} {d : Nat} {s : State} {m : MethodId} {args : Array Value} {below : List Frame} {meth : Method} {c : Code} {Q : State → Prop} (C : hc_Cx G hc_lay cX8_odds 10 (some .int) yX8_odds.cls p s m args meth c) {M : hc_Mem} {a1 a2 a3 a8 a9 : Option Value} {ls w5 : Int32} {E : Nat} (hd : 1 < d) (hE : M 54 4 = nI E) (hE6 : E ≤ 6) 
    (kk : hc_W G hc_lay p l e (hc_rm d) s m args below meth c 10 0 0 Q 98 [some (.ref (hc_ad G 48)), a1, a2, a3, some (.int ls), some (.int w5), some (.int (rOw ls E)), some (.int (nI E)), a8, a9] [] M) :
    ∀ (t : Nat) (k : Nat), k + t = E → hc_W G hc_lay p l e (hc_rm d) s m args below meth c 10 0 0 Q 60 [some (.ref (hc_ad G 48)), a1, a2, a3, some (.int ls), some (.int w5), some (.int (rOw ls k)), some (.int (nI k)), a8, a9] [] M := by
  intro t
  induction t with
  | zero =>
    intro k hk
    refine hc_iload C dX8_odds_60 rfl ?_
    refine hc_aload_n C dX8_odds_62 rfl rfl ?_
    refine hc_getR C fl_X8_25 rfl rfl dX8_odds_63 ?_
    refine hc_iconst C dX8_odds_66 (v := 4) rfl ?_
    refine hc_ialdN C (j := 4) rfl rfl (by decide) dX8_odds_67 ?_
    refine hc_icmp_ge C (tgt := 98) dX8_odds_68 (by decide) (fun c_68 => ?_) (fun c_68 => ?_)
    rotate_left
    · exact absurd (by rw [hE]; exact nI_le (show E ≤ k by omega) (by omega)) c_68
    obtain rfl : k = E := by omega
    exact kk
  | succ t ih =>
    intro k hk
    refine hc_iload C dX8_odds_60 rfl ?_
    refine hc_aload_n C dX8_odds_62 rfl rfl ?_
    refine hc_getR C fl_X8_25 rfl rfl dX8_odds_63 ?_
    refine hc_iconst C dX8_odds_66 (v := 4) rfl ?_
    refine hc_ialdN C (j := 4) rfl rfl (by decide) dX8_odds_67 ?_
    refine hc_icmp_ge C (tgt := 98) dX8_odds_68 (by decide) (fun c_68 => ?_) (fun c_68 => ?_)
    · exact absurd (hE ▸ c_68) (nI_ge (show k < E by omega) (by omega))
    refine hc_iload C dX8_odds_71 rfl ?_
    refine hc_iload C dX8_odds_73 rfl ?_
    refine hc_iload C dX8_odds_75 rfl ?_
    refine hc_cS2i C ms_X8_145 (c_X8_has C.ok) (Nat.le_of_ble_eq_true rfl) (hc_rr_rm hd) ⟨Nat.zero_le _, Nat.zero_le _⟩ dX8_odds_77 (fun r_77 M_77 h_77 => ?_)
    obtain ⟨rfl, rfl⟩ := h_77
    refine hc_if_eq C (tgt := 88) dX8_odds_80 (by decide) (fun c_80 => ?_) (fun c_80 => ?_)
    · refine hc_iconst C dX8_odds_88 (v := 1) rfl ?_
      refine hc_imul C dX8_odds_89 ?_
      refine hc_top (v := rOw ls (k + 1)) ?_ ?_
      · rw [rOw]
        first | rw [if_neg (hb_z.mp c_80)] | rw [if_pos (hb_nz.mp c_80)]
      refine hc_istore6 C dX8_odds_90 (by decide) rfl ?_
      refine hc_iinc7 C (v := nI (k + 1)) dX8_odds_92 (by decide) rfl rfl (nI_1 k) ?_
      refine hc_goto C (tgt := 60) dX8_odds_95 (by decide) ?_
      exact ih (k + 1) (by omega)
    · refine hc_bipush C dX8_odds_83 (v := 10) rfl ?_
      refine hc_goto C (tgt := 89) dX8_odds_85 (by decide) ?_
      refine hc_imul C dX8_odds_89 ?_
      refine hc_top (v := rOw ls (k + 1)) ?_ ?_
      · rw [rOw]
        first | rw [if_neg (hb_z.mp c_80)] | rw [if_pos (hb_nz.mp c_80)]
      refine hc_istore6 C dX8_odds_90 (by decide) rfl ?_
      refine hc_iinc7 C (v := nI (k + 1)) dX8_odds_92 (by decide) rfl rfl (nI_1 k) ?_
      refine hc_goto C (tgt := 60) dX8_odds_95 (by decide) ?_
      exact ih (k + 1) (by omega)

set_option maxRecDepth 100000 in
set_option maxHeartbeats 4000000 in
theorem lp_Rodd3 {G : hc_Geo} {p : Program} {l : Launch} {e : Env} {d : Nat} {s : State} {m : MethodId} {args : Array Value} {below : List Frame} {meth : Method} {c : Code} {Q : State → Prop} (C : hc_Cx G hc_lay cX8_odds 10 (some .int) yX8_odds.cls p s m args meth c) {M : hc_Mem} {a1 a3 a5 a6 : Option Value} {ls v2 xx : Int32} {E : Nat} (hd : 1 < d) (hE : M 54 4 = nI E) (hE6 : E ≤ 6) 
    (kk : hc_W G hc_lay p l e (hc_rm d) s m args below meth c 10 0 0 Q 182 [some (.ref (hc_ad G 48)), a1, some (.int v2), a3, some (.int ls), a5, a6, some (.int xx), some (.int (rOp ls xx v2 E)), some (.int (nI E))] [] M) :
    ∀ (t : Nat) (k : Nat), k + t = E → hc_W G hc_lay p l e (hc_rm d) s m args below meth c 10 0 0 Q 128 [some (.ref (hc_ad G 48)), a1, some (.int v2), a3, some (.int ls), a5, a6, some (.int xx), some (.int (rOp ls xx v2 k)), some (.int (nI k))] [] M := by
  intro t
  induction t with
  | zero =>
    intro k hk
    refine hc_iload C dX8_odds_128 rfl ?_
    refine hc_aload_n C dX8_odds_130 rfl rfl ?_
    refine hc_getR C fl_X8_25 rfl rfl dX8_odds_131 ?_
    refine hc_iconst C dX8_odds_134 (v := 4) rfl ?_
    refine hc_ialdN C (j := 4) rfl rfl (by decide) dX8_odds_135 ?_
    refine hc_icmp_ge C (tgt := 182) dX8_odds_136 (by decide) (fun c_136 => ?_) (fun c_136 => ?_)
    rotate_left
    · exact absurd (by rw [hE]; exact nI_le (show E ≤ k by omega) (by omega)) c_136
    obtain rfl : k = E := by omega
    exact kk
  | succ t ih =>
    intro k hk
    refine hc_iload C dX8_odds_128 rfl ?_
    refine hc_aload_n C dX8_odds_130 rfl rfl ?_
    refine hc_getR C fl_X8_25 rfl rfl dX8_odds_131 ?_
    refine hc_iconst C dX8_odds_134 (v := 4) rfl ?_
    refine hc_ialdN C (j := 4) rfl rfl (by decide) dX8_odds_135 ?_
    refine hc_icmp_ge C (tgt := 182) dX8_odds_136 (by decide) (fun c_136 => ?_) (fun c_136 => ?_)
    · exact absurd (hE ▸ c_136) (nI_ge (show k < E by omega) (by omega))
    refine hc_iload C dX8_odds_139 rfl ?_
    refine hc_iload C dX8_odds_141 rfl ?_
    refine hc_iload C dX8_odds_143 rfl ?_
    refine hc_cS2i C ms_X8_145 (c_X8_has C.ok) (Nat.le_of_ble_eq_true rfl) (hc_rr_rm hd) ⟨Nat.zero_le _, Nat.zero_le _⟩ dX8_odds_145 (fun r_145 M_145 h_145 => ?_)
    obtain ⟨rfl, rfl⟩ := h_145
    refine hc_if_ne C (tgt := 155) dX8_odds_148 (by decide) (fun c_148 => ?_) (fun c_148 => ?_)
    · refine hc_iload C dX8_odds_155 rfl ?_
      refine hc_iload C dX8_odds_157 rfl ?_
      refine hc_cS2i C ms_X8_145 (c_X8_has C.ok) (Nat.le_of_ble_eq_true rfl) (hc_rr_rm hd) ⟨Nat.zero_le _, Nat.zero_le _⟩ dX8_odds_159 (fun r_159 M_159 h_159 => ?_)
      obtain ⟨rfl, rfl⟩ := h_159
      refine hc_if_eq C (tgt := 172) dX8_odds_162 (by decide) (fun c_162 => ?_) (fun c_162 => ?_)
      · refine hc_iload_n C dX8_odds_172 rfl rfl ?_
        refine hc_imul C dX8_odds_173 ?_
        refine hc_top (v := rOp ls xx v2 (k + 1)) ?_ ?_
        · rw [rOp]
          first
            | rw [if_neg (hb_z.mp c_148)]
            | rw [if_pos (hb_nz.mp c_148), if_neg (hb_z.mp c_162)]
            | rw [if_pos (hb_nz.mp c_148), if_pos (hb_nz.mp c_162)]
        refine hc_istore8 C dX8_odds_174 (by decide) rfl ?_
        refine hc_iinc9 C (v := nI (k + 1)) dX8_odds_176 (by decide) rfl rfl (nI_1 k) ?_
        refine hc_goto C (tgt := 128) dX8_odds_179 (by decide) ?_
        exact ih (k + 1) (by omega)
      · refine hc_bipush C dX8_odds_165 (v := 10) rfl ?_
        refine hc_iload_n C dX8_odds_167 rfl rfl ?_
        refine hc_isub C dX8_odds_168 ?_
        refine hc_goto C (tgt := 173) dX8_odds_169 (by decide) ?_
        refine hc_imul C dX8_odds_173 ?_
        refine hc_top (v := rOp ls xx v2 (k + 1)) ?_ ?_
        · rw [rOp]
          first
            | rw [if_neg (hb_z.mp c_148)]
            | rw [if_pos (hb_nz.mp c_148), if_neg (hb_z.mp c_162)]
            | rw [if_pos (hb_nz.mp c_148), if_pos (hb_nz.mp c_162)]
        refine hc_istore8 C dX8_odds_174 (by decide) rfl ?_
        refine hc_iinc9 C (v := nI (k + 1)) dX8_odds_176 (by decide) rfl rfl (nI_1 k) ?_
        refine hc_goto C (tgt := 128) dX8_odds_179 (by decide) ?_
        exact ih (k + 1) (by omega)
    · refine hc_iconst C dX8_odds_151 (v := 1) rfl ?_
      refine hc_goto C (tgt := 173) dX8_odds_152 (by decide) ?_
      refine hc_imul C dX8_odds_173 ?_
      refine hc_top (v := rOp ls xx v2 (k + 1)) ?_ ?_
      · rw [rOp]
        first
          | rw [if_neg (hb_z.mp c_148)]
          | rw [if_pos (hb_nz.mp c_148), if_neg (hb_z.mp c_162)]
          | rw [if_pos (hb_nz.mp c_148), if_pos (hb_nz.mp c_162)]
      refine hc_istore8 C dX8_odds_174 (by decide) rfl ?_
      refine hc_iinc9 C (v := nI (k + 1)) dX8_odds_176 (by decide) rfl rfl (nI_1 k) ?_
      refine hc_goto C (tgt := 128) dX8_odds_179 (by decide) ?_
      exact ih (k + 1) (by omega)

set_option maxRecDepth 100000 in
set_option maxHeartbeats 4000000 in
theorem lp_Rodd2 {G : hc_Geo} {p : Program} {l : Launch} {e : Env} {d : Nat} {s : State} {m : MethodId} {args : Array Value} {below : List Frame} {meth : Method} {c : Code} {Q : State → Prop} (C : hc_Cx G hc_lay cX8_odds 10 (some .int) yX8_odds.cls p s m args meth c) {M : hc_Mem} {a3 : Option Value} {ls v1 v2 w6 : Int32} {E S : Nat} (hd : 3 < d) (hE : M 54 4 = nI E) (hE6 : E ≤ 6) (hS : ls = nI S) (hS6 : S < 64) (kk : ∀ v8 v9 : Option Value, hc_W G hc_lay p l e (hc_rm d) s m args below meth c 10 0 0 Q 215 [some (.ref (hc_ad G 48)), some (.int v1), some (.int v2), a3, some (.int ls), some (.int (rOs (M 54) E ls v1 v2 (S + 1))), some (.int w6), some (.int (nI (S + 1))), v8, v9] [] M)  :
    ∀ (t : Nat) (x : Nat) (v8 v9 : Option Value), x + t = S + 1 → hc_W G hc_lay p l e (hc_rm d) s m args below meth c 10 0 0 Q 101 [some (.ref (hc_ad G 48)), some (.int v1), some (.int v2), a3, some (.int ls), some (.int (rOs (M 54) E ls v1 v2 x)), some (.int w6), some (.int (nI x)), v8, v9] [] M := by
  intro t
  induction t with
  | zero =>
    intro x v8 v9 hx
    refine hc_iload C dX8_odds_101 rfl ?_
    refine hc_iload C dX8_odds_103 rfl ?_
    refine hc_icmp_gt C (tgt := 215) dX8_odds_105 (by decide) (fun c_105 => ?_) (fun c_105 => ?_)
    rotate_left
    · exact absurd (by rw [hS]; exact nI_lt (show S < x by omega) (by omega)) c_105
    obtain rfl : x = S + 1 := by omega
    exact kk v8 v9
  | succ t ih =>
    intro x v8 v9 hx
    refine hc_iload C dX8_odds_101 rfl ?_
    refine hc_iload C dX8_odds_103 rfl ?_
    refine hc_icmp_gt C (tgt := 215) dX8_odds_105 (by decide) (fun c_105 => ?_) (fun c_105 => ?_)
    · exact absurd (hS ▸ c_105) (nI_nlt (show x ≤ S by omega) (by omega))
    refine hc_iload C dX8_odds_108 rfl ?_
    refine hc_iload C dX8_odds_110 rfl ?_
    refine hc_iconst C dX8_odds_112 (v := (-1)) rfl ?_
    refine hc_ixor C dX8_odds_113 ?_
    refine hc_iand C dX8_odds_114 ?_
    refine hc_if_ne C (tgt := 122) dX8_odds_115 (by decide) (fun c_115 => ?_) (fun c_115 => ?_)
    · refine hc_iconst C dX8_odds_122 (v := 0) rfl ?_
      refine hc_top (v := rOp ls (nI x) v2 0) ?_ ?_
      · rw [rOp]
        first | rw [if_pos c_115] | rw [if_neg c_115]
      refine hc_istore8 C dX8_odds_123 (by decide) rfl ?_
      refine hc_iconst C dX8_odds_125 (v := 0) rfl ?_
      refine hc_istore9 C dX8_odds_126 (by decide) rfl ?_
      refine lp_Rodd3 C (by omega) hE hE6 ?_ E 0 (by omega)
      refine hc_iload C dX8_odds_182 rfl ?_
      refine hc_aload_n C dX8_odds_184 rfl rfl ?_
      refine hc_getR C fl_X8_25 rfl rfl dX8_odds_185 ?_
      refine hc_iload C dX8_odds_188 rfl ?_
      refine hc_iload C dX8_odds_190 rfl ?_
      refine hc_iand C dX8_odds_192 ?_
      refine hc_cS2i C ms_X8_161 (c_X8_goesBy (k := 54) C.ok rfl hE hE6) (Nat.le_of_ble_eq_true rfl) (hc_rr_rm (by omega)) ⟨Nat.zero_le _, Nat.zero_le _⟩ dX8_odds_193 (fun r_193 M_193 h_193 => ?_)
      obtain ⟨rfl, rfl⟩ := h_193
      refine hc_iload_n C dX8_odds_196 rfl rfl ?_
      refine hc_icmp_lt C (tgt := 205) dX8_odds_197 (by decide) (fun c_197 => ?_) (fun c_197 => ?_)
      · refine hc_iconst C dX8_odds_205 (v := 0) rfl ?_
        refine hc_iadd C dX8_odds_206 ?_
        refine hc_top (v := rOs (M 54) E ls v1 v2 (x + 1)) ?_ ?_
        · rw [rOs]
          first | rw [if_pos c_197] | rw [if_neg c_197]
        refine hc_istore5 C dX8_odds_207 (by decide) rfl ?_
        refine hc_iinc7 C (v := nI (x + 1)) dX8_odds_209 (by decide) rfl rfl (nI_1 x) ?_
        refine hc_goto C (tgt := 101) dX8_odds_212 (by decide) ?_
        exact ih (x + 1) _ _ (by omega)
      · refine hc_iload C dX8_odds_200 rfl ?_
        refine hc_goto C (tgt := 206) dX8_odds_202 (by decide) ?_
        refine hc_iadd C dX8_odds_206 ?_
        refine hc_top (v := rOs (M 54) E ls v1 v2 (x + 1)) ?_ ?_
        · rw [rOs]
          first | rw [if_pos c_197] | rw [if_neg c_197]
        refine hc_istore5 C dX8_odds_207 (by decide) rfl ?_
        refine hc_iinc7 C (v := nI (x + 1)) dX8_odds_209 (by decide) rfl rfl (nI_1 x) ?_
        refine hc_goto C (tgt := 101) dX8_odds_212 (by decide) ?_
        exact ih (x + 1) _ _ (by omega)
    · refine hc_iconst C dX8_odds_118 (v := 1) rfl ?_
      refine hc_goto C (tgt := 123) dX8_odds_119 (by decide) ?_
      refine hc_top (v := rOp ls (nI x) v2 0) ?_ ?_
      · rw [rOp]
        first | rw [if_pos c_115] | rw [if_neg c_115]
      refine hc_istore8 C dX8_odds_123 (by decide) rfl ?_
      refine hc_iconst C dX8_odds_125 (v := 0) rfl ?_
      refine hc_istore9 C dX8_odds_126 (by decide) rfl ?_
      refine lp_Rodd3 C (by omega) hE hE6 ?_ E 0 (by omega)
      refine hc_iload C dX8_odds_182 rfl ?_
      refine hc_aload_n C dX8_odds_184 rfl rfl ?_
      refine hc_getR C fl_X8_25 rfl rfl dX8_odds_185 ?_
      refine hc_iload C dX8_odds_188 rfl ?_
      refine hc_iload C dX8_odds_190 rfl ?_
      refine hc_iand C dX8_odds_192 ?_
      refine hc_cS2i C ms_X8_161 (c_X8_goesBy (k := 54) C.ok rfl hE hE6) (Nat.le_of_ble_eq_true rfl) (hc_rr_rm (by omega)) ⟨Nat.zero_le _, Nat.zero_le _⟩ dX8_odds_193 (fun r_193 M_193 h_193 => ?_)
      obtain ⟨rfl, rfl⟩ := h_193
      refine hc_iload_n C dX8_odds_196 rfl rfl ?_
      refine hc_icmp_lt C (tgt := 205) dX8_odds_197 (by decide) (fun c_197 => ?_) (fun c_197 => ?_)
      · refine hc_iconst C dX8_odds_205 (v := 0) rfl ?_
        refine hc_iadd C dX8_odds_206 ?_
        refine hc_top (v := rOs (M 54) E ls v1 v2 (x + 1)) ?_ ?_
        · rw [rOs]
          first | rw [if_pos c_197] | rw [if_neg c_197]
        refine hc_istore5 C dX8_odds_207 (by decide) rfl ?_
        refine hc_iinc7 C (v := nI (x + 1)) dX8_odds_209 (by decide) rfl rfl (nI_1 x) ?_
        refine hc_goto C (tgt := 101) dX8_odds_212 (by decide) ?_
        exact ih (x + 1) _ _ (by omega)
      · refine hc_iload C dX8_odds_200 rfl ?_
        refine hc_goto C (tgt := 206) dX8_odds_202 (by decide) ?_
        refine hc_iadd C dX8_odds_206 ?_
        refine hc_top (v := rOs (M 54) E ls v1 v2 (x + 1)) ?_ ?_
        · rw [rOs]
          first | rw [if_pos c_197] | rw [if_neg c_197]
        refine hc_istore5 C dX8_odds_207 (by decide) rfl ?_
        refine hc_iinc7 C (v := nI (x + 1)) dX8_odds_209 (by decide) rfl rfl (nI_1 x) ?_
        refine hc_goto C (tgt := 101) dX8_odds_212 (by decide) ?_
        exact ih (x + 1) _ _ (by omega)

set_option maxRecDepth 100000 in
set_option maxHeartbeats 4000000 in
theorem lp_Rodd4 {G : hc_Geo} {p : Program} {l : Launch} {e : Env} {d : Nat} {s : State} {m : MethodId} {args : Array Value} {below : List Frame} {meth : Method} {c : Code} {Q : State → Prop} (C : hc_Cx G hc_lay cX8_odds 10 (some .int) yX8_odds.cls p s m args meth c) {M : hc_Mem} {a1 a2 a3 a4 a5 : Option Value} {r0 w6 : Int32} (kk : ∀ (y : Int32) (v9 : Option Value), hc_W G hc_lay p l e (hc_rm d) s m args below meth c 10 0 0 Q 246 [some (.ref (hc_ad G 48)), a1, a2, a3, a4, a5, some (.int w6), some (.int r0), some (.int y), v9] [] M)  :
    ∀ (t : Nat) (x y : Int32) (v9 : Option Value), rGe t x y → hGcd t x y = r0 → hc_W G hc_lay p l e (hc_rm d) s m args below meth c 10 0 0 Q 223 [some (.ref (hc_ad G 48)), a1, a2, a3, a4, a5, some (.int w6), some (.int x), some (.int y), v9] [] M := by
  intro t
  induction t with
  | zero =>
    intro x y v9 hg hr0
    refine hc_iload C dX8_odds_223 rfl ?_
    refine hc_if_eq C (tgt := 246) dX8_odds_225 (by decide) (fun c_225 => ?_) (fun c_225 => ?_)
    rotate_left
    · exact absurd hg c_225
    obtain rfl : x = r0 := hr0
    exact kk y v9
  | succ t ih =>
    intro x y v9 hg hr0
    refine hc_iload C dX8_odds_223 rfl ?_
    refine hc_if_eq C (tgt := 246) dX8_odds_225 (by decide) (fun c_225 => ?_) (fun c_225 => ?_)
    · rw [hGcd, if_pos c_225] at hr0
      obtain rfl : x = r0 := hr0
      exact kk y v9
    · refine hc_iload C dX8_odds_228 rfl ?_
      refine hc_iload C dX8_odds_230 rfl ?_
      refine hc_irem C dX8_odds_232 c_225 ?_
      refine hc_istore9 C dX8_odds_233 (by decide) rfl ?_
      refine hc_iload C dX8_odds_235 rfl ?_
      refine hc_istore7 C dX8_odds_237 (by decide) rfl ?_
      refine hc_iload C dX8_odds_239 rfl ?_
      refine hc_istore8 C dX8_odds_241 (by decide) rfl ?_
      refine hc_goto C (tgt := 223) dX8_odds_243 (by decide) ?_
      rw [hGcd, if_neg c_225] at hr0
      rcases hg with hg | hg
      · exact absurd hg c_225
      · exact ih _ _ _ hg hr0

set_option maxRecDepth 100000 in
set_option maxHeartbeats 4000000 in
theorem c_X8_odds_o {l : Launch} {G : hc_Geo} (hG : hc_ok G) {M : hc_Mem} {E S : Nat} {v1 v2 v3 : Int32}  (h0 : M 54 0 = 1) (hE : M 54 4 = nI E) (hE6 : E ≤ 6) (h1 : ((¬ v1 < 0 ∧ ¬ 99 < v1) ∧ (¬ v2 < 0 ∧ ¬ 10 < v2) ∧ (¬ v3 < 0 ∧ ¬ 1 < v3))) (hS : rLisM (M 54) E = nI S) (hS6 : S < 64) (hg : rGe 64 (rOs (M 54) E (rLisM (M 54) E) v1 v2 (S + 1)) (rOw (rLisM (M 54) E) E)) (hr : ¬ hGcd 64 (rOs (M 54) E (rLisM (M 54) E) v1 v2 (S + 1)) (rOw (rLisM (M 54) E) E) = 0) : hc_M l G yX8_odds cX8_odds 10 (some .int) 4 [.ref (hc_ad G 48), .int v1, .int v2, .int v3] M (hc_pi (fun z M' => (if v3 = 0 then (rOs (M 54) E (rLisM (M 54) E) v1 v2 (S + 1)) else (rOw (rLisM (M 54) E) E)) / hGcd 64 (rOs (M 54) E (rLisM (M 54) E) v1 v2 (S + 1)) (rOw (rLisM (M 54) E) E) = z ∧ M = M')) := by
  refine hc_M.of hG (by decide) [some (.ref (hc_ad G 48)), some (.int v1), some (.int v2), some (.int v3), none, none, none, none, none, none] rfl (Nat.le_of_ble_eq_true rfl) ?_
  intro p e s m args below meth c C
  refine hc_aload_n C dX8_odds_0 rfl rfl ?_
  refine hc_cV0i C mv_X8_171 (c_X8_isHouse C.ok) rfl rfl rfl (Nat.le_of_ble_eq_true rfl) (hc_rr_rm (by decide)) ⟨Nat.zero_le _, Nat.zero_le _⟩ dX8_odds_1 (fun r_1 M_1 h_1 => ?_)
  obtain ⟨rfl, rfl⟩ := h_1
  refine hc_if_ne C (tgt := 10) dX8_odds_4 (by decide) (fun c_4 => ?_) (fun c_4 => ?_)
  rotate_left
  · exact absurd h0 (hb_z.mp c_4)
  refine hc_iload_n C dX8_odds_10 rfl rfl ?_
  refine hc_iconst C dX8_odds_11 (v := 0) rfl ?_
  refine hc_bipush C dX8_odds_12 (v := 99) rfl ?_
  refine hc_cS3i C ms_X8_56 (c_X8_in C.ok) (Nat.le_of_ble_eq_true rfl) (hc_rr_rm (by decide)) ⟨Nat.zero_le _, Nat.zero_le _⟩ dX8_odds_14 (fun r_14 M_14 h_14 => ?_)
  obtain ⟨rfl, rfl⟩ := h_14
  refine hc_if_eq C (tgt := 39) dX8_odds_17 (by decide) (fun c_17 => ?_) (fun c_17 => ?_)
  · exact absurd h1.1 (hb_z.mp c_17)
  refine hc_iload_n C dX8_odds_20 rfl rfl ?_
  refine hc_iconst C dX8_odds_21 (v := 0) rfl ?_
  refine hc_bipush C dX8_odds_22 (v := 10) rfl ?_
  refine hc_cS3i C ms_X8_56 (c_X8_in C.ok) (Nat.le_of_ble_eq_true rfl) (hc_rr_rm (by decide)) ⟨Nat.zero_le _, Nat.zero_le _⟩ dX8_odds_24 (fun r_24 M_24 h_24 => ?_)
  obtain ⟨rfl, rfl⟩ := h_24
  refine hc_if_eq C (tgt := 39) dX8_odds_27 (by decide) (fun c_27 => ?_) (fun c_27 => ?_)
  · exact absurd h1.2.1 (hb_z.mp c_27)
  refine hc_iload_n C dX8_odds_30 rfl rfl ?_
  refine hc_iconst C dX8_odds_31 (v := 0) rfl ?_
  refine hc_iconst C dX8_odds_32 (v := 1) rfl ?_
  refine hc_cS3i C ms_X8_56 (c_X8_in C.ok) (Nat.le_of_ble_eq_true rfl) (hc_rr_rm (by decide)) ⟨Nat.zero_le _, Nat.zero_le _⟩ dX8_odds_33 (fun r_33 M_33 h_33 => ?_)
  obtain ⟨rfl, rfl⟩ := h_33
  refine hc_if_ne C (tgt := 42) dX8_odds_36 (by decide) (fun c_36 => ?_) (fun c_36 => ?_)
  rotate_left
  · exact absurd h1.2.2 (hb_z.mp c_36)
  refine hc_aload_n C dX8_odds_42 rfl rfl ?_
  refine hc_getR C fl_X8_25 rfl rfl dX8_odds_43 ?_
  refine hc_cS1i C ms_X8_157 (c_X8_listening (k := 54) C.ok rfl hE hE6) (Nat.le_of_ble_eq_true rfl) (hc_rr_rm (by decide)) ⟨Nat.zero_le _, Nat.zero_le _⟩ dX8_odds_46 (fun r_46 M_46 h_46 => ?_)
  obtain ⟨rfl, rfl⟩ := h_46
  refine hc_istore4 C dX8_odds_49 (by decide) rfl ?_
  refine hc_iconst C dX8_odds_51 (v := 0) rfl ?_
  refine hc_istore5 C dX8_odds_52 (by decide) rfl ?_
  refine hc_iconst C dX8_odds_54 (v := 1) rfl ?_
  refine hc_istore6 C dX8_odds_55 (by decide) rfl ?_
  refine hc_iconst C dX8_odds_57 (v := 0) rfl ?_
  refine hc_istore7 C dX8_odds_58 (by decide) rfl ?_
  refine lp_Rodd1 C (by decide) hE hE6 ?_ E 0 (by omega)
  refine hc_iconst C dX8_odds_98 (v := 0) rfl ?_
  refine hc_istore7 C dX8_odds_99 (by decide) rfl ?_
  refine lp_Rodd2 (S := S) C (by decide) hE hE6 hS hS6 (fun v8 v9 => ?_) (S + 1) 0 none none (by omega)
  refine hc_iload C dX8_odds_215 rfl ?_
  refine hc_istore7 C dX8_odds_217 (by decide) rfl ?_
  refine hc_iload C dX8_odds_219 rfl ?_
  refine hc_istore8 C dX8_odds_221 (by decide) rfl ?_
  refine lp_Rodd4 (r0 := hGcd 64 (rOs (M 54) E (rLisM (M 54) E) v1 v2 (S + 1)) (rOw (rLisM (M 54) E) E)) C (fun y v9 => ?_) 64 (rOs (M 54) E (rLisM (M 54) E) v1 v2 (S + 1)) (rOw (rLisM (M 54) E) E) _ hg rfl
  refine hc_iload_n C dX8_odds_246 rfl rfl ?_
  refine hc_if_ne C (tgt := 255) dX8_odds_247 (by decide) (fun c_247 => ?_) (fun c_247 => ?_)
  · refine hc_iload C dX8_odds_255 rfl ?_
    refine hc_iload C dX8_odds_257 rfl ?_
    refine hc_idiv C dX8_odds_259 hr ?_
    refine hc_iret C rfl dX8_odds_260 ?_
    refine ⟨?_, rfl⟩
    first | rw [if_pos c_247] | rw [if_neg c_247]
  · refine hc_iload C dX8_odds_250 rfl ?_
    refine hc_goto C (tgt := 257) dX8_odds_252 (by decide) ?_
    refine hc_iload C dX8_odds_257 rfl ?_
    refine hc_idiv C dX8_odds_259 hr ?_
    refine hc_iret C rfl dX8_odds_260 ?_
    refine ⟨?_, rfl⟩
    first | rw [if_pos c_247] | rw [if_neg c_247]
