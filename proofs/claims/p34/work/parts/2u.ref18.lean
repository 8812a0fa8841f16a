/-! THE REFERENCE'S HOUSE -/
theorem rE7_o {T : Nat → Int32} {n c j : Nat} {r : rPs} {g : Nat → Int32} (h : j < rB7 c ∨ rB7 c + 5 ≤ j) : rE7 T n c r g j = g j := by
  unfold rE7 upd
  rw [if_neg (by omega), if_neg (by omega), if_neg (by omega), if_neg (by omega), if_neg (by omega)]
theorem rD7_o {T : Nat → Int32} {n c j : Nat} {r : rPs} {g : Nat → Int32} (h : j < rB5 c ∨ rB5 c + 5 ≤ j) : rD7 T n c r g j = g j := by
  unfold rD7 upd
  rw [if_neg (by omega), if_neg (by omega), if_neg (by omega), if_neg (by omega), if_neg (by omega)]
theorem rB7_ge (c : Nat) : 6 ≤ rB7 c := by unfold rB7; omega
theorem rB5_ge (c : Nat) : 48 ≤ rB5 c := by unfold rB5; omega
abbrev rCe (r : rPs) : Prop := ¬ 0 ≤ r.2.1 ∧ r.2.2.2.2.1 = 1 ∧ ¬ rKo r.2.2.2.2.2 ≤ 0
abbrev rCd (r : rPs) : Prop := ¬ 0 ≤ r.2.1 ∧ r.2.2.2.2.1 = 1 ∧ r.2.2.2.2.2 = 120
abbrev rHt : Type := Nat × (Nat → Int32) × rPs
def rEs (T : Nat → Int32) (n : Nat) : Nat → Nat → (Nat → Int32) → rPs → rHt
  | 0, c, g, r => (c, g, r)
  | t + 1, c, g, r => if rCe r then rEs T n t (if ¬ 0 ≤ (rE6 T n c r).2.1 then c + 1 else c) (rE8 T n c r g) (rE6 T n c r) else (c, g, r)
def rDs (T : Nat → Int32) (n : Nat) : Nat → Nat → (Nat → Int32) → rPs → rHt
  | 0, c, g, r => (c, g, r)
  | t + 1, c, g, r => if rCd r then rDs T n t (if ¬ 0 ≤ (rD5 T n c r).2.1 then c + 1 else c) (rD8 T n c r g) (rD5 T n c r) else (c, g, r)
theorem rEs_st {T : Nat → Int32} {n c0 t : Nat} {r : rPs} {g : Nat → Int32} (hr : rOk n r) (hn : n ≤ 120) (hc : c0 ≤ 6) (hg : g 4 = nI c0) (ht : 8 ≤ c0 + (t + 1)) :
    (if ¬ 0 ≤ (rE6 T n c0 r).2.1 then c0 + 1 else c0) ≤ 6 ∧ rE8 T n c0 r g 4 = nI (if ¬ 0 ≤ (rE6 T n c0 r).2.1 then c0 + 1 else c0) ∧ (0 ≤ (rE6 T n c0 r).2.1 ∨ 8 ≤ (if ¬ 0 ≤ (rE6 T n c0 r).2.1 then c0 + 1 else c0) + t) := by
  unfold rE8
  by_cases hw : ¬ 0 ≤ (rE6 T n c0 r).2.1
  · have h6 := rE6_w hr hn hw
    have hc6 : c0 < 6 := by
      rcases Nat.lt_or_ge c0 6 with q | q
      · exact q
      · exact absurd (show nI 6 ≤ nI c0 from nI_le q (by omega)) h6
    simp only [if_pos hw]
    refine ⟨by omega, ?_, Or.inr (by omega)⟩
    show rE7 T n c0 r g 4 + 1 = nI (c0 + 1)
    rw [rE7_o (Or.inl (by have := rB7_ge c0; omega)), hg]
    exact nI_1 c0
  · simp only [if_neg hw]
    exact ⟨hc, hg, Or.inl (Decidable.not_not.mp hw)⟩
theorem rDs_st {T : Nat → Int32} {n c0 t : Nat} {r : rPs} {g : Nat → Int32} (hr : rOk n r) (hn : n ≤ 120) (hc : c0 ≤ 4) (hg : g 5 = nI c0) (ht : 6 ≤ c0 + (t + 1)) :
    (if ¬ 0 ≤ (rD5 T n c0 r).2.1 then c0 + 1 else c0) ≤ 4 ∧ rD8 T n c0 r g 5 = nI (if ¬ 0 ≤ (rD5 T n c0 r).2.1 then c0 + 1 else c0) ∧ (0 ≤ (rD5 T n c0 r).2.1 ∨ 6 ≤ (if ¬ 0 ≤ (rD5 T n c0 r).2.1 then c0 + 1 else c0) + t) := by
  unfold rD8
  by_cases hw : ¬ 0 ≤ (rD5 T n c0 r).2.1
  · have h6 := rD5_w hr hn hw
    have hc6 : c0 < 4 := by
      rcases Nat.lt_or_ge c0 4 with q | q
      · exact q
      · exact absurd (show nI 4 ≤ nI c0 from nI_le q (by omega)) h6
    simp only [if_pos hw]
    refine ⟨by omega, ?_, Or.inr (by omega)⟩
    show rD7 T n c0 r g 5 + 1 = nI (c0 + 1)
    rw [rD7_o (Or.inl (by have := rB5_ge c0; omega)), hg]
    exact nI_1 c0
  · simp only [if_neg hw]
    exact ⟨hc, hg, Or.inl (Decidable.not_not.mp hw)⟩
theorem rEs_ok {T : Nat → Int32} {n : Nat} : ∀ (t c : Nat) (g : Nat → Int32) (r : rPs), rOk n r → rOk n (rEs T n t c g r).2.2 := by
  intro t
  induction t with
  | zero => intro c g r h; exact h
  | succ t ih =>
    intro c g r h
    unfold rEs
    by_cases hc : rCe r
    · rw [if_pos hc]
      exact ih _ _ _ (rE6_ok h)
    · rw [if_neg hc]
      exact h
theorem rDs_ok {T : Nat → Int32} {n : Nat} : ∀ (t c : Nat) (g : Nat → Int32) (r : rPs), rOk n r → rOk n (rDs T n t c g r).2.2 := by
  intro t
  induction t with
  | zero => intro c g r h; exact h
  | succ t ih =>
    intro c g r h
    unfold rDs
    by_cases hc : rCd r
    · rw [if_pos hc]
      exact ih _ _ _ (rD5_ok h)
    · rw [if_neg hc]
      exact h
/-- the ears' loop leaves the doings' number as it was -/
theorem rE8_5 {T : Nat → Int32} {n c : Nat} {r : rPs} {g : Nat → Int32} {j : Nat} (h : j < 4 ∨ j = 5 ∨ 46 ≤ j) : rE8 T n c r g j = g j := by
  unfold rE8
  split
  · show (if j = 4 then _ else rE7 T n c r g j) = g j
    rw [if_neg (by omega)]
    exact rE7_o (by have := rB7_ge c; have := rB7_le c; omega)
  · rfl
theorem rEs_5 {T : Nat → Int32} {n : Nat} {j : Nat} (h : j < 4 ∨ j = 5 ∨ 46 ≤ j) : ∀ (t c : Nat) (g : Nat → Int32) (r : rPs), (rEs T n t c g r).2.1 j = g j := by
  intro t
  induction t with
  | zero => intro c g r; rfl
  | succ t ih =>
    intro c g r
    unfold rEs
    by_cases hc : rCe r
    · rw [if_pos hc, ih, rE8_5 h]
    · rw [if_neg hc]
def rFin (T : Nat → Int32) (n : Nat) (r : rPs) : rPs := if ¬ 0 ≤ r.2.1 ∧ ¬ r.2.2.2.2.1 = 0 then (rTk T n 0 1 r).2 else r
/-- before the ears: the draft, the reader -/
def rLaw (T : Nat → Int32) (n : Nat) (r0 : rPs) : rPs := (rTk T n (hb ((rAdv T n r0).2.2.2.2.1 = 1 ∧ (rAdv T n r0).2.2.2.2.2 = 99)) 1 (rAdv T n r0)).2
def rWo (T : Nat → Int32) (n : Nat) (r0 : rPs) : Int32 × rPs := rFg T n 0 12 (rLaw T n r0)
def rWs (T : Nat → Int32) (n : Nat) (r0 : rPs) : rPs := (rTk T n (hb ((rWo T n r0).2.2.2.2.2.1 = 4)) 1 (rWo T n r0).2).2
def rHe (T : Nat → Int32) (n : Nat) (g0 : Nat → Int32) (r0 : rPs) : rHt := rEs T n 8 0 (upd g0 1 (rWo T n r0).1) (rWs T n r0)
def rHd2 (T : Nat → Int32) (n : Nat) (g0 : Nat → Int32) (r0 : rPs) : rHt := rDs T n 6 0 (rHe T n g0 r0).2.1 (rHe T n g0 r0).2.2
def rHr (T : Nat → Int32) (n : Nat) (g0 : Nat → Int32) (r0 : rPs) : rPs := rFin T n (rHd2 T n g0 r0).2.2
def rHg (T : Nat → Int32) (n : Nat) (g0 : Nat → Int32) (r0 : rPs) : Nat → Int32 := (rHd2 T n g0 r0).2.1
theorem rLaw_ok {T : Nat → Int32} {n : Nat} {r0 : rPs} (h : r0.2.2.1 ≤ n) : rOk n (rLaw T n r0) := by
  unfold rLaw
  refine rTk_ok ⟨rAdv_ps h, ?_⟩
  unfold rAdv
  split
  · exact h
  · exact h
theorem rWo_ok {T : Nat → Int32} {n : Nat} {r0 : rPs} (h : r0.2.2.1 ≤ n) : rOk n (rWo T n r0).2 := rFg_ok (rLaw_ok h)
theorem rWs_ok {T : Nat → Int32} {n : Nat} {r0 : rPs} (h : r0.2.2.1 ≤ n) : rOk n (rWs T n r0) := rTk_ok (rWo_ok h)

set_option maxRecDepth 100000 in
set_option maxHeartbeats 4000000 in
theorem lp_RHe {G : hc_Geo} {p : Program} {l : Launch} {e : Env} {d : Nat} {s : State} {m : MethodId} {args : Array Value} {below : List Frame} {meth : Method} {c : Code} {Q : State → Prop} (C : hc_Cx G hc_lay cX8_house 2 (some .int) yX8_house.cls p s m args meth c) {M : hc_Mem} {n : Nat} {b1 : Option Value} {qq : rHt} (hd : 6 < d) (hn : M 48 6 = nI n) (hn1 : n ≤ 120) (kk : hc_W G hc_lay p l e (hc_rm d) s m args below meth c 2 0 0 Q 127 [some (.ref (hc_ad G 48)), b1] [] (mG M qq.2.1 qq.2.2))  :
    ∀ (t : Nat) (c0 : Nat) (g : Nat → Int32) (r : rPs), c0 ≤ 6 → g 4 = nI c0 → rOk n r → (0 ≤ r.2.1 ∨ 8 ≤ c0 + t) → rEs (M 53) n t c0 g r = qq → hc_W G hc_lay p l e (hc_rm d) s m args below meth c 2 0 0 Q 95 [some (.ref (hc_ad G 48)), b1] [] (mG M g r) := by
  intro t
  induction t with
  | zero =>
    intro c0 g r hc hg hr ht hq
    refine hc_aload_n C dX8_house_95 rfl rfl ?_
    refine hc_cV0i C mv_X8_104 (c_X8_isWell C.ok) rfl rfl rfl (Nat.le_of_ble_eq_true rfl) (hc_rr_rm (by omega)) ⟨Nat.zero_le _, Nat.zero_le _⟩ dX8_house_96 (fun r_96 M_96 h_96 => ?_)
    obtain ⟨rfl, rfl⟩ := h_96
    refine hc_if_eq C (tgt := 127) dX8_house_99 (by decide) (fun c_99 => ?_) (fun c_99 => ?_)
    rotate_left
    · exact absurd (ht.resolve_right (by omega)) (show ¬ 0 ≤ r.2.1 from hb_nz.mp c_99)
    obtain rfl : (c0, g, r) = qq := hq
    exact kk
  | succ t ih =>
    intro c0 g r hc hg hr ht hq
    refine hc_aload_n C dX8_house_95 rfl rfl ?_
    refine hc_cV0i C mv_X8_104 (c_X8_isWell C.ok) rfl rfl rfl (Nat.le_of_ble_eq_true rfl) (hc_rr_rm (by omega)) ⟨Nat.zero_le _, Nat.zero_le _⟩ dX8_house_96 (fun r_96 M_96 h_96 => ?_)
    obtain ⟨rfl, rfl⟩ := h_96
    refine hc_if_eq C (tgt := 127) dX8_house_99 (by decide) (fun c_99 => ?_) (fun c_99 => ?_)
    · rw [rEs, if_neg (show ¬ rCe r from ?_)] at hq
      · obtain rfl : (c0, g, r) = qq := hq
        exact kk
      · first
          | (refine fun w => absurd w.1 ?_; exact hb_z.mp c_99)
          | (refine fun w => absurd w.2.1 ?_; exact c_107)
          | (refine fun w => absurd ?_ w.2.2; exact c_117)
    · refine hc_aload_n C dX8_house_102 rfl rfl ?_
      refine hc_getI C fl_X8_98 rfl rfl dX8_house_103 ?_
      refine hc_top (v := r.2.2.2.2.1) rfl ?_
      refine hc_iconst C dX8_house_106 (v := 1) rfl ?_
      refine hc_icmp_ne C (tgt := 127) dX8_house_107 (by decide) (fun c_107 => ?_) (fun c_107 => ?_)
      · rw [rEs, if_neg (show ¬ rCe r from ?_)] at hq
        · obtain rfl : (c0, g, r) = qq := hq
          exact kk
        · first
            | (refine fun w => absurd w.1 ?_; exact hb_z.mp c_99)
            | (refine fun w => absurd w.2.1 ?_; exact c_107)
            | (refine fun w => absurd ?_ w.2.2; exact c_117)
      · refine hc_aload_n C dX8_house_110 rfl rfl ?_
        refine hc_getI C fl_X8_95 rfl rfl dX8_house_111 ?_
        refine hc_top (v := r.2.2.2.2.2) rfl ?_
        refine hc_cS1i C ms_X8_121 (c_X8_kindOf C.ok) (Nat.le_of_ble_eq_true rfl) (hc_rr_rm (by omega)) ⟨Nat.zero_le _, Nat.zero_le _⟩ dX8_house_114 (fun r_114 M_114 h_114 => ?_)
        obtain ⟨rfl, rfl⟩ := h_114
        refine hc_if_le C (tgt := 127) dX8_house_117 (by decide) (fun c_117 => ?_) (fun c_117 => ?_)
        · rw [rEs, if_neg (show ¬ rCe r from ?_)] at hq
          · obtain rfl : (c0, g, r) = qq := hq
            exact kk
          · first
              | (refine fun w => absurd w.1 ?_; exact hb_z.mp c_99)
              | (refine fun w => absurd w.2.1 ?_; exact c_107)
              | (refine fun w => absurd ?_ w.2.2; exact c_117)
        · refine hc_aload_n C dX8_house_120 rfl rfl ?_
          refine hc_cV0v C mv_X8_127 (c_X8_readsEar (M := M) (n := n) (c0 := c0) (r := r) (g := g) C.ok hn hn1 hr.1 hg hc) rfl rfl rfl (Nat.le_of_ble_eq_true rfl) (hc_rr_rm (by omega)) ⟨Nat.zero_le _, Nat.zero_le _⟩ dX8_house_121 (fun M_121 h_121 => ?_)
          obtain rfl := h_121
          refine hc_goto C (tgt := 95) dX8_house_124 (by decide) ?_
          have hcd : rCe r := ⟨hb_nz.mp c_99, c_107, c_117⟩
          rw [rEs, if_pos hcd] at hq
          obtain ⟨k1, k2, k3⟩ := rEs_st (T := M 53) (t := t) hr hn1 hc hg (by rcases ht with q | q; exact absurd q hcd.1; exact q)
          exact ih _ _ _ k1 k2 (rE6_ok hr) k3 hq

set_option maxRecDepth 100000 in
set_option maxHeartbeats 4000000 in
theorem lp_RHd {G : hc_Geo} {p : Program} {l : Launch} {e : Env} {d : Nat} {s : State} {m : MethodId} {args : Array Value} {below : List Frame} {meth : Method} {c : Code} {Q : State → Prop} (C : hc_Cx G hc_lay cX8_house 2 (some .int) yX8_house.cls p s m args meth c) {M : hc_Mem} {n : Nat} {b1 : Option Value} {qq : rHt} (hd : 6 < d) (hn : M 48 6 = nI n) (hn1 : n ≤ 120) (kk : hc_W G hc_lay p l e (hc_rm d) s m args below meth c 2 0 0 Q 158 [some (.ref (hc_ad G 48)), b1] [] (mG M qq.2.1 qq.2.2))  :
    ∀ (t : Nat) (c0 : Nat) (g : Nat → Int32) (r : rPs), c0 ≤ 4 → g 5 = nI c0 → rOk n r → (0 ≤ r.2.1 ∨ 6 ≤ c0 + t) → rDs (M 53) n t c0 g r = qq → hc_W G hc_lay p l e (hc_rm d) s m args below meth c 2 0 0 Q 127 [some (.ref (hc_ad G 48)), b1] [] (mG M g r) := by
  intro t
  induction t with
  | zero =>
    intro c0 g r hc hg hr ht hq
    refine hc_aload_n C dX8_house_127 rfl rfl ?_
    refine hc_cV0i C mv_X8_104 (c_X8_isWell C.ok) rfl rfl rfl (Nat.le_of_ble_eq_true rfl) (hc_rr_rm (by omega)) ⟨Nat.zero_le _, Nat.zero_le _⟩ dX8_house_128 (fun r_128 M_128 h_128 => ?_)
    obtain ⟨rfl, rfl⟩ := h_128
    refine hc_if_eq C (tgt := 158) dX8_house_131 (by decide) (fun c_131 => ?_) (fun c_131 => ?_)
    rotate_left
    · exact absurd (ht.resolve_right (by omega)) (show ¬ 0 ≤ r.2.1 from hb_nz.mp c_131)
    obtain rfl : (c0, g, r) = qq := hq
    exact kk
  | succ t ih =>
    intro c0 g r hc hg hr ht hq
    refine hc_aload_n C dX8_house_127 rfl rfl ?_
    refine hc_cV0i C mv_X8_104 (c_X8_isWell C.ok) rfl rfl rfl (Nat.le_of_ble_eq_true rfl) (hc_rr_rm (by omega)) ⟨Nat.zero_le _, Nat.zero_le _⟩ dX8_house_128 (fun r_128 M_128 h_128 => ?_)
    obtain ⟨rfl, rfl⟩ := h_128
    refine hc_if_eq C (tgt := 158) dX8_house_131 (by decide) (fun c_131 => ?_) (fun c_131 => ?_)
    · rw [rDs, if_neg (show ¬ rCd r from ?_)] at hq
      · obtain rfl : (c0, g, r) = qq := hq
        exact kk
      · first
          | (refine fun w => absurd w.1 ?_; exact hb_z.mp c_131)
          | (refine fun w => absurd w.2.1 ?_; exact c_139)
          | (refine fun w => absurd w.2.2 ?_; exact c_148)
    · refine hc_aload_n C dX8_house_134 rfl rfl ?_
      refine hc_getI C fl_X8_98 rfl rfl dX8_house_135 ?_
      refine hc_top (v := r.2.2.2.2.1) rfl ?_
      refine hc_iconst C dX8_house_138 (v := 1) rfl ?_
      refine hc_icmp_ne C (tgt := 158) dX8_house_139 (by decide) (fun c_139 => ?_) (fun c_139 => ?_)
      · rw [rDs, if_neg (show ¬ rCd r from ?_)] at hq
        · obtain rfl : (c0, g, r) = qq := hq
          exact kk
        · first
            | (refine fun w => absurd w.1 ?_; exact hb_z.mp c_131)
            | (refine fun w => absurd w.2.1 ?_; exact c_139)
            | (refine fun w => absurd w.2.2 ?_; exact c_148)
      · refine hc_aload_n C dX8_house_142 rfl rfl ?_
        refine hc_getI C fl_X8_95 rfl rfl dX8_house_143 ?_
        refine hc_top (v := r.2.2.2.2.2) rfl ?_
        refine hc_bipush C dX8_house_146 (v := 120) rfl ?_
        refine hc_icmp_ne C (tgt := 158) dX8_house_148 (by decide) (fun c_148 => ?_) (fun c_148 => ?_)
        · rw [rDs, if_neg (show ¬ rCd r from ?_)] at hq
          · obtain rfl : (c0, g, r) = qq := hq
            exact kk
          · first
              | (refine fun w => absurd w.1 ?_; exact hb_z.mp c_131)
              | (refine fun w => absurd w.2.1 ?_; exact c_139)
              | (refine fun w => absurd w.2.2 ?_; exact c_148)
        · refine hc_aload_n C dX8_house_151 rfl rfl ?_
          refine hc_cV0v C mv_X8_130 (c_X8_readsDoing (M := M) (n := n) (c0 := c0) (r := r) (g := g) C.ok hn hn1 hr.1 hg hc) rfl rfl rfl (Nat.le_of_ble_eq_true rfl) (hc_rr_rm (by omega)) ⟨Nat.zero_le _, Nat.zero_le _⟩ dX8_house_152 (fun M_152 h_152 => ?_)
          obtain rfl := h_152
          refine hc_goto C (tgt := 127) dX8_house_155 (by decide) ?_
          have hcd : rCd r := ⟨hb_nz.mp c_131, c_139, c_148⟩
          rw [rDs, if_pos hcd] at hq
          obtain ⟨k1, k2, k3⟩ := rDs_st (T := M 53) (t := t) hr hn1 hc hg (by rcases ht with q | q; exact absurd q hcd.1; exact q)
          exact ih _ _ _ k1 k2 (rD5_ok hr) k3 hq

set_option maxRecDepth 100000 in
set_option maxHeartbeats 4000000 in
theorem sg_RHa {G : hc_Geo} {p : Program} {l : Launch} {e : Env} {d : Nat} {s : State} {m : MethodId} {args : Array Value} {below : List Frame} {meth : Method} {c : Code} {Q : State → Prop} (C : hc_Cx G hc_lay cX8_house 2 (some .int) yX8_house.cls p s m args meth c) {M : hc_Mem} {n : Nat} {b1 : Option Value} {r0 : rPs} (hd : 6 < d) (hn : M 48 6 = nI n) (hn1 : n ≤ 120) (z0 : r0.2.2.1 ≤ n) (kk : hc_W G hc_lay p l e (hc_rm d) s m args below meth c 2 0 0 Q 95 [some (.ref (hc_ad G 48)), b1] [] (mG M (upd (fun x => if x < 68 then 0 else M 55 x) 1 (rWo (M 53) n r0).1) (rWs (M 53) n r0)))  : hc_W G hc_lay p l e (hc_rm d) s m args below meth c 2 0 0 Q 58 [some (.ref (hc_ad G 48)), b1] [.int (hb ((rAdv (M 53) n r0).2.2.2.2.1 = 1 ∧ (rAdv (M 53) n r0).2.2.2.2.2 = 99)), .ref (hc_ad G 48)] (mG M (fun x => if x < 68 then 0 else M 55 x) (rAdv (M 53) n r0)) := by
  refine hc_iconst C dX8_house_58 (v := 1) rfl ?_
  refine hc_cV2i C mv_X8_114 (c_X8_takes (M := hc_mf M 55 (fun x => if x < 68 then 0 else M 55 x)) (n := n) (r := rAdv (M 53) n r0) C.ok hn hn1 (rAdv_ps z0)) rfl rfl rfl (Nat.le_of_ble_eq_true rfl) (hc_rr_rm (by omega)) ⟨Nat.zero_le _, Nat.zero_le _⟩ dX8_house_59 (fun r_59 M_59 h_59 => ?_)
  obtain ⟨rfl, rfl⟩ := h_59
  obtain ⟨q1, hq1⟩ : ∃ q, q = rLaw (M 53) n r0 := ⟨_, rfl⟩
  have e1 : (rTk (M 53) n (hb ((rAdv (M 53) n r0).2.2.2.2.1 = 1 ∧ (rAdv (M 53) n r0).2.2.2.2.2 = 99)) 1 (rAdv (M 53) n r0)).2 = q1 := by
    rw [hq1]
    unfold rLaw
    rfl
  have ok1 : rOk n q1 := by
    rw [hq1]
    exact rLaw_ok z0
  refine hc_mem (M2 := mG M (fun x => if x < 68 then 0 else M 55 x) q1) (by rw [← e1]; rfl) ?_
  refine hc_pop C dX8_house_62 rfl ?_
  refine hc_aload_n C dX8_house_63 rfl rfl ?_
  refine hc_getR C fl_X8_28 rfl rfl dX8_house_64 ?_
  refine hc_iconst C dX8_house_67 (v := 1) rfl ?_
  refine hc_aload_n C dX8_house_68 rfl rfl ?_
  refine hc_iconst C dX8_house_69 (v := 0) rfl ?_
  refine hc_bipush C dX8_house_70 (v := 12) rfl ?_
  refine hc_cV2i C mv_X8_118 (c_X8_figure (M := hc_mf M 55 (fun x => if x < 68 then 0 else M 55 x)) (n := n) (r := q1) C.ok hn hn1 ok1.1) rfl rfl rfl (Nat.le_of_ble_eq_true rfl) (hc_rr_rm (by omega)) ⟨Nat.zero_le _, Nat.zero_le _⟩ dX8_house_72 (fun r_72 M_72 h_72 => ?_)
  obtain ⟨rfl, rfl⟩ := h_72
  obtain ⟨q2, hq2⟩ : ∃ q, q = rWo (M 53) n r0 := ⟨_, rfl⟩
  have e2 : rFg (M 53) n 0 12 q1 = q2 := by
    rw [hq2]
    unfold rWo
    rw [← hq1]
  have ok2 : rOk n q2.2 := by
    rw [hq2]
    exact rWo_ok z0
  refine hc_mem (M2 := mG M (fun x => if x < 68 then 0 else M 55 x) q2.2) (by rw [← e2]; rfl) ?_
  refine hc_top (v := q2.1) (by rw [← e2]; rfl) ?_
  refine hc_iastN C (j := 1) rfl rfl (by decide) dX8_house_75 ?_
  refine hc_mem mG_55 ?_
  refine hc_aload_n C dX8_house_76 rfl rfl ?_
  refine hc_aload_n C dX8_house_77 rfl rfl ?_
  refine hc_getI C fl_X8_98 rfl rfl dX8_house_78 ?_
  refine hc_top (v := q2.2.2.2.2.2.1) rfl ?_
  refine hc_iconst C dX8_house_81 (v := 4) rfl ?_
  refine hc_icmp_ne C (tgt := 89) dX8_house_82 (by decide) (fun c_82 => ?_) (fun c_82 => ?_)
  · refine hc_iconst C dX8_house_89 (v := 0) rfl ?_
    refine hc_top (v := hb (q2.2.2.2.2.2.1 = 4)) ?_ ?_
    · symm
      first | exact hb_t c_82 | exact hb_f c_82
    refine hc_iconst C dX8_house_90 (v := 1) rfl ?_
    refine hc_cV2i C mv_X8_114 (c_X8_takes (M := hc_mf M 55 (upd (fun x => if x < 68 then 0 else M 55 x) 1 q2.1)) (n := n) (r := q2.2) C.ok hn hn1 ok2.1) rfl rfl rfl (Nat.le_of_ble_eq_true rfl) (hc_rr_rm (by omega)) ⟨Nat.zero_le _, Nat.zero_le _⟩ dX8_house_91 (fun r_91 M_91 h_91 => ?_)
    obtain ⟨rfl, rfl⟩ := h_91
    obtain ⟨q3, hq3⟩ : ∃ q, q = rWs (M 53) n r0 := ⟨_, rfl⟩
    have e3 : (rTk (M 53) n (hb (q2.2.2.2.2.2.1 = 4)) 1 q2.2).2 = q3 := by
      rw [hq3]
      unfold rWs
      rw [← hq2]
    have ok3 : rOk n q3 := by
      rw [hq3]
      exact rWs_ok z0
    refine hc_mem (M2 := mG M (upd (fun x => if x < 68 then 0 else M 55 x) 1 q2.1) q3) (by rw [← e3]; rfl) ?_
    refine hc_pop C dX8_house_94 rfl ?_
    rw [hq3, hq2]
    exact kk
  · refine hc_iconst C dX8_house_85 (v := 1) rfl ?_
    refine hc_goto C (tgt := 90) dX8_house_86 (by decide) ?_
    refine hc_top (v := hb (q2.2.2.2.2.2.1 = 4)) ?_ ?_
    · symm
      first | exact hb_t c_82 | exact hb_f c_82
    refine hc_iconst C dX8_house_90 (v := 1) rfl ?_
    refine hc_cV2i C mv_X8_114 (c_X8_takes (M := hc_mf M 55 (upd (fun x => if x < 68 then 0 else M 55 x) 1 q2.1)) (n := n) (r := q2.2) C.ok hn hn1 ok2.1) rfl rfl rfl (Nat.le_of_ble_eq_true rfl) (hc_rr_rm (by omega)) ⟨Nat.zero_le _, Nat.zero_le _⟩ dX8_house_91 (fun r_91 M_91 h_91 => ?_)
    obtain ⟨rfl, rfl⟩ := h_91
    obtain ⟨q3, hq3⟩ : ∃ q, q = rWs (M 53) n r0 := ⟨_, rfl⟩
    have e3 : (rTk (M 53) n (hb (q2.2.2.2.2.2.1 = 4)) 1 q2.2).2 = q3 := by
      rw [hq3]
      unfold rWs
      rw [← hq2]
    have ok3 : rOk n q3 := by
      rw [hq3]
      exact rWs_ok z0
    refine hc_mem (M2 := mG M (upd (fun x => if x < 68 then 0 else M 55 x) 1 q2.1) q3) (by rw [← e3]; rfl) ?_
    refine hc_pop C dX8_house_94 rfl ?_
    rw [hq3, hq2]
    exact kk

set_option maxRecDepth 100000 in
set_option maxHeartbeats 4000000 in
theorem sg_RHz {G : hc_Geo} {p : Program} {l : Launch} {e : Env} {d : Nat} {s : State} {m : MethodId} {args : Array Value} {below : List Frame} {meth : Method} {c : Code} {Q : State → Prop} (C : hc_Cx G hc_lay cX8_house 2 (some .int) yX8_house.cls p s m args meth c) {M : hc_Mem} {n : Nat} {b1 : Option Value} {r0 : rPs} (hd : 6 < d) (hn : M 48 6 = nI n) (hn1 : n ≤ 120) (z0 : r0.2.2.1 ≤ n) (kk : hc_W G hc_lay p l e (hc_rm d) s m args below meth c 2 0 0 Q 95 [some (.ref (hc_ad G 48)), b1] [] (mG M (upd (fun x => if x < 68 then 0 else M 55 x) 1 (rWo (M 53) n r0).1) (rWs (M 53) n r0)))  : hc_W G hc_lay p l e (hc_rm d) s m args below meth c 2 0 0 Q 35 [some (.ref (hc_ad G 48)), b1] [] (mG M (fun x => if x < 68 then 0 else M 55 x) (rAdv (M 53) n r0)) := by
  refine hc_aload_n C dX8_house_35 rfl rfl ?_
  refine hc_aload_n C dX8_house_36 rfl rfl ?_
  refine hc_getI C fl_X8_98 rfl rfl dX8_house_37 ?_
  refine hc_top (v := (rAdv (M 53) n r0).2.2.2.2.1) rfl ?_
  refine hc_iconst C dX8_house_40 (v := 1) rfl ?_
  refine hc_icmp_ne C (tgt := 57) dX8_house_41 (by decide) (fun c_41 => ?_) (fun c_41 => ?_)
  · refine hc_iconst C dX8_house_57 (v := 0) rfl ?_
    refine hc_top (v := hb ((rAdv (M 53) n r0).2.2.2.2.1 = 1 ∧ (rAdv (M 53) n r0).2.2.2.2.2 = 99)) ?_ (sg_RHa C hd hn hn1 z0 kk)
    symm
    first
      | (refine hb_f (fun w => absurd w.1 ?_); exact c_41)
      | (refine hb_f (fun w => absurd w.2 ?_); exact c_50)
      | exact hb_t ⟨c_41, c_50⟩
  · refine hc_aload_n C dX8_house_44 rfl rfl ?_
    refine hc_getI C fl_X8_95 rfl rfl dX8_house_45 ?_
    refine hc_top (v := (rAdv (M 53) n r0).2.2.2.2.2) rfl ?_
    refine hc_bipush C dX8_house_48 (v := 99) rfl ?_
    refine hc_icmp_ne C (tgt := 57) dX8_house_50 (by decide) (fun c_50 => ?_) (fun c_50 => ?_)
    · refine hc_iconst C dX8_house_57 (v := 0) rfl ?_
      refine hc_top (v := hb ((rAdv (M 53) n r0).2.2.2.2.1 = 1 ∧ (rAdv (M 53) n r0).2.2.2.2.2 = 99)) ?_ (sg_RHa C hd hn hn1 z0 kk)
      symm
      first
        | (refine hb_f (fun w => absurd w.1 ?_); exact c_41)
        | (refine hb_f (fun w => absurd w.2 ?_); exact c_50)
        | exact hb_t ⟨c_41, c_50⟩
    · refine hc_iconst C dX8_house_53 (v := 1) rfl ?_
      refine hc_goto C (tgt := 58) dX8_house_54 (by decide) ?_
      refine hc_top (v := hb ((rAdv (M 53) n r0).2.2.2.2.1 = 1 ∧ (rAdv (M 53) n r0).2.2.2.2.2 = 99)) ?_ (sg_RHa C hd hn hn1 z0 kk)
      symm
      first
        | (refine hb_f (fun w => absurd w.1 ?_); exact c_41)
        | (refine hb_f (fun w => absurd w.2 ?_); exact c_50)
        | exact hb_t ⟨c_41, c_50⟩

set_option maxRecDepth 100000 in
set_option maxHeartbeats 4000000 in
theorem sg_RHb {G : hc_Geo} {p : Program} {l : Launch} {e : Env} {d : Nat} {s : State} {m : MethodId} {args : Array Value} {below : List Frame} {meth : Method} {c : Code} {Q : State → Prop} (C : hc_Cx G hc_lay cX8_house 2 (some .int) yX8_house.cls p s m args meth c) {M : hc_Mem} {n : Nat} {b1 : Option Value} {g : Nat → Int32} {r : rPs} (hd : 6 < d) (hn : M 48 6 = nI n) (hn1 : n ≤ 120) (hr : rOk n r) (kk : hc_W G hc_lay p l e (hc_rm d) s m args below meth c 2 0 0 Q 179 [some (.ref (hc_ad G 48)), b1] [] (mG M g (rFin (M 53) n r)))  : hc_W G hc_lay p l e (hc_rm d) s m args below meth c 2 0 0 Q 158 [some (.ref (hc_ad G 48)), b1] [] (mG M g r) := by
  refine hc_aload_n C dX8_house_158 rfl rfl ?_
  refine hc_cV0i C mv_X8_104 (c_X8_isWell (M := mG M g r) C.ok) rfl rfl rfl (Nat.le_of_ble_eq_true rfl) (hc_rr_rm (by omega)) ⟨Nat.zero_le _, Nat.zero_le _⟩ dX8_house_159 (fun r_159 M_159 h_159 => ?_)
  obtain ⟨rfl, rfl⟩ := h_159
  refine hc_if_eq C (tgt := 179) dX8_house_162 (by decide) (fun c_162 => ?_) (fun c_162 => ?_)
  · refine hc_mem ?_ kk
    unfold rFin
    first
      | (rw [if_neg (c := ¬ 0 ≤ r.2.1 ∧ ¬ r.2.2.2.2.1 = 0)]; refine fun w => absurd w.1 ?_; exact hb_z.mp c_162)
      | (rw [if_neg (c := ¬ 0 ≤ r.2.1 ∧ ¬ r.2.2.2.2.1 = 0)]; refine fun w => absurd ?_ w.2; exact c_169)
      | (rw [if_pos (show ¬ 0 ≤ r.2.1 ∧ ¬ r.2.2.2.2.1 = 0 from ⟨hb_nz.mp c_162, c_169⟩)]; rfl)
  · refine hc_aload_n C dX8_house_165 rfl rfl ?_
    refine hc_getI C fl_X8_98 rfl rfl dX8_house_166 ?_
    refine hc_top (v := r.2.2.2.2.1) rfl ?_
    refine hc_if_eq C (tgt := 179) dX8_house_169 (by decide) (fun c_169 => ?_) (fun c_169 => ?_)
    · refine hc_mem ?_ kk
      unfold rFin
      first
        | (rw [if_neg (c := ¬ 0 ≤ r.2.1 ∧ ¬ r.2.2.2.2.1 = 0)]; refine fun w => absurd w.1 ?_; exact hb_z.mp c_162)
        | (rw [if_neg (c := ¬ 0 ≤ r.2.1 ∧ ¬ r.2.2.2.2.1 = 0)]; refine fun w => absurd ?_ w.2; exact c_169)
        | (rw [if_pos (show ¬ 0 ≤ r.2.1 ∧ ¬ r.2.2.2.2.1 = 0 from ⟨hb_nz.mp c_162, c_169⟩)]; rfl)
    · refine hc_aload_n C dX8_house_172 rfl rfl ?_
      refine hc_iconst C dX8_house_173 (v := 0) rfl ?_
      refine hc_iconst C dX8_house_174 (v := 1) rfl ?_
      refine hc_cV2i C mv_X8_114 (c_X8_takes (M := hc_mf M 55 g) (n := n) (r := r) C.ok hn hn1 hr.1) rfl rfl rfl (Nat.le_of_ble_eq_true rfl) (hc_rr_rm (by omega)) ⟨Nat.zero_le _, Nat.zero_le _⟩ dX8_house_175 (fun r_175 M_175 h_175 => ?_)
      obtain ⟨rfl, rfl⟩ := h_175
      refine hc_pop C dX8_house_178 rfl ?_
      refine hc_mem ?_ kk
      unfold rFin
      first
        | (rw [if_neg (c := ¬ 0 ≤ r.2.1 ∧ ¬ r.2.2.2.2.1 = 0)]; refine fun w => absurd w.1 ?_; exact hb_z.mp c_162)
        | (rw [if_neg (c := ¬ 0 ≤ r.2.1 ∧ ¬ r.2.2.2.2.1 = 0)]; refine fun w => absurd ?_ w.2; exact c_169)
        | (rw [if_pos (show ¬ 0 ≤ r.2.1 ∧ ¬ r.2.2.2.2.1 = 0 from ⟨hb_nz.mp c_162, c_169⟩)]; rfl)

def rR0 (M : hc_Mem) (s0 : Nat) : rPs := (M 48 7, -1, 0, s0, M 48 11, M 48 12)

/-- what house leaves and answers -/
def rHpost (M : hc_Mem) (gg : Nat → Int32) (rr : rPs) (z : Int32) (M' : hc_Mem) : Prop := (0 ≤ rr.2.1 → -1000100 - rr.2.1 = z ∧ hc_ms (mG M gg rr) 48 6 0 = M') ∧ (¬ 0 ≤ rr.2.1 → (hc_mf (hc_ms (hc_ms (mG M gg rr) 48 6 0) 55 0 1) 54 (va_cpy ((hc_ms (hc_ms (mG M gg rr) 48 6 0) 55 0 1) 55) ((hc_ms (hc_ms (mG M gg rr) 48 6 0) 55 0 1) 54) 0 0 68)) 54 4 = z ∧ hc_ms (hc_mf (hc_ms (hc_ms (mG M gg rr) 48 6 0) 55 0 1) 54 (va_cpy ((hc_ms (hc_ms (mG M gg rr) 48 6 0) 55 0 1) 55) ((hc_ms (hc_ms (mG M gg rr) 48 6 0) 55 0 1) 54) 0 0 68)) 48 16 0 = M')

set_option maxRecDepth 100000 in
set_option maxHeartbeats 4000000 in
theorem c_X8_house {l : Launch} {G : hc_Geo} (hG : hc_ok G) {M : hc_Mem} {n s0 : Nat}  (hn : M 48 6 = nI n) (hn1 : n ≤ 120) (hs0 : M 48 10 = nI s0) : hc_M l G yX8_house cX8_house 2 (some .int) 8 [.ref (hc_ad G 48)] M (hc_pi (fun z M' => rHpost M (rHg (M 53) n (fun x => if x < 68 then 0 else M 55 x) (rR0 M s0)) (rHr (M 53) n (fun x => if x < 68 then 0 else M 55 x) (rR0 M s0)) z M')) := by
  refine hc_M.of hG (by decide) [some (.ref (hc_ad G 48)), none] rfl (Nat.le_of_ble_eq_true rfl) ?_
  intro p e s m args below meth c C
  refine hc_iconst C dX8_house_0 (v := 0) rfl ?_
  refine hc_istore_n1 C dX8_house_1 rfl (by decide) rfl ?_
  refine hc_mem ?_ (lp_R_house0 (M := M) C ?_ 68 0 rfl)
  · funext q
    by_cases hq : q = 55
    · subst hq
      rw [hc_mf_s]
      funext x
      rw [if_neg (by omega)]
    · rw [hc_mf_n hq]
  obtain ⟨a0, ha0⟩ := nI_surj (M 48 9)
  obtain ⟨r0, hr0⟩ : ∃ r, r = rR0 M s0 := ⟨_, rfl⟩
  have z0 : r0.2.2.1 ≤ n := by
    rw [hr0]
    exact Nat.zero_le n
  rw [← hr0]
  refine hc_aload_n C dX8_house_21 rfl rfl ?_
  refine hc_iconst C dX8_house_22 (v := 0) rfl ?_
  refine hc_putI C fl_X8_86 pl_6_9 rfl rfl dX8_house_23 ?_
  refine hc_aload_n C dX8_house_26 rfl rfl ?_
  refine hc_iconst C dX8_house_27 (v := (-1)) rfl ?_
  refine hc_putI C fl_X8_101 pl_6_8 rfl rfl dX8_house_28 ?_
  refine hc_aload_n C dX8_house_31 rfl rfl ?_
  refine hc_mem (M2 := mG M (fun x => if x < 68 then 0 else M 55 x) r0) ?_ ?_
  · rw [hr0]
    show _ = mR (hc_mf M 55 (fun x => if x < 68 then 0 else M 55 x)) (M 48 7, -1, 0, s0, M 48 11, M 48 12)
    have e0 := mR_id (hc_mf M 55 (fun x => if x < 68 then 0 else M 55 x)) (a := a0) (b := s0) ha0 hs0
    have e1 : hc_ms (hc_ms (hc_mf M 55 (fun x => if x < 68 then 0 else M 55 x)) 48 9 0) 48 8 (-1) = hc_ms (hc_ms (mR (hc_mf M 55 (fun x => if x < 68 then 0 else M 55 x)) (M 48 7, M 48 8, a0, s0, M 48 11, M 48 12)) 48 9 (nI 0)) 48 8 (-1) := congrArg (fun X => hc_ms (hc_ms X 48 9 (nI 0)) 48 8 (-1)) e0
    rw [mR_9, mR_8] at e1
    exact e1
  refine hc_cV0v C mv_X8_111 (c_X8_advances (M := hc_mf M 55 (fun x => if x < 68 then 0 else M 55 x)) (n := n) (r := r0) C.ok hn hn1 z0) rfl rfl rfl (Nat.le_of_ble_eq_true rfl) (hc_rr_rm (by decide)) ⟨Nat.zero_le _, Nat.zero_le _⟩ dX8_house_32 (fun M_32 h_32 => ?_)
  obtain rfl := h_32
  refine hc_mem (M2 := mG M (fun x => if x < 68 then 0 else M 55 x) (rAdv (M 53) n r0)) rfl ?_
  refine sg_RHz C (by decide) hn hn1 z0 ?_
  obtain ⟨q2, hq2⟩ : ∃ q, q = rWo (M 53) n r0 := ⟨_, rfl⟩
  obtain ⟨q3, hq3⟩ : ∃ q, q = rWs (M 53) n r0 := ⟨_, rfl⟩
  have ok3 : rOk n q3 := by
    rw [hq3]
    exact rWs_ok z0
  obtain ⟨q4, hq4⟩ : ∃ q, q = rHe (M 53) n (fun x => if x < 68 then 0 else M 55 x) r0 := ⟨_, rfl⟩
  rw [← hq2, ← hq3]
  have e4 : rEs (M 53) n 8 0 (upd (fun x => if x < 68 then 0 else M 55 x) 1 q2.1) q3 = q4 := by
    rw [hq4]
    unfold rHe
    rw [← hq3, ← hq2]
  have ok4 : rOk n q4.2.2 := by
    rw [← e4]
    exact rEs_ok 8 _ _ _ ok3
  have g4 : q4.2.1 5 = nI 0 := by
    rw [← e4, rEs_5 (Or.inr (Or.inl rfl))]
    rfl
  refine lp_RHe (qq := q4) C (by decide) hn hn1 ?_ 8 0 (upd (fun x => if x < 68 then 0 else M 55 x) 1 q2.1) q3 (by decide) rfl ok3 (Or.inr (by decide)) e4
  obtain ⟨q5, hq5⟩ : ∃ q, q = rHd2 (M 53) n (fun x => if x < 68 then 0 else M 55 x) r0 := ⟨_, rfl⟩
  have e5 : rDs (M 53) n 6 0 q4.2.1 q4.2.2 = q5 := by
    rw [hq5]
    unfold rHd2
    rw [← hq4]
  have ok5 : rOk n q5.2.2 := by
    rw [← e5]
    exact rDs_ok 6 _ _ _ ok4
  refine lp_RHd (qq := q5) C (by decide) hn hn1 ?_ 6 0 q4.2.1 q4.2.2 (by decide) g4 ok4 (Or.inr (by decide)) e5
  refine sg_RHb C (by decide) hn hn1 ok5 ?_
  refine hc_mem (M2 := mG M (rHg (M 53) n (fun x => if x < 68 then 0 else M 55 x) r0) (rHr (M 53) n (fun x => if x < 68 then 0 else M 55 x) r0)) ?_ ?_
  · unfold rHg rHr
    rw [← hq5]
  generalize (rHg (M 53) n (fun x => if x < 68 then 0 else M 55 x) r0) = gg
  generalize (rHr (M 53) n (fun x => if x < 68 then 0 else M 55 x) r0) = rr
  refine hc_aload_n C dX8_house_179 rfl rfl ?_
  refine hc_iconst C dX8_house_180 (v := 0) rfl ?_
  refine hc_putI C fl_X8_82 pl_6_6 rfl rfl dX8_house_181 ?_
  refine hc_aload_n C dX8_house_184 rfl rfl ?_
  refine hc_cV0i C mv_X8_104 (c_X8_isWell (M := hc_ms (mG M gg rr) 48 6 0) C.ok) rfl rfl rfl (Nat.le_of_ble_eq_true rfl) (hc_rr_rm (by decide)) ⟨Nat.zero_le _, Nat.zero_le _⟩ dX8_house_185 (fun r_185 M_185 h_185 => ?_)
  obtain ⟨rfl, rfl⟩ := h_185
  refine hc_top (v := hb (¬ 0 ≤ rr.2.1)) rfl ?_
  refine hc_if_ne C (tgt := 199) dX8_house_188 (by decide) (fun c_188 => ?_) (fun c_188 => ?_)
  · refine hc_aload_n C dX8_house_199 rfl rfl ?_
    refine hc_getR C fl_X8_28 rfl rfl dX8_house_200 ?_
    refine hc_iconst C dX8_house_203 (v := 0) rfl ?_
    refine hc_iconst C dX8_house_204 (v := 1) rfl ?_
    refine hc_iastN C (j := 0) rfl rfl (by decide) dX8_house_205 ?_
    refine hc_aload_n C dX8_house_206 rfl rfl ?_
    refine hc_getR C fl_X8_28 rfl rfl dX8_house_207 ?_
    refine hc_iconst C dX8_house_210 (v := 0) rfl ?_
    refine hc_aload_n C dX8_house_211 rfl rfl ?_
    refine hc_getR C fl_X8_25 rfl rfl dX8_house_212 ?_
    refine hc_iconst C dX8_house_215 (v := 0) rfl ?_
    refine hc_cS4v C ms_X8_134 (c_X8_copies C.ok (k0 := 55) (k1 := 54) (n0 := 68) (n1 := 68) (a := 0) (b := 0) rfl rfl (by decide) (by decide) (by decide)) (Nat.le_of_ble_eq_true rfl) (hc_rr_rm (by decide)) ⟨Nat.zero_le _, Nat.zero_le _⟩ dX8_house_216 (fun M_216 h_216 => ?_)
    obtain rfl := h_216
    refine hc_aload_n C dX8_house_219 rfl rfl ?_
    refine hc_iconst C dX8_house_220 (v := 0) rfl ?_
    refine hc_putI C fl_X8_138 pl_6_16 rfl rfl dX8_house_221 ?_
    refine hc_aload_n C dX8_house_224 rfl rfl ?_
    refine hc_getR C fl_X8_25 rfl rfl dX8_house_225 ?_
    refine hc_iconst C dX8_house_228 (v := 4) rfl ?_
    refine hc_ialdN C (j := 4) rfl rfl (by decide) dX8_house_229 ?_
    refine hc_iret C rfl dX8_house_230 ?_
    exact ⟨fun w => absurd w (hb_nz.mp c_188), fun _ => ⟨rfl, rfl⟩⟩
  · refine hc_ldc C kc_X8_133 dX8_house_191 ?_
    refine hc_aload_n C dX8_house_193 rfl rfl ?_
    refine hc_getI C fl_X8_101 rfl rfl dX8_house_194 ?_
    refine hc_top (v := rr.2.1) rfl ?_
    refine hc_isub C dX8_house_197 ?_
    refine hc_iret C rfl dX8_house_198 ?_
    exact ⟨fun _ => ⟨rfl, rfl⟩, fun w => absurd w (hb_z.mp c_188)⟩
