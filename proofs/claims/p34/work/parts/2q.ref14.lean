theorem rDg_le {T : Nat → Int32} {n s0 : Nat} : ∀ (t a : Nat) (v : Int32), a + t = n → (rDg T n s0 t a v).1 ≤ n := by
  intro t
  induction t with
  | zero => intro a v h; show a ≤ n; omega
  | succ t ih =>
    intro a v h
    unfold rDg
    split
    · exact ih (a + 1) _ (by omega)
    · show a ≤ n; omega
theorem rAdv_ps {T : Nat → Int32} {n : Nat} {r : rPs} (h : r.2.2.1 ≤ n) : (rAdv T n r).2.2.1 ≤ n := by
  unfold rAdv
  split
  · exact rDg_le _ _ _ (by omega)
  · show (if rKd (rBt T n r.2.2.1) = 0 then r.2.2.1 else r.2.2.1 + 1) ≤ n
    split
    · exact h
    · rename_i hk
      by_cases h2 : r.2.2.1 < n
      · omega
      · exact absurd (show rKd (rBt T n r.2.2.1) = 0 by rw [show rBt T n r.2.2.1 = -1 from if_neg h2]; decide) hk
def rTk (T : Nat → Int32) (n : Nat) (b k : Int32) (r : rPs) : Int32 × rPs := if ¬ 0 ≤ r.2.1 then (if b = 0 then (0, (k, nI r.2.2.2.1, r.2.2.1, r.2.2.2.1, r.2.2.2.2.1, r.2.2.2.2.2)) else (r.2.2.2.2.2, rAdv T n r)) else (0, r)
theorem rTk_ps {T : Nat → Int32} {n : Nat} {b k : Int32} {r : rPs} (h : r.2.2.1 ≤ n) : (rTk T n b k r).2.2.2.1 ≤ n := by
  unfold rTk
  split
  · split
    · exact h
    · exact rAdv_ps h
  · exact h
def rFg (T : Nat → Int32) (n : Nat) (lo hi : Int32) (r : rPs) : Int32 × rPs := if ¬ 0 ≤ r.2.1 ∧ ¬ r.2.2.2.2.1 = 2 then rTk T n 0 1 r else rTk T n (hb (¬ r.2.2.2.2.2 < lo ∧ ¬ hi < r.2.2.2.2.2)) 2 r
theorem rFg_ps {T : Nat → Int32} {n : Nat} {lo hi : Int32} {r : rPs} (h : r.2.2.1 ≤ n) : (rFg T n lo hi r).2.2.2.1 ≤ n := by
  unfold rFg
  split
  · exact rTk_ps h
  · exact rTk_ps h
def rNx (T : Nat → Int32) (n : Nat) (lo hi : Int32) (r : rPs) : Int32 × rPs := rFg T n lo hi (rTk T n (hb (r.2.2.2.2.1 = 3)) 1 r).2
theorem rNx_ps {T : Nat → Int32} {n : Nat} {lo hi : Int32} {r : rPs} (h : r.2.2.1 ≤ n) : (rNx T n lo hi r).2.2.2.1 ≤ n := rFg_ps (rTk_ps h)

set_option maxRecDepth 100000 in
set_option maxHeartbeats 4000000 in
theorem c_X8_takes {l : Launch} {G : hc_Geo} (hG : hc_ok G) {M : hc_Mem} {n : Nat} {r : rPs} {b k : Int32}  (hn : M 48 6 = nI n) (hn1 : n ≤ 120) (hps : r.2.2.1 ≤ n) : hc_M l G yX8_takes cX8_takes 4 (some .int) 3 [.ref (hc_ad G 48), .int b, .int k] (mR M r) (hc_pi (fun z M' => (rTk (M 53) n b k r).1 = z ∧ mR M (rTk (M 53) n b k r).2 = M')) := by
  refine hc_M.of hG (by decide) [some (.ref (hc_ad G 48)), some (.int b), some (.int k), none] rfl (Nat.le_of_ble_eq_true rfl) ?_
  intro p e s m args below meth c C
  refine hc_aload_n C dX8_takes_0 rfl rfl ?_
  refine hc_cV0i C mv_X8_104 (c_X8_isWell C.ok) rfl rfl rfl (Nat.le_of_ble_eq_true rfl) (hc_rr_rm (by decide)) ⟨Nat.zero_le _, Nat.zero_le _⟩ dX8_takes_1 (fun r_1 M_1 h_1 => ?_)
  obtain ⟨rfl, rfl⟩ := h_1
  refine hc_if_ne C (tgt := 9) dX8_takes_4 (by decide) (fun c_4 => ?_) (fun c_4 => ?_)
  · refine hc_iload_n C dX8_takes_9 rfl rfl ?_
    refine hc_if_ne C (tgt := 28) dX8_takes_10 (by decide) (fun c_10 => ?_) (fun c_10 => ?_)
    · refine hc_aload_n C dX8_takes_28 rfl rfl ?_
      refine hc_getI C fl_X8_95 rfl rfl dX8_takes_29 ?_
      refine hc_top (v := r.2.2.2.2.2) rfl ?_
      refine hc_istore_n3 C dX8_takes_32 rfl (by decide) rfl ?_
      refine hc_aload_n C dX8_takes_33 rfl rfl ?_
      refine hc_cV0v C mv_X8_111 (c_X8_advances C.ok hn hn1 hps) rfl rfl rfl (Nat.le_of_ble_eq_true rfl) (hc_rr_rm (by decide)) ⟨Nat.zero_le _, Nat.zero_le _⟩ dX8_takes_34 (fun M_34 h_34 => ?_)
      obtain rfl := h_34
      refine hc_iload_n C dX8_takes_37 rfl rfl ?_
      refine hc_iret C rfl dX8_takes_38 ?_
      unfold rTk
      first
        | (rw [if_neg (show ¬ ¬ 0 ≤ r.2.1 from hb_z.mp c_4)]; exact ⟨rfl, rfl⟩)
        | (rw [if_pos (show ¬ 0 ≤ r.2.1 from hb_nz.mp c_4), if_pos c_10]; exact ⟨rfl, rfl⟩)
        | (rw [if_pos (show ¬ 0 ≤ r.2.1 from hb_nz.mp c_4), if_neg c_10]; exact ⟨rfl, rfl⟩)
    · refine hc_aload_n C dX8_takes_13 rfl rfl ?_
      refine hc_aload_n C dX8_takes_14 rfl rfl ?_
      refine hc_getI C fl_X8_89 rfl rfl dX8_takes_15 ?_
      refine hc_top (v := nI r.2.2.2.1) rfl ?_
      refine hc_putI C fl_X8_101 pl_6_8 rfl rfl dX8_takes_18 ?_
      refine hc_mem (mR_8 _) ?_
      refine hc_aload_n C dX8_takes_21 rfl rfl ?_
      refine hc_iload_n C dX8_takes_22 rfl rfl ?_
      refine hc_putI C fl_X8_108 pl_6_7 rfl rfl dX8_takes_23 ?_
      refine hc_mem (mR_7 _) ?_
      refine hc_iconst C dX8_takes_26 (v := 0) rfl ?_
      refine hc_iret C rfl dX8_takes_27 ?_
      unfold rTk
      first
        | (rw [if_neg (show ¬ ¬ 0 ≤ r.2.1 from hb_z.mp c_4)]; exact ⟨rfl, rfl⟩)
        | (rw [if_pos (show ¬ 0 ≤ r.2.1 from hb_nz.mp c_4), if_pos c_10]; exact ⟨rfl, rfl⟩)
        | (rw [if_pos (show ¬ 0 ≤ r.2.1 from hb_nz.mp c_4), if_neg c_10]; exact ⟨rfl, rfl⟩)
  · refine hc_iconst C dX8_takes_7 (v := 0) rfl ?_
    refine hc_iret C rfl dX8_takes_8 ?_
    unfold rTk
    first
      | (rw [if_neg (show ¬ ¬ 0 ≤ r.2.1 from hb_z.mp c_4)]; exact ⟨rfl, rfl⟩)
      | (rw [if_pos (show ¬ 0 ≤ r.2.1 from hb_nz.mp c_4), if_pos c_10]; exact ⟨rfl, rfl⟩)
      | (rw [if_pos (show ¬ 0 ≤ r.2.1 from hb_nz.mp c_4), if_neg c_10]; exact ⟨rfl, rfl⟩)

set_option maxRecDepth 100000 in
set_option maxHeartbeats 4000000 in
theorem c_X8_figure {l : Launch} {G : hc_Geo} (hG : hc_ok G) {M : hc_Mem} {n : Nat} {r : rPs} {lo hi : Int32}  (hn : M 48 6 = nI n) (hn1 : n ≤ 120) (hps : r.2.2.1 ≤ n) : hc_M l G yX8_figure cX8_figure 3 (some .int) 4 [.ref (hc_ad G 48), .int lo, .int hi] (mR M r) (hc_pi (fun z M' => (rFg (M 53) n lo hi r).1 = z ∧ mR M (rFg (M 53) n lo hi r).2 = M')) := by
  refine hc_M.of hG (by decide) [some (.ref (hc_ad G 48)), some (.int lo), some (.int hi)] rfl (Nat.le_of_ble_eq_true rfl) ?_
  intro p e s m args below meth c C
  refine hc_aload_n C dX8_figure_0 rfl rfl ?_
  refine hc_cV0i C mv_X8_104 (c_X8_isWell C.ok) rfl rfl rfl (Nat.le_of_ble_eq_true rfl) (hc_rr_rm (by decide)) ⟨Nat.zero_le _, Nat.zero_le _⟩ dX8_figure_1 (fun r_1 M_1 h_1 => ?_)
  obtain ⟨rfl, rfl⟩ := h_1
  refine hc_if_eq C (tgt := 22) dX8_figure_4 (by decide) (fun c_4 => ?_) (fun c_4 => ?_)
  · refine hc_aload_n C dX8_figure_22 rfl rfl ?_
    refine hc_aload_n C dX8_figure_23 rfl rfl ?_
    refine hc_getI C fl_X8_95 rfl rfl dX8_figure_24 ?_
    refine hc_top (v := r.2.2.2.2.2) rfl ?_
    refine hc_iload_n C dX8_figure_27 rfl rfl ?_
    refine hc_iload_n C dX8_figure_28 rfl rfl ?_
    refine hc_cS3i C ms_X8_56 (c_X8_in C.ok) (Nat.le_of_ble_eq_true rfl) (hc_rr_rm (by decide)) ⟨Nat.zero_le _, Nat.zero_le _⟩ dX8_figure_29 (fun r_29 M_29 h_29 => ?_)
    obtain ⟨rfl, rfl⟩ := h_29
    refine hc_iconst C dX8_figure_32 (v := 2) rfl ?_
    refine hc_cV2i C mv_X8_114 (c_X8_takes C.ok hn hn1 hps) rfl rfl rfl (Nat.le_of_ble_eq_true rfl) (hc_rr_rm (by decide)) ⟨Nat.zero_le _, Nat.zero_le _⟩ dX8_figure_33 (fun r_33 M_33 h_33 => ?_)
    obtain ⟨rfl, rfl⟩ := h_33
    refine hc_iret C rfl dX8_figure_36 ?_
    unfold rFg
    first
      | (rw [if_neg (fun q : ¬ 0 ≤ r.2.1 ∧ ¬ r.2.2.2.2.1 = 2 => (show ¬ ¬ 0 ≤ r.2.1 from hb_z.mp c_4) q.1)]; exact ⟨rfl, rfl⟩)
      | (rw [if_neg (fun q : ¬ 0 ≤ r.2.1 ∧ ¬ r.2.2.2.2.1 = 2 => absurd c_12 q.2)]; exact ⟨rfl, rfl⟩)
      | (rw [if_pos (show ¬ 0 ≤ r.2.1 ∧ ¬ r.2.2.2.2.1 = 2 from ⟨hb_nz.mp c_4, c_12⟩)]; exact ⟨rfl, rfl⟩)
  · refine hc_aload_n C dX8_figure_7 rfl rfl ?_
    refine hc_getI C fl_X8_98 rfl rfl dX8_figure_8 ?_
    refine hc_top (v := r.2.2.2.2.1) rfl ?_
    refine hc_iconst C dX8_figure_11 (v := 2) rfl ?_
    refine hc_icmp_eq C (tgt := 22) dX8_figure_12 (by decide) (fun c_12 => ?_) (fun c_12 => ?_)
    · refine hc_aload_n C dX8_figure_22 rfl rfl ?_
      refine hc_aload_n C dX8_figure_23 rfl rfl ?_
      refine hc_getI C fl_X8_95 rfl rfl dX8_figure_24 ?_
      refine hc_top (v := r.2.2.2.2.2) rfl ?_
      refine hc_iload_n C dX8_figure_27 rfl rfl ?_
      refine hc_iload_n C dX8_figure_28 rfl rfl ?_
      refine hc_cS3i C ms_X8_56 (c_X8_in C.ok) (Nat.le_of_ble_eq_true rfl) (hc_rr_rm (by decide)) ⟨Nat.zero_le _, Nat.zero_le _⟩ dX8_figure_29 (fun r_29 M_29 h_29 => ?_)
      obtain ⟨rfl, rfl⟩ := h_29
      refine hc_iconst C dX8_figure_32 (v := 2) rfl ?_
      refine hc_cV2i C mv_X8_114 (c_X8_takes C.ok hn hn1 hps) rfl rfl rfl (Nat.le_of_ble_eq_true rfl) (hc_rr_rm (by decide)) ⟨Nat.zero_le _, Nat.zero_le _⟩ dX8_figure_33 (fun r_33 M_33 h_33 => ?_)
      obtain ⟨rfl, rfl⟩ := h_33
      refine hc_iret C rfl dX8_figure_36 ?_
      unfold rFg
      first
        | (rw [if_neg (fun q : ¬ 0 ≤ r.2.1 ∧ ¬ r.2.2.2.2.1 = 2 => (show ¬ ¬ 0 ≤ r.2.1 from hb_z.mp c_4) q.1)]; exact ⟨rfl, rfl⟩)
        | (rw [if_neg (fun q : ¬ 0 ≤ r.2.1 ∧ ¬ r.2.2.2.2.1 = 2 => absurd c_12 q.2)]; exact ⟨rfl, rfl⟩)
        | (rw [if_pos (show ¬ 0 ≤ r.2.1 ∧ ¬ r.2.2.2.2.1 = 2 from ⟨hb_nz.mp c_4, c_12⟩)]; exact ⟨rfl, rfl⟩)
    · refine hc_aload_n C dX8_figure_15 rfl rfl ?_
      refine hc_iconst C dX8_figure_16 (v := 0) rfl ?_
      refine hc_iconst C dX8_figure_17 (v := 1) rfl ?_
      refine hc_cV2i C mv_X8_114 (c_X8_takes C.ok hn hn1 hps) rfl rfl rfl (Nat.le_of_ble_eq_true rfl) (hc_rr_rm (by decide)) ⟨Nat.zero_le _, Nat.zero_le _⟩ dX8_figure_18 (fun r_18 M_18 h_18 => ?_)
      obtain ⟨rfl, rfl⟩ := h_18
      refine hc_iret C rfl dX8_figure_21 ?_
      unfold rFg
      first
        | (rw [if_neg (fun q : ¬ 0 ≤ r.2.1 ∧ ¬ r.2.2.2.2.1 = 2 => (show ¬ ¬ 0 ≤ r.2.1 from hb_z.mp c_4) q.1)]; exact ⟨rfl, rfl⟩)
        | (rw [if_neg (fun q : ¬ 0 ≤ r.2.1 ∧ ¬ r.2.2.2.2.1 = 2 => absurd c_12 q.2)]; exact ⟨rfl, rfl⟩)
        | (rw [if_pos (show ¬ 0 ≤ r.2.1 ∧ ¬ r.2.2.2.2.1 = 2 from ⟨hb_nz.mp c_4, c_12⟩)]; exact ⟨rfl, rfl⟩)

set_option maxRecDepth 100000 in
set_option maxHeartbeats 4000000 in
theorem c_X8_next {l : Launch} {G : hc_Geo} (hG : hc_ok G) {M : hc_Mem} {n : Nat} {r : rPs} {lo hi : Int32}  (hn : M 48 6 = nI n) (hn1 : n ≤ 120) (hps : r.2.2.1 ≤ n) : hc_M l G yX8_next cX8_next 3 (some .int) 5 [.ref (hc_ad G 48), .int lo, .int hi] (mR M r) (hc_pi (fun z M' => (rNx (M 53) n lo hi r).1 = z ∧ mR M (rNx (M 53) n lo hi r).2 = M')) := by
  refine hc_M.of hG (by decide) [some (.ref (hc_ad G 48)), some (.int lo), some (.int hi)] rfl (Nat.le_of_ble_eq_true rfl) ?_
  intro p e s m args below meth c C
  refine hc_aload_n C dX8_next_0 rfl rfl ?_
  refine hc_aload_n C dX8_next_1 rfl rfl ?_
  refine hc_getI C fl_X8_98 rfl rfl dX8_next_2 ?_
  refine hc_top (v := r.2.2.2.2.1) rfl ?_
  refine hc_iconst C dX8_next_5 (v := 3) rfl ?_
  refine hc_icmp_ne C (tgt := 13) dX8_next_6 (by decide) (fun c_6 => ?_) (fun c_6 => ?_)
  · refine hc_iconst C dX8_next_13 (v := 0) rfl ?_
    refine hc_top (v := hb (r.2.2.2.2.1 = 3)) ?_ ?_
    · symm
      first | exact hb_t c_6 | exact hb_f c_6
    refine hc_iconst C dX8_next_14 (v := 1) rfl ?_
    refine hc_cV2i C mv_X8_114 (c_X8_takes C.ok hn hn1 hps) rfl rfl rfl (Nat.le_of_ble_eq_true rfl) (hc_rr_rm (by decide)) ⟨Nat.zero_le _, Nat.zero_le _⟩ dX8_next_15 (fun r_15 M_15 h_15 => ?_)
    obtain ⟨rfl, rfl⟩ := h_15
    refine hc_pop C dX8_next_18 rfl ?_
    refine hc_aload_n C dX8_next_19 rfl rfl ?_
    refine hc_iload_n C dX8_next_20 rfl rfl ?_
    refine hc_iload_n C dX8_next_21 rfl rfl ?_
    refine hc_cV2i C mv_X8_118 (c_X8_figure C.ok hn hn1 (rTk_ps hps)) rfl rfl rfl (Nat.le_of_ble_eq_true rfl) (hc_rr_rm (by decide)) ⟨Nat.zero_le _, Nat.zero_le _⟩ dX8_next_22 (fun r_22 M_22 h_22 => ?_)
    obtain ⟨rfl, rfl⟩ := h_22
    refine hc_iret C rfl dX8_next_25 ?_
    exact ⟨rfl, rfl⟩
  · refine hc_iconst C dX8_next_9 (v := 1) rfl ?_
    refine hc_goto C (tgt := 14) dX8_next_10 (by decide) ?_
    refine hc_top (v := hb (r.2.2.2.2.1 = 3)) ?_ ?_
    · symm
      first | exact hb_t c_6 | exact hb_f c_6
    refine hc_iconst C dX8_next_14 (v := 1) rfl ?_
    refine hc_cV2i C mv_X8_114 (c_X8_takes C.ok hn hn1 hps) rfl rfl rfl (Nat.le_of_ble_eq_true rfl) (hc_rr_rm (by decide)) ⟨Nat.zero_le _, Nat.zero_le _⟩ dX8_next_15 (fun r_15 M_15 h_15 => ?_)
    obtain ⟨rfl, rfl⟩ := h_15
    refine hc_pop C dX8_next_18 rfl ?_
    refine hc_aload_n C dX8_next_19 rfl rfl ?_
    refine hc_iload_n C dX8_next_20 rfl rfl ?_
    refine hc_iload_n C dX8_next_21 rfl rfl ?_
    refine hc_cV2i C mv_X8_118 (c_X8_figure C.ok hn hn1 (rTk_ps hps)) rfl rfl rfl (Nat.le_of_ble_eq_true rfl) (hc_rr_rm (by decide)) ⟨Nat.zero_le _, Nat.zero_le _⟩ dX8_next_22 (fun r_22 M_22 h_22 => ?_)
    obtain ⟨rfl, rfl⟩ := h_22
    refine hc_iret C rfl dX8_next_25 ?_
    exact ⟨rfl, rfl⟩
