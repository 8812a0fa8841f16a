/-! the asked bodies -/
def rTr : hc_Mem → Nat → List Int32 → hc_Mem
  | M, _, [] => M
  | M, n, x :: l => rTr (hc_ms (hc_ms M 61 n x) 48 22 (nI (n + 1))) (n + 1) l
theorem rTr_n {q : Nat} (h : q ≠ 61) (h2 : q ≠ 48) : ∀ (l : List Int32) (M : hc_Mem) (n : Nat), rTr M n l q = M q := by
  intro l
  induction l with
  | nil => intro M n; rfl
  | cons x l ih => intro M n; unfold rTr; rw [ih, hc_ms_n h2, hc_ms_n h]
theorem rTr_app : ∀ (l1 l2 : List Int32) (M : hc_Mem) (n : Nat), rTr (rTr M n l1) (n + l1.length) l2 = rTr M n (l1 ++ l2) := by
  intro l1
  induction l1 with
  | nil => intro l2 M n; rfl
  | cons x l ih => intro l2 M n; show rTr (rTr _ (n + 1) l) _ l2 = rTr _ (n + 1) (l ++ l2); rw [← ih]; congr 1; simp only [List.length_cons]; omega
theorem rTr_22 : ∀ (l : List Int32) (M : hc_Mem) (n : Nat), M 48 22 = nI n → rTr M n l 48 22 = nI (n + l.length) := by
  intro l
  induction l with
  | nil => intro M n h; exact h
  | cons x l ih => intro M n h; unfold rTr; rw [ih _ _ hc_ms_v]; congr 1; simp only [List.length_cons]; omega
def rPM (f : Nat → Int32) (e : Nat) : Int32 := if f (6 + 7 * e) = 2 then 2 * (nI e + f (6 + 7 * e + 6)) else if f (6 + 7 * e) = 3 then nI e + f (6 + 7 * e + 6) - 1000 else nI e + f (6 + 7 * e + 6)
def rPMl (k : Int32) : List Int32 := if k = 1 then [21, 20] else if k = 2 then [24, 21, 20] else [22, 21, 20]
def rCS (f : Nat → Int32) (e : Nat) : Int32 := if f (6 + 7 * e) = 5 then 2 * (f (6 + 7 * e + 1) - 100) else f (6 + 7 * e + 1) - 100
def rCSl (k : Int32) : List Int32 := if k = 5 then [14, 13, 10] else [13, 10]
def rPS (f : Nat → Int32) (e : Nat) : Int32 := if f (6 + 7 * e) = 2 then -(f (6 + 7 * e + 1) + rPM f e) else f (6 + 7 * e + 1) + rPM f e
def rPSl (k : Int32) : List Int32 := (if k = 2 then [12, 11, 10] else [11, 10]) ++ rPMl k
theorem rPMl_le (k : Int32) : (rPMl k).length ≤ 3 := by unfold rPMl; repeat' split
                                                        all_goals decide

set_option maxRecDepth 100000 in
set_option maxHeartbeats 4000000 in
theorem c_X8_begins {l : Launch} {G : hc_Geo} (hG : hc_ok G) {M : hc_Mem} {n : Nat} {x : Int32}  (hn : M 48 22 = nI n) (hn6 : n < 16) : hc_M l G yX8_begins cX8_begins 2 none 1 [.ref (hc_ad G 48), .int x] M (hc_pv (fun M' => rTr M n [x] = M')) := by
  refine hc_M.of hG (by decide) [some (.ref (hc_ad G 48)), some (.int x)] rfl (Nat.le_of_ble_eq_true rfl) ?_
  intro p e s m args below meth c C
  refine hc_aload_n C dX8_begins_0 rfl rfl ?_
  refine hc_getI C fl_X8_209 rfl rfl dX8_begins_1 ?_
  refine hc_bipush C dX8_begins_4 (v := 16) rfl ?_
  refine hc_icmp_ge C (tgt := 29) dX8_begins_6 (by decide) (fun c_6 => ?_) (fun c_6 => ?_)
  · exact absurd (show nI 16 ≤ nI n from hn ▸ c_6) (nI_ge hn6 (by decide))
  refine hc_aload_n C dX8_begins_9 rfl rfl ?_
  refine hc_getR C fl_X8_47 rfl rfl dX8_begins_10 ?_
  refine hc_aload_n C dX8_begins_13 rfl rfl ?_
  refine hc_getI C fl_X8_209 rfl rfl dX8_begins_14 ?_
  refine hc_iload_n C dX8_begins_17 rfl rfl ?_
  refine hc_iastN C (j := n) rfl hn (by omega) dX8_begins_18 ?_
  refine hc_aload_n C dX8_begins_19 rfl rfl ?_
  refine hc_dup C dX8_begins_20 rfl ?_
  refine hc_getI C fl_X8_209 rfl rfl dX8_begins_21 ?_
  refine hc_iconst C dX8_begins_24 (v := 1) rfl ?_
  refine hc_iadd C dX8_begins_25 ?_
  refine hc_top (v := nI (n + 1)) (show hc_ms M 61 n x 48 22 + 1 = _ by rw [hc_ms_n (by decide), hn, nI_1]) ?_
  refine hc_putI C fl_X8_209 pl_6_22 rfl rfl dX8_begins_26 ?_
  refine hc_vret C rfl dX8_begins_29 ?_
  rfl

set_option maxRecDepth 100000 in
set_option maxHeartbeats 4000000 in
theorem c_X8_pm_1 {l : Launch} {G : hc_Geo} (hG : hc_ok G) {M : hc_Mem} {n e0 : Nat}  (hn : M 48 22 = nI n) (hn6 : n ≤ 10) (he : e0 < 6) (hk : M 54 (6 + 7 * e0) = 1) : hc_M l G yX8_personMark cX8_personMark 4 (some .int) 2 [.ref (hc_ad G 48), .int (nI e0)] M (hc_pi (fun z M' => rPM (M 54) e0 = z ∧ rTr M n [21, 20] = M')) := by
  refine hc_M.of hG (by decide) [some (.ref (hc_ad G 48)), some (.int (nI e0)), none, none] rfl (Nat.le_of_ble_eq_true rfl) ?_
  intro p e s m args below meth c C
  refine hc_aload_n C dX8_personMark_0 rfl rfl ?_
  refine hc_iload_n C dX8_personMark_1 rfl rfl ?_
  refine hc_cV1i C mv_X8_206 (c_X8_kindIn C.ok he) rfl rfl rfl (Nat.le_of_ble_eq_true rfl) (hc_rr_rm (by decide)) ⟨Nat.zero_le _, Nat.zero_le _⟩ dX8_personMark_2 (fun r_2 M_2 h_2 => ?_)
  obtain ⟨rfl, rfl⟩ := h_2
  refine hc_istore_n2 C dX8_personMark_5 rfl (by decide) rfl ?_
  refine hc_iload_n C dX8_personMark_6 rfl rfl ?_
  refine hc_iconst C dX8_personMark_7 (v := 1) rfl ?_
  refine hc_icmp_eq C (tgt := 27) dX8_personMark_8 (by decide) (fun c_8 => ?_) (fun c_8 => ?_)
  rotate_left
  · exact absurd hk c_8
  refine hc_aload_n C dX8_personMark_27 rfl rfl ?_
  refine hc_bipush C dX8_personMark_28 (v := 21) rfl ?_
  refine hc_cV1v C mv_X8_212 (c_X8_begins (n := n) C.ok hn (by omega)) rfl rfl rfl (Nat.le_of_ble_eq_true rfl) (hc_rr_rm (by decide)) ⟨Nat.zero_le _, Nat.zero_le _⟩ dX8_personMark_30 (fun M_30 h_30 => ?_)
  obtain rfl := h_30
  refine hc_aload_n C dX8_personMark_33 rfl rfl ?_
  refine hc_bipush C dX8_personMark_34 (v := 20) rfl ?_
  refine hc_cV1v C mv_X8_212 (c_X8_begins (n := n + 1) C.ok (rfl) (by omega)) rfl rfl rfl (Nat.le_of_ble_eq_true rfl) (hc_rr_rm (by decide)) ⟨Nat.zero_le _, Nat.zero_le _⟩ dX8_personMark_36 (fun M_36 h_36 => ?_)
  obtain rfl := h_36
  refine hc_iload_n C dX8_personMark_39 rfl rfl ?_
  refine hc_aload_n C dX8_personMark_40 rfl rfl ?_
  refine hc_getR C fl_X8_25 rfl rfl dX8_personMark_41 ?_
  refine hc_bipush C dX8_personMark_44 (v := 6) rfl ?_
  refine hc_bipush C dX8_personMark_46 (v := 7) rfl ?_
  refine hc_iload_n C dX8_personMark_48 rfl rfl ?_
  refine hc_imul C dX8_personMark_49 ?_
  refine hc_iadd C dX8_personMark_50 ?_
  refine hc_bipush C dX8_personMark_51 (v := 6) rfl ?_
  refine hc_iadd C dX8_personMark_53 ?_
  refine hc_ialdN C (j := (6 + 7 * e0 + 6)) rfl (hx_67 e0 6) (by omega) dX8_personMark_54 ?_
  refine hc_iadd C dX8_personMark_55 ?_
  refine hc_istore_n3 C dX8_personMark_56 rfl (by decide) rfl ?_
  refine hc_iload_n C dX8_personMark_57 rfl rfl ?_
  refine hc_iconst C dX8_personMark_58 (v := 2) rfl ?_
  refine hc_icmp_ne C (tgt := 68) dX8_personMark_59 (by decide) (fun c_59 => ?_) (fun c_59 => ?_)
  · refine hc_iload_n C dX8_personMark_68 rfl rfl ?_
    refine hc_iconst C dX8_personMark_69 (v := 3) rfl ?_
    refine hc_icmp_ne C (tgt := 81) dX8_personMark_70 (by decide) (fun c_70 => ?_) (fun c_70 => ?_)
    · refine hc_iload_n C dX8_personMark_81 rfl rfl ?_
      refine hc_iret C rfl dX8_personMark_82 ?_
      refine ⟨?_, rfl⟩
      unfold rPM
      first | exact if_pos c_59 | exact (if_neg c_59).trans (if_pos c_70) | exact (if_neg c_59).trans (if_neg c_70)
    · refine hc_iload_n C dX8_personMark_73 rfl rfl ?_
      refine hc_sipush C dX8_personMark_74 (v := 1000) rfl ?_
      refine hc_isub C dX8_personMark_77 ?_
      refine hc_goto C (tgt := 82) dX8_personMark_78 (by decide) ?_
      refine hc_iret C rfl dX8_personMark_82 ?_
      refine ⟨?_, rfl⟩
      unfold rPM
      first | exact if_pos c_59 | exact (if_neg c_59).trans (if_pos c_70) | exact (if_neg c_59).trans (if_neg c_70)
  · refine hc_iconst C dX8_personMark_62 (v := 2) rfl ?_
    refine hc_iload_n C dX8_personMark_63 rfl rfl ?_
    refine hc_imul C dX8_personMark_64 ?_
    refine hc_goto C (tgt := 82) dX8_personMark_65 (by decide) ?_
    refine hc_iret C rfl dX8_personMark_82 ?_
    refine ⟨?_, rfl⟩
    unfold rPM
    first | exact if_pos c_59 | exact (if_neg c_59).trans (if_pos c_70) | exact (if_neg c_59).trans (if_neg c_70)

set_option maxRecDepth 100000 in
set_option maxHeartbeats 4000000 in
theorem c_X8_pm_2 {l : Launch} {G : hc_Geo} (hG : hc_ok G) {M : hc_Mem} {n e0 : Nat}  (hn : M 48 22 = nI n) (hn6 : n ≤ 10) (he : e0 < 6) (hk : M 54 (6 + 7 * e0) = 2) : hc_M l G yX8_personMark cX8_personMark 4 (some .int) 2 [.ref (hc_ad G 48), .int (nI e0)] M (hc_pi (fun z M' => rPM (M 54) e0 = z ∧ rTr M n [24, 21, 20] = M')) := by
  refine hc_M.of hG (by decide) [some (.ref (hc_ad G 48)), some (.int (nI e0)), none, none] rfl (Nat.le_of_ble_eq_true rfl) ?_
  intro p e s m args below meth c C
  refine hc_aload_n C dX8_personMark_0 rfl rfl ?_
  refine hc_iload_n C dX8_personMark_1 rfl rfl ?_
  refine hc_cV1i C mv_X8_206 (c_X8_kindIn C.ok he) rfl rfl rfl (Nat.le_of_ble_eq_true rfl) (hc_rr_rm (by decide)) ⟨Nat.zero_le _, Nat.zero_le _⟩ dX8_personMark_2 (fun r_2 M_2 h_2 => ?_)
  obtain ⟨rfl, rfl⟩ := h_2
  refine hc_istore_n2 C dX8_personMark_5 rfl (by decide) rfl ?_
  refine hc_iload_n C dX8_personMark_6 rfl rfl ?_
  refine hc_iconst C dX8_personMark_7 (v := 1) rfl ?_
  refine hc_icmp_eq C (tgt := 27) dX8_personMark_8 (by decide) (fun c_8 => ?_) (fun c_8 => ?_)
  · exact absurd (hk.symm.trans c_8) (by decide)
  refine hc_aload_n C dX8_personMark_11 rfl rfl ?_
  refine hc_iload_n C dX8_personMark_12 rfl rfl ?_
  refine hc_iconst C dX8_personMark_13 (v := 2) rfl ?_
  refine hc_icmp_ne C (tgt := 22) dX8_personMark_14 (by decide) (fun c_14 => ?_) (fun c_14 => ?_)
  · exact absurd hk c_14
  refine hc_bipush C dX8_personMark_17 (v := 24) rfl ?_
  refine hc_goto C (tgt := 24) dX8_personMark_19 (by decide) ?_
  refine hc_cV1v C mv_X8_212 (c_X8_begins (n := n) C.ok hn (by omega)) rfl rfl rfl (Nat.le_of_ble_eq_true rfl) (hc_rr_rm (by decide)) ⟨Nat.zero_le _, Nat.zero_le _⟩ dX8_personMark_24 (fun M_24 h_24 => ?_)
  obtain rfl := h_24
  refine hc_aload_n C dX8_personMark_27 rfl rfl ?_
  refine hc_bipush C dX8_personMark_28 (v := 21) rfl ?_
  refine hc_cV1v C mv_X8_212 (c_X8_begins (n := n + 1) C.ok (rfl) (by omega)) rfl rfl rfl (Nat.le_of_ble_eq_true rfl) (hc_rr_rm (by decide)) ⟨Nat.zero_le _, Nat.zero_le _⟩ dX8_personMark_30 (fun M_30 h_30 => ?_)
  obtain rfl := h_30
  refine hc_aload_n C dX8_personMark_33 rfl rfl ?_
  refine hc_bipush C dX8_personMark_34 (v := 20) rfl ?_
  refine hc_cV1v C mv_X8_212 (c_X8_begins (n := n + 2) C.ok (rfl) (by omega)) rfl rfl rfl (Nat.le_of_ble_eq_true rfl) (hc_rr_rm (by decide)) ⟨Nat.zero_le _, Nat.zero_le _⟩ dX8_personMark_36 (fun M_36 h_36 => ?_)
  obtain rfl := h_36
  refine hc_iload_n C dX8_personMark_39 rfl rfl ?_
  refine hc_aload_n C dX8_personMark_40 rfl rfl ?_
  refine hc_getR C fl_X8_25 rfl rfl dX8_personMark_41 ?_
  refine hc_bipush C dX8_personMark_44 (v := 6) rfl ?_
  refine hc_bipush C dX8_personMark_46 (v := 7) rfl ?_
  refine hc_iload_n C dX8_personMark_48 rfl rfl ?_
  refine hc_imul C dX8_personMark_49 ?_
  refine hc_iadd C dX8_personMark_50 ?_
  refine hc_bipush C dX8_personMark_51 (v := 6) rfl ?_
  refine hc_iadd C dX8_personMark_53 ?_
  refine hc_ialdN C (j := (6 + 7 * e0 + 6)) rfl (hx_67 e0 6) (by omega) dX8_personMark_54 ?_
  refine hc_iadd C dX8_personMark_55 ?_
  refine hc_istore_n3 C dX8_personMark_56 rfl (by decide) rfl ?_
  refine hc_iload_n C dX8_personMark_57 rfl rfl ?_
  refine hc_iconst C dX8_personMark_58 (v := 2) rfl ?_
  refine hc_icmp_ne C (tgt := 68) dX8_personMark_59 (by decide) (fun c_59 => ?_) (fun c_59 => ?_)
  · refine hc_iload_n C dX8_personMark_68 rfl rfl ?_
    refine hc_iconst C dX8_personMark_69 (v := 3) rfl ?_
    refine hc_icmp_ne C (tgt := 81) dX8_personMark_70 (by decide) (fun c_70 => ?_) (fun c_70 => ?_)
    · refine hc_iload_n C dX8_personMark_81 rfl rfl ?_
      refine hc_iret C rfl dX8_personMark_82 ?_
      refine ⟨?_, rfl⟩
      unfold rPM
      first | exact if_pos c_59 | exact (if_neg c_59).trans (if_pos c_70) | exact (if_neg c_59).trans (if_neg c_70)
    · refine hc_iload_n C dX8_personMark_73 rfl rfl ?_
      refine hc_sipush C dX8_personMark_74 (v := 1000) rfl ?_
      refine hc_isub C dX8_personMark_77 ?_
      refine hc_goto C (tgt := 82) dX8_personMark_78 (by decide) ?_
      refine hc_iret C rfl dX8_personMark_82 ?_
      refine ⟨?_, rfl⟩
      unfold rPM
      first | exact if_pos c_59 | exact (if_neg c_59).trans (if_pos c_70) | exact (if_neg c_59).trans (if_neg c_70)
  · refine hc_iconst C dX8_personMark_62 (v := 2) rfl ?_
    refine hc_iload_n C dX8_personMark_63 rfl rfl ?_
    refine hc_imul C dX8_personMark_64 ?_
    refine hc_goto C (tgt := 82) dX8_personMark_65 (by decide) ?_
    refine hc_iret C rfl dX8_personMark_82 ?_
    refine ⟨?_, rfl⟩
    unfold rPM
    first | exact if_pos c_59 | exact (if_neg c_59).trans (if_pos c_70) | exact (if_neg c_59).trans (if_neg c_70)

set_option maxRecDepth 100000 in
set_option maxHeartbeats 4000000 in
theorem c_X8_pm_3 {l : Launch} {G : hc_Geo} (hG : hc_ok G) {M : hc_Mem} {n e0 : Nat}  (hn : M 48 22 = nI n) (hn6 : n ≤ 10) (he : e0 < 6) (hk1 : ¬ M 54 (6 + 7 * e0) = 1) (hk : ¬ M 54 (6 + 7 * e0) = 2) : hc_M l G yX8_personMark cX8_personMark 4 (some .int) 2 [.ref (hc_ad G 48), .int (nI e0)] M (hc_pi (fun z M' => rPM (M 54) e0 = z ∧ rTr M n [22, 21, 20] = M')) := by
  refine hc_M.of hG (by decide) [some (.ref (hc_ad G 48)), some (.int (nI e0)), none, none] rfl (Nat.le_of_ble_eq_true rfl) ?_
  intro p e s m args below meth c C
  refine hc_aload_n C dX8_personMark_0 rfl rfl ?_
  refine hc_iload_n C dX8_personMark_1 rfl rfl ?_
  refine hc_cV1i C mv_X8_206 (c_X8_kindIn C.ok he) rfl rfl rfl (Nat.le_of_ble_eq_true rfl) (hc_rr_rm (by decide)) ⟨Nat.zero_le _, Nat.zero_le _⟩ dX8_personMark_2 (fun r_2 M_2 h_2 => ?_)
  obtain ⟨rfl, rfl⟩ := h_2
  refine hc_istore_n2 C dX8_personMark_5 rfl (by decide) rfl ?_
  refine hc_iload_n C dX8_personMark_6 rfl rfl ?_
  refine hc_iconst C dX8_personMark_7 (v := 1) rfl ?_
  refine hc_icmp_eq C (tgt := 27) dX8_personMark_8 (by decide) (fun c_8 => ?_) (fun c_8 => ?_)
  · exact absurd c_8 hk1
  refine hc_aload_n C dX8_personMark_11 rfl rfl ?_
  refine hc_iload_n C dX8_personMark_12 rfl rfl ?_
  refine hc_iconst C dX8_personMark_13 (v := 2) rfl ?_
  refine hc_icmp_ne C (tgt := 22) dX8_personMark_14 (by decide) (fun c_14 => ?_) (fun c_14 => ?_)
  rotate_left
  · exact absurd c_14 hk
  refine hc_bipush C dX8_personMark_22 (v := 22) rfl ?_
  refine hc_cV1v C mv_X8_212 (c_X8_begins (n := n) C.ok hn (by omega)) rfl rfl rfl (Nat.le_of_ble_eq_true rfl) (hc_rr_rm (by decide)) ⟨Nat.zero_le _, Nat.zero_le _⟩ dX8_personMark_24 (fun M_24 h_24 => ?_)
  obtain rfl := h_24
  refine hc_aload_n C dX8_personMark_27 rfl rfl ?_
  refine hc_bipush C dX8_personMark_28 (v := 21) rfl ?_
  refine hc_cV1v C mv_X8_212 (c_X8_begins (n := n + 1) C.ok (rfl) (by omega)) rfl rfl rfl (Nat.le_of_ble_eq_true rfl) (hc_rr_rm (by decide)) ⟨Nat.zero_le _, Nat.zero_le _⟩ dX8_personMark_30 (fun M_30 h_30 => ?_)
  obtain rfl := h_30
  refine hc_aload_n C dX8_personMark_33 rfl rfl ?_
  refine hc_bipush C dX8_personMark_34 (v := 20) rfl ?_
  refine hc_cV1v C mv_X8_212 (c_X8_begins (n := n + 2) C.ok (rfl) (by omega)) rfl rfl rfl (Nat.le_of_ble_eq_true rfl) (hc_rr_rm (by decide)) ⟨Nat.zero_le _, Nat.zero_le _⟩ dX8_personMark_36 (fun M_36 h_36 => ?_)
  obtain rfl := h_36
  refine hc_iload_n C dX8_personMark_39 rfl rfl ?_
  refine hc_aload_n C dX8_personMark_40 rfl rfl ?_
  refine hc_getR C fl_X8_25 rfl rfl dX8_personMark_41 ?_
  refine hc_bipush C dX8_personMark_44 (v := 6) rfl ?_
  refine hc_bipush C dX8_personMark_46 (v := 7) rfl ?_
  refine hc_iload_n C dX8_personMark_48 rfl rfl ?_
  refine hc_imul C dX8_personMark_49 ?_
  refine hc_iadd C dX8_personMark_50 ?_
  refine hc_bipush C dX8_personMark_51 (v := 6) rfl ?_
  refine hc_iadd C dX8_personMark_53 ?_
  refine hc_ialdN C (j := (6 + 7 * e0 + 6)) rfl (hx_67 e0 6) (by omega) dX8_personMark_54 ?_
  refine hc_iadd C dX8_personMark_55 ?_
  refine hc_istore_n3 C dX8_personMark_56 rfl (by decide) rfl ?_
  refine hc_iload_n C dX8_personMark_57 rfl rfl ?_
  refine hc_iconst C dX8_personMark_58 (v := 2) rfl ?_
  refine hc_icmp_ne C (tgt := 68) dX8_personMark_59 (by decide) (fun c_59 => ?_) (fun c_59 => ?_)
  · refine hc_iload_n C dX8_personMark_68 rfl rfl ?_
    refine hc_iconst C dX8_personMark_69 (v := 3) rfl ?_
    refine hc_icmp_ne C (tgt := 81) dX8_personMark_70 (by decide) (fun c_70 => ?_) (fun c_70 => ?_)
    · refine hc_iload_n C dX8_personMark_81 rfl rfl ?_
      refine hc_iret C rfl dX8_personMark_82 ?_
      refine ⟨?_, rfl⟩
      unfold rPM
      first | exact if_pos c_59 | exact (if_neg c_59).trans (if_pos c_70) | exact (if_neg c_59).trans (if_neg c_70)
    · refine hc_iload_n C dX8_personMark_73 rfl rfl ?_
      refine hc_sipush C dX8_personMark_74 (v := 1000) rfl ?_
      refine hc_isub C dX8_personMark_77 ?_
      refine hc_goto C (tgt := 82) dX8_personMark_78 (by decide) ?_
      refine hc_iret C rfl dX8_personMark_82 ?_
      refine ⟨?_, rfl⟩
      unfold rPM
      first | exact if_pos c_59 | exact (if_neg c_59).trans (if_pos c_70) | exact (if_neg c_59).trans (if_neg c_70)
  · refine hc_iconst C dX8_personMark_62 (v := 2) rfl ?_
    refine hc_iload_n C dX8_personMark_63 rfl rfl ?_
    refine hc_imul C dX8_personMark_64 ?_
    refine hc_goto C (tgt := 82) dX8_personMark_65 (by decide) ?_
    refine hc_iret C rfl dX8_personMark_82 ?_
    refine ⟨?_, rfl⟩
    unfold rPM
    first | exact if_pos c_59 | exact (if_neg c_59).trans (if_pos c_70) | exact (if_neg c_59).trans (if_neg c_70)

theorem c_X8_personMark {l : Launch} {G : hc_Geo} (hG : hc_ok G) {M : hc_Mem} {n e0 : Nat} (hn : M 48 22 = nI n) (hn6 : n ≤ 10) (he : e0 < 6) : hc_M l G yX8_personMark cX8_personMark 4 (some .int) 2 [.ref (hc_ad G 48), .int (nI e0)] M (hc_pi (fun z M' => rPM (M 54) e0 = z ∧ rTr M n (rPMl (M 54 (6 + 7 * e0))) = M')) := by
  by_cases k1 : M 54 (6 + 7 * e0) = 1
  · rw [show rPMl (M 54 (6 + 7 * e0)) = [21, 20] from if_pos k1]; exact c_X8_pm_1 hG hn hn6 he k1
  · by_cases k2 : M 54 (6 + 7 * e0) = 2
    · rw [show rPMl (M 54 (6 + 7 * e0)) = [24, 21, 20] from (if_neg k1).trans (if_pos k2)]; exact c_X8_pm_2 hG hn hn6 he k2
    · rw [show rPMl (M 54 (6 + 7 * e0)) = [22, 21, 20] from (if_neg k1).trans (if_neg k2)]; exact c_X8_pm_3 hG hn hn6 he k1 k2

set_option maxRecDepth 100000 in
set_option maxHeartbeats 4000000 in
theorem c_X8_cs_5 {l : Launch} {G : hc_Geo} (hG : hc_ok G) {M : hc_Mem} {n e0 : Nat}  (hn : M 48 22 = nI n) (hn6 : n ≤ 10) (he : e0 < 6) (hk : M 54 (6 + 7 * e0) = 5) : hc_M l G yX8_catSize cX8_catSize 4 (some .int) 2 [.ref (hc_ad G 48), .int (nI e0)] M (hc_pi (fun z M' => rCS (M 54) e0 = z ∧ rTr M n [14, 13, 10] = M')) := by
  refine hc_M.of hG (by decide) [some (.ref (hc_ad G 48)), some (.int (nI e0)), none, none] rfl (Nat.le_of_ble_eq_true rfl) ?_
  intro p e s m args below meth c C
  refine hc_aload_n C dX8_catSize_0 rfl rfl ?_
  refine hc_iload_n C dX8_catSize_1 rfl rfl ?_
  refine hc_cV1i C mv_X8_206 (c_X8_kindIn C.ok he) rfl rfl rfl (Nat.le_of_ble_eq_true rfl) (hc_rr_rm (by decide)) ⟨Nat.zero_le _, Nat.zero_le _⟩ dX8_catSize_2 (fun r_2 M_2 h_2 => ?_)
  obtain ⟨rfl, rfl⟩ := h_2
  refine hc_iconst C dX8_catSize_5 (v := 5) rfl ?_
  refine hc_icmp_ne C (tgt := 13) dX8_catSize_6 (by decide) (fun c_6 => ?_) (fun c_6 => ?_)
  · exact absurd hk c_6
  refine hc_iconst C dX8_catSize_9 (v := 1) rfl ?_
  refine hc_goto C (tgt := 14) dX8_catSize_10 (by decide) ?_
  refine hc_istore_n2 C dX8_catSize_14 rfl (by decide) rfl ?_
  refine hc_iload_n C dX8_catSize_15 rfl rfl ?_
  refine hc_if_eq C (tgt := 25) dX8_catSize_16 (by decide) (fun c_16 => ?_) (fun c_16 => ?_)
  · exact absurd c_16 (by decide)
  refine hc_aload_n C dX8_catSize_19 rfl rfl ?_
  refine hc_bipush C dX8_catSize_20 (v := 14) rfl ?_
  refine hc_cV1v C mv_X8_212 (c_X8_begins (n := n) C.ok hn (by omega)) rfl rfl rfl (Nat.le_of_ble_eq_true rfl) (hc_rr_rm (by decide)) ⟨Nat.zero_le _, Nat.zero_le _⟩ dX8_catSize_22 (fun M_22 h_22 => ?_)
  obtain rfl := h_22
  refine hc_aload_n C dX8_catSize_25 rfl rfl ?_
  refine hc_bipush C dX8_catSize_26 (v := 13) rfl ?_
  refine hc_cV1v C mv_X8_212 (c_X8_begins (n := n + 1) C.ok (rfl) (by omega)) rfl rfl rfl (Nat.le_of_ble_eq_true rfl) (hc_rr_rm (by decide)) ⟨Nat.zero_le _, Nat.zero_le _⟩ dX8_catSize_28 (fun M_28 h_28 => ?_)
  obtain rfl := h_28
  refine hc_aload_n C dX8_catSize_31 rfl rfl ?_
  refine hc_bipush C dX8_catSize_32 (v := 10) rfl ?_
  refine hc_cV1v C mv_X8_212 (c_X8_begins (n := n + 2) C.ok (rfl) (by omega)) rfl rfl rfl (Nat.le_of_ble_eq_true rfl) (hc_rr_rm (by decide)) ⟨Nat.zero_le _, Nat.zero_le _⟩ dX8_catSize_34 (fun M_34 h_34 => ?_)
  obtain rfl := h_34
  refine hc_aload_n C dX8_catSize_37 rfl rfl ?_
  refine hc_getR C fl_X8_25 rfl rfl dX8_catSize_38 ?_
  refine hc_bipush C dX8_catSize_41 (v := 6) rfl ?_
  refine hc_bipush C dX8_catSize_43 (v := 7) rfl ?_
  refine hc_iload_n C dX8_catSize_45 rfl rfl ?_
  refine hc_imul C dX8_catSize_46 ?_
  refine hc_iadd C dX8_catSize_47 ?_
  refine hc_iconst C dX8_catSize_48 (v := 1) rfl ?_
  refine hc_iadd C dX8_catSize_49 ?_
  refine hc_ialdN C (j := (6 + 7 * e0 + 1)) rfl (hx_67 e0 1) (by omega) dX8_catSize_50 ?_
  refine hc_bipush C dX8_catSize_51 (v := 100) rfl ?_
  refine hc_isub C dX8_catSize_53 ?_
  refine hc_istore_n3 C dX8_catSize_54 rfl (by decide) rfl ?_
  refine hc_iload_n C dX8_catSize_55 rfl rfl ?_
  refine hc_if_eq C (tgt := 65) dX8_catSize_56 (by decide) (fun c_56 => ?_) (fun c_56 => ?_)
  · exact absurd c_56 (by decide)
  refine hc_iconst C dX8_catSize_59 (v := 2) rfl ?_
  refine hc_iload_n C dX8_catSize_60 rfl rfl ?_
  refine hc_imul C dX8_catSize_61 ?_
  refine hc_goto C (tgt := 66) dX8_catSize_62 (by decide) ?_
  refine hc_iret C rfl dX8_catSize_66 ?_
  exact ⟨if_pos hk, rfl⟩

set_option maxRecDepth 100000 in
set_option maxHeartbeats 4000000 in
theorem c_X8_cs_4 {l : Launch} {G : hc_Geo} (hG : hc_ok G) {M : hc_Mem} {n e0 : Nat}  (hn : M 48 22 = nI n) (hn6 : n ≤ 10) (he : e0 < 6) (hk : ¬ M 54 (6 + 7 * e0) = 5) : hc_M l G yX8_catSize cX8_catSize 4 (some .int) 2 [.ref (hc_ad G 48), .int (nI e0)] M (hc_pi (fun z M' => rCS (M 54) e0 = z ∧ rTr M n [13, 10] = M')) := by
  refine hc_M.of hG (by decide) [some (.ref (hc_ad G 48)), some (.int (nI e0)), none, none] rfl (Nat.le_of_ble_eq_true rfl) ?_
  intro p e s m args below meth c C
  refine hc_aload_n C dX8_catSize_0 rfl rfl ?_
  refine hc_iload_n C dX8_catSize_1 rfl rfl ?_
  refine hc_cV1i C mv_X8_206 (c_X8_kindIn C.ok he) rfl rfl rfl (Nat.le_of_ble_eq_true rfl) (hc_rr_rm (by decide)) ⟨Nat.zero_le _, Nat.zero_le _⟩ dX8_catSize_2 (fun r_2 M_2 h_2 => ?_)
  obtain ⟨rfl, rfl⟩ := h_2
  refine hc_iconst C dX8_catSize_5 (v := 5) rfl ?_
  refine hc_icmp_ne C (tgt := 13) dX8_catSize_6 (by decide) (fun c_6 => ?_) (fun c_6 => ?_)
  rotate_left
  · exact absurd c_6 hk
  refine hc_iconst C dX8_catSize_13 (v := 0) rfl ?_
  refine hc_istore_n2 C dX8_catSize_14 rfl (by decide) rfl ?_
  refine hc_iload_n C dX8_catSize_15 rfl rfl ?_
  refine hc_if_eq C (tgt := 25) dX8_catSize_16 (by decide) (fun c_16 => ?_) (fun c_16 => ?_)
  rotate_left
  · exact absurd c_16 (by decide)
  refine hc_aload_n C dX8_catSize_25 rfl rfl ?_
  refine hc_bipush C dX8_catSize_26 (v := 13) rfl ?_
  refine hc_cV1v C mv_X8_212 (c_X8_begins (n := n) C.ok hn (by omega)) rfl rfl rfl (Nat.le_of_ble_eq_true rfl) (hc_rr_rm (by decide)) ⟨Nat.zero_le _, Nat.zero_le _⟩ dX8_catSize_28 (fun M_28 h_28 => ?_)
  obtain rfl := h_28
  refine hc_aload_n C dX8_catSize_31 rfl rfl ?_
  refine hc_bipush C dX8_catSize_32 (v := 10) rfl ?_
  refine hc_cV1v C mv_X8_212 (c_X8_begins (n := n + 1) C.ok (rfl) (by omega)) rfl rfl rfl (Nat.le_of_ble_eq_true rfl) (hc_rr_rm (by decide)) ⟨Nat.zero_le _, Nat.zero_le _⟩ dX8_catSize_34 (fun M_34 h_34 => ?_)
  obtain rfl := h_34
  refine hc_aload_n C dX8_catSize_37 rfl rfl ?_
  refine hc_getR C fl_X8_25 rfl rfl dX8_catSize_38 ?_
  refine hc_bipush C dX8_catSize_41 (v := 6) rfl ?_
  refine hc_bipush C dX8_catSize_43 (v := 7) rfl ?_
  refine hc_iload_n C dX8_catSize_45 rfl rfl ?_
  refine hc_imul C dX8_catSize_46 ?_
  refine hc_iadd C dX8_catSize_47 ?_
  refine hc_iconst C dX8_catSize_48 (v := 1) rfl ?_
  refine hc_iadd C dX8_catSize_49 ?_
  refine hc_ialdN C (j := (6 + 7 * e0 + 1)) rfl (hx_67 e0 1) (by omega) dX8_catSize_50 ?_
  refine hc_bipush C dX8_catSize_51 (v := 100) rfl ?_
  refine hc_isub C dX8_catSize_53 ?_
  refine hc_istore_n3 C dX8_catSize_54 rfl (by decide) rfl ?_
  refine hc_iload_n C dX8_catSize_55 rfl rfl ?_
  refine hc_if_eq C (tgt := 65) dX8_catSize_56 (by decide) (fun c_56 => ?_) (fun c_56 => ?_)
  rotate_left
  · exact absurd c_56 (by decide)
  refine hc_iload_n C dX8_catSize_65 rfl rfl ?_
  refine hc_iret C rfl dX8_catSize_66 ?_
  exact ⟨if_neg hk, rfl⟩

theorem c_X8_catSize {l : Launch} {G : hc_Geo} (hG : hc_ok G) {M : hc_Mem} {n e0 : Nat} (hn : M 48 22 = nI n) (hn6 : n ≤ 10) (he : e0 < 6) : hc_M l G yX8_catSize cX8_catSize 4 (some .int) 2 [.ref (hc_ad G 48), .int (nI e0)] M (hc_pi (fun z M' => rCS (M 54) e0 = z ∧ rTr M n (rCSl (M 54 (6 + 7 * e0))) = M')) := by
  by_cases k1 : M 54 (6 + 7 * e0) = 5
  · rw [show rCSl (M 54 (6 + 7 * e0)) = [14, 13, 10] from if_pos k1]; exact c_X8_cs_5 hG hn hn6 he k1
  · rw [show rCSl (M 54 (6 + 7 * e0)) = [13, 10] from if_neg k1]; exact c_X8_cs_4 hG hn hn6 he k1

set_option maxRecDepth 100000 in
set_option maxHeartbeats 4000000 in
theorem c_X8_ps_2 {l : Launch} {G : hc_Geo} (hG : hc_ok G) {M : hc_Mem} {n e0 : Nat}  (hn : M 48 22 = nI n) (hn6 : n ≤ 6) (he : e0 < 6) (hk : M 54 (6 + 7 * e0) = 2) : hc_M l G yX8_personSize cX8_personSize 4 (some .int) 3 [.ref (hc_ad G 48), .int (nI e0)] M (hc_pi (fun z M' => rPS (M 54) e0 = z ∧ rTr M n ([12, 11, 10] ++ rPMl (M 54 (6 + 7 * e0))) = M')) := by
  refine hc_M.of hG (by decide) [some (.ref (hc_ad G 48)), some (.int (nI e0)), none, none] rfl (Nat.le_of_ble_eq_true rfl) ?_
  intro p e s m args below meth c C
  refine hc_aload_n C dX8_personSize_0 rfl rfl ?_
  refine hc_iload_n C dX8_personSize_1 rfl rfl ?_
  refine hc_cV1i C mv_X8_206 (c_X8_kindIn C.ok he) rfl rfl rfl (Nat.le_of_ble_eq_true rfl) (hc_rr_rm (by decide)) ⟨Nat.zero_le _, Nat.zero_le _⟩ dX8_personSize_2 (fun r_2 M_2 h_2 => ?_)
  obtain ⟨rfl, rfl⟩ := h_2
  refine hc_iconst C dX8_personSize_5 (v := 2) rfl ?_
  refine hc_icmp_ne C (tgt := 13) dX8_personSize_6 (by decide) (fun c_6 => ?_) (fun c_6 => ?_)
  · exact absurd hk c_6
  refine hc_iconst C dX8_personSize_9 (v := 1) rfl ?_
  refine hc_goto C (tgt := 14) dX8_personSize_10 (by decide) ?_
  refine hc_istore_n2 C dX8_personSize_14 rfl (by decide) rfl ?_
  refine hc_iload_n C dX8_personSize_15 rfl rfl ?_
  refine hc_if_eq C (tgt := 25) dX8_personSize_16 (by decide) (fun c_16 => ?_) (fun c_16 => ?_)
  · exact absurd c_16 (by decide)
  refine hc_aload_n C dX8_personSize_19 rfl rfl ?_
  refine hc_bipush C dX8_personSize_20 (v := 12) rfl ?_
  refine hc_cV1v C mv_X8_212 (c_X8_begins (n := n) C.ok hn (by omega)) rfl rfl rfl (Nat.le_of_ble_eq_true rfl) (hc_rr_rm (by decide)) ⟨Nat.zero_le _, Nat.zero_le _⟩ dX8_personSize_22 (fun M_22 h_22 => ?_)
  obtain rfl := h_22
  refine hc_aload_n C dX8_personSize_25 rfl rfl ?_
  refine hc_bipush C dX8_personSize_26 (v := 11) rfl ?_
  refine hc_cV1v C mv_X8_212 (c_X8_begins (n := n + 1) C.ok (rfl) (by omega)) rfl rfl rfl (Nat.le_of_ble_eq_true rfl) (hc_rr_rm (by decide)) ⟨Nat.zero_le _, Nat.zero_le _⟩ dX8_personSize_28 (fun M_28 h_28 => ?_)
  obtain rfl := h_28
  refine hc_aload_n C dX8_personSize_31 rfl rfl ?_
  refine hc_bipush C dX8_personSize_32 (v := 10) rfl ?_
  refine hc_cV1v C mv_X8_212 (c_X8_begins (n := n + 2) C.ok (rfl) (by omega)) rfl rfl rfl (Nat.le_of_ble_eq_true rfl) (hc_rr_rm (by decide)) ⟨Nat.zero_le _, Nat.zero_le _⟩ dX8_personSize_34 (fun M_34 h_34 => ?_)
  obtain rfl := h_34
  refine hc_aload_n C dX8_personSize_37 rfl rfl ?_
  refine hc_getR C fl_X8_25 rfl rfl dX8_personSize_38 ?_
  refine hc_bipush C dX8_personSize_41 (v := 6) rfl ?_
  refine hc_bipush C dX8_personSize_43 (v := 7) rfl ?_
  refine hc_iload_n C dX8_personSize_45 rfl rfl ?_
  refine hc_imul C dX8_personSize_46 ?_
  refine hc_iadd C dX8_personSize_47 ?_
  refine hc_iconst C dX8_personSize_48 (v := 1) rfl ?_
  refine hc_iadd C dX8_personSize_49 ?_
  refine hc_ialdN C (j := (6 + 7 * e0 + 1)) rfl (hx_67 e0 1) (by omega) dX8_personSize_50 ?_
  refine hc_aload_n C dX8_personSize_51 rfl rfl ?_
  refine hc_iload_n C dX8_personSize_52 rfl rfl ?_
  refine hc_cV1i C mv_X8_216 (c_X8_personMark (n := n + 3) (e0 := e0) C.ok rfl (by omega) he) rfl rfl rfl (Nat.le_of_ble_eq_true rfl) (hc_rr_rm (by decide)) ⟨Nat.zero_le _, Nat.zero_le _⟩ dX8_personSize_53 (fun r_53 M_53 h_53 => ?_)
  obtain ⟨rfl, rfl⟩ := h_53
  refine hc_iadd C dX8_personSize_56 ?_
  refine hc_istore_n3 C dX8_personSize_57 rfl (by decide) rfl ?_
  refine hc_iload_n C dX8_personSize_58 rfl rfl ?_
  refine hc_if_eq C (tgt := 67) dX8_personSize_59 (by decide) (fun c_59 => ?_) (fun c_59 => ?_)
  · exact absurd c_59 (by decide)
  refine hc_iload_n C dX8_personSize_62 rfl rfl ?_
  refine hc_ineg C dX8_personSize_63 ?_
  refine hc_goto C (tgt := 68) dX8_personSize_64 (by decide) ?_
  refine hc_iret C rfl dX8_personSize_68 ?_
  exact ⟨if_pos hk, rfl⟩

set_option maxRecDepth 100000 in
set_option maxHeartbeats 4000000 in
theorem c_X8_ps_1 {l : Launch} {G : hc_Geo} (hG : hc_ok G) {M : hc_Mem} {n e0 : Nat}  (hn : M 48 22 = nI n) (hn6 : n ≤ 6) (he : e0 < 6) (hk : ¬ M 54 (6 + 7 * e0) = 2) : hc_M l G yX8_personSize cX8_personSize 4 (some .int) 3 [.ref (hc_ad G 48), .int (nI e0)] M (hc_pi (fun z M' => rPS (M 54) e0 = z ∧ rTr M n ([11, 10] ++ rPMl (M 54 (6 + 7 * e0))) = M')) := by
  refine hc_M.of hG (by decide) [some (.ref (hc_ad G 48)), some (.int (nI e0)), none, none] rfl (Nat.le_of_ble_eq_true rfl) ?_
  intro p e s m args below meth c C
  refine hc_aload_n C dX8_personSize_0 rfl rfl ?_
  refine hc_iload_n C dX8_personSize_1 rfl rfl ?_
  refine hc_cV1i C mv_X8_206 (c_X8_kindIn C.ok he) rfl rfl rfl (Nat.le_of_ble_eq_true rfl) (hc_rr_rm (by decide)) ⟨Nat.zero_le _, Nat.zero_le _⟩ dX8_personSize_2 (fun r_2 M_2 h_2 => ?_)
  obtain ⟨rfl, rfl⟩ := h_2
  refine hc_iconst C dX8_personSize_5 (v := 2) rfl ?_
  refine hc_icmp_ne C (tgt := 13) dX8_personSize_6 (by decide) (fun c_6 => ?_) (fun c_6 => ?_)
  rotate_left
  · exact absurd c_6 hk
  refine hc_iconst C dX8_personSize_13 (v := 0) rfl ?_
  refine hc_istore_n2 C dX8_personSize_14 rfl (by decide) rfl ?_
  refine hc_iload_n C dX8_personSize_15 rfl rfl ?_
  refine hc_if_eq C (tgt := 25) dX8_personSize_16 (by decide) (fun c_16 => ?_) (fun c_16 => ?_)
  rotate_left
  · exact absurd c_16 (by decide)
  refine hc_aload_n C dX8_personSize_25 rfl rfl ?_
  refine hc_bipush C dX8_personSize_26 (v := 11) rfl ?_
  refine hc_cV1v C mv_X8_212 (c_X8_begins (n := n) C.ok hn (by omega)) rfl rfl rfl (Nat.le_of_ble_eq_true rfl) (hc_rr_rm (by decide)) ⟨Nat.zero_le _, Nat.zero_le _⟩ dX8_personSize_28 (fun M_28 h_28 => ?_)
  obtain rfl := h_28
  refine hc_aload_n C dX8_personSize_31 rfl rfl ?_
  refine hc_bipush C dX8_personSize_32 (v := 10) rfl ?_
  refine hc_cV1v C mv_X8_212 (c_X8_begins (n := n + 1) C.ok (rfl) (by omega)) rfl rfl rfl (Nat.le_of_ble_eq_true rfl) (hc_rr_rm (by decide)) ⟨Nat.zero_le _, Nat.zero_le _⟩ dX8_personSize_34 (fun M_34 h_34 => ?_)
  obtain rfl := h_34
  refine hc_aload_n C dX8_personSize_37 rfl rfl ?_
  refine hc_getR C fl_X8_25 rfl rfl dX8_personSize_38 ?_
  refine hc_bipush C dX8_personSize_41 (v := 6) rfl ?_
  refine hc_bipush C dX8_personSize_43 (v := 7) rfl ?_
  refine hc_iload_n C dX8_personSize_45 rfl rfl ?_
  refine hc_imul C dX8_personSize_46 ?_
  refine hc_iadd C dX8_personSize_47 ?_
  refine hc_iconst C dX8_personSize_48 (v := 1) rfl ?_
  refine hc_iadd C dX8_personSize_49 ?_
  refine hc_ialdN C (j := (6 + 7 * e0 + 1)) rfl (hx_67 e0 1) (by omega) dX8_personSize_50 ?_
  refine hc_aload_n C dX8_personSize_51 rfl rfl ?_
  refine hc_iload_n C dX8_personSize_52 rfl rfl ?_
  refine hc_cV1i C mv_X8_216 (c_X8_personMark (n := n + 2) (e0 := e0) C.ok rfl (by omega) he) rfl rfl rfl (Nat.le_of_ble_eq_true rfl) (hc_rr_rm (by decide)) ⟨Nat.zero_le _, Nat.zero_le _⟩ dX8_personSize_53 (fun r_53 M_53 h_53 => ?_)
  obtain ⟨rfl, rfl⟩ := h_53
  refine hc_iadd C dX8_personSize_56 ?_
  refine hc_istore_n3 C dX8_personSize_57 rfl (by decide) rfl ?_
  refine hc_iload_n C dX8_personSize_58 rfl rfl ?_
  refine hc_if_eq C (tgt := 67) dX8_personSize_59 (by decide) (fun c_59 => ?_) (fun c_59 => ?_)
  rotate_left
  · exact absurd c_59 (by decide)
  refine hc_iload_n C dX8_personSize_67 rfl rfl ?_
  refine hc_iret C rfl dX8_personSize_68 ?_
  exact ⟨if_neg hk, rfl⟩

theorem c_X8_personSize {l : Launch} {G : hc_Geo} (hG : hc_ok G) {M : hc_Mem} {n e0 : Nat} (hn : M 48 22 = nI n) (hn6 : n ≤ 6) (he : e0 < 6) : hc_M l G yX8_personSize cX8_personSize 4 (some .int) 3 [.ref (hc_ad G 48), .int (nI e0)] M (hc_pi (fun z M' => rPS (M 54) e0 = z ∧ rTr M n (rPSl (M 54 (6 + 7 * e0))) = M')) := by
  by_cases k1 : M 54 (6 + 7 * e0) = 2
  · rw [show rPSl (M 54 (6 + 7 * e0)) = [12, 11, 10] ++ rPMl (M 54 (6 + 7 * e0)) from by unfold rPSl; rw [if_pos k1]]; exact c_X8_ps_2 hG hn hn6 he k1
  · rw [show rPSl (M 54 (6 + 7 * e0)) = [11, 10] ++ rPMl (M 54 (6 + 7 * e0)) from by unfold rPSl; rw [if_neg k1]]; exact c_X8_ps_1 hG hn hn6 he k1

set_option maxRecDepth 100000 in
set_option maxHeartbeats 4000000 in
theorem c_X8_catMark {l : Launch} {G : hc_Geo} (hG : hc_ok G) {M : hc_Mem} {n e0 : Nat}  (hn : M 48 22 = nI n) (hn6 : n ≤ 6) (he : e0 < 6) : hc_M l G yX8_catMark cX8_catMark 2 (some .int) 3 [.ref (hc_ad G 48), .int (nI e0)] M (hc_pi (fun z M' => nI e0 - rCS (M 54) e0 = z ∧ rTr M n ([23, 20] ++ rCSl (M 54 (6 + 7 * e0))) = M')) := by
  refine hc_M.of hG (by decide) [some (.ref (hc_ad G 48)), some (.int (nI e0))] rfl (Nat.le_of_ble_eq_true rfl) ?_
  intro p e s m args below meth c C
  refine hc_aload_n C dX8_catMark_0 rfl rfl ?_
  refine hc_bipush C dX8_catMark_1 (v := 23) rfl ?_
  refine hc_cV1v C mv_X8_212 (c_X8_begins (n := n) C.ok hn (by omega)) rfl rfl rfl (Nat.le_of_ble_eq_true rfl) (hc_rr_rm (by decide)) ⟨Nat.zero_le _, Nat.zero_le _⟩ dX8_catMark_3 (fun M_3 h_3 => ?_)
  obtain rfl := h_3
  refine hc_aload_n C dX8_catMark_6 rfl rfl ?_
  refine hc_bipush C dX8_catMark_7 (v := 20) rfl ?_
  refine hc_cV1v C mv_X8_212 (c_X8_begins (n := n + 1) C.ok (rfl) (by omega)) rfl rfl rfl (Nat.le_of_ble_eq_true rfl) (hc_rr_rm (by decide)) ⟨Nat.zero_le _, Nat.zero_le _⟩ dX8_catMark_9 (fun M_9 h_9 => ?_)
  obtain rfl := h_9
  refine hc_iload_n C dX8_catMark_12 rfl rfl ?_
  refine hc_aload_n C dX8_catMark_13 rfl rfl ?_
  refine hc_iload_n C dX8_catMark_14 rfl rfl ?_
  refine hc_cV1i C mv_X8_219 (c_X8_catSize (n := n + 2) (e0 := e0) C.ok rfl (by omega) he) rfl rfl rfl (Nat.le_of_ble_eq_true rfl) (hc_rr_rm (by decide)) ⟨Nat.zero_le _, Nat.zero_le _⟩ dX8_catMark_15 (fun r_15 M_15 h_15 => ?_)
  obtain ⟨rfl, rfl⟩ := h_15
  refine hc_isub C dX8_catMark_18 ?_
  refine hc_iret C rfl dX8_catMark_19 ?_
  exact ⟨rfl, rfl⟩

set_option maxRecDepth 100000 in
set_option maxHeartbeats 4000000 in
theorem c_X8_ask_b2 {l : Launch} {G : hc_Geo} (hG : hc_ok G) {M : hc_Mem} {E e0 : Nat} {v2 : Int32}  (hE : M 54 4 = nI E) (hE6 : E ≤ 6) (he : e0 < E) (h1 : ¬ (¬ v2 < 0 ∧ ¬ 1 < v2)) : hc_M l G yX8_ask cX8_ask 4 (some .int) 3 [.ref (hc_ad G 48), .int (nI e0), .int v2] M (hc_pi (fun z M' => -1000001 = z ∧ M = M')) := by
  refine hc_M.of hG (by decide) [some (.ref (hc_ad G 48)), some (.int (nI e0)), some (.int v2), none] rfl (Nat.le_of_ble_eq_true rfl) ?_
  intro p e s m args below meth c C
  refine hc_aload_n C dX8_ask_0 rfl rfl ?_
  refine hc_iload_n C dX8_ask_1 rfl rfl ?_
  refine hc_cV1i C mv_X8_178 (c_X8_isEar C.ok hE (by omega)) rfl rfl rfl (Nat.le_of_ble_eq_true rfl) (hc_rr_rm (by decide)) ⟨Nat.zero_le _, Nat.zero_le _⟩ dX8_ask_2 (fun r_2 M_2 h_2 => ?_)
  obtain ⟨rfl, rfl⟩ := h_2
  refine hc_if_eq C (tgt := 17) dX8_ask_5 (by decide) (fun c_5 => ?_) (fun c_5 => ?_)
  · exact absurd (hx_earR hE hE6 he) (hb_z.mp c_5)
  refine hc_iload_n C dX8_ask_8 rfl rfl ?_
  refine hc_iconst C dX8_ask_9 (v := 0) rfl ?_
  refine hc_iconst C dX8_ask_10 (v := 1) rfl ?_
  refine hc_cS3i C ms_X8_56 (c_X8_in C.ok) (Nat.le_of_ble_eq_true rfl) (hc_rr_rm (by decide)) ⟨Nat.zero_le _, Nat.zero_le _⟩ dX8_ask_11 (fun r_11 M_11 h_11 => ?_)
  obtain ⟨rfl, rfl⟩ := h_11
  refine hc_if_ne C (tgt := 20) dX8_ask_14 (by decide) (fun c_14 => ?_) (fun c_14 => ?_)
  · exact absurd (hb_z.mpr h1) c_14
  refine hc_ldc C kc_X8_64 dX8_ask_17 ?_
  refine hc_iret C rfl dX8_ask_19 ?_
  exact ⟨rfl, rfl⟩

set_option maxRecDepth 100000 in
set_option maxHeartbeats 4000000 in
theorem c_X8_ask_00 {l : Launch} {G : hc_Geo} (hG : hc_ok G) {M : hc_Mem} {E e0 : Nat}  (hE : M 54 4 = nI E) (hE6 : E ≤ 6) (he : e0 < E) (hk : M 54 (6 + 7 * e0) < 4) : hc_M l G yX8_ask cX8_ask 4 (some .int) 4 [.ref (hc_ad G 48), .int (nI e0), .int 0] M (hc_pi (fun z M' => rPS (M 54) e0 = z ∧ rTr (hc_ms M 48 22 0) 0 (rPSl (M 54 (6 + 7 * e0))) = M')) := by
  refine hc_M.of hG (by decide) [some (.ref (hc_ad G 48)), some (.int (nI e0)), some (.int 0), none] rfl (Nat.le_of_ble_eq_true rfl) ?_
  intro p e s m args below meth c C
  refine hc_aload_n C dX8_ask_0 rfl rfl ?_
  refine hc_iload_n C dX8_ask_1 rfl rfl ?_
  refine hc_cV1i C mv_X8_178 (c_X8_isEar C.ok hE (by omega)) rfl rfl rfl (Nat.le_of_ble_eq_true rfl) (hc_rr_rm (by decide)) ⟨Nat.zero_le _, Nat.zero_le _⟩ dX8_ask_2 (fun r_2 M_2 h_2 => ?_)
  obtain ⟨rfl, rfl⟩ := h_2
  refine hc_if_eq C (tgt := 17) dX8_ask_5 (by decide) (fun c_5 => ?_) (fun c_5 => ?_)
  · exact absurd (hx_earR hE hE6 he) (hb_z.mp c_5)
  refine hc_iload_n C dX8_ask_8 rfl rfl ?_
  refine hc_iconst C dX8_ask_9 (v := 0) rfl ?_
  refine hc_iconst C dX8_ask_10 (v := 1) rfl ?_
  refine hc_cS3i C ms_X8_56 (c_X8_in C.ok) (Nat.le_of_ble_eq_true rfl) (hc_rr_rm (by decide)) ⟨Nat.zero_le _, Nat.zero_le _⟩ dX8_ask_11 (fun r_11 M_11 h_11 => ?_)
  obtain ⟨rfl, rfl⟩ := h_11
  refine hc_if_ne C (tgt := 20) dX8_ask_14 (by decide) (fun c_14 => ?_) (fun c_14 => ?_)
  rotate_left
  · exact absurd (show (¬ (0 : Int32) < 0 ∧ ¬ (1 : Int32) < 0) from ⟨by decide, by decide⟩) (hb_z.mp c_14)
  refine hc_aload_n C dX8_ask_20 rfl rfl ?_
  refine hc_iconst C dX8_ask_21 (v := 0) rfl ?_
  refine hc_putI C fl_X8_209 pl_6_22 rfl rfl dX8_ask_22 ?_
  refine hc_aload_n C dX8_ask_25 rfl rfl ?_
  refine hc_iload_n C dX8_ask_26 rfl rfl ?_
  refine hc_cV1i C mv_X8_206 (c_X8_kindIn (e0 := e0) C.ok (show e0 < 6 by omega)) rfl rfl rfl (Nat.le_of_ble_eq_true rfl) (hc_rr_rm (by decide)) ⟨Nat.zero_le _, Nat.zero_le _⟩ dX8_ask_27 (fun r_27 M_27 h_27 => ?_)
  obtain ⟨rfl, rfl⟩ := h_27
  refine hc_iconst C dX8_ask_30 (v := 4) rfl ?_
  refine hc_icmp_lt C (tgt := 38) dX8_ask_31 (by decide) (fun c_31 => ?_) (fun c_31 => ?_)
  rotate_left
  · exact absurd hk c_31
  refine hc_iconst C dX8_ask_38 (v := 0) rfl ?_
  refine hc_istore_n3 C dX8_ask_39 rfl (by decide) rfl ?_
  refine hc_iload_n C dX8_ask_40 rfl rfl ?_
  refine hc_if_ne C (tgt := 62) dX8_ask_41 (by decide) (fun c_41 => ?_) (fun c_41 => ?_)
  · exact absurd c_41 (by decide)
  refine hc_iload_n C dX8_ask_44 rfl rfl ?_
  refine hc_if_eq C (tgt := 56) dX8_ask_45 (by decide) (fun c_45 => ?_) (fun c_45 => ?_)
  rotate_left
  · exact absurd c_45 (by decide)
  refine hc_aload_n C dX8_ask_56 rfl rfl ?_
  refine hc_iload_n C dX8_ask_57 rfl rfl ?_
  refine hc_cV1i C mv_X8_222 (c_X8_personSize (M := (hc_ms M 48 22 0)) (n := 0) (e0 := e0) C.ok rfl (by decide) (show e0 < 6 by omega)) rfl rfl rfl (Nat.le_of_ble_eq_true rfl) (hc_rr_rm (by decide)) ⟨Nat.zero_le _, Nat.zero_le _⟩ dX8_ask_58 (fun r_58 M_58 h_58 => ?_)
  obtain ⟨rfl, rfl⟩ := h_58
  refine hc_iret C rfl dX8_ask_61 ?_
  exact ⟨rfl, rfl⟩

set_option maxRecDepth 100000 in
set_option maxHeartbeats 4000000 in
theorem c_X8_ask_01 {l : Launch} {G : hc_Geo} (hG : hc_ok G) {M : hc_Mem} {E e0 : Nat}  (hE : M 54 4 = nI E) (hE6 : E ≤ 6) (he : e0 < E) (hk : ¬ M 54 (6 + 7 * e0) < 4) : hc_M l G yX8_ask cX8_ask 4 (some .int) 4 [.ref (hc_ad G 48), .int (nI e0), .int 0] M (hc_pi (fun z M' => rCS (M 54) e0 = z ∧ rTr (hc_ms M 48 22 0) 0 (rCSl (M 54 (6 + 7 * e0))) = M')) := by
  refine hc_M.of hG (by decide) [some (.ref (hc_ad G 48)), some (.int (nI e0)), some (.int 0), none] rfl (Nat.le_of_ble_eq_true rfl) ?_
  intro p e s m args below meth c C
  refine hc_aload_n C dX8_ask_0 rfl rfl ?_
  refine hc_iload_n C dX8_ask_1 rfl rfl ?_
  refine hc_cV1i C mv_X8_178 (c_X8_isEar C.ok hE (by omega)) rfl rfl rfl (Nat.le_of_ble_eq_true rfl) (hc_rr_rm (by decide)) ⟨Nat.zero_le _, Nat.zero_le _⟩ dX8_ask_2 (fun r_2 M_2 h_2 => ?_)
  obtain ⟨rfl, rfl⟩ := h_2
  refine hc_if_eq C (tgt := 17) dX8_ask_5 (by decide) (fun c_5 => ?_) (fun c_5 => ?_)
  · exact absurd (hx_earR hE hE6 he) (hb_z.mp c_5)
  refine hc_iload_n C dX8_ask_8 rfl rfl ?_
  refine hc_iconst C dX8_ask_9 (v := 0) rfl ?_
  refine hc_iconst C dX8_ask_10 (v := 1) rfl ?_
  refine hc_cS3i C ms_X8_56 (c_X8_in C.ok) (Nat.le_of_ble_eq_true rfl) (hc_rr_rm (by decide)) ⟨Nat.zero_le _, Nat.zero_le _⟩ dX8_ask_11 (fun r_11 M_11 h_11 => ?_)
  obtain ⟨rfl, rfl⟩ := h_11
  refine hc_if_ne C (tgt := 20) dX8_ask_14 (by decide) (fun c_14 => ?_) (fun c_14 => ?_)
  rotate_left
  · exact absurd (show (¬ (0 : Int32) < 0 ∧ ¬ (1 : Int32) < 0) from ⟨by decide, by decide⟩) (hb_z.mp c_14)
  refine hc_aload_n C dX8_ask_20 rfl rfl ?_
  refine hc_iconst C dX8_ask_21 (v := 0) rfl ?_
  refine hc_putI C fl_X8_209 pl_6_22 rfl rfl dX8_ask_22 ?_
  refine hc_aload_n C dX8_ask_25 rfl rfl ?_
  refine hc_iload_n C dX8_ask_26 rfl rfl ?_
  refine hc_cV1i C mv_X8_206 (c_X8_kindIn (e0 := e0) C.ok (show e0 < 6 by omega)) rfl rfl rfl (Nat.le_of_ble_eq_true rfl) (hc_rr_rm (by decide)) ⟨Nat.zero_le _, Nat.zero_le _⟩ dX8_ask_27 (fun r_27 M_27 h_27 => ?_)
  obtain ⟨rfl, rfl⟩ := h_27
  refine hc_iconst C dX8_ask_30 (v := 4) rfl ?_
  refine hc_icmp_lt C (tgt := 38) dX8_ask_31 (by decide) (fun c_31 => ?_) (fun c_31 => ?_)
  · exact absurd c_31 hk
  refine hc_iconst C dX8_ask_34 (v := 1) rfl ?_
  refine hc_goto C (tgt := 39) dX8_ask_35 (by decide) ?_
  refine hc_istore_n3 C dX8_ask_39 rfl (by decide) rfl ?_
  refine hc_iload_n C dX8_ask_40 rfl rfl ?_
  refine hc_if_ne C (tgt := 62) dX8_ask_41 (by decide) (fun c_41 => ?_) (fun c_41 => ?_)
  · exact absurd c_41 (by decide)
  refine hc_iload_n C dX8_ask_44 rfl rfl ?_
  refine hc_if_eq C (tgt := 56) dX8_ask_45 (by decide) (fun c_45 => ?_) (fun c_45 => ?_)
  · exact absurd c_45 (by decide)
  refine hc_aload_n C dX8_ask_48 rfl rfl ?_
  refine hc_iload_n C dX8_ask_49 rfl rfl ?_
  refine hc_cV1i C mv_X8_219 (c_X8_catSize (M := (hc_ms M 48 22 0)) (n := 0) (e0 := e0) C.ok rfl (by decide) (show e0 < 6 by omega)) rfl rfl rfl (Nat.le_of_ble_eq_true rfl) (hc_rr_rm (by decide)) ⟨Nat.zero_le _, Nat.zero_le _⟩ dX8_ask_50 (fun r_50 M_50 h_50 => ?_)
  obtain ⟨rfl, rfl⟩ := h_50
  refine hc_goto C (tgt := 61) dX8_ask_53 (by decide) ?_
  refine hc_iret C rfl dX8_ask_61 ?_
  exact ⟨rfl, rfl⟩

set_option maxRecDepth 100000 in
set_option maxHeartbeats 4000000 in
theorem c_X8_ask_10 {l : Launch} {G : hc_Geo} (hG : hc_ok G) {M : hc_Mem} {E e0 : Nat}  (hE : M 54 4 = nI E) (hE6 : E ≤ 6) (he : e0 < E) (hk : M 54 (6 + 7 * e0) < 4) : hc_M l G yX8_ask cX8_ask 4 (some .int) 4 [.ref (hc_ad G 48), .int (nI e0), .int 1] M (hc_pi (fun z M' => rPM (M 54) e0 = z ∧ rTr (hc_ms M 48 22 0) 0 (rPMl (M 54 (6 + 7 * e0))) = M')) := by
  refine hc_M.of hG (by decide) [some (.ref (hc_ad G 48)), some (.int (nI e0)), some (.int 1), none] rfl (Nat.le_of_ble_eq_true rfl) ?_
  intro p e s m args below meth c C
  refine hc_aload_n C dX8_ask_0 rfl rfl ?_
  refine hc_iload_n C dX8_ask_1 rfl rfl ?_
  refine hc_cV1i C mv_X8_178 (c_X8_isEar C.ok hE (by omega)) rfl rfl rfl (Nat.le_of_ble_eq_true rfl) (hc_rr_rm (by decide)) ⟨Nat.zero_le _, Nat.zero_le _⟩ dX8_ask_2 (fun r_2 M_2 h_2 => ?_)
  obtain ⟨rfl, rfl⟩ := h_2
  refine hc_if_eq C (tgt := 17) dX8_ask_5 (by decide) (fun c_5 => ?_) (fun c_5 => ?_)
  · exact absurd (hx_earR hE hE6 he) (hb_z.mp c_5)
  refine hc_iload_n C dX8_ask_8 rfl rfl ?_
  refine hc_iconst C dX8_ask_9 (v := 0) rfl ?_
  refine hc_iconst C dX8_ask_10 (v := 1) rfl ?_
  refine hc_cS3i C ms_X8_56 (c_X8_in C.ok) (Nat.le_of_ble_eq_true rfl) (hc_rr_rm (by decide)) ⟨Nat.zero_le _, Nat.zero_le _⟩ dX8_ask_11 (fun r_11 M_11 h_11 => ?_)
  obtain ⟨rfl, rfl⟩ := h_11
  refine hc_if_ne C (tgt := 20) dX8_ask_14 (by decide) (fun c_14 => ?_) (fun c_14 => ?_)
  rotate_left
  · exact absurd (show (¬ (1 : Int32) < 0 ∧ ¬ (1 : Int32) < 1) from ⟨by decide, by decide⟩) (hb_z.mp c_14)
  refine hc_aload_n C dX8_ask_20 rfl rfl ?_
  refine hc_iconst C dX8_ask_21 (v := 0) rfl ?_
  refine hc_putI C fl_X8_209 pl_6_22 rfl rfl dX8_ask_22 ?_
  refine hc_aload_n C dX8_ask_25 rfl rfl ?_
  refine hc_iload_n C dX8_ask_26 rfl rfl ?_
  refine hc_cV1i C mv_X8_206 (c_X8_kindIn (e0 := e0) C.ok (show e0 < 6 by omega)) rfl rfl rfl (Nat.le_of_ble_eq_true rfl) (hc_rr_rm (by decide)) ⟨Nat.zero_le _, Nat.zero_le _⟩ dX8_ask_27 (fun r_27 M_27 h_27 => ?_)
  obtain ⟨rfl, rfl⟩ := h_27
  refine hc_iconst C dX8_ask_30 (v := 4) rfl ?_
  refine hc_icmp_lt C (tgt := 38) dX8_ask_31 (by decide) (fun c_31 => ?_) (fun c_31 => ?_)
  rotate_left
  · exact absurd hk c_31
  refine hc_iconst C dX8_ask_38 (v := 0) rfl ?_
  refine hc_istore_n3 C dX8_ask_39 rfl (by decide) rfl ?_
  refine hc_iload_n C dX8_ask_40 rfl rfl ?_
  refine hc_if_ne C (tgt := 62) dX8_ask_41 (by decide) (fun c_41 => ?_) (fun c_41 => ?_)
  rotate_left
  · exact absurd c_41 (by decide)
  refine hc_iload_n C dX8_ask_62 rfl rfl ?_
  refine hc_if_eq C (tgt := 74) dX8_ask_63 (by decide) (fun c_63 => ?_) (fun c_63 => ?_)
  rotate_left
  · exact absurd c_63 (by decide)
  refine hc_aload_n C dX8_ask_74 rfl rfl ?_
  refine hc_iload_n C dX8_ask_75 rfl rfl ?_
  refine hc_cV1i C mv_X8_216 (c_X8_personMark (M := (hc_ms M 48 22 0)) (n := 0) (e0 := e0) C.ok rfl (by decide) (show e0 < 6 by omega)) rfl rfl rfl (Nat.le_of_ble_eq_true rfl) (hc_rr_rm (by decide)) ⟨Nat.zero_le _, Nat.zero_le _⟩ dX8_ask_76 (fun r_76 M_76 h_76 => ?_)
  obtain ⟨rfl, rfl⟩ := h_76
  refine hc_iret C rfl dX8_ask_79 ?_
  exact ⟨rfl, rfl⟩

set_option maxRecDepth 100000 in
set_option maxHeartbeats 4000000 in
theorem c_X8_ask_11 {l : Launch} {G : hc_Geo} (hG : hc_ok G) {M : hc_Mem} {E e0 : Nat}  (hE : M 54 4 = nI E) (hE6 : E ≤ 6) (he : e0 < E) (hk : ¬ M 54 (6 + 7 * e0) < 4) : hc_M l G yX8_ask cX8_ask 4 (some .int) 4 [.ref (hc_ad G 48), .int (nI e0), .int 1] M (hc_pi (fun z M' => nI e0 - rCS (M 54) e0 = z ∧ rTr (hc_ms M 48 22 0) 0 ([23, 20] ++ rCSl (M 54 (6 + 7 * e0))) = M')) := by
  refine hc_M.of hG (by decide) [some (.ref (hc_ad G 48)), some (.int (nI e0)), some (.int 1), none] rfl (Nat.le_of_ble_eq_true rfl) ?_
  intro p e s m args below meth c C
  refine hc_aload_n C dX8_ask_0 rfl rfl ?_
  refine hc_iload_n C dX8_ask_1 rfl rfl ?_
  refine hc_cV1i C mv_X8_178 (c_X8_isEar C.ok hE (by omega)) rfl rfl rfl (Nat.le_of_ble_eq_true rfl) (hc_rr_rm (by decide)) ⟨Nat.zero_le _, Nat.zero_le _⟩ dX8_ask_2 (fun r_2 M_2 h_2 => ?_)
  obtain ⟨rfl, rfl⟩ := h_2
  refine hc_if_eq C (tgt := 17) dX8_ask_5 (by decide) (fun c_5 => ?_) (fun c_5 => ?_)
  · exact absurd (hx_earR hE hE6 he) (hb_z.mp c_5)
  refine hc_iload_n C dX8_ask_8 rfl rfl ?_
  refine hc_iconst C dX8_ask_9 (v := 0) rfl ?_
  refine hc_iconst C dX8_ask_10 (v := 1) rfl ?_
  refine hc_cS3i C ms_X8_56 (c_X8_in C.ok) (Nat.le_of_ble_eq_true rfl) (hc_rr_rm (by decide)) ⟨Nat.zero_le _, Nat.zero_le _⟩ dX8_ask_11 (fun r_11 M_11 h_11 => ?_)
  obtain ⟨rfl, rfl⟩ := h_11
  refine hc_if_ne C (tgt := 20) dX8_ask_14 (by decide) (fun c_14 => ?_) (fun c_14 => ?_)
  rotate_left
  · exact absurd (show (¬ (1 : Int32) < 0 ∧ ¬ (1 : Int32) < 1) from ⟨by decide, by decide⟩) (hb_z.mp c_14)
  refine hc_aload_n C dX8_ask_20 rfl rfl ?_
  refine hc_iconst C dX8_ask_21 (v := 0) rfl ?_
  refine hc_putI C fl_X8_209 pl_6_22 rfl rfl dX8_ask_22 ?_
  refine hc_aload_n C dX8_ask_25 rfl rfl ?_
  refine hc_iload_n C dX8_ask_26 rfl rfl ?_
  refine hc_cV1i C mv_X8_206 (c_X8_kindIn (e0 := e0) C.ok (show e0 < 6 by omega)) rfl rfl rfl (Nat.le_of_ble_eq_true rfl) (hc_rr_rm (by decide)) ⟨Nat.zero_le _, Nat.zero_le _⟩ dX8_ask_27 (fun r_27 M_27 h_27 => ?_)
  obtain ⟨rfl, rfl⟩ := h_27
  refine hc_iconst C dX8_ask_30 (v := 4) rfl ?_
  refine hc_icmp_lt C (tgt := 38) dX8_ask_31 (by decide) (fun c_31 => ?_) (fun c_31 => ?_)
  · exact absurd c_31 hk
  refine hc_iconst C dX8_ask_34 (v := 1) rfl ?_
  refine hc_goto C (tgt := 39) dX8_ask_35 (by decide) ?_
  refine hc_istore_n3 C dX8_ask_39 rfl (by decide) rfl ?_
  refine hc_iload_n C dX8_ask_40 rfl rfl ?_
  refine hc_if_ne C (tgt := 62) dX8_ask_41 (by decide) (fun c_41 => ?_) (fun c_41 => ?_)
  rotate_left
  · exact absurd c_41 (by decide)
  refine hc_iload_n C dX8_ask_62 rfl rfl ?_
  refine hc_if_eq C (tgt := 74) dX8_ask_63 (by decide) (fun c_63 => ?_) (fun c_63 => ?_)
  · exact absurd c_63 (by decide)
  refine hc_aload_n C dX8_ask_66 rfl rfl ?_
  refine hc_iload_n C dX8_ask_67 rfl rfl ?_
  refine hc_cV1i C mv_X8_225 (c_X8_catMark (M := (hc_ms M 48 22 0)) (n := 0) (e0 := e0) C.ok rfl (by decide) (show e0 < 6 by omega)) rfl rfl rfl (Nat.le_of_ble_eq_true rfl) (hc_rr_rm (by decide)) ⟨Nat.zero_le _, Nat.zero_le _⟩ dX8_ask_68 (fun r_68 M_68 h_68 => ?_)
  obtain ⟨rfl, rfl⟩ := h_68
  refine hc_goto C (tgt := 79) dX8_ask_71 (by decide) ?_
  refine hc_iret C rfl dX8_ask_79 ?_
  exact ⟨rfl, rfl⟩
