/-! THE REFERENCE'S READER -/
abbrev rPs := Int32 × Int32 × Nat × Nat × Int32 × Int32
def mR (M : hc_Mem) (r : rPs) : hc_Mem := hc_mf M 48 (fun j => if j = 7 then r.1 else if j = 8 then r.2.1 else if j = 9 then nI r.2.2.1 else if j = 10 then nI r.2.2.2.1 else if j = 11 then r.2.2.2.2.1 else if j = 12 then r.2.2.2.2.2 else M 48 j)
theorem mR_id (M : hc_Mem) {a b : Nat} (h9 : M 48 9 = nI a) (h10 : M 48 10 = nI b) : M = mR M (M 48 7, M 48 8, a, b, M 48 11, M 48 12) := by
  funext q
  by_cases hq : q = 48
  · subst hq
    unfold mR
    rw [hc_mf_s]
    funext j
    split
    · rename_i h; rw [h]
    split
    · rename_i h; rw [h]
    split
    · rename_i h; rw [h]; exact h9
    split
    · rename_i h; rw [h]; exact h10
    split
    · rename_i h; rw [h]
    split
    · rename_i h; rw [h]
    rfl
  · unfold mR; rw [hc_mf_n hq]
theorem mR_7 {M : hc_Mem} {r : rPs} (x : Int32) : hc_ms (mR M r) 48 7 (x) = mR M (x, r.2.1, r.2.2.1, r.2.2.2.1, r.2.2.2.2.1, r.2.2.2.2.2) := by
  unfold mR
  rw [hc_ms_mf]
  congr 1
  funext j
  show (if j = 7 then _ else _) = _
  by_cases hj : j = 7
  · subst hj; rfl
  · rw [if_neg hj]
    simp only [hj, if_false]
theorem mR_8 {M : hc_Mem} {r : rPs} (x : Int32) : hc_ms (mR M r) 48 8 (x) = mR M (r.1, x, r.2.2.1, r.2.2.2.1, r.2.2.2.2.1, r.2.2.2.2.2) := by
  unfold mR
  rw [hc_ms_mf]
  congr 1
  funext j
  show (if j = 8 then _ else _) = _
  by_cases hj : j = 8
  · subst hj; rfl
  · rw [if_neg hj]
    simp only [hj, if_false]
theorem mR_11 {M : hc_Mem} {r : rPs} (x : Int32) : hc_ms (mR M r) 48 11 (x) = mR M (r.1, r.2.1, r.2.2.1, r.2.2.2.1, x, r.2.2.2.2.2) := by
  unfold mR
  rw [hc_ms_mf]
  congr 1
  funext j
  show (if j = 11 then _ else _) = _
  by_cases hj : j = 11
  · subst hj; rfl
  · rw [if_neg hj]
    simp only [hj, if_false]
theorem mR_12 {M : hc_Mem} {r : rPs} (x : Int32) : hc_ms (mR M r) 48 12 (x) = mR M (r.1, r.2.1, r.2.2.1, r.2.2.2.1, r.2.2.2.2.1, x) := by
  unfold mR
  rw [hc_ms_mf]
  congr 1
  funext j
  show (if j = 12 then _ else _) = _
  by_cases hj : j = 12
  · subst hj; rfl
  · rw [if_neg hj]
    simp only [hj, if_false]
theorem mR_9 {M : hc_Mem} {r : rPs} (a : Nat) : hc_ms (mR M r) 48 9 (nI a) = mR M (r.1, r.2.1, a, r.2.2.2.1, r.2.2.2.2.1, r.2.2.2.2.2) := by
  unfold mR
  rw [hc_ms_mf]
  congr 1
  funext j
  show (if j = 9 then _ else _) = _
  by_cases hj : j = 9
  · subst hj; rfl
  · rw [if_neg hj]
    simp only [hj, if_false]
theorem mR_10 {M : hc_Mem} {r : rPs} (a : Nat) : hc_ms (mR M r) 48 10 (nI a) = mR M (r.1, r.2.1, r.2.2.1, a, r.2.2.2.2.1, r.2.2.2.2.2) := by
  unfold mR
  rw [hc_ms_mf]
  congr 1
  funext j
  show (if j = 10 then _ else _) = _
  by_cases hj : j = 10
  · subst hj; rfl
  · rw [if_neg hj]
    simp only [hj, if_false]
theorem mR_n {M : hc_Mem} {r : rPs} {q : Nat} (h : q ≠ 48) : mR M r q = M q := hc_mf_n h
def rBt (T : Nat → Int32) (n i : Nat) : Int32 := if i < n then T i else -1
abbrev rIsF (b : Int32) : Prop := ¬ b < 48 ∧ ¬ 57 < b
def rDg (T : Nat → Int32) (n s0 : Nat) : Nat → Nat → Int32 → Nat × Int32
  | 0, a, v => (a, v)
  | t + 1, a, v => if rIsF (rBt T n a) then rDg T n s0 t (a + 1) (if 2 ≤ nI a - nI s0 then v else 10 * v + rBt T n a - 48) else (a, v)
def rKd (b : Int32) : Int32 := if 0 ≤ b then (if ¬ b < 97 ∧ ¬ 122 < b then 1 else if b = 44 then 3 else if b = 59 then 4 else 5) else 0
def rAdv (T : Nat → Int32) (n : Nat) (r : rPs) : rPs :=
  if rIsF (rBt T n r.2.2.1) then (r.1, r.2.1, (rDg T n r.2.2.1 (n - r.2.2.1) r.2.2.1 0).1, r.2.2.1, (if 3 ≤ nI (rDg T n r.2.2.1 (n - r.2.2.1) r.2.2.1 0).1 - nI r.2.2.1 then 5 else 2), (rDg T n r.2.2.1 (n - r.2.2.1) r.2.2.1 0).2)
  else (r.1, r.2.1, (if rKd (rBt T n r.2.2.1) = 0 then r.2.2.1 else r.2.2.1 + 1), r.2.2.1, rKd (rBt T n r.2.2.1), rBt T n r.2.2.1)

set_option maxRecDepth 100000 in
set_option maxHeartbeats 4000000 in
theorem c_X8_byteAt {l : Launch} {G : hc_Geo} (hG : hc_ok G) {M : hc_Mem} {n i : Nat}  (hn : M 48 6 = nI n) (hn1 : n ≤ 120) (hi : i < 2 ^ 20) : hc_M l G yX8_byteAt cX8_byteAt 2 (some .int) 1 [.ref (hc_ad G 48), .int (nI i)] M (hc_pi (fun z M' => rBt (M 53) n i = z ∧ M = M')) := by
  refine hc_M.of hG (by decide) [some (.ref (hc_ad G 48)), some (.int (nI i))] rfl (Nat.le_of_ble_eq_true rfl) ?_
  intro p e s m args below meth c C
  refine hc_iload_n C dX8_byteAt_0 rfl rfl ?_
  refine hc_aload_n C dX8_byteAt_1 rfl rfl ?_
  refine hc_getI C fl_X8_82 rfl rfl dX8_byteAt_2 ?_
  refine hc_icmp_ge C (tgt := 17) dX8_byteAt_5 (by decide) (fun c_5 => ?_) (fun c_5 => ?_)
  · refine hc_iconst C dX8_byteAt_17 (v := (-1)) rfl ?_
    refine hc_iret C rfl dX8_byteAt_18 ?_
    refine ⟨?_, rfl⟩
    unfold rBt
    rcases Nat.lt_or_ge i n with h | h
    · first
        | exact if_pos h
        | exact absurd (show nI n ≤ nI i from hn ▸ c_5) (nI_ge h (by omega))
    · first
        | exact if_neg (by omega)
        | exact absurd (show M 48 6 ≤ nI i by rw [hn]; exact nI_le h (by omega)) c_5
  · refine hc_aload_n C dX8_byteAt_8 rfl rfl ?_
    refine hc_getR C fl_X8_22 rfl rfl dX8_byteAt_9 ?_
    refine hc_iload_n C dX8_byteAt_12 rfl rfl ?_
    refine hc_ialdN C (j := i) rfl rfl (show i < 120 by rcases Nat.lt_or_ge i n with h | h; omega; exact absurd (show M 48 6 ≤ nI i by rw [hn]; exact nI_le h (by omega)) c_5) dX8_byteAt_13 ?_
    refine hc_goto C (tgt := 18) dX8_byteAt_14 (by decide) ?_
    refine hc_iret C rfl dX8_byteAt_18 ?_
    refine ⟨?_, rfl⟩
    unfold rBt
    rcases Nat.lt_or_ge i n with h | h
    · first
        | exact if_pos h
        | exact absurd (show nI n ≤ nI i from hn ▸ c_5) (nI_ge h (by omega))
    · first
        | exact if_neg (by omega)
        | exact absurd (show M 48 6 ≤ nI i by rw [hn]; exact nI_le h (by omega)) c_5

set_option maxRecDepth 100000 in
set_option maxHeartbeats 4000000 in
theorem lp_Radv {G : hc_Geo} {p : Program} {l : Launch} {e : Env} {d : Nat} {s : State} {m : MethodId} {args : Array Value} {below : List Frame} {meth : Method} {c : Code} {Q : State → Prop} (C : hc_Cx G hc_lay cX8_advances 2 none yX8_advances.cls p s m args meth c) {M : hc_Mem} {n s0 : Nat} {fk fp tk : Int32} {b1 : Option Value} {qq : Nat × Int32} (hd : 1 < d) (hn : M 48 6 = nI n) (hn1 : n ≤ 120) (kk : hc_W G hc_lay p l e (hc_rm d) s m args below meth c 2 0 0 Q 112 [some (.ref (hc_ad G 48)), b1] [] (mR M (fk, fp, qq.1, s0, tk, qq.2)))  :
    ∀ (t : Nat) (a : Nat) (v : Int32), a + t = n → rDg (M 53) n s0 t a v = qq → hc_W G hc_lay p l e (hc_rm d) s m args below meth c 2 0 0 Q 38 [some (.ref (hc_ad G 48)), b1] [] (mR M (fk, fp, a, s0, tk, v)) := by
  intro t
  induction t with
  | zero =>
    intro a v ha hq
    refine hc_aload_n C dX8_advances_38 rfl rfl ?_
    refine hc_aload_n C dX8_advances_39 rfl rfl ?_
    refine hc_getI C fl_X8_86 rfl rfl dX8_advances_40 ?_
    refine hc_top (v := nI a) rfl ?_
    refine hc_cV1i C mv_X8_92 (c_X8_byteAt (M := mR M (fk, fp, a, s0, tk, v)) (n := n) (i := a) C.ok hn hn1 (by omega)) rfl rfl rfl (Nat.le_of_ble_eq_true rfl) (hc_rr_rm hd) ⟨Nat.zero_le _, Nat.zero_le _⟩ dX8_advances_43 (fun r_43 M_43 h_43 => ?_)
    obtain ⟨rfl, rfl⟩ := h_43
    refine hc_top (v := rBt (M 53) n a) rfl ?_
    refine hc_bipush C dX8_advances_46 (v := 48) rfl ?_
    refine hc_bipush C dX8_advances_48 (v := 57) rfl ?_
    refine hc_cS3i C ms_X8_56 (c_X8_in C.ok) (Nat.le_of_ble_eq_true rfl) (hc_rr_rm hd) ⟨Nat.zero_le _, Nat.zero_le _⟩ dX8_advances_50 (fun r_50 M_50 h_50 => ?_)
    obtain ⟨rfl, rfl⟩ := h_50
    refine hc_if_eq C (tgt := 112) dX8_advances_53 (by decide) (fun c_53 => ?_) (fun c_53 => ?_)
    rotate_left
    · exact absurd (hb_nz.mp c_53) (by rw [show rBt (M 53) n a = -1 from if_neg (by omega)]; decide)
    obtain rfl : (a, v) = qq := hq
    exact kk
  | succ t ih =>
    intro a v ha hq
    refine hc_aload_n C dX8_advances_38 rfl rfl ?_
    refine hc_aload_n C dX8_advances_39 rfl rfl ?_
    refine hc_getI C fl_X8_86 rfl rfl dX8_advances_40 ?_
    refine hc_top (v := nI a) rfl ?_
    refine hc_cV1i C mv_X8_92 (c_X8_byteAt (M := mR M (fk, fp, a, s0, tk, v)) (n := n) (i := a) C.ok hn hn1 (by omega)) rfl rfl rfl (Nat.le_of_ble_eq_true rfl) (hc_rr_rm hd) ⟨Nat.zero_le _, Nat.zero_le _⟩ dX8_advances_43 (fun r_43 M_43 h_43 => ?_)
    obtain ⟨rfl, rfl⟩ := h_43
    refine hc_top (v := rBt (M 53) n a) rfl ?_
    refine hc_bipush C dX8_advances_46 (v := 48) rfl ?_
    refine hc_bipush C dX8_advances_48 (v := 57) rfl ?_
    refine hc_cS3i C ms_X8_56 (c_X8_in C.ok) (Nat.le_of_ble_eq_true rfl) (hc_rr_rm hd) ⟨Nat.zero_le _, Nat.zero_le _⟩ dX8_advances_50 (fun r_50 M_50 h_50 => ?_)
    obtain ⟨rfl, rfl⟩ := h_50
    refine hc_if_eq C (tgt := 112) dX8_advances_53 (by decide) (fun c_53 => ?_) (fun c_53 => ?_)
    · rw [rDg, if_neg (hb_z.mp c_53)] at hq
      obtain rfl : (a, v) = qq := hq
      exact kk
    · refine hc_aload_n C dX8_advances_56 rfl rfl ?_
      refine hc_aload_n C dX8_advances_57 rfl rfl ?_
      refine hc_getI C fl_X8_86 rfl rfl dX8_advances_58 ?_
      refine hc_top (v := nI a) rfl ?_
      refine hc_aload_n C dX8_advances_61 rfl rfl ?_
      refine hc_getI C fl_X8_89 rfl rfl dX8_advances_62 ?_
      refine hc_top (v := nI s0) rfl ?_
      refine hc_isub C dX8_advances_65 ?_
      refine hc_iconst C dX8_advances_66 (v := 2) rfl ?_
      refine hc_icmp_ge C (tgt := 92) dX8_advances_67 (by decide) (fun c_67 => ?_) (fun c_67 => ?_)
      · refine hc_aload_n C dX8_advances_92 rfl rfl ?_
        refine hc_getI C fl_X8_95 rfl rfl dX8_advances_93 ?_
        refine hc_top (v := v) rfl ?_
        refine hc_putI C fl_X8_95 pl_6_12 rfl rfl dX8_advances_96 ?_
        refine hc_mem (mR_12 _) ?_
        refine hc_aload_n C dX8_advances_99 rfl rfl ?_
        refine hc_dup C dX8_advances_100 rfl ?_
        refine hc_getI C fl_X8_86 rfl rfl dX8_advances_101 ?_
        refine hc_iconst C dX8_advances_104 (v := 1) rfl ?_
        refine hc_iadd C dX8_advances_105 ?_
        refine hc_top (v := nI (a + 1)) (nI_1 a) ?_
        refine hc_putI C fl_X8_86 pl_6_9 rfl rfl dX8_advances_106 ?_
        refine hc_mem (mR_9 (a + 1)) ?_
        refine hc_goto C (tgt := 38) dX8_advances_109 (by decide) ?_
        rw [rDg, if_pos (hb_nz.mp c_53)] at hq
        first
          | (rw [if_pos c_67] at hq; exact ih (a + 1) _ (by omega) hq)
          | (rw [if_neg c_67] at hq; exact ih (a + 1) _ (by omega) hq)
      · refine hc_bipush C dX8_advances_70 (v := 10) rfl ?_
        refine hc_aload_n C dX8_advances_72 rfl rfl ?_
        refine hc_getI C fl_X8_95 rfl rfl dX8_advances_73 ?_
        refine hc_top (v := v) rfl ?_
        refine hc_imul C dX8_advances_76 ?_
        refine hc_aload_n C dX8_advances_77 rfl rfl ?_
        refine hc_aload_n C dX8_advances_78 rfl rfl ?_
        refine hc_getI C fl_X8_86 rfl rfl dX8_advances_79 ?_
        refine hc_top (v := nI a) rfl ?_
        refine hc_cV1i C mv_X8_92 (c_X8_byteAt (M := mR M (fk, fp, a, s0, tk, v)) (n := n) (i := a) C.ok hn hn1 (by omega)) rfl rfl rfl (Nat.le_of_ble_eq_true rfl) (hc_rr_rm hd) ⟨Nat.zero_le _, Nat.zero_le _⟩ dX8_advances_82 (fun r_82 M_82 h_82 => ?_)
        obtain ⟨rfl, rfl⟩ := h_82
        refine hc_top (v := rBt (M 53) n a) rfl ?_
        refine hc_iadd C dX8_advances_85 ?_
        refine hc_bipush C dX8_advances_86 (v := 48) rfl ?_
        refine hc_isub C dX8_advances_88 ?_
        refine hc_goto C (tgt := 96) dX8_advances_89 (by decide) ?_
        refine hc_putI C fl_X8_95 pl_6_12 rfl rfl dX8_advances_96 ?_
        refine hc_mem (mR_12 _) ?_
        refine hc_aload_n C dX8_advances_99 rfl rfl ?_
        refine hc_dup C dX8_advances_100 rfl ?_
        refine hc_getI C fl_X8_86 rfl rfl dX8_advances_101 ?_
        refine hc_iconst C dX8_advances_104 (v := 1) rfl ?_
        refine hc_iadd C dX8_advances_105 ?_
        refine hc_top (v := nI (a + 1)) (nI_1 a) ?_
        refine hc_putI C fl_X8_86 pl_6_9 rfl rfl dX8_advances_106 ?_
        refine hc_mem (mR_9 (a + 1)) ?_
        refine hc_goto C (tgt := 38) dX8_advances_109 (by decide) ?_
        rw [rDg, if_pos (hb_nz.mp c_53)] at hq
        first
          | (rw [if_pos c_67] at hq; exact ih (a + 1) _ (by omega) hq)
          | (rw [if_neg c_67] at hq; exact ih (a + 1) _ (by omega) hq)

set_option maxRecDepth 100000 in
set_option maxHeartbeats 4000000 in
theorem c_X8_advances {l : Launch} {G : hc_Geo} (hG : hc_ok G) {M : hc_Mem} {n : Nat} {r : rPs}  (hn : M 48 6 = nI n) (hn1 : n ≤ 120) (hps : r.2.2.1 ≤ n) : hc_M l G yX8_advances cX8_advances 2 none 2 [.ref (hc_ad G 48)] (mR M r) (hc_pv (fun M' => mR M (rAdv (M 53) n r) = M')) := by
  refine hc_M.of hG (by decide) [some (.ref (hc_ad G 48)), none] rfl (Nat.le_of_ble_eq_true rfl) ?_
  intro p e s m args below meth c C
  refine hc_aload_n C dX8_advances_0 rfl rfl ?_
  refine hc_aload_n C dX8_advances_1 rfl rfl ?_
  refine hc_getI C fl_X8_86 rfl rfl dX8_advances_2 ?_
  refine hc_top (v := nI r.2.2.1) rfl ?_
  refine hc_putI C fl_X8_89 pl_6_10 rfl rfl dX8_advances_5 ?_
  refine hc_mem (mR_10 r.2.2.1) ?_
  refine hc_aload_n C dX8_advances_8 rfl rfl ?_
  refine hc_aload_n C dX8_advances_9 rfl rfl ?_
  refine hc_getI C fl_X8_86 rfl rfl dX8_advances_10 ?_
  refine hc_top (v := nI r.2.2.1) rfl ?_
  refine hc_cV1i C mv_X8_92 (c_X8_byteAt (M := mR M (r.1, r.2.1, r.2.2.1, r.2.2.1, r.2.2.2.2.1, r.2.2.2.2.2)) (n := n) (i := r.2.2.1) C.ok hn hn1 (by omega)) rfl rfl rfl (Nat.le_of_ble_eq_true rfl) (hc_rr_rm (by decide)) ⟨Nat.zero_le _, Nat.zero_le _⟩ dX8_advances_13 (fun r_13 M_13 h_13 => ?_)
  obtain ⟨rfl, rfl⟩ := h_13
  refine hc_top (v := rBt (M 53) n r.2.2.1) rfl ?_
  refine hc_istore_n1 C dX8_advances_16 rfl (by decide) rfl ?_
  refine hc_aload_n C dX8_advances_17 rfl rfl ?_
  refine hc_iload_n C dX8_advances_18 rfl rfl ?_
  refine hc_putI C fl_X8_95 pl_6_12 rfl rfl dX8_advances_19 ?_
  refine hc_mem (mR_12 _) ?_
  refine hc_iload_n C dX8_advances_22 rfl rfl ?_
  refine hc_bipush C dX8_advances_23 (v := 48) rfl ?_
  refine hc_bipush C dX8_advances_25 (v := 57) rfl ?_
  refine hc_cS3i C ms_X8_56 (c_X8_in C.ok) (Nat.le_of_ble_eq_true rfl) (hc_rr_rm (by decide)) ⟨Nat.zero_le _, Nat.zero_le _⟩ dX8_advances_27 (fun r_27 M_27 h_27 => ?_)
  obtain ⟨rfl, rfl⟩ := h_27
  refine hc_if_eq C (tgt := 135) dX8_advances_30 (by decide) (fun c_30 => ?_) (fun c_30 => ?_)
  · refine hc_aload_n C dX8_advances_135 rfl rfl ?_
    refine hc_iload_n C dX8_advances_136 rfl rfl ?_
    refine hc_if_ge C (tgt := 144) dX8_advances_137 (by decide) (fun c_137 => ?_) (fun c_137 => ?_)
    · refine hc_iload_n C dX8_advances_144 rfl rfl ?_
      refine hc_bipush C dX8_advances_145 (v := 97) rfl ?_
      refine hc_bipush C dX8_advances_147 (v := 122) rfl ?_
      refine hc_cS3i C ms_X8_56 (c_X8_in C.ok) (Nat.le_of_ble_eq_true rfl) (hc_rr_rm (by decide)) ⟨Nat.zero_le _, Nat.zero_le _⟩ dX8_advances_149 (fun r_149 M_149 h_149 => ?_)
      obtain ⟨rfl, rfl⟩ := h_149
      refine hc_if_eq C (tgt := 159) dX8_advances_152 (by decide) (fun c_152 => ?_) (fun c_152 => ?_)
      · refine hc_iload_n C dX8_advances_159 rfl rfl ?_
        refine hc_bipush C dX8_advances_160 (v := 44) rfl ?_
        refine hc_icmp_ne C (tgt := 169) dX8_advances_162 (by decide) (fun c_162 => ?_) (fun c_162 => ?_)
        · refine hc_iload_n C dX8_advances_169 rfl rfl ?_
          refine hc_bipush C dX8_advances_170 (v := 59) rfl ?_
          refine hc_icmp_ne C (tgt := 179) dX8_advances_172 (by decide) (fun c_172 => ?_) (fun c_172 => ?_)
          · refine hc_iconst C dX8_advances_179 (v := 5) rfl ?_
            refine hc_top (v := rKd (rBt (M 53) n r.2.2.1)) ?_ ?_
            · symm
              unfold rKd
              first
                | exact if_neg c_137
                | exact (if_pos c_137).trans (if_pos (hb_nz.mp c_152))
                | exact (if_pos c_137).trans ((if_neg (hb_z.mp c_152)).trans (if_pos c_162))
                | exact (if_pos c_137).trans ((if_neg (hb_z.mp c_152)).trans ((if_neg c_162).trans (if_pos c_172)))
                | exact (if_pos c_137).trans ((if_neg (hb_z.mp c_152)).trans ((if_neg c_162).trans (if_neg c_172)))
            refine hc_putI C fl_X8_98 pl_6_11 rfl rfl dX8_advances_180 ?_
            refine hc_mem (mR_11 _) ?_
            refine hc_aload_n C dX8_advances_183 rfl rfl ?_
            refine hc_dup C dX8_advances_184 rfl ?_
            refine hc_getI C fl_X8_86 rfl rfl dX8_advances_185 ?_
            refine hc_top (v := nI r.2.2.1) rfl ?_
            refine hc_aload_n C dX8_advances_188 rfl rfl ?_
            refine hc_getI C fl_X8_98 rfl rfl dX8_advances_189 ?_
            refine hc_top (v := rKd (rBt (M 53) n r.2.2.1)) rfl ?_
            refine hc_if_ne C (tgt := 199) dX8_advances_192 (by decide) (fun c_192 => ?_) (fun c_192 => ?_)
            · refine hc_iconst C dX8_advances_199 (v := 1) rfl ?_
              refine hc_iadd C dX8_advances_200 ?_
              refine hc_top (v := nI (if rKd (rBt (M 53) n r.2.2.1) = 0 then r.2.2.1 else r.2.2.1 + 1)) ?_ ?_
              · first | (rw [if_pos c_192]; exact Int32.add_zero _) | (rw [if_neg c_192]; exact nI_1 _)
              refine hc_putI C fl_X8_86 pl_6_9 rfl rfl dX8_advances_201 ?_
              refine hc_mem (mR_9 _) ?_
              refine hc_vret C rfl dX8_advances_204 ?_
              show mR M (rAdv (M 53) n r) = _
              unfold rAdv
              rw [if_neg (hb_z.mp c_30)]
            · refine hc_iconst C dX8_advances_195 (v := 0) rfl ?_
              refine hc_goto C (tgt := 200) dX8_advances_196 (by decide) ?_
              refine hc_iadd C dX8_advances_200 ?_
              refine hc_top (v := nI (if rKd (rBt (M 53) n r.2.2.1) = 0 then r.2.2.1 else r.2.2.1 + 1)) ?_ ?_
              · first | (rw [if_pos c_192]; exact Int32.add_zero _) | (rw [if_neg c_192]; exact nI_1 _)
              refine hc_putI C fl_X8_86 pl_6_9 rfl rfl dX8_advances_201 ?_
              refine hc_mem (mR_9 _) ?_
              refine hc_vret C rfl dX8_advances_204 ?_
              show mR M (rAdv (M 53) n r) = _
              unfold rAdv
              rw [if_neg (hb_z.mp c_30)]
          · refine hc_iconst C dX8_advances_175 (v := 4) rfl ?_
            refine hc_goto C (tgt := 180) dX8_advances_176 (by decide) ?_
            refine hc_top (v := rKd (rBt (M 53) n r.2.2.1)) ?_ ?_
            · symm
              unfold rKd
              first
                | exact if_neg c_137
                | exact (if_pos c_137).trans (if_pos (hb_nz.mp c_152))
                | exact (if_pos c_137).trans ((if_neg (hb_z.mp c_152)).trans (if_pos c_162))
                | exact (if_pos c_137).trans ((if_neg (hb_z.mp c_152)).trans ((if_neg c_162).trans (if_pos c_172)))
                | exact (if_pos c_137).trans ((if_neg (hb_z.mp c_152)).trans ((if_neg c_162).trans (if_neg c_172)))
            refine hc_putI C fl_X8_98 pl_6_11 rfl rfl dX8_advances_180 ?_
            refine hc_mem (mR_11 _) ?_
            refine hc_aload_n C dX8_advances_183 rfl rfl ?_
            refine hc_dup C dX8_advances_184 rfl ?_
            refine hc_getI C fl_X8_86 rfl rfl dX8_advances_185 ?_
            refine hc_top (v := nI r.2.2.1) rfl ?_
            refine hc_aload_n C dX8_advances_188 rfl rfl ?_
            refine hc_getI C fl_X8_98 rfl rfl dX8_advances_189 ?_
            refine hc_top (v := rKd (rBt (M 53) n r.2.2.1)) rfl ?_
            refine hc_if_ne C (tgt := 199) dX8_advances_192 (by decide) (fun c_192 => ?_) (fun c_192 => ?_)
            · refine hc_iconst C dX8_advances_199 (v := 1) rfl ?_
              refine hc_iadd C dX8_advances_200 ?_
              refine hc_top (v := nI (if rKd (rBt (M 53) n r.2.2.1) = 0 then r.2.2.1 else r.2.2.1 + 1)) ?_ ?_
              · first | (rw [if_pos c_192]; exact Int32.add_zero _) | (rw [if_neg c_192]; exact nI_1 _)
              refine hc_putI C fl_X8_86 pl_6_9 rfl rfl dX8_advances_201 ?_
              refine hc_mem (mR_9 _) ?_
              refine hc_vret C rfl dX8_advances_204 ?_
              show mR M (rAdv (M 53) n r) = _
              unfold rAdv
              rw [if_neg (hb_z.mp c_30)]
            · refine hc_iconst C dX8_advances_195 (v := 0) rfl ?_
              refine hc_goto C (tgt := 200) dX8_advances_196 (by decide) ?_
              refine hc_iadd C dX8_advances_200 ?_
              refine hc_top (v := nI (if rKd (rBt (M 53) n r.2.2.1) = 0 then r.2.2.1 else r.2.2.1 + 1)) ?_ ?_
              · first | (rw [if_pos c_192]; exact Int32.add_zero _) | (rw [if_neg c_192]; exact nI_1 _)
              refine hc_putI C fl_X8_86 pl_6_9 rfl rfl dX8_advances_201 ?_
              refine hc_mem (mR_9 _) ?_
              refine hc_vret C rfl dX8_advances_204 ?_
              show mR M (rAdv (M 53) n r) = _
              unfold rAdv
              rw [if_neg (hb_z.mp c_30)]
        · refine hc_iconst C dX8_advances_165 (v := 3) rfl ?_
          refine hc_goto C (tgt := 180) dX8_advances_166 (by decide) ?_
          refine hc_top (v := rKd (rBt (M 53) n r.2.2.1)) ?_ ?_
          · symm
            unfold rKd
            first
              | exact if_neg c_137
              | exact (if_pos c_137).trans (if_pos (hb_nz.mp c_152))
              | exact (if_pos c_137).trans ((if_neg (hb_z.mp c_152)).trans (if_pos c_162))
              | exact (if_pos c_137).trans ((if_neg (hb_z.mp c_152)).trans ((if_neg c_162).trans (if_pos c_172)))
              | exact (if_pos c_137).trans ((if_neg (hb_z.mp c_152)).trans ((if_neg c_162).trans (if_neg c_172)))
          refine hc_putI C fl_X8_98 pl_6_11 rfl rfl dX8_advances_180 ?_
          refine hc_mem (mR_11 _) ?_
          refine hc_aload_n C dX8_advances_183 rfl rfl ?_
          refine hc_dup C dX8_advances_184 rfl ?_
          refine hc_getI C fl_X8_86 rfl rfl dX8_advances_185 ?_
          refine hc_top (v := nI r.2.2.1) rfl ?_
          refine hc_aload_n C dX8_advances_188 rfl rfl ?_
          refine hc_getI C fl_X8_98 rfl rfl dX8_advances_189 ?_
          refine hc_top (v := rKd (rBt (M 53) n r.2.2.1)) rfl ?_
          refine hc_if_ne C (tgt := 199) dX8_advances_192 (by decide) (fun c_192 => ?_) (fun c_192 => ?_)
          · refine hc_iconst C dX8_advances_199 (v := 1) rfl ?_
            refine hc_iadd C dX8_advances_200 ?_
            refine hc_top (v := nI (if rKd (rBt (M 53) n r.2.2.1) = 0 then r.2.2.1 else r.2.2.1 + 1)) ?_ ?_
            · first | (rw [if_pos c_192]; exact Int32.add_zero _) | (rw [if_neg c_192]; exact nI_1 _)
            refine hc_putI C fl_X8_86 pl_6_9 rfl rfl dX8_advances_201 ?_
            refine hc_mem (mR_9 _) ?_
            refine hc_vret C rfl dX8_advances_204 ?_
            show mR M (rAdv (M 53) n r) = _
            unfold rAdv
            rw [if_neg (hb_z.mp c_30)]
          · refine hc_iconst C dX8_advances_195 (v := 0) rfl ?_
            refine hc_goto C (tgt := 200) dX8_advances_196 (by decide) ?_
            refine hc_iadd C dX8_advances_200 ?_
            refine hc_top (v := nI (if rKd (rBt (M 53) n r.2.2.1) = 0 then r.2.2.1 else r.2.2.1 + 1)) ?_ ?_
            · first | (rw [if_pos c_192]; exact Int32.add_zero _) | (rw [if_neg c_192]; exact nI_1 _)
            refine hc_putI C fl_X8_86 pl_6_9 rfl rfl dX8_advances_201 ?_
            refine hc_mem (mR_9 _) ?_
            refine hc_vret C rfl dX8_advances_204 ?_
            show mR M (rAdv (M 53) n r) = _
            unfold rAdv
            rw [if_neg (hb_z.mp c_30)]
      · refine hc_iconst C dX8_advances_155 (v := 1) rfl ?_
        refine hc_goto C (tgt := 180) dX8_advances_156 (by decide) ?_
        refine hc_top (v := rKd (rBt (M 53) n r.2.2.1)) ?_ ?_
        · symm
          unfold rKd
          first
            | exact if_neg c_137
            | exact (if_pos c_137).trans (if_pos (hb_nz.mp c_152))
            | exact (if_pos c_137).trans ((if_neg (hb_z.mp c_152)).trans (if_pos c_162))
            | exact (if_pos c_137).trans ((if_neg (hb_z.mp c_152)).trans ((if_neg c_162).trans (if_pos c_172)))
            | exact (if_pos c_137).trans ((if_neg (hb_z.mp c_152)).trans ((if_neg c_162).trans (if_neg c_172)))
        refine hc_putI C fl_X8_98 pl_6_11 rfl rfl dX8_advances_180 ?_
        refine hc_mem (mR_11 _) ?_
        refine hc_aload_n C dX8_advances_183 rfl rfl ?_
        refine hc_dup C dX8_advances_184 rfl ?_
        refine hc_getI C fl_X8_86 rfl rfl dX8_advances_185 ?_
        refine hc_top (v := nI r.2.2.1) rfl ?_
        refine hc_aload_n C dX8_advances_188 rfl rfl ?_
        refine hc_getI C fl_X8_98 rfl rfl dX8_advances_189 ?_
        refine hc_top (v := rKd (rBt (M 53) n r.2.2.1)) rfl ?_
        refine hc_if_ne C (tgt := 199) dX8_advances_192 (by decide) (fun c_192 => ?_) (fun c_192 => ?_)
        · refine hc_iconst C dX8_advances_199 (v := 1) rfl ?_
          refine hc_iadd C dX8_advances_200 ?_
          refine hc_top (v := nI (if rKd (rBt (M 53) n r.2.2.1) = 0 then r.2.2.1 else r.2.2.1 + 1)) ?_ ?_
          · first | (rw [if_pos c_192]; exact Int32.add_zero _) | (rw [if_neg c_192]; exact nI_1 _)
          refine hc_putI C fl_X8_86 pl_6_9 rfl rfl dX8_advances_201 ?_
          refine hc_mem (mR_9 _) ?_
          refine hc_vret C rfl dX8_advances_204 ?_
          show mR M (rAdv (M 53) n r) = _
          unfold rAdv
          rw [if_neg (hb_z.mp c_30)]
        · refine hc_iconst C dX8_advances_195 (v := 0) rfl ?_
          refine hc_goto C (tgt := 200) dX8_advances_196 (by decide) ?_
          refine hc_iadd C dX8_advances_200 ?_
          refine hc_top (v := nI (if rKd (rBt (M 53) n r.2.2.1) = 0 then r.2.2.1 else r.2.2.1 + 1)) ?_ ?_
          · first | (rw [if_pos c_192]; exact Int32.add_zero _) | (rw [if_neg c_192]; exact nI_1 _)
          refine hc_putI C fl_X8_86 pl_6_9 rfl rfl dX8_advances_201 ?_
          refine hc_mem (mR_9 _) ?_
          refine hc_vret C rfl dX8_advances_204 ?_
          show mR M (rAdv (M 53) n r) = _
          unfold rAdv
          rw [if_neg (hb_z.mp c_30)]
    · refine hc_iconst C dX8_advances_140 (v := 0) rfl ?_
      refine hc_goto C (tgt := 180) dX8_advances_141 (by decide) ?_
      refine hc_top (v := rKd (rBt (M 53) n r.2.2.1)) ?_ ?_
      · symm
        unfold rKd
        first
          | exact if_neg c_137
          | exact (if_pos c_137).trans (if_pos (hb_nz.mp c_152))
          | exact (if_pos c_137).trans ((if_neg (hb_z.mp c_152)).trans (if_pos c_162))
          | exact (if_pos c_137).trans ((if_neg (hb_z.mp c_152)).trans ((if_neg c_162).trans (if_pos c_172)))
          | exact (if_pos c_137).trans ((if_neg (hb_z.mp c_152)).trans ((if_neg c_162).trans (if_neg c_172)))
      refine hc_putI C fl_X8_98 pl_6_11 rfl rfl dX8_advances_180 ?_
      refine hc_mem (mR_11 _) ?_
      refine hc_aload_n C dX8_advances_183 rfl rfl ?_
      refine hc_dup C dX8_advances_184 rfl ?_
      refine hc_getI C fl_X8_86 rfl rfl dX8_advances_185 ?_
      refine hc_top (v := nI r.2.2.1) rfl ?_
      refine hc_aload_n C dX8_advances_188 rfl rfl ?_
      refine hc_getI C fl_X8_98 rfl rfl dX8_advances_189 ?_
      refine hc_top (v := rKd (rBt (M 53) n r.2.2.1)) rfl ?_
      refine hc_if_ne C (tgt := 199) dX8_advances_192 (by decide) (fun c_192 => ?_) (fun c_192 => ?_)
      · refine hc_iconst C dX8_advances_199 (v := 1) rfl ?_
        refine hc_iadd C dX8_advances_200 ?_
        refine hc_top (v := nI (if rKd (rBt (M 53) n r.2.2.1) = 0 then r.2.2.1 else r.2.2.1 + 1)) ?_ ?_
        · first | (rw [if_pos c_192]; exact Int32.add_zero _) | (rw [if_neg c_192]; exact nI_1 _)
        refine hc_putI C fl_X8_86 pl_6_9 rfl rfl dX8_advances_201 ?_
        refine hc_mem (mR_9 _) ?_
        refine hc_vret C rfl dX8_advances_204 ?_
        show mR M (rAdv (M 53) n r) = _
        unfold rAdv
        rw [if_neg (hb_z.mp c_30)]
      · refine hc_iconst C dX8_advances_195 (v := 0) rfl ?_
        refine hc_goto C (tgt := 200) dX8_advances_196 (by decide) ?_
        refine hc_iadd C dX8_advances_200 ?_
        refine hc_top (v := nI (if rKd (rBt (M 53) n r.2.2.1) = 0 then r.2.2.1 else r.2.2.1 + 1)) ?_ ?_
        · first | (rw [if_pos c_192]; exact Int32.add_zero _) | (rw [if_neg c_192]; exact nI_1 _)
        refine hc_putI C fl_X8_86 pl_6_9 rfl rfl dX8_advances_201 ?_
        refine hc_mem (mR_9 _) ?_
        refine hc_vret C rfl dX8_advances_204 ?_
        show mR M (rAdv (M 53) n r) = _
        unfold rAdv
        rw [if_neg (hb_z.mp c_30)]
  · refine hc_aload_n C dX8_advances_33 rfl rfl ?_
    refine hc_iconst C dX8_advances_34 (v := 0) rfl ?_
    refine hc_putI C fl_X8_95 pl_6_12 rfl rfl dX8_advances_35 ?_
    refine hc_mem (mR_12 _) ?_
    refine lp_Radv (qq := (rDg (M 53) n r.2.2.1 (n - r.2.2.1) r.2.2.1 0)) C (by decide) hn hn1 ?_ (n - r.2.2.1) r.2.2.1 0 (by omega) rfl
    refine hc_aload_n C dX8_advances_112 rfl rfl ?_
    refine hc_aload_n C dX8_advances_113 rfl rfl ?_
    refine hc_getI C fl_X8_86 rfl rfl dX8_advances_114 ?_
    refine hc_top (v := nI (rDg (M 53) n r.2.2.1 (n - r.2.2.1) r.2.2.1 0).1) rfl ?_
    refine hc_aload_n C dX8_advances_117 rfl rfl ?_
    refine hc_getI C fl_X8_89 rfl rfl dX8_advances_118 ?_
    refine hc_top (v := nI r.2.2.1) rfl ?_
    refine hc_isub C dX8_advances_121 ?_
    refine hc_iconst C dX8_advances_122 (v := 3) rfl ?_
    refine hc_icmp_ge C (tgt := 130) dX8_advances_123 (by decide) (fun c_123 => ?_) (fun c_123 => ?_)
    · refine hc_iconst C dX8_advances_130 (v := 5) rfl ?_
      refine hc_putI C fl_X8_98 pl_6_11 rfl rfl dX8_advances_131 ?_
      refine hc_mem (mR_11 _) ?_
      refine hc_vret C rfl dX8_advances_134 ?_
      show mR M (rAdv (M 53) n r) = _
      unfold rAdv
      rw [if_pos (hb_nz.mp c_30)]
      first | rw [if_pos c_123] | rw [if_neg c_123]
    · refine hc_iconst C dX8_advances_126 (v := 2) rfl ?_
      refine hc_goto C (tgt := 131) dX8_advances_127 (by decide) ?_
      refine hc_putI C fl_X8_98 pl_6_11 rfl rfl dX8_advances_131 ?_
      refine hc_mem (mR_11 _) ?_
      refine hc_vret C rfl dX8_advances_134 ?_
      show mR M (rAdv (M 53) n r) = _
      unfold rAdv
      rw [if_pos (hb_nz.mp c_30)]
      first | rw [if_pos c_123] | rw [if_neg c_123]
