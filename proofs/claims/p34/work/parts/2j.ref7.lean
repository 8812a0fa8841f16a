def rLk (c : Nat → Int32) (k : Nat) (w : Int32) : Nat → Int32
  | 0 => -1000000
  | i + 1 => if c k < c i + 12 * w then rLk c k w i else nI i
/-- the hands go so -/
abbrev rSo (f : Nat → Int32) (E D : Nat) (it : Nat → Int32) (n : Nat) : Prop := ∀ t, t < n → rGo (rIter E D t f) E = it t
theorem rSo_c {f g : Nat → Int32} {E D : Nat} {it jt : Nat → Int32} {n : Nat} (hE : E ≤ 6) (hD : D ≤ 4) (h : rAg f g) (hi : it = jt) : rSo f E D it n ↔ rSo g E D jt n := by
  subst hi
  constructor
  · intro q t ht; rw [← q t ht]; exact (rGo_c (rIter_c hE hD t h) hE).symm
  · intro q t ht; rw [← q t ht]; exact rGo_c (rIter_c hE hD t h) hE
def rHd (f : Nat → Int32) (E D : Nat) (it : Nat → Int32) (n e : Nat) : Nat → Int32
  | 0 => 0
  | k + 1 => rHd f E D it n e k ||| (if rSo (upd f (6 + 7 * e + 1) (nI (k + 1))) E D it n then (1 : Int32) <<< ((nI (k + 1) - 1) &&& 31) else 0)
def rWf (f : Nat → Int32) (s : Int32) : Nat → (Nat → Int32)
  | 0 => f
  | e + 1 => upd (upd (rWf f s e) (6 + 7 * e + 5) 0) (6 + 7 * e + 2) (if hIn s (nI e) then 0 else 1)
def rWc (f : Nat → Int32) (E D : Nat) (it : Nat → Int32) (n : Nat) : Nat → Int32
  | 0 => 0
  | s + 1 => rWc f E D it n s + (if rSo (rWf f (nI s) E) E D it n then 1 else 0)
def rWl (f : Nat → Int32) (E D : Nat) (it : Nat → Int32) (n : Nat) : Nat → Int32
  | 0 => -1000000
  | s + 1 => if rSo (rWf f (nI s) E) E D it n ∧ rWc f E D it n s = 0 then nI s else rWl f E D it n s
theorem rWf_c {f g : Nat → Int32} {s : Int32} (h : rAg f g) : ∀ e, rAg (rWf f s e) (rWf g s e) := by
  intro e
  induction e with
  | zero => exact h
  | succ e ih => exact rAg.upd (rAg.upd ih rfl) rfl
theorem rWf_o {f : Nat → Int32} {s : Int32} {j : Nat} (hj : j < 6) : ∀ e, rWf f s e j = f j := by
  intro e
  induction e with
  | zero => rfl
  | succ e ih => unfold rWf upd; rw [if_neg (by omega), if_neg (by omega)]; exact ih
theorem hx_shE {E : Nat} {x : Int32} (hx : x = nI E) (h : E ≤ 6) : (1 : Int32) <<< (x &&& 31) = nI (2 ^ E) := by
  subst hx
  have : E = 0 ∨ E = 1 ∨ E = 2 ∨ E = 3 ∨ E = 4 ∨ E = 5 ∨ E = 6 := by omega
  rcases this with h | h | h | h | h | h | h <;> subst h <;> decide
theorem hx_p6 {E : Nat} (h : E ≤ 6) : 2 ^ E ≤ 64 := by
  have : E = 0 ∨ E = 1 ∨ E = 2 ∨ E = 3 ∨ E = 4 ∨ E = 5 ∨ E = 6 := by omega
  rcases this with h | h | h | h | h | h | h <;> subst h <;> decide

set_option maxRecDepth 100000 in
set_option maxHeartbeats 4000000 in
theorem c_X8_latest_0 {l : Launch} {G : hc_Geo} (hG : hc_ok G) {M : hc_Mem} {E D x : Nat}  (hE : M 54 4 = nI E) (hE6 : E ≤ 6) (hD : M 54 5 = nI D) (hD4 : D ≤ 4) (hx : x < D) (h2 : (M 54 (48 + 5 * x + 2) - M 54 2) ≤ 0) : hc_M l G yX8_latest cX8_latest 6 (some .int) 8 [.ref (hc_ad G 48), .int (nI x)] M (hc_pi (fun z M' => -1000000 = z ∧ ∀ q, q ≠ 59 → q ≠ 60 → M' q = M q)) := by
  refine hc_M.of hG (by decide) [some (.ref (hc_ad G 48)), some (.int (nI x)), none, none, none, none] rfl (Nat.le_of_ble_eq_true rfl) ?_
  intro p e s m args below meth c C
  refine hc_aload_n C dX8_latest_0 rfl rfl ?_
  refine hc_iload_n C dX8_latest_1 rfl rfl ?_
  refine hc_cV1i C mv_X8_194 (c_X8_isDoing C.ok hD (by omega)) rfl rfl rfl (Nat.le_of_ble_eq_true rfl) (hc_rr_rm (by decide)) ⟨Nat.zero_le _, Nat.zero_le _⟩ dX8_latest_2 (fun r_2 M_2 h_2 => ?_)
  obtain ⟨rfl, rfl⟩ := h_2
  refine hc_if_ne C (tgt := 11) dX8_latest_5 (by decide) (fun c_5 => ?_) (fun c_5 => ?_)
  rotate_left
  · exact absurd (hx_earR hD (show D ≤ 6 by omega) hx) (hb_z.mp c_5)
  refine hc_aload_n C dX8_latest_11 rfl rfl ?_
  refine hc_cV0v C mv_X8_191 (c_X8_lays C.ok hE hE6 hD hD4) rfl rfl rfl (Nat.le_of_ble_eq_true rfl) (hc_rr_rm (by decide)) ⟨Nat.zero_le _, Nat.zero_le _⟩ dX8_latest_12 (fun M_12 h_12 => ?_)
  have hAg := h_12.1
  have hCo := h_12.2.1
  have hSc := h_12.2.2
  have h54 : M_12 54 = M 54 := hSc 54 (by decide) (by decide)
  refine hc_bipush C dX8_latest_15 (v := 48) rfl ?_
  refine hc_iconst C dX8_latest_17 (v := 5) rfl ?_
  refine hc_iload_n C dX8_latest_18 rfl rfl ?_
  refine hc_imul C dX8_latest_19 ?_
  refine hc_iadd C dX8_latest_20 ?_
  refine hc_top (hx_50 x) ?_
  refine hc_istore_n2 C dX8_latest_21 rfl (by decide) rfl ?_
  refine hc_aload_n C dX8_latest_22 rfl rfl ?_
  refine hc_getR C fl_X8_25 rfl rfl dX8_latest_23 ?_
  refine hc_iload_n C dX8_latest_26 rfl rfl ?_
  refine hc_iconst C dX8_latest_27 (v := 2) rfl ?_
  refine hc_iadd C dX8_latest_28 ?_
  refine hc_ialdN C (j := (48 + 5 * x + 2)) rfl (show nI (48 + 5 * x) + nI 2 = nI (48 + 5 * x + 2) from nI_add _ _) (by omega) dX8_latest_29 ?_
  refine hc_aload_n C dX8_latest_30 rfl rfl ?_
  refine hc_getR C fl_X8_25 rfl rfl dX8_latest_31 ?_
  refine hc_iconst C dX8_latest_34 (v := 2) rfl ?_
  refine hc_ialdN C (j := 2) rfl rfl (by decide) dX8_latest_35 ?_
  refine hc_isub C dX8_latest_36 ?_
  refine hc_top (v := (M 54 (48 + 5 * x + 2) - M 54 2)) (by rw [h54]) ?_
  refine hc_istore_n3 C dX8_latest_37 rfl (by decide) rfl ?_
  refine hc_ldc C kc_X8_50 dX8_latest_38 ?_
  refine hc_istore4 C dX8_latest_40 (by decide) rfl ?_
  refine hc_iconst C dX8_latest_42 (v := 0) rfl ?_
  refine hc_istore5 C dX8_latest_43 (by decide) rfl ?_
  refine hc_iload C dX8_latest_45 rfl ?_
  refine hc_iload_n C dX8_latest_47 rfl rfl ?_
  refine hc_icmp_ge C (tgt := 107) dX8_latest_48 (by decide) (fun c_48 => ?_) (fun c_48 => ?_)
  rotate_left
  · exact absurd h2 c_48
  refine hc_iload C dX8_latest_107 rfl ?_
  refine hc_iret C rfl dX8_latest_109 ?_
  exact ⟨rfl, hSc⟩

set_option maxRecDepth 100000 in
set_option maxHeartbeats 4000000 in
theorem lp_latest1 {G : hc_Geo} {p : Program} {l : Launch} {e : Env} {d : Nat} {s : State} {m : MethodId} {args : Array Value} {below : List Frame} {meth : Method} {c : Code} {Q : State → Prop} (C : hc_Cx G hc_lay cX8_latest 6 (some .int) yX8_latest.cls p s m args meth c) {M : hc_Mem} {x : Nat} {dd : Int32} (h2 : 100 ≤ dd) 
    (kk : hc_W G hc_lay p l e (hc_rm d) s m args below meth c 6 0 0 Q 107 [some (.ref (hc_ad G 48)), some (.int (nI x)), some (.int (nI (48 + 5 * x))), some (.int dd), some (.int (-1000000)), some (.int (nI 100))] [] M) :
    ∀ (t : Nat) (i : Nat), i + t = 100 → hc_W G hc_lay p l e (hc_rm d) s m args below meth c 6 0 0 Q 45 [some (.ref (hc_ad G 48)), some (.int (nI x)), some (.int (nI (48 + 5 * x))), some (.int dd), some (.int (-1000000)), some (.int (nI i))] [] M := by
  intro t
  induction t with
  | zero =>
    intro i hi
    refine hc_iload C dX8_latest_45 rfl ?_
    refine hc_iload_n C dX8_latest_47 rfl rfl ?_
    refine hc_icmp_ge C (tgt := 107) dX8_latest_48 (by decide) (fun c_48 => ?_) (fun c_48 => ?_)
    · rw [show i = 100 by omega]
      exact kk
    refine hc_iload C dX8_latest_51 rfl ?_
    refine hc_bipush C dX8_latest_53 (v := 100) rfl ?_
    refine hc_icmp_ge C (tgt := 107) dX8_latest_55 (by decide) (fun c_55 => ?_) (fun c_55 => ?_)
    rotate_left
    · exact absurd (show nI 100 ≤ nI i from nI_le (by omega) (by omega)) c_55
    rw [show i = 100 by omega]
    exact kk
  | succ t ih =>
    intro i hi
    refine hc_iload C dX8_latest_45 rfl ?_
    refine hc_iload_n C dX8_latest_47 rfl rfl ?_
    refine hc_icmp_ge C (tgt := 107) dX8_latest_48 (by decide) (fun c_48 => ?_) (fun c_48 => ?_)
    · exact absurd (show nI 100 ≤ nI i from Int32.le_trans h2 c_48) (nI_ge (show i < 100 by omega) (by omega))
    refine hc_iload C dX8_latest_51 rfl ?_
    refine hc_bipush C dX8_latest_53 (v := 100) rfl ?_
    refine hc_icmp_ge C (tgt := 107) dX8_latest_55 (by decide) (fun c_55 => ?_) (fun c_55 => ?_)
    · exact absurd (show nI 100 ≤ nI i from c_55) (nI_ge (show i < 100 by omega) (by omega))
    refine hc_iload_n C dX8_latest_58 rfl rfl ?_
    refine hc_bipush C dX8_latest_59 (v := 100) rfl ?_
    refine hc_icmp_ge C (tgt := 97) dX8_latest_61 (by decide) (fun c_61 => ?_) (fun c_61 => ?_)
    rotate_left
    · exact absurd h2 c_61
    refine hc_iload C dX8_latest_97 rfl ?_
    refine hc_istore4 C dX8_latest_99 (by decide) rfl ?_
    refine hc_iinc5 C (v := nI (i + 1)) dX8_latest_101 (by decide) rfl rfl (nI_1 i) ?_
    refine hc_goto C (tgt := 45) dX8_latest_104 (by decide) ?_
    exact ih (i + 1) (by omega)

set_option maxRecDepth 100000 in
set_option maxHeartbeats 4000000 in
theorem c_X8_latest_1 {l : Launch} {G : hc_Geo} (hG : hc_ok G) {M : hc_Mem} {E D x : Nat}  (hE : M 54 4 = nI E) (hE6 : E ≤ 6) (hD : M 54 5 = nI D) (hD4 : D ≤ 4) (hx : x < D) (h2 : 100 ≤ (M 54 (48 + 5 * x + 2) - M 54 2)) : hc_M l G yX8_latest cX8_latest 6 (some .int) 8 [.ref (hc_ad G 48), .int (nI x)] M (hc_pi (fun z M' => -1000000 = z ∧ ∀ q, q ≠ 59 → q ≠ 60 → M' q = M q)) := by
  refine hc_M.of hG (by decide) [some (.ref (hc_ad G 48)), some (.int (nI x)), none, none, none, none] rfl (Nat.le_of_ble_eq_true rfl) ?_
  intro p e s m args below meth c C
  refine hc_aload_n C dX8_latest_0 rfl rfl ?_
  refine hc_iload_n C dX8_latest_1 rfl rfl ?_
  refine hc_cV1i C mv_X8_194 (c_X8_isDoing C.ok hD (by omega)) rfl rfl rfl (Nat.le_of_ble_eq_true rfl) (hc_rr_rm (by decide)) ⟨Nat.zero_le _, Nat.zero_le _⟩ dX8_latest_2 (fun r_2 M_2 h_2 => ?_)
  obtain ⟨rfl, rfl⟩ := h_2
  refine hc_if_ne C (tgt := 11) dX8_latest_5 (by decide) (fun c_5 => ?_) (fun c_5 => ?_)
  rotate_left
  · exact absurd (hx_earR hD (show D ≤ 6 by omega) hx) (hb_z.mp c_5)
  refine hc_aload_n C dX8_latest_11 rfl rfl ?_
  refine hc_cV0v C mv_X8_191 (c_X8_lays C.ok hE hE6 hD hD4) rfl rfl rfl (Nat.le_of_ble_eq_true rfl) (hc_rr_rm (by decide)) ⟨Nat.zero_le _, Nat.zero_le _⟩ dX8_latest_12 (fun M_12 h_12 => ?_)
  have hAg := h_12.1
  have hCo := h_12.2.1
  have hSc := h_12.2.2
  have h54 : M_12 54 = M 54 := hSc 54 (by decide) (by decide)
  refine hc_bipush C dX8_latest_15 (v := 48) rfl ?_
  refine hc_iconst C dX8_latest_17 (v := 5) rfl ?_
  refine hc_iload_n C dX8_latest_18 rfl rfl ?_
  refine hc_imul C dX8_latest_19 ?_
  refine hc_iadd C dX8_latest_20 ?_
  refine hc_top (hx_50 x) ?_
  refine hc_istore_n2 C dX8_latest_21 rfl (by decide) rfl ?_
  refine hc_aload_n C dX8_latest_22 rfl rfl ?_
  refine hc_getR C fl_X8_25 rfl rfl dX8_latest_23 ?_
  refine hc_iload_n C dX8_latest_26 rfl rfl ?_
  refine hc_iconst C dX8_latest_27 (v := 2) rfl ?_
  refine hc_iadd C dX8_latest_28 ?_
  refine hc_ialdN C (j := (48 + 5 * x + 2)) rfl (show nI (48 + 5 * x) + nI 2 = nI (48 + 5 * x + 2) from nI_add _ _) (by omega) dX8_latest_29 ?_
  refine hc_aload_n C dX8_latest_30 rfl rfl ?_
  refine hc_getR C fl_X8_25 rfl rfl dX8_latest_31 ?_
  refine hc_iconst C dX8_latest_34 (v := 2) rfl ?_
  refine hc_ialdN C (j := 2) rfl rfl (by decide) dX8_latest_35 ?_
  refine hc_isub C dX8_latest_36 ?_
  refine hc_top (v := (M 54 (48 + 5 * x + 2) - M 54 2)) (by rw [h54]) ?_
  refine hc_istore_n3 C dX8_latest_37 rfl (by decide) rfl ?_
  refine hc_ldc C kc_X8_50 dX8_latest_38 ?_
  refine hc_istore4 C dX8_latest_40 (by decide) rfl ?_
  refine hc_iconst C dX8_latest_42 (v := 0) rfl ?_
  refine hc_istore5 C dX8_latest_43 (by decide) rfl ?_
  refine lp_latest1 C h2 ?_ 100 0 rfl
  refine hc_iload C dX8_latest_107 rfl ?_
  refine hc_iret C rfl dX8_latest_109 ?_
  exact ⟨rfl, hSc⟩

set_option maxRecDepth 100000 in
set_option maxHeartbeats 4000000 in
theorem lp_latest2 {G : hc_Geo} {p : Program} {l : Launch} {e : Env} {d : Nat} {s : State} {m : MethodId} {args : Array Value} {below : List Frame} {meth : Method} {c : Code} {Q : State → Prop} (C : hc_Cx G hc_lay cX8_latest 6 (some .int) yX8_latest.cls p s m args meth c) {M : hc_Mem} {x k : Nat} {cc : Nat → Int32} {w : Int32} (hx : x < 4) (hk : k < 100) (hc : ∀ t, t < 100 → M 60 t = cc t) (hw : M 54 (48 + 5 * x + 1) = w) 
    (kk : hc_W G hc_lay p l e (hc_rm d) s m args below meth c 6 0 0 Q 107 [some (.ref (hc_ad G 48)), some (.int (nI x)), some (.int (nI (48 + 5 * x))), some (.int (nI k)), some (.int (rLk cc k w k)), some (.int (nI k))] [] M) :
    ∀ (t : Nat) (i : Nat), i + t = k → hc_W G hc_lay p l e (hc_rm d) s m args below meth c 6 0 0 Q 45 [some (.ref (hc_ad G 48)), some (.int (nI x)), some (.int (nI (48 + 5 * x))), some (.int (nI k)), some (.int (rLk cc k w i)), some (.int (nI i))] [] M := by
  intro t
  induction t with
  | zero =>
    intro i hi
    refine hc_iload C dX8_latest_45 rfl ?_
    refine hc_iload_n C dX8_latest_47 rfl rfl ?_
    refine hc_icmp_ge C (tgt := 107) dX8_latest_48 (by decide) (fun c_48 => ?_) (fun c_48 => ?_)
    rotate_left
    · exact absurd (nI_le (show k ≤ i by omega) (by omega)) c_48
    rw [show i = k by omega]
    exact kk
  | succ t ih =>
    intro i hi
    refine hc_iload C dX8_latest_45 rfl ?_
    refine hc_iload_n C dX8_latest_47 rfl rfl ?_
    refine hc_icmp_ge C (tgt := 107) dX8_latest_48 (by decide) (fun c_48 => ?_) (fun c_48 => ?_)
    · exact absurd c_48 (nI_ge (show i < k by omega) (by omega))
    refine hc_iload C dX8_latest_51 rfl ?_
    refine hc_bipush C dX8_latest_53 (v := 100) rfl ?_
    refine hc_icmp_ge C (tgt := 107) dX8_latest_55 (by decide) (fun c_55 => ?_) (fun c_55 => ?_)
    · exact absurd (show nI 100 ≤ nI i from c_55) (nI_ge (show i < 100 by omega) (by omega))
    refine hc_iload_n C dX8_latest_58 rfl rfl ?_
    refine hc_bipush C dX8_latest_59 (v := 100) rfl ?_
    refine hc_icmp_ge C (tgt := 97) dX8_latest_61 (by decide) (fun c_61 => ?_) (fun c_61 => ?_)
    · exact absurd (show nI 100 ≤ nI k from c_61) (nI_ge hk (by omega))
    refine hc_aload_n C dX8_latest_64 rfl rfl ?_
    refine hc_getR C fl_X8_44 rfl rfl dX8_latest_65 ?_
    refine hc_iload_n C dX8_latest_68 rfl rfl ?_
    refine hc_ialdN C (j := k) rfl rfl (by omega) dX8_latest_69 ?_
    rw [hc k hk]
    refine hc_aload_n C dX8_latest_70 rfl rfl ?_
    refine hc_getR C fl_X8_44 rfl rfl dX8_latest_71 ?_
    refine hc_iload C dX8_latest_74 rfl ?_
    refine hc_ialdN C (j := i) rfl rfl (by omega) dX8_latest_76 ?_
    rw [hc i (by omega)]
    refine hc_bipush C dX8_latest_77 (v := 12) rfl ?_
    refine hc_aload_n C dX8_latest_79 rfl rfl ?_
    refine hc_getR C fl_X8_25 rfl rfl dX8_latest_80 ?_
    refine hc_iload_n C dX8_latest_83 rfl rfl ?_
    refine hc_iconst C dX8_latest_84 (v := 1) rfl ?_
    refine hc_iadd C dX8_latest_85 ?_
    refine hc_ialdN C (j := (48 + 5 * x + 1)) rfl (show nI (48 + 5 * x) + nI 1 = nI (48 + 5 * x + 1) from nI_add _ _) (by omega) dX8_latest_86 ?_
    rw [hw]
    refine hc_imul C dX8_latest_87 ?_
    refine hc_iadd C dX8_latest_88 ?_
    refine hc_icmp_lt C (tgt := 97) dX8_latest_89 (by decide) (fun c_89 => ?_) (fun c_89 => ?_)
    · refine hc_iload C dX8_latest_97 rfl ?_
      refine hc_top (v := rLk cc k w (i + 1)) ?_ ?_
      · first | exact (if_pos c_89).symm | exact (if_neg c_89).symm
      refine hc_istore4 C dX8_latest_99 (by decide) rfl ?_
      refine hc_iinc5 C (v := nI (i + 1)) dX8_latest_101 (by decide) rfl rfl (nI_1 i) ?_
      refine hc_goto C (tgt := 45) dX8_latest_104 (by decide) ?_
      exact ih (i + 1) (by omega)
    · refine hc_iload C dX8_latest_92 rfl ?_
      refine hc_goto C (tgt := 99) dX8_latest_94 (by decide) ?_
      refine hc_top (v := rLk cc k w (i + 1)) ?_ ?_
      · first | exact (if_pos c_89).symm | exact (if_neg c_89).symm
      refine hc_istore4 C dX8_latest_99 (by decide) rfl ?_
      refine hc_iinc5 C (v := nI (i + 1)) dX8_latest_101 (by decide) rfl rfl (nI_1 i) ?_
      refine hc_goto C (tgt := 45) dX8_latest_104 (by decide) ?_
      exact ih (i + 1) (by omega)

set_option maxRecDepth 100000 in
set_option maxHeartbeats 4000000 in
theorem c_X8_latest_2 {l : Launch} {G : hc_Geo} (hG : hc_ok G) {M : hc_Mem} {E D x k : Nat}  (hE : M 54 4 = nI E) (hE6 : E ≤ 6) (hD : M 54 5 = nI D) (hD4 : D ≤ 4) (hx : x < D) (hk : k < 100) (h2 : (M 54 (48 + 5 * x + 2) - M 54 2) = nI k) : hc_M l G yX8_latest cX8_latest 6 (some .int) 8 [.ref (hc_ad G 48), .int (nI x)] M (hc_pi (fun z M' => rLk (fun t => rIter E D t (M 54) 3) k (M 54 (48 + 5 * x + 1)) k = z ∧ ∀ q, q ≠ 59 → q ≠ 60 → M' q = M q)) := by
  refine hc_M.of hG (by decide) [some (.ref (hc_ad G 48)), some (.int (nI x)), none, none, none, none] rfl (Nat.le_of_ble_eq_true rfl) ?_
  intro p e s m args below meth c C
  refine hc_aload_n C dX8_latest_0 rfl rfl ?_
  refine hc_iload_n C dX8_latest_1 rfl rfl ?_
  refine hc_cV1i C mv_X8_194 (c_X8_isDoing C.ok hD (by omega)) rfl rfl rfl (Nat.le_of_ble_eq_true rfl) (hc_rr_rm (by decide)) ⟨Nat.zero_le _, Nat.zero_le _⟩ dX8_latest_2 (fun r_2 M_2 h_2 => ?_)
  obtain ⟨rfl, rfl⟩ := h_2
  refine hc_if_ne C (tgt := 11) dX8_latest_5 (by decide) (fun c_5 => ?_) (fun c_5 => ?_)
  rotate_left
  · exact absurd (hx_earR hD (show D ≤ 6 by omega) hx) (hb_z.mp c_5)
  refine hc_aload_n C dX8_latest_11 rfl rfl ?_
  refine hc_cV0v C mv_X8_191 (c_X8_lays C.ok hE hE6 hD hD4) rfl rfl rfl (Nat.le_of_ble_eq_true rfl) (hc_rr_rm (by decide)) ⟨Nat.zero_le _, Nat.zero_le _⟩ dX8_latest_12 (fun M_12 h_12 => ?_)
  have hAg := h_12.1
  have hCo := h_12.2.1
  have hSc := h_12.2.2
  have h54 : M_12 54 = M 54 := hSc 54 (by decide) (by decide)
  refine hc_bipush C dX8_latest_15 (v := 48) rfl ?_
  refine hc_iconst C dX8_latest_17 (v := 5) rfl ?_
  refine hc_iload_n C dX8_latest_18 rfl rfl ?_
  refine hc_imul C dX8_latest_19 ?_
  refine hc_iadd C dX8_latest_20 ?_
  refine hc_top (hx_50 x) ?_
  refine hc_istore_n2 C dX8_latest_21 rfl (by decide) rfl ?_
  refine hc_aload_n C dX8_latest_22 rfl rfl ?_
  refine hc_getR C fl_X8_25 rfl rfl dX8_latest_23 ?_
  refine hc_iload_n C dX8_latest_26 rfl rfl ?_
  refine hc_iconst C dX8_latest_27 (v := 2) rfl ?_
  refine hc_iadd C dX8_latest_28 ?_
  refine hc_ialdN C (j := (48 + 5 * x + 2)) rfl (show nI (48 + 5 * x) + nI 2 = nI (48 + 5 * x + 2) from nI_add _ _) (by omega) dX8_latest_29 ?_
  refine hc_aload_n C dX8_latest_30 rfl rfl ?_
  refine hc_getR C fl_X8_25 rfl rfl dX8_latest_31 ?_
  refine hc_iconst C dX8_latest_34 (v := 2) rfl ?_
  refine hc_ialdN C (j := 2) rfl rfl (by decide) dX8_latest_35 ?_
  refine hc_isub C dX8_latest_36 ?_
  refine hc_top (v := nI k) (by rw [h54]; exact h2) ?_
  refine hc_istore_n3 C dX8_latest_37 rfl (by decide) rfl ?_
  refine hc_ldc C kc_X8_50 dX8_latest_38 ?_
  refine hc_istore4 C dX8_latest_40 (by decide) rfl ?_
  refine hc_iconst C dX8_latest_42 (v := 0) rfl ?_
  refine hc_istore5 C dX8_latest_43 (by decide) rfl ?_
  refine lp_latest2 (cc := fun t => rIter E D t (M 54) 3) (w := M 54 (48 + 5 * x + 1)) C (by omega) hk hCo (by rw [h54]) ?_ k 0 (by omega)
  refine hc_iload C dX8_latest_107 rfl ?_
  refine hc_iret C rfl dX8_latest_109 ?_
  exact ⟨rfl, hSc⟩

set_option maxRecDepth 100000 in
theorem lp_RgoesSo0 {G : hc_Geo} {p : Program} {l : Launch} {e : Env} {d : Nat} {s : State} {m : MethodId} {args : Array Value} {below : List Frame} {meth : Method} {c : Code} {Q : State → Prop} (C : hc_Cx G hc_lay cX8_goesSo 5 (some .boolean) yX8_goesSo.cls p s m args meth c) {M : hc_Mem} {b n i : Nat} (kk : hc_W G hc_lay p l e (hc_rm d) s m args below meth c 5 0 0 Q 53 [some (.ref (hc_ad G 48)), some (.int (nI b)), some (.int (nI n)), some (.int 0), some (.int (nI i))] [] M) : hc_W G hc_lay p l e (hc_rm d) s m args below meth c 5 0 0 Q 5 [some (.ref (hc_ad G 48)), some (.int (nI b)), some (.int (nI n)), some (.int 0), some (.int (nI i))] [] M := by
  refine hc_iload C dX8_goesSo_5 rfl ?_
  refine hc_iload_n C dX8_goesSo_7 rfl rfl ?_
  refine hc_icmp_ge C (tgt := 53) dX8_goesSo_8 (by decide) (fun c_8 => ?_) (fun c_8 => ?_)
  · exact kk
  · refine hc_iload_n C dX8_goesSo_11 rfl rfl ?_
    refine hc_if_eq C (tgt := 53) dX8_goesSo_12 (by decide) (fun c_12 => ?_) (fun c_12 => ?_)
    rotate_left
    · exact absurd rfl c_12
    exact kk

set_option maxRecDepth 100000 in
set_option maxHeartbeats 4000000 in
theorem lp_RgoesSo {G : hc_Geo} {p : Program} {l : Launch} {e : Env} {d : Nat} {s : State} {m : MethodId} {args : Array Value} {below : List Frame} {meth : Method} {c : Code} {Q : State → Prop} (C : hc_Cx G hc_lay cX8_goesSo 5 (some .boolean) yX8_goesSo.cls p s m args meth c) {M : hc_Mem} {E D b n : Nat} (hd : 5 < d) (hE : M 59 4 = nI E) (hE6 : E ≤ 6) (hD : M 59 5 = nI D) (hD4 : D ≤ 4) (hn : n ≤ 16) (hb0 : b + n ≤ 320) (kY : rSo (M 59) E D (fun t => M 51 (b + t)) n → hc_W G hc_lay p l e (hc_rm d) s m args below meth c 5 0 0 Q 53 [some (.ref (hc_ad G 48)), some (.int (nI b)), some (.int (nI n)), some (.int 1), some (.int (nI n))] [] (hc_mf M 59 (rIter E D n (M 59)))) (kN : ∀ i : Nat, ¬ rSo (M 59) E D (fun t => M 51 (b + t)) n → hc_W G hc_lay p l e (hc_rm d) s m args below meth c 5 0 0 Q 53 [some (.ref (hc_ad G 48)), some (.int (nI b)), some (.int (nI n)), some (.int 0), some (.int (nI i))] [] (hc_mf M 59 (rIter E D i (M 59))))  :
    ∀ (t : Nat) (i : Nat), i + t = n → rSo (M 59) E D (fun t => M 51 (b + t)) i → hc_W G hc_lay p l e (hc_rm d) s m args below meth c 5 0 0 Q 5 [some (.ref (hc_ad G 48)), some (.int (nI b)), some (.int (nI n)), some (.int 1), some (.int (nI i))] [] (hc_mf M 59 (rIter E D i (M 59))) := by
  intro t
  induction t with
  | zero =>
    intro i hi hs
    refine hc_iload C dX8_goesSo_5 rfl ?_
    refine hc_iload_n C dX8_goesSo_7 rfl rfl ?_
    refine hc_icmp_ge C (tgt := 53) dX8_goesSo_8 (by decide) (fun c_8 => ?_) (fun c_8 => ?_)
    rotate_left
    · exact absurd (nI_le (show n ≤ i by omega) (by omega)) c_8
    obtain rfl : i = n := by omega
    exact kY hs
  | succ t ih =>
    intro i hi hs
    refine hc_iload C dX8_goesSo_5 rfl ?_
    refine hc_iload_n C dX8_goesSo_7 rfl rfl ?_
    refine hc_icmp_ge C (tgt := 53) dX8_goesSo_8 (by decide) (fun c_8 => ?_) (fun c_8 => ?_)
    · exact absurd c_8 (nI_ge (show i < n by omega) (by omega))
    refine hc_iload_n C dX8_goesSo_11 rfl rfl ?_
    refine hc_if_eq C (tgt := 53) dX8_goesSo_12 (by decide) (fun c_12 => ?_) (fun c_12 => ?_)
    · exact absurd c_12 (by decide)
    refine hc_aload_n C dX8_goesSo_15 rfl rfl ?_
    refine hc_getR C fl_X8_41 rfl rfl dX8_goesSo_16 ?_
    refine hc_cS1i C ms_X8_164 (c_X8_goes (k := 59) (E := E) C.ok rfl (by rw [hc_mf_s, rIter_45 (Or.inl rfl)]; exact hE) hE6) (Nat.le_of_ble_eq_true rfl) (hc_rr_rm (by omega)) ⟨Nat.zero_le _, Nat.zero_le _⟩ dX8_goesSo_19 (fun r_19 M_19 h_19 => ?_)
    obtain ⟨rfl, rfl⟩ := h_19
    rw [hc_mf_s]
    refine hc_aload_n C dX8_goesSo_22 rfl rfl ?_
    refine hc_getR C fl_X8_16 rfl rfl dX8_goesSo_23 ?_
    refine hc_iload_n C dX8_goesSo_26 rfl rfl ?_
    refine hc_iload C dX8_goesSo_27 rfl ?_
    refine hc_iadd C dX8_goesSo_29 ?_
    refine hc_ialdN C (j := (b + i)) rfl (nI_add b i) (by omega) dX8_goesSo_30 ?_
    rw [hc_mf_n (by decide)]
    refine hc_icmp_ne C (tgt := 38) dX8_goesSo_31 (by decide) (fun c_31 => ?_) (fun c_31 => ?_)
    · refine hc_iconst C dX8_goesSo_38 (v := 0) rfl ?_
      refine hc_istore_n3 C dX8_goesSo_39 rfl (by decide) rfl ?_
      refine hc_aload_n C dX8_goesSo_40 rfl rfl ?_
      refine hc_getR C fl_X8_41 rfl rfl dX8_goesSo_41 ?_
      refine hc_cS1v C ms_X8_167 (c_X8_passes (k := 59) (E := E) (D := D) C.ok rfl (by rw [hc_mf_s, rIter_45 (Or.inl rfl)]; exact hE) hE6 (by rw [hc_mf_s, rIter_45 (Or.inr (Or.inl rfl))]; exact hD) hD4) (Nat.le_of_ble_eq_true rfl) (hc_rr_rm hd) ⟨Nat.zero_le _, Nat.zero_le _⟩ dX8_goesSo_44 (fun M_44 h_44 => ?_)
      obtain rfl := h_44
      refine hc_mem (M2 := (hc_mf M 59 (rIter E D (i + 1) (M 59)))) (by rw [hc_mf_s, hc_mf_mf]; rfl) ?_
      refine hc_iinc4 C (v := nI (i + 1)) dX8_goesSo_47 (by decide) rfl rfl (nI_1 i) ?_
      refine hc_goto C (tgt := 5) dX8_goesSo_50 (by decide) ?_
      first
        | (refine ih (i + 1) (by omega) ?_; intro t ht; by_cases h : t < i; exact hs t h; (rw [show t = i by omega]; exact c_31))
        | exact lp_RgoesSo0 C (kN (i + 1) (fun q => c_31 (q i (by omega))))
    · refine hc_iconst C dX8_goesSo_34 (v := 1) rfl ?_
      refine hc_goto C (tgt := 39) dX8_goesSo_35 (by decide) ?_
      refine hc_istore_n3 C dX8_goesSo_39 rfl (by decide) rfl ?_
      refine hc_aload_n C dX8_goesSo_40 rfl rfl ?_
      refine hc_getR C fl_X8_41 rfl rfl dX8_goesSo_41 ?_
      refine hc_cS1v C ms_X8_167 (c_X8_passes (k := 59) (E := E) (D := D) C.ok rfl (by rw [hc_mf_s, rIter_45 (Or.inl rfl)]; exact hE) hE6 (by rw [hc_mf_s, rIter_45 (Or.inr (Or.inl rfl))]; exact hD) hD4) (Nat.le_of_ble_eq_true rfl) (hc_rr_rm hd) ⟨Nat.zero_le _, Nat.zero_le _⟩ dX8_goesSo_44 (fun M_44 h_44 => ?_)
      obtain rfl := h_44
      refine hc_mem (M2 := (hc_mf M 59 (rIter E D (i + 1) (M 59)))) (by rw [hc_mf_s, hc_mf_mf]; rfl) ?_
      refine hc_iinc4 C (v := nI (i + 1)) dX8_goesSo_47 (by decide) rfl rfl (nI_1 i) ?_
      refine hc_goto C (tgt := 5) dX8_goesSo_50 (by decide) ?_
      first
        | (refine ih (i + 1) (by omega) ?_; intro t ht; by_cases h : t < i; exact hs t h; (rw [show t = i by omega]; exact c_31))
        | exact lp_RgoesSo0 C (kN (i + 1) (fun q => c_31 (q i (by omega))))

set_option maxRecDepth 100000 in
set_option maxHeartbeats 4000000 in
theorem c_X8_goesSo {l : Launch} {G : hc_Geo} (hG : hc_ok G) {M : hc_Mem} {E D b n : Nat}  (hE : M 59 4 = nI E) (hE6 : E ≤ 6) (hD : M 59 5 = nI D) (hD4 : D ≤ 4) (hn : n ≤ 16) (hb0 : b + n ≤ 320) : hc_M l G yX8_goesSo cX8_goesSo 5 (some .boolean) 6 [.ref (hc_ad G 48), .int (nI b), .int (nI n)] M (hc_pi (fun z M' => hb (rSo (M 59) E D (fun t => M 51 (b + t)) n) = z ∧ ∀ q, q ≠ 59 → q ≠ 60 → M' q = M q)) := by
  refine hc_M.of hG (by decide) [some (.ref (hc_ad G 48)), some (.int (nI b)), some (.int (nI n)), none, none] rfl (Nat.le_of_ble_eq_true rfl) ?_
  intro p e s m args below meth c C
  refine hc_iconst C dX8_goesSo_0 (v := 1) rfl ?_
  refine hc_istore_n3 C dX8_goesSo_1 rfl (by decide) rfl ?_
  refine hc_iconst C dX8_goesSo_2 (v := 0) rfl ?_
  refine hc_istore4 C dX8_goesSo_3 (by decide) rfl ?_
  refine hc_mem (M2 := (hc_mf M 59 (rIter E D 0 (M 59)))) (show M = hc_mf M 59 (M 59) from hc_mf_id.symm) ?_
  refine lp_RgoesSo C (by decide) hE hE6 hD hD4 hn hb0 (fun hy => ?_) (fun i hy => ?_) n 0 (by omega) (fun t ht => absurd ht (Nat.not_lt_zero t))
  · refine hc_iload_n C dX8_goesSo_53 rfl rfl ?_
    refine hc_zret C rfl rfl dX8_goesSo_54 ?_
    exact ⟨hb_t hy, fun q h1 h2 => by rw [hc_mf_n h1]⟩
  · refine hc_iload_n C dX8_goesSo_53 rfl rfl ?_
    refine hc_zret C rfl rfl dX8_goesSo_54 ?_
    exact ⟨hb_f hy, fun q h1 h2 => by rw [hc_mf_n h1]⟩
