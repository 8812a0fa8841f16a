theorem hx_earR {f E : Nat} {M : hc_Mem} {j e0 : Nat} (hE : M f j = nI E) (hE6 : E ≤ 6) (he : e0 < E) : ¬ nI e0 < 0 ∧ ¬ M f j ≤ nI e0 := ⟨nI_pos (by omega), by rw [hE]; exact nI_ge he (by omega)⟩
theorem hx_in {k lo hi : Nat} (h1 : lo ≤ k) (h2 : k ≤ hi) (h3 : hi < 2 ^ 30) : ¬ nI k < nI lo ∧ ¬ nI hi < nI k := ⟨nI_nlt h1 (by omega), nI_nlt h2 (by omega)⟩
def rGN (f : Nat → Int32) (E e : Nat) : Int32 := if rLis f e then (if f (6 + 7 * e) = 2 then (if rGiv f (rLisM f E) 0 E < 12 then rHeed f e else 0) else rHeed f e) else 0
def rEar (f : Nat → Int32) (E e : Nat) (k : Int32) : Int32 := if k = 0 then f (6 + 7 * e + 1) else if k = 1 then f (6 + 7 * e + 2) else if k = 2 then f (6 + 7 * e + 5) else if k = 3 then hb (rLis f e) else if k = 4 then rGN f E e else if k = 5 then f (6 + 7 * e + 6) else -1000001
def rClk (f : Nat → Int32) (E : Nat) (k : Int32) : Int32 := if k = 0 then f 3 else if k = 1 then f 3 / 12 else if k = 2 then rGo f E else if k = 3 then f 1 else -1000001
abbrev rAs (K v : Int32) : Prop := v = 0 ∨ v = K ∨ (v = 1 ∧ K < 4) ∨ (v = 4 ∧ K = 5)
def rLy (X : hc_Mem) (E D : Nat) : Nat → hc_Mem
  | 0 => X
  | i + 1 => hc_ms (hc_mf (rLy X E D i) 59 (rIter E D 1 (rLy X E D i 59))) 60 (i + 1) (rIter E D 1 (rLy X E D i 59) 3)
theorem rLy_59 {X : hc_Mem} {E D : Nat} : ∀ i : Nat, rLy X E D i 59 = rIter E D i (X 59) := by
  intro i
  induction i with
  | zero => rfl
  | succ i ih =>
    show hc_ms _ 60 _ _ 59 = _
    rw [hc_ms_n (by decide), hc_mf_s, ih]
    rfl
theorem rLy_n {X : hc_Mem} {E D q : Nat} (h : q ≠ 59) (h2 : q ≠ 60) : ∀ i : Nat, rLy X E D i q = X q := by
  intro i
  induction i with
  | zero => rfl
  | succ i ih =>
    show hc_ms _ 60 _ _ q = _
    rw [hc_ms_n h2, hc_mf_n h, ih]
theorem rLy_60 {X : hc_Mem} {E D : Nat} (h : X 60 0 = X 59 3) : ∀ i t : Nat, t ≤ i → rLy X E D i 60 t = rIter E D t (X 59) 3 := by
  intro i
  induction i with
  | zero => intro t ht; rw [show t = 0 by omega]; exact h
  | succ i ih =>
    intro t ht
    by_cases e1 : t = i + 1
    · subst e1
      show hc_ms _ 60 (i + 1) _ 60 (i + 1) = _
      rw [hc_ms_v, rLy_59]
      rfl
    · show hc_ms _ 60 (i + 1) _ 60 t = _
      rw [hc_ms_j e1, hc_mf_n (by decide)]
      exact ih t (by omega)
def rWh (c : Nat → Int32) (v : Int32) : Nat → Nat → Int32
  | 0, _ => -1000000
  | t + 1, i => if c i / 12 < v then rWh c v t (i + 1) else nI i
def rLtM (f g : Nat → Int32) : Nat → Int32
  | 0 => 0
  | x + 1 => rLtM f g x ||| (if g (48 + 5 * x + 4) = -1000000 ∨ ¬ g (48 + 5 * x + 4) ≤ f (48 + 5 * x + 2) then (1 : Int32) <<< (nI x &&& 31) else 0)
def rLt (c : Nat → Int32) (d w : Int32) : Nat → Nat → Int32 → Int32
  | 0, _, a => a
  | t + 1, i, a => if d ≤ nI i then a else rLt c d w t (i + 1) (if 100 ≤ d then a else if c d.toNatClampNeg < c i + 12 * w then a else nI i)

set_option maxRecDepth 100000 in
set_option maxHeartbeats 4000000 in
theorem c_X8_quarters_b {l : Launch} {G : hc_Geo} (hG : hc_ok G) {M : hc_Mem} {v1 : Int32}  (h0 : M 54 0 = 1) (h1 : ¬ (¬ v1 < 1 ∧ ¬ 20 < v1)) : hc_M l G yX8_quarters cX8_quarters 3 (some .int) 2 [.ref (hc_ad G 48), .int v1] M (hc_pi (fun z M' => -1000001 = z ∧ M = M')) := by
  refine hc_M.of hG (by decide) [some (.ref (hc_ad G 48)), some (.int v1), none] rfl (Nat.le_of_ble_eq_true rfl) ?_
  intro p e s m args below meth c C
  refine hc_aload_n C dX8_quarters_0 rfl rfl ?_
  refine hc_cV0i C mv_X8_171 (c_X8_isHouse C.ok) rfl rfl rfl (Nat.le_of_ble_eq_true rfl) (hc_rr_rm (by decide)) ⟨Nat.zero_le _, Nat.zero_le _⟩ dX8_quarters_1 (fun r_1 M_1 h_1 => ?_)
  obtain ⟨rfl, rfl⟩ := h_1
  refine hc_if_ne C (tgt := 10) dX8_quarters_4 (by decide) (fun c_4 => ?_) (fun c_4 => ?_)
  rotate_left
  · exact absurd h0 (hb_z.mp c_4)
  refine hc_iload_n C dX8_quarters_10 rfl rfl ?_
  refine hc_iconst C dX8_quarters_11 (v := 1) rfl ?_
  refine hc_bipush C dX8_quarters_12 (v := 20) rfl ?_
  refine hc_cS3i C ms_X8_56 (c_X8_in C.ok) (Nat.le_of_ble_eq_true rfl) (hc_rr_rm (by decide)) ⟨Nat.zero_le _, Nat.zero_le _⟩ dX8_quarters_14 (fun r_14 M_14 h_14 => ?_)
  obtain ⟨rfl, rfl⟩ := h_14
  refine hc_if_ne C (tgt := 23) dX8_quarters_17 (by decide) (fun c_17 => ?_) (fun c_17 => ?_)
  · exact absurd (hb_z.mpr h1) c_17
  refine hc_ldc C kc_X8_64 dX8_quarters_20 ?_
  refine hc_iret C rfl dX8_quarters_22 ?_
  exact ⟨rfl, rfl⟩

set_option maxRecDepth 100000 in
set_option maxHeartbeats 4000000 in
theorem c_X8_quarters_f {l : Launch} {G : hc_Geo} (hG : hc_ok G) {M : hc_Mem} {v1 : Int32}  (h0 : M 54 0 = 1) (h1 : ¬ v1 < 1 ∧ ¬ 20 < v1) (h2 : ¬ M 54 2 + v1 ≤ 999) : hc_M l G yX8_quarters cX8_quarters 3 (some .int) 2 [.ref (hc_ad G 48), .int v1] M (hc_pi (fun z M' => -1000003 = z ∧ M = M')) := by
  refine hc_M.of hG (by decide) [some (.ref (hc_ad G 48)), some (.int v1), none] rfl (Nat.le_of_ble_eq_true rfl) ?_
  intro p e s m args below meth c C
  refine hc_aload_n C dX8_quarters_0 rfl rfl ?_
  refine hc_cV0i C mv_X8_171 (c_X8_isHouse C.ok) rfl rfl rfl (Nat.le_of_ble_eq_true rfl) (hc_rr_rm (by decide)) ⟨Nat.zero_le _, Nat.zero_le _⟩ dX8_quarters_1 (fun r_1 M_1 h_1 => ?_)
  obtain ⟨rfl, rfl⟩ := h_1
  refine hc_if_ne C (tgt := 10) dX8_quarters_4 (by decide) (fun c_4 => ?_) (fun c_4 => ?_)
  rotate_left
  · exact absurd h0 (hb_z.mp c_4)
  refine hc_iload_n C dX8_quarters_10 rfl rfl ?_
  refine hc_iconst C dX8_quarters_11 (v := 1) rfl ?_
  refine hc_bipush C dX8_quarters_12 (v := 20) rfl ?_
  refine hc_cS3i C ms_X8_56 (c_X8_in C.ok) (Nat.le_of_ble_eq_true rfl) (hc_rr_rm (by decide)) ⟨Nat.zero_le _, Nat.zero_le _⟩ dX8_quarters_14 (fun r_14 M_14 h_14 => ?_)
  obtain ⟨rfl, rfl⟩ := h_14
  refine hc_if_ne C (tgt := 23) dX8_quarters_17 (by decide) (fun c_17 => ?_) (fun c_17 => ?_)
  rotate_left
  · exact absurd h1 (hb_z.mp c_17)
  refine hc_aload_n C dX8_quarters_23 rfl rfl ?_
  refine hc_getR C fl_X8_25 rfl rfl dX8_quarters_24 ?_
  refine hc_iconst C dX8_quarters_27 (v := 2) rfl ?_
  refine hc_ialdN C (j := 2) rfl rfl (by decide) dX8_quarters_28 ?_
  refine hc_iload_n C dX8_quarters_29 rfl rfl ?_
  refine hc_iadd C dX8_quarters_30 ?_
  refine hc_sipush C dX8_quarters_31 (v := 999) rfl ?_
  refine hc_icmp_le C (tgt := 40) dX8_quarters_34 (by decide) (fun c_34 => ?_) (fun c_34 => ?_)
  · exact absurd c_34 h2
  refine hc_ldc C kc_X8_85 dX8_quarters_37 ?_
  refine hc_iret C rfl dX8_quarters_39 ?_
  exact ⟨rfl, rfl⟩

set_option maxRecDepth 100000 in
set_option maxHeartbeats 4000000 in
theorem lp_Rq {G : hc_Geo} {p : Program} {l : Launch} {e : Env} {d : Nat} {s : State} {m : MethodId} {args : Array Value} {below : List Frame} {meth : Method} {c : Code} {Q : State → Prop} (C : hc_Cx G hc_lay cX8_quarters 3 (some .int) yX8_quarters.cls p s m args meth c) {M : hc_Mem} {E D a n : Nat} (hd : 5 < d) (hn : n ≤ 20) (hE : M 54 4 = nI E) (hE6 : E ≤ 6) (hD : M 54 5 = nI D) (hD4 : D ≤ 4) (ha : M 48 16 = nI a) (ha24 : a ≤ 24) 
    (kk : hc_W G hc_lay p l e (hc_rm d) s m args below meth c 3 0 0 Q 64 [some (.ref (hc_ad G 48)), some (.int (nI n)), some (.int (nI n))] [] (rQs M E D a n)) :
    ∀ (t : Nat) (i : Nat), i + t = n → hc_W G hc_lay p l e (hc_rm d) s m args below meth c 3 0 0 Q 42 [some (.ref (hc_ad G 48)), some (.int (nI n)), some (.int (nI i))] [] (rQs M E D a i) := by
  intro t
  induction t with
  | zero =>
    intro i hi
    refine hc_iload_n C dX8_quarters_42 rfl rfl ?_
    refine hc_iload_n C dX8_quarters_43 rfl rfl ?_
    refine hc_icmp_ge C (tgt := 64) dX8_quarters_44 (by decide) (fun c_44 => ?_) (fun c_44 => ?_)
    rotate_left
    · exact absurd (nI_le (show n ≤ i by omega) (by omega)) c_44
    rw [show i = n by omega]
    exact kk
  | succ t ih =>
    intro i hi
    refine hc_iload_n C dX8_quarters_42 rfl rfl ?_
    refine hc_iload_n C dX8_quarters_43 rfl rfl ?_
    refine hc_icmp_ge C (tgt := 64) dX8_quarters_44 (by decide) (fun c_44 => ?_) (fun c_44 => ?_)
    · exact absurd c_44 (nI_ge (show i < n by omega) (by omega))
    refine hc_aload_n C dX8_quarters_47 rfl rfl ?_
    refine hc_cV0v C mv_X8_175 (c_X8_notes C.ok (rQs_inv hE hD ha ha24 i).2.2 (by omega)) rfl rfl rfl (Nat.le_of_ble_eq_true rfl) (hc_rr_rm (by omega)) ⟨Nat.zero_le _, Nat.zero_le _⟩ dX8_quarters_48 (fun M_48 h_48 => ?_)
    obtain rfl := h_48
    refine hc_aload_n C dX8_quarters_51 rfl rfl ?_
    refine hc_getR C fl_X8_25 rfl rfl dX8_quarters_52 ?_
    refine hc_cS1v C ms_X8_167 (c_X8_passes (E := E) (D := D) C.ok rfl (by rw [rNo_n (by decide) (by decide)]; exact (rQs_inv hE hD ha ha24 i).1) hE6 (by rw [rNo_n (by decide) (by decide)]; exact (rQs_inv hE hD ha ha24 i).2.1) hD4) (Nat.le_of_ble_eq_true rfl) (hc_rr_rm hd) ⟨Nat.zero_le _, Nat.zero_le _⟩ dX8_quarters_55 (fun M_55 h_55 => ?_)
    obtain rfl := h_55
    refine hc_mem (M2 := (rQs M E D a (i + 1))) (by rw [rNo_n (by decide) (by decide)]; rfl) ?_
    refine hc_iinc2 C (v := nI (i + 1)) dX8_quarters_58 (by decide) rfl rfl (nI_1 i) ?_
    refine hc_goto C (tgt := 42) dX8_quarters_61 (by decide) ?_
    exact ih (i + 1) (by omega)

set_option maxRecDepth 100000 in
set_option maxHeartbeats 4000000 in
theorem c_X8_quarters_o {l : Launch} {G : hc_Geo} (hG : hc_ok G) {M : hc_Mem} {E D a n : Nat}  (h0 : M 54 0 = 1) (hn1 : 1 ≤ n) (hn : n ≤ 20) (h2 : M 54 2 + nI n ≤ 999) (hE : M 54 4 = nI E) (hE6 : E ≤ 6) (hD : M 54 5 = nI D) (hD4 : D ≤ 4) (ha : M 48 16 = nI a) (ha24 : a ≤ 24) : hc_M l G yX8_quarters cX8_quarters 3 (some .int) 6 [.ref (hc_ad G 48), .int (nI n)] M (hc_pi (fun z M' => rQs M E D a n 54 3 = z ∧ rQs M E D a n = M')) := by
  refine hc_M.of hG (by decide) [some (.ref (hc_ad G 48)), some (.int (nI n)), none] rfl (Nat.le_of_ble_eq_true rfl) ?_
  intro p e s m args below meth c C
  refine hc_aload_n C dX8_quarters_0 rfl rfl ?_
  refine hc_cV0i C mv_X8_171 (c_X8_isHouse C.ok) rfl rfl rfl (Nat.le_of_ble_eq_true rfl) (hc_rr_rm (by decide)) ⟨Nat.zero_le _, Nat.zero_le _⟩ dX8_quarters_1 (fun r_1 M_1 h_1 => ?_)
  obtain ⟨rfl, rfl⟩ := h_1
  refine hc_if_ne C (tgt := 10) dX8_quarters_4 (by decide) (fun c_4 => ?_) (fun c_4 => ?_)
  rotate_left
  · exact absurd h0 (hb_z.mp c_4)
  refine hc_iload_n C dX8_quarters_10 rfl rfl ?_
  refine hc_iconst C dX8_quarters_11 (v := 1) rfl ?_
  refine hc_bipush C dX8_quarters_12 (v := 20) rfl ?_
  refine hc_cS3i C ms_X8_56 (c_X8_in C.ok) (Nat.le_of_ble_eq_true rfl) (hc_rr_rm (by decide)) ⟨Nat.zero_le _, Nat.zero_le _⟩ dX8_quarters_14 (fun r_14 M_14 h_14 => ?_)
  obtain ⟨rfl, rfl⟩ := h_14
  refine hc_if_ne C (tgt := 23) dX8_quarters_17 (by decide) (fun c_17 => ?_) (fun c_17 => ?_)
  rotate_left
  · exact absurd (hx_in (lo := 1) (hi := 20) hn1 hn (by decide)) (hb_z.mp c_17)
  refine hc_aload_n C dX8_quarters_23 rfl rfl ?_
  refine hc_getR C fl_X8_25 rfl rfl dX8_quarters_24 ?_
  refine hc_iconst C dX8_quarters_27 (v := 2) rfl ?_
  refine hc_ialdN C (j := 2) rfl rfl (by decide) dX8_quarters_28 ?_
  refine hc_iload_n C dX8_quarters_29 rfl rfl ?_
  refine hc_iadd C dX8_quarters_30 ?_
  refine hc_sipush C dX8_quarters_31 (v := 999) rfl ?_
  refine hc_icmp_le C (tgt := 40) dX8_quarters_34 (by decide) (fun c_34 => ?_) (fun c_34 => ?_)
  rotate_left
  · exact absurd h2 c_34
  refine hc_iconst C dX8_quarters_40 (v := 0) rfl ?_
  refine hc_istore_n2 C dX8_quarters_41 rfl (by decide) rfl ?_
  refine lp_Rq C (by decide) hn hE hE6 hD hD4 ha ha24 ?_ n 0 (by omega)
  refine hc_aload_n C dX8_quarters_64 rfl rfl ?_
  refine hc_getR C fl_X8_25 rfl rfl dX8_quarters_65 ?_
  refine hc_iconst C dX8_quarters_68 (v := 3) rfl ?_
  refine hc_ialdN C (j := 3) rfl rfl (by decide) dX8_quarters_69 ?_
  refine hc_iret C rfl dX8_quarters_70 ?_
  exact ⟨rfl, rfl⟩

set_option maxRecDepth 100000 in
set_option maxHeartbeats 4000000 in
theorem c_X8_go_b2 {l : Launch} {G : hc_Geo} (hG : hc_ok G) {M : hc_Mem} {E e0 : Nat} {v2 : Int32}  (hE : M 54 4 = nI E) (hE6 : E ≤ 6) (he : e0 < E) (h1 : ¬ (¬ v2 < 0 ∧ ¬ 3 < v2)) : hc_M l G yX8_go cX8_go 4 (some .int) 3 [.ref (hc_ad G 48), .int (nI e0), .int v2] M (hc_pi (fun z M' => -1000001 = z ∧ M = M')) := by
  refine hc_M.of hG (by decide) [some (.ref (hc_ad G 48)), some (.int (nI e0)), some (.int v2), none] rfl (Nat.le_of_ble_eq_true rfl) ?_
  intro p e s m args below meth c C
  refine hc_aload_n C dX8_go_0 rfl rfl ?_
  refine hc_iload_n C dX8_go_1 rfl rfl ?_
  refine hc_cV1i C mv_X8_178 (c_X8_isEar C.ok hE (by omega)) rfl rfl rfl (Nat.le_of_ble_eq_true rfl) (hc_rr_rm (by decide)) ⟨Nat.zero_le _, Nat.zero_le _⟩ dX8_go_2 (fun r_2 M_2 h_2 => ?_)
  obtain ⟨rfl, rfl⟩ := h_2
  refine hc_if_eq C (tgt := 17) dX8_go_5 (by decide) (fun c_5 => ?_) (fun c_5 => ?_)
  · exact absurd (hx_earR hE hE6 he) (hb_z.mp c_5)
  refine hc_iload_n C dX8_go_8 rfl rfl ?_
  refine hc_iconst C dX8_go_9 (v := 0) rfl ?_
  refine hc_iconst C dX8_go_10 (v := 3) rfl ?_
  refine hc_cS3i C ms_X8_56 (c_X8_in C.ok) (Nat.le_of_ble_eq_true rfl) (hc_rr_rm (by decide)) ⟨Nat.zero_le _, Nat.zero_le _⟩ dX8_go_11 (fun r_11 M_11 h_11 => ?_)
  obtain ⟨rfl, rfl⟩ := h_11
  refine hc_if_ne C (tgt := 20) dX8_go_14 (by decide) (fun c_14 => ?_) (fun c_14 => ?_)
  · exact absurd (hb_z.mpr h1) c_14
  refine hc_ldc C kc_X8_64 dX8_go_17 ?_
  refine hc_iret C rfl dX8_go_19 ?_
  exact ⟨rfl, rfl⟩

set_option maxRecDepth 100000 in
set_option maxHeartbeats 4000000 in
theorem c_X8_go_s {l : Launch} {G : hc_Geo} (hG : hc_ok G) {M : hc_Mem} {E e0 : Nat} {v2 : Int32}  (hE : M 54 4 = nI E) (hE6 : E ≤ 6) (he : e0 < E) (h1 : ¬ v2 < 0 ∧ ¬ 3 < v2) (h2 : M 54 (6 + 7 * e0 + 2) = v2) : hc_M l G yX8_go cX8_go 4 (some .int) 3 [.ref (hc_ad G 48), .int (nI e0), .int v2] M (hc_pi (fun z M' => -1000002 = z ∧ M = M')) := by
  refine hc_M.of hG (by decide) [some (.ref (hc_ad G 48)), some (.int (nI e0)), some (.int v2), none] rfl (Nat.le_of_ble_eq_true rfl) ?_
  intro p e s m args below meth c C
  refine hc_aload_n C dX8_go_0 rfl rfl ?_
  refine hc_iload_n C dX8_go_1 rfl rfl ?_
  refine hc_cV1i C mv_X8_178 (c_X8_isEar C.ok hE (by omega)) rfl rfl rfl (Nat.le_of_ble_eq_true rfl) (hc_rr_rm (by decide)) ⟨Nat.zero_le _, Nat.zero_le _⟩ dX8_go_2 (fun r_2 M_2 h_2 => ?_)
  obtain ⟨rfl, rfl⟩ := h_2
  refine hc_if_eq C (tgt := 17) dX8_go_5 (by decide) (fun c_5 => ?_) (fun c_5 => ?_)
  · exact absurd (hx_earR hE hE6 he) (hb_z.mp c_5)
  refine hc_iload_n C dX8_go_8 rfl rfl ?_
  refine hc_iconst C dX8_go_9 (v := 0) rfl ?_
  refine hc_iconst C dX8_go_10 (v := 3) rfl ?_
  refine hc_cS3i C ms_X8_56 (c_X8_in C.ok) (Nat.le_of_ble_eq_true rfl) (hc_rr_rm (by decide)) ⟨Nat.zero_le _, Nat.zero_le _⟩ dX8_go_11 (fun r_11 M_11 h_11 => ?_)
  obtain ⟨rfl, rfl⟩ := h_11
  refine hc_if_ne C (tgt := 20) dX8_go_14 (by decide) (fun c_14 => ?_) (fun c_14 => ?_)
  rotate_left
  · exact absurd h1 (hb_z.mp c_14)
  refine hc_aload_n C dX8_go_20 rfl rfl ?_
  refine hc_getR C fl_X8_25 rfl rfl dX8_go_21 ?_
  refine hc_bipush C dX8_go_24 (v := 6) rfl ?_
  refine hc_bipush C dX8_go_26 (v := 7) rfl ?_
  refine hc_iload_n C dX8_go_28 rfl rfl ?_
  refine hc_imul C dX8_go_29 ?_
  refine hc_iadd C dX8_go_30 ?_
  refine hc_iconst C dX8_go_31 (v := 2) rfl ?_
  refine hc_iadd C dX8_go_32 ?_
  refine hc_ialdN C (j := (6 + 7 * e0 + 2)) rfl (hx_67 e0 2) (by omega) dX8_go_33 ?_
  refine hc_istore_n3 C dX8_go_34 rfl (by decide) rfl ?_
  refine hc_iload_n C dX8_go_35 rfl rfl ?_
  refine hc_iload_n C dX8_go_36 rfl rfl ?_
  refine hc_icmp_ne C (tgt := 43) dX8_go_37 (by decide) (fun c_37 => ?_) (fun c_37 => ?_)
  · exact absurd h2 c_37
  refine hc_ldc C kc_X8_174 dX8_go_40 ?_
  refine hc_iret C rfl dX8_go_42 ?_
  exact ⟨rfl, rfl⟩

set_option maxRecDepth 100000 in
set_option maxHeartbeats 4000000 in
theorem c_X8_go_o {l : Launch} {G : hc_Geo} (hG : hc_ok G) {M : hc_Mem} {E e0 a : Nat} {v2 : Int32}  (hE : M 54 4 = nI E) (hE6 : E ≤ 6) (he : e0 < E) (ha : M 48 16 = nI a) (ha24 : a ≤ 24) (h1 : ¬ v2 < 0 ∧ ¬ 3 < v2) (h2 : ¬ M 54 (6 + 7 * e0 + 2) = v2) : hc_M l G yX8_go cX8_go 4 (some .int) 3 [.ref (hc_ad G 48), .int (nI e0), .int v2] M (hc_pi (fun z M' => M 54 (6 + 7 * e0 + 2) = z ∧ hc_ms (rNo M a) 54 (6 + 7 * e0 + 2) v2 = M')) := by
  refine hc_M.of hG (by decide) [some (.ref (hc_ad G 48)), some (.int (nI e0)), some (.int v2), none] rfl (Nat.le_of_ble_eq_true rfl) ?_
  intro p e s m args below meth c C
  refine hc_aload_n C dX8_go_0 rfl rfl ?_
  refine hc_iload_n C dX8_go_1 rfl rfl ?_
  refine hc_cV1i C mv_X8_178 (c_X8_isEar C.ok hE (by omega)) rfl rfl rfl (Nat.le_of_ble_eq_true rfl) (hc_rr_rm (by decide)) ⟨Nat.zero_le _, Nat.zero_le _⟩ dX8_go_2 (fun r_2 M_2 h_2 => ?_)
  obtain ⟨rfl, rfl⟩ := h_2
  refine hc_if_eq C (tgt := 17) dX8_go_5 (by decide) (fun c_5 => ?_) (fun c_5 => ?_)
  · exact absurd (hx_earR hE hE6 he) (hb_z.mp c_5)
  refine hc_iload_n C dX8_go_8 rfl rfl ?_
  refine hc_iconst C dX8_go_9 (v := 0) rfl ?_
  refine hc_iconst C dX8_go_10 (v := 3) rfl ?_
  refine hc_cS3i C ms_X8_56 (c_X8_in C.ok) (Nat.le_of_ble_eq_true rfl) (hc_rr_rm (by decide)) ⟨Nat.zero_le _, Nat.zero_le _⟩ dX8_go_11 (fun r_11 M_11 h_11 => ?_)
  obtain ⟨rfl, rfl⟩ := h_11
  refine hc_if_ne C (tgt := 20) dX8_go_14 (by decide) (fun c_14 => ?_) (fun c_14 => ?_)
  rotate_left
  · exact absurd h1 (hb_z.mp c_14)
  refine hc_aload_n C dX8_go_20 rfl rfl ?_
  refine hc_getR C fl_X8_25 rfl rfl dX8_go_21 ?_
  refine hc_bipush C dX8_go_24 (v := 6) rfl ?_
  refine hc_bipush C dX8_go_26 (v := 7) rfl ?_
  refine hc_iload_n C dX8_go_28 rfl rfl ?_
  refine hc_imul C dX8_go_29 ?_
  refine hc_iadd C dX8_go_30 ?_
  refine hc_iconst C dX8_go_31 (v := 2) rfl ?_
  refine hc_iadd C dX8_go_32 ?_
  refine hc_ialdN C (j := (6 + 7 * e0 + 2)) rfl (hx_67 e0 2) (by omega) dX8_go_33 ?_
  refine hc_istore_n3 C dX8_go_34 rfl (by decide) rfl ?_
  refine hc_iload_n C dX8_go_35 rfl rfl ?_
  refine hc_iload_n C dX8_go_36 rfl rfl ?_
  refine hc_icmp_ne C (tgt := 43) dX8_go_37 (by decide) (fun c_37 => ?_) (fun c_37 => ?_)
  rotate_left
  · exact absurd c_37 h2
  refine hc_aload_n C dX8_go_43 rfl rfl ?_
  refine hc_cV0v C mv_X8_175 (c_X8_notes C.ok ha ha24) rfl rfl rfl (Nat.le_of_ble_eq_true rfl) (hc_rr_rm (by decide)) ⟨Nat.zero_le _, Nat.zero_le _⟩ dX8_go_44 (fun M_44 h_44 => ?_)
  obtain rfl := h_44
  refine hc_aload_n C dX8_go_47 rfl rfl ?_
  refine hc_getR C fl_X8_25 rfl rfl dX8_go_48 ?_
  refine hc_bipush C dX8_go_51 (v := 6) rfl ?_
  refine hc_bipush C dX8_go_53 (v := 7) rfl ?_
  refine hc_iload_n C dX8_go_55 rfl rfl ?_
  refine hc_imul C dX8_go_56 ?_
  refine hc_iadd C dX8_go_57 ?_
  refine hc_iconst C dX8_go_58 (v := 2) rfl ?_
  refine hc_iadd C dX8_go_59 ?_
  refine hc_iload_n C dX8_go_60 rfl rfl ?_
  refine hc_iastN C (j := (6 + 7 * e0 + 2)) rfl (hx_67 e0 2) (by omega) dX8_go_61 ?_
  refine hc_iload_n C dX8_go_62 rfl rfl ?_
  refine hc_iret C rfl dX8_go_63 ?_
  exact ⟨rfl, rfl⟩

set_option maxRecDepth 100000 in
set_option maxHeartbeats 4000000 in
theorem c_X8_hush_b2 {l : Launch} {G : hc_Geo} (hG : hc_ok G) {M : hc_Mem} {E e0 : Nat} {v2 : Int32}  (hE : M 54 4 = nI E) (hE6 : E ≤ 6) (he : e0 < E) (h1 : ¬ (¬ v2 < 0 ∧ ¬ 1 < v2)) : hc_M l G yX8_hush cX8_hush 3 (some .int) 3 [.ref (hc_ad G 48), .int (nI e0), .int v2] M (hc_pi (fun z M' => -1000001 = z ∧ M = M')) := by
  refine hc_M.of hG (by decide) [some (.ref (hc_ad G 48)), some (.int (nI e0)), some (.int v2)] rfl (Nat.le_of_ble_eq_true rfl) ?_
  intro p e s m args below meth c C
  refine hc_aload_n C dX8_hush_0 rfl rfl ?_
  refine hc_iload_n C dX8_hush_1 rfl rfl ?_
  refine hc_cV1i C mv_X8_178 (c_X8_isEar C.ok hE (by omega)) rfl rfl rfl (Nat.le_of_ble_eq_true rfl) (hc_rr_rm (by decide)) ⟨Nat.zero_le _, Nat.zero_le _⟩ dX8_hush_2 (fun r_2 M_2 h_2 => ?_)
  obtain ⟨rfl, rfl⟩ := h_2
  refine hc_if_eq C (tgt := 17) dX8_hush_5 (by decide) (fun c_5 => ?_) (fun c_5 => ?_)
  · exact absurd (hx_earR hE hE6 he) (hb_z.mp c_5)
  refine hc_iload_n C dX8_hush_8 rfl rfl ?_
  refine hc_iconst C dX8_hush_9 (v := 0) rfl ?_
  refine hc_iconst C dX8_hush_10 (v := 1) rfl ?_
  refine hc_cS3i C ms_X8_56 (c_X8_in C.ok) (Nat.le_of_ble_eq_true rfl) (hc_rr_rm (by decide)) ⟨Nat.zero_le _, Nat.zero_le _⟩ dX8_hush_11 (fun r_11 M_11 h_11 => ?_)
  obtain ⟨rfl, rfl⟩ := h_11
  refine hc_if_ne C (tgt := 20) dX8_hush_14 (by decide) (fun c_14 => ?_) (fun c_14 => ?_)
  · exact absurd (hb_z.mpr h1) c_14
  refine hc_ldc C kc_X8_64 dX8_hush_17 ?_
  refine hc_iret C rfl dX8_hush_19 ?_
  exact ⟨rfl, rfl⟩

set_option maxRecDepth 100000 in
set_option maxHeartbeats 4000000 in
theorem c_X8_hush_s {l : Launch} {G : hc_Geo} (hG : hc_ok G) {M : hc_Mem} {E e0 : Nat} {v2 : Int32}  (hE : M 54 4 = nI E) (hE6 : E ≤ 6) (he : e0 < E) (h1 : ¬ v2 < 0 ∧ ¬ 1 < v2) (h2 : M 54 (6 + 7 * e0 + 5) = v2) : hc_M l G yX8_hush cX8_hush 3 (some .int) 3 [.ref (hc_ad G 48), .int (nI e0), .int v2] M (hc_pi (fun z M' => -1000002 = z ∧ M = M')) := by
  refine hc_M.of hG (by decide) [some (.ref (hc_ad G 48)), some (.int (nI e0)), some (.int v2)] rfl (Nat.le_of_ble_eq_true rfl) ?_
  intro p e s m args below meth c C
  refine hc_aload_n C dX8_hush_0 rfl rfl ?_
  refine hc_iload_n C dX8_hush_1 rfl rfl ?_
  refine hc_cV1i C mv_X8_178 (c_X8_isEar C.ok hE (by omega)) rfl rfl rfl (Nat.le_of_ble_eq_true rfl) (hc_rr_rm (by decide)) ⟨Nat.zero_le _, Nat.zero_le _⟩ dX8_hush_2 (fun r_2 M_2 h_2 => ?_)
  obtain ⟨rfl, rfl⟩ := h_2
  refine hc_if_eq C (tgt := 17) dX8_hush_5 (by decide) (fun c_5 => ?_) (fun c_5 => ?_)
  · exact absurd (hx_earR hE hE6 he) (hb_z.mp c_5)
  refine hc_iload_n C dX8_hush_8 rfl rfl ?_
  refine hc_iconst C dX8_hush_9 (v := 0) rfl ?_
  refine hc_iconst C dX8_hush_10 (v := 1) rfl ?_
  refine hc_cS3i C ms_X8_56 (c_X8_in C.ok) (Nat.le_of_ble_eq_true rfl) (hc_rr_rm (by decide)) ⟨Nat.zero_le _, Nat.zero_le _⟩ dX8_hush_11 (fun r_11 M_11 h_11 => ?_)
  obtain ⟨rfl, rfl⟩ := h_11
  refine hc_if_ne C (tgt := 20) dX8_hush_14 (by decide) (fun c_14 => ?_) (fun c_14 => ?_)
  rotate_left
  · exact absurd h1 (hb_z.mp c_14)
  refine hc_aload_n C dX8_hush_20 rfl rfl ?_
  refine hc_getR C fl_X8_25 rfl rfl dX8_hush_21 ?_
  refine hc_bipush C dX8_hush_24 (v := 6) rfl ?_
  refine hc_bipush C dX8_hush_26 (v := 7) rfl ?_
  refine hc_iload_n C dX8_hush_28 rfl rfl ?_
  refine hc_imul C dX8_hush_29 ?_
  refine hc_iadd C dX8_hush_30 ?_
  refine hc_iconst C dX8_hush_31 (v := 5) rfl ?_
  refine hc_iadd C dX8_hush_32 ?_
  refine hc_ialdN C (j := (6 + 7 * e0 + 5)) rfl (hx_67 e0 5) (by omega) dX8_hush_33 ?_
  refine hc_iload_n C dX8_hush_34 rfl rfl ?_
  refine hc_icmp_ne C (tgt := 41) dX8_hush_35 (by decide) (fun c_35 => ?_) (fun c_35 => ?_)
  · exact absurd h2 c_35
  refine hc_ldc C kc_X8_174 dX8_hush_38 ?_
  refine hc_iret C rfl dX8_hush_40 ?_
  exact ⟨rfl, rfl⟩

set_option maxRecDepth 100000 in
set_option maxHeartbeats 4000000 in
theorem c_X8_hush_o {l : Launch} {G : hc_Geo} (hG : hc_ok G) {M : hc_Mem} {E e0 a : Nat} {v2 : Int32}  (hE : M 54 4 = nI E) (hE6 : E ≤ 6) (he : e0 < E) (ha : M 48 16 = nI a) (ha24 : a ≤ 24) (h1 : ¬ v2 < 0 ∧ ¬ 1 < v2) (h2 : ¬ M 54 (6 + 7 * e0 + 5) = v2) : hc_M l G yX8_hush cX8_hush 3 (some .int) 3 [.ref (hc_ad G 48), .int (nI e0), .int v2] M (hc_pi (fun z M' => hc_hs (hc_ms (rNo M a) 54 (6 + 7 * e0 + 5) v2) E = z ∧ (hc_ms (rNo M a) 54 (6 + 7 * e0 + 5) v2) = M')) := by
  refine hc_M.of hG (by decide) [some (.ref (hc_ad G 48)), some (.int (nI e0)), some (.int v2)] rfl (Nat.le_of_ble_eq_true rfl) ?_
  intro p e s m args below meth c C
  refine hc_aload_n C dX8_hush_0 rfl rfl ?_
  refine hc_iload_n C dX8_hush_1 rfl rfl ?_
  refine hc_cV1i C mv_X8_178 (c_X8_isEar C.ok hE (by omega)) rfl rfl rfl (Nat.le_of_ble_eq_true rfl) (hc_rr_rm (by decide)) ⟨Nat.zero_le _, Nat.zero_le _⟩ dX8_hush_2 (fun r_2 M_2 h_2 => ?_)
  obtain ⟨rfl, rfl⟩ := h_2
  refine hc_if_eq C (tgt := 17) dX8_hush_5 (by decide) (fun c_5 => ?_) (fun c_5 => ?_)
  · exact absurd (hx_earR hE hE6 he) (hb_z.mp c_5)
  refine hc_iload_n C dX8_hush_8 rfl rfl ?_
  refine hc_iconst C dX8_hush_9 (v := 0) rfl ?_
  refine hc_iconst C dX8_hush_10 (v := 1) rfl ?_
  refine hc_cS3i C ms_X8_56 (c_X8_in C.ok) (Nat.le_of_ble_eq_true rfl) (hc_rr_rm (by decide)) ⟨Nat.zero_le _, Nat.zero_le _⟩ dX8_hush_11 (fun r_11 M_11 h_11 => ?_)
  obtain ⟨rfl, rfl⟩ := h_11
  refine hc_if_ne C (tgt := 20) dX8_hush_14 (by decide) (fun c_14 => ?_) (fun c_14 => ?_)
  rotate_left
  · exact absurd h1 (hb_z.mp c_14)
  refine hc_aload_n C dX8_hush_20 rfl rfl ?_
  refine hc_getR C fl_X8_25 rfl rfl dX8_hush_21 ?_
  refine hc_bipush C dX8_hush_24 (v := 6) rfl ?_
  refine hc_bipush C dX8_hush_26 (v := 7) rfl ?_
  refine hc_iload_n C dX8_hush_28 rfl rfl ?_
  refine hc_imul C dX8_hush_29 ?_
  refine hc_iadd C dX8_hush_30 ?_
  refine hc_iconst C dX8_hush_31 (v := 5) rfl ?_
  refine hc_iadd C dX8_hush_32 ?_
  refine hc_ialdN C (j := (6 + 7 * e0 + 5)) rfl (hx_67 e0 5) (by omega) dX8_hush_33 ?_
  refine hc_iload_n C dX8_hush_34 rfl rfl ?_
  refine hc_icmp_ne C (tgt := 41) dX8_hush_35 (by decide) (fun c_35 => ?_) (fun c_35 => ?_)
  rotate_left
  · exact absurd c_35 h2
  refine hc_aload_n C dX8_hush_41 rfl rfl ?_
  refine hc_cV0v C mv_X8_175 (c_X8_notes C.ok ha ha24) rfl rfl rfl (Nat.le_of_ble_eq_true rfl) (hc_rr_rm (by decide)) ⟨Nat.zero_le _, Nat.zero_le _⟩ dX8_hush_42 (fun M_42 h_42 => ?_)
  obtain rfl := h_42
  refine hc_aload_n C dX8_hush_45 rfl rfl ?_
  refine hc_getR C fl_X8_25 rfl rfl dX8_hush_46 ?_
  refine hc_bipush C dX8_hush_49 (v := 6) rfl ?_
  refine hc_bipush C dX8_hush_51 (v := 7) rfl ?_
  refine hc_iload_n C dX8_hush_53 rfl rfl ?_
  refine hc_imul C dX8_hush_54 ?_
  refine hc_iadd C dX8_hush_55 ?_
  refine hc_iconst C dX8_hush_56 (v := 5) rfl ?_
  refine hc_iadd C dX8_hush_57 ?_
  refine hc_iload_n C dX8_hush_58 rfl rfl ?_
  refine hc_iastN C (j := (6 + 7 * e0 + 5)) rfl (hx_67 e0 5) (by omega) dX8_hush_59 ?_
  refine hc_aload_n C dX8_hush_60 rfl rfl ?_
  refine hc_cV0i C mv_X8_181 (c_X8_hushed (E := E) C.ok (by rw [hc_ms_j (by omega), rNo_n (by decide) (by decide)]; exact hE) hE6) rfl rfl rfl (Nat.le_of_ble_eq_true rfl) (hc_rr_rm (by decide)) ⟨Nat.zero_le _, Nat.zero_le _⟩ dX8_hush_61 (fun r_61 M_61 h_61 => ?_)
  obtain ⟨rfl, rfl⟩ := h_61
  refine hc_iret C rfl dX8_hush_64 ?_
  exact ⟨rfl, rfl⟩

set_option maxRecDepth 100000 in
set_option maxHeartbeats 4000000 in
theorem c_X8_wool_b {l : Launch} {G : hc_Geo} (hG : hc_ok G) {M : hc_Mem} {v1 : Int32}  (h0 : M 54 0 = 1) (h1 : ¬ (¬ v1 < 0 ∧ ¬ 12 < v1)) : hc_M l G yX8_wool cX8_wool 3 (some .int) 2 [.ref (hc_ad G 48), .int v1] M (hc_pi (fun z M' => -1000001 = z ∧ M = M')) := by
  refine hc_M.of hG (by decide) [some (.ref (hc_ad G 48)), some (.int v1), none] rfl (Nat.le_of_ble_eq_true rfl) ?_
  intro p e s m args below meth c C
  refine hc_aload_n C dX8_wool_0 rfl rfl ?_
  refine hc_cV0i C mv_X8_171 (c_X8_isHouse C.ok) rfl rfl rfl (Nat.le_of_ble_eq_true rfl) (hc_rr_rm (by decide)) ⟨Nat.zero_le _, Nat.zero_le _⟩ dX8_wool_1 (fun r_1 M_1 h_1 => ?_)
  obtain ⟨rfl, rfl⟩ := h_1
  refine hc_if_ne C (tgt := 10) dX8_wool_4 (by decide) (fun c_4 => ?_) (fun c_4 => ?_)
  rotate_left
  · exact absurd h0 (hb_z.mp c_4)
  refine hc_iload_n C dX8_wool_10 rfl rfl ?_
  refine hc_iconst C dX8_wool_11 (v := 0) rfl ?_
  refine hc_bipush C dX8_wool_12 (v := 12) rfl ?_
  refine hc_cS3i C ms_X8_56 (c_X8_in C.ok) (Nat.le_of_ble_eq_true rfl) (hc_rr_rm (by decide)) ⟨Nat.zero_le _, Nat.zero_le _⟩ dX8_wool_14 (fun r_14 M_14 h_14 => ?_)
  obtain ⟨rfl, rfl⟩ := h_14
  refine hc_if_ne C (tgt := 23) dX8_wool_17 (by decide) (fun c_17 => ?_) (fun c_17 => ?_)
  · exact absurd (hb_z.mpr h1) c_17
  refine hc_ldc C kc_X8_64 dX8_wool_20 ?_
  refine hc_iret C rfl dX8_wool_22 ?_
  exact ⟨rfl, rfl⟩

set_option maxRecDepth 100000 in
set_option maxHeartbeats 4000000 in
theorem c_X8_wool_o {l : Launch} {G : hc_Geo} (hG : hc_ok G) {M : hc_Mem} {v1 : Int32} {a : Nat}  (h0 : M 54 0 = 1) (h1 : ¬ v1 < 0 ∧ ¬ 12 < v1) (ha : M 48 16 = nI a) (ha24 : a ≤ 24) : hc_M l G yX8_wool cX8_wool 3 (some .int) 3 [.ref (hc_ad G 48), .int v1] M (hc_pi (fun z M' => M 54 1 = z ∧ hc_ms (rNo M a) 54 1 v1 = M')) := by
  refine hc_M.of hG (by decide) [some (.ref (hc_ad G 48)), some (.int v1), none] rfl (Nat.le_of_ble_eq_true rfl) ?_
  intro p e s m args below meth c C
  refine hc_aload_n C dX8_wool_0 rfl rfl ?_
  refine hc_cV0i C mv_X8_171 (c_X8_isHouse C.ok) rfl rfl rfl (Nat.le_of_ble_eq_true rfl) (hc_rr_rm (by decide)) ⟨Nat.zero_le _, Nat.zero_le _⟩ dX8_wool_1 (fun r_1 M_1 h_1 => ?_)
  obtain ⟨rfl, rfl⟩ := h_1
  refine hc_if_ne C (tgt := 10) dX8_wool_4 (by decide) (fun c_4 => ?_) (fun c_4 => ?_)
  rotate_left
  · exact absurd h0 (hb_z.mp c_4)
  refine hc_iload_n C dX8_wool_10 rfl rfl ?_
  refine hc_iconst C dX8_wool_11 (v := 0) rfl ?_
  refine hc_bipush C dX8_wool_12 (v := 12) rfl ?_
  refine hc_cS3i C ms_X8_56 (c_X8_in C.ok) (Nat.le_of_ble_eq_true rfl) (hc_rr_rm (by decide)) ⟨Nat.zero_le _, Nat.zero_le _⟩ dX8_wool_14 (fun r_14 M_14 h_14 => ?_)
  obtain ⟨rfl, rfl⟩ := h_14
  refine hc_if_ne C (tgt := 23) dX8_wool_17 (by decide) (fun c_17 => ?_) (fun c_17 => ?_)
  rotate_left
  · exact absurd h1 (hb_z.mp c_17)
  refine hc_aload_n C dX8_wool_23 rfl rfl ?_
  refine hc_cV0v C mv_X8_175 (c_X8_notes C.ok ha ha24) rfl rfl rfl (Nat.le_of_ble_eq_true rfl) (hc_rr_rm (by decide)) ⟨Nat.zero_le _, Nat.zero_le _⟩ dX8_wool_24 (fun M_24 h_24 => ?_)
  obtain rfl := h_24
  refine hc_aload_n C dX8_wool_27 rfl rfl ?_
  refine hc_getR C fl_X8_25 rfl rfl dX8_wool_28 ?_
  refine hc_iconst C dX8_wool_31 (v := 1) rfl ?_
  refine hc_ialdN C (j := 1) rfl rfl (by decide) dX8_wool_32 ?_
  refine hc_top (v := M 54 1) (by rw [rNo_n (by decide) (by decide)]) ?_
  refine hc_istore_n2 C dX8_wool_33 rfl (by decide) rfl ?_
  refine hc_aload_n C dX8_wool_34 rfl rfl ?_
  refine hc_getR C fl_X8_25 rfl rfl dX8_wool_35 ?_
  refine hc_iconst C dX8_wool_38 (v := 1) rfl ?_
  refine hc_iload_n C dX8_wool_39 rfl rfl ?_
  refine hc_iastN C (j := 1) rfl rfl (by decide) dX8_wool_40 ?_
  refine hc_iload_n C dX8_wool_41 rfl rfl ?_
  refine hc_iret C rfl dX8_wool_42 ?_
  exact ⟨rfl, rfl⟩

set_option maxRecDepth 100000 in
set_option maxHeartbeats 4000000 in
theorem c_X8_undo_o {l : Launch} {G : hc_Geo} (hG : hc_ok G) {M : hc_Mem} {a : Nat}  (ha : M 48 16 = nI (a + 1)) (ha24 : a < 24) : hc_M l G yX8_undo cX8_undo 1 (some .int) 2 [.ref (hc_ad G 48)] M (hc_pi (fun z M' => nI a = z ∧ hc_mf (hc_ms M 48 16 (nI a)) 54 (va_cpy ((hc_ms M 48 16 (nI a)) 56) ((hc_ms M 48 16 (nI a)) 54) (68 * a) 0 68) = M')) := by
  refine hc_M.of hG (by decide) [some (.ref (hc_ad G 48))] rfl (Nat.le_of_ble_eq_true rfl) ?_
  intro p e s m args below meth c C
  refine hc_aload_n C dX8_undo_0 rfl rfl ?_
  refine hc_getI C fl_X8_138 rfl rfl dX8_undo_1 ?_
  refine hc_if_ne C (tgt := 10) dX8_undo_4 (by decide) (fun c_4 => ?_) (fun c_4 => ?_)
  rotate_left
  · exact absurd (show nI (a + 1) = nI 0 from ha ▸ c_4) (fun q => by have := (nI_eq (by omega) (by decide)).mp q; omega)
  refine hc_aload_n C dX8_undo_10 rfl rfl ?_
  refine hc_dup C dX8_undo_11 rfl ?_
  refine hc_getI C fl_X8_138 rfl rfl dX8_undo_12 ?_
  refine hc_iconst C dX8_undo_15 (v := 1) rfl ?_
  refine hc_isub C dX8_undo_16 ?_
  refine hc_top (v := nI a) (show M 48 16 - 1 = _ by rw [ha, ← nI_1, Int32.add_sub_cancel]) ?_
  refine hc_putI C fl_X8_138 pl_6_16 rfl rfl dX8_undo_17 ?_
  refine hc_aload_n C dX8_undo_20 rfl rfl ?_
  refine hc_getR C fl_X8_31 rfl rfl dX8_undo_21 ?_
  refine hc_bipush C dX8_undo_24 (v := 68) rfl ?_
  refine hc_aload_n C dX8_undo_26 rfl rfl ?_
  refine hc_getI C fl_X8_138 rfl rfl dX8_undo_27 ?_
  refine hc_imul C dX8_undo_30 ?_
  refine hc_top (v := nI (68 * a)) (by rw [hc_ms_v, show (68 : Int32) = nI 68 from rfl, pk_mul]) ?_
  refine hc_aload_n C dX8_undo_31 rfl rfl ?_
  refine hc_getR C fl_X8_25 rfl rfl dX8_undo_32 ?_
  refine hc_iconst C dX8_undo_35 (v := 0) rfl ?_
  refine hc_cS4v C ms_X8_134 (c_X8_copies (b := 0) C.ok rfl rfl (by decide) (by omega) (by decide)) (Nat.le_of_ble_eq_true rfl) (hc_rr_rm (by decide)) ⟨Nat.zero_le _, Nat.zero_le _⟩ dX8_undo_36 (fun M_36 h_36 => ?_)
  obtain rfl := h_36
  refine hc_aload_n C dX8_undo_39 rfl rfl ?_
  refine hc_getI C fl_X8_138 rfl rfl dX8_undo_40 ?_
  refine hc_iret C rfl dX8_undo_43 ?_
  exact ⟨rfl, rfl⟩

set_option maxRecDepth 100000 in
set_option maxHeartbeats 4000000 in
theorem c_X8_givesNow {l : Launch} {G : hc_Geo} (hG : hc_ok G) {M : hc_Mem} {E e0 : Nat}  (hE : M 54 4 = nI E) (hE6 : E ≤ 6) (he : e0 < E) : hc_M l G yX8_givesNow cX8_givesNow 3 (some .int) 3 [.ref (hc_ad G 48), .int (nI e0)] M (hc_pi (fun z M' => rGN (M 54) E e0 = z ∧ M = M')) := by
  refine hc_M.of hG (by decide) [some (.ref (hc_ad G 48)), some (.int (nI e0)), none] rfl (Nat.le_of_ble_eq_true rfl) ?_
  intro p e s m args below meth c C
  refine hc_aload_n C dX8_givesNow_0 rfl rfl ?_
  refine hc_getR C fl_X8_25 rfl rfl dX8_givesNow_1 ?_
  refine hc_iload_n C dX8_givesNow_4 rfl rfl ?_
  refine hc_cS2i C ms_X8_141 (c_X8_listens (k := 54) C.ok rfl (show e0 < 6 by omega)) (Nat.le_of_ble_eq_true rfl) (hc_rr_rm (by decide)) ⟨Nat.zero_le _, Nat.zero_le _⟩ dX8_givesNow_5 (fun r_5 M_5 h_5 => ?_)
  obtain ⟨rfl, rfl⟩ := h_5
  refine hc_if_ne C (tgt := 13) dX8_givesNow_8 (by decide) (fun c_8 => ?_) (fun c_8 => ?_)
  · refine hc_aload_n C dX8_givesNow_13 rfl rfl ?_
    refine hc_getR C fl_X8_25 rfl rfl dX8_givesNow_14 ?_
    refine hc_bipush C dX8_givesNow_17 (v := 6) rfl ?_
    refine hc_bipush C dX8_givesNow_19 (v := 7) rfl ?_
    refine hc_iload_n C dX8_givesNow_21 rfl rfl ?_
    refine hc_imul C dX8_givesNow_22 ?_
    refine hc_iadd C dX8_givesNow_23 ?_
    refine hc_ialdN C (j := (6 + 7 * e0)) rfl (hx_670 e0) (by omega) dX8_givesNow_24 ?_
    refine hc_iconst C dX8_givesNow_25 (v := 2) rfl ?_
    refine hc_icmp_ne C (tgt := 53) dX8_givesNow_26 (by decide) (fun c_26 => ?_) (fun c_26 => ?_)
    · refine hc_iconst C dX8_givesNow_53 (v := 0) rfl ?_
      refine hc_istore_n2 C dX8_givesNow_54 rfl (by decide) rfl ?_
      refine hc_iload_n C dX8_givesNow_55 rfl rfl ?_
      refine hc_if_eq C (tgt := 63) dX8_givesNow_56 (by decide) (fun c_56 => ?_) (fun c_56 => ?_)
      · refine hc_aload_n C dX8_givesNow_63 rfl rfl ?_
        refine hc_getR C fl_X8_25 rfl rfl dX8_givesNow_64 ?_
        refine hc_iload_n C dX8_givesNow_67 rfl rfl ?_
        refine hc_cS2i C ms_X8_149 (c_X8_heedOf (k := 54) C.ok rfl (show e0 < 6 by omega)) (Nat.le_of_ble_eq_true rfl) (hc_rr_rm (by decide)) ⟨Nat.zero_le _, Nat.zero_le _⟩ dX8_givesNow_68 (fun r_68 M_68 h_68 => ?_)
        obtain ⟨rfl, rfl⟩ := h_68
        refine hc_iret C rfl dX8_givesNow_71 ?_
        refine ⟨?_, rfl⟩
        unfold rGN
        first
          | exact absurd c_56 (by decide)
          | exact if_neg (hb_z.mp c_8)
          | exact (if_pos (hb_nz.mp c_8)).trans (if_neg c_26)
          | exact (if_pos (hb_nz.mp c_8)).trans ((if_pos c_26).trans (if_pos c_46))
          | exact (if_pos (hb_nz.mp c_8)).trans ((if_pos c_26).trans (if_neg c_46))
      · refine hc_iconst C dX8_givesNow_59 (v := 0) rfl ?_
        refine hc_goto C (tgt := 71) dX8_givesNow_60 (by decide) ?_
        refine hc_iret C rfl dX8_givesNow_71 ?_
        refine ⟨?_, rfl⟩
        unfold rGN
        first
          | exact absurd c_56 (by decide)
          | exact if_neg (hb_z.mp c_8)
          | exact (if_pos (hb_nz.mp c_8)).trans (if_neg c_26)
          | exact (if_pos (hb_nz.mp c_8)).trans ((if_pos c_26).trans (if_pos c_46))
          | exact (if_pos (hb_nz.mp c_8)).trans ((if_pos c_26).trans (if_neg c_46))
    · refine hc_aload_n C dX8_givesNow_29 rfl rfl ?_
      refine hc_getR C fl_X8_25 rfl rfl dX8_givesNow_30 ?_
      refine hc_aload_n C dX8_givesNow_33 rfl rfl ?_
      refine hc_getR C fl_X8_25 rfl rfl dX8_givesNow_34 ?_
      refine hc_cS1i C ms_X8_157 (c_X8_listening (k := 54) C.ok rfl hE hE6) (Nat.le_of_ble_eq_true rfl) (hc_rr_rm (by decide)) ⟨Nat.zero_le _, Nat.zero_le _⟩ dX8_givesNow_37 (fun r_37 M_37 h_37 => ?_)
      obtain ⟨rfl, rfl⟩ := h_37
      refine hc_iconst C dX8_givesNow_40 (v := 0) rfl ?_
      refine hc_cS3i C ms_X8_153 (c_X8_given_0 (k := 54) C.ok rfl hE hE6) (Nat.le_of_ble_eq_true rfl) (hc_rr_rm (by decide)) ⟨Nat.zero_le _, Nat.zero_le _⟩ dX8_givesNow_41 (fun r_41 M_41 h_41 => ?_)
      obtain ⟨rfl, rfl⟩ := h_41
      refine hc_bipush C dX8_givesNow_44 (v := 12) rfl ?_
      refine hc_icmp_lt C (tgt := 53) dX8_givesNow_46 (by decide) (fun c_46 => ?_) (fun c_46 => ?_)
      · refine hc_iconst C dX8_givesNow_53 (v := 0) rfl ?_
        refine hc_istore_n2 C dX8_givesNow_54 rfl (by decide) rfl ?_
        refine hc_iload_n C dX8_givesNow_55 rfl rfl ?_
        refine hc_if_eq C (tgt := 63) dX8_givesNow_56 (by decide) (fun c_56 => ?_) (fun c_56 => ?_)
        · refine hc_aload_n C dX8_givesNow_63 rfl rfl ?_
          refine hc_getR C fl_X8_25 rfl rfl dX8_givesNow_64 ?_
          refine hc_iload_n C dX8_givesNow_67 rfl rfl ?_
          refine hc_cS2i C ms_X8_149 (c_X8_heedOf (k := 54) C.ok rfl (show e0 < 6 by omega)) (Nat.le_of_ble_eq_true rfl) (hc_rr_rm (by decide)) ⟨Nat.zero_le _, Nat.zero_le _⟩ dX8_givesNow_68 (fun r_68 M_68 h_68 => ?_)
          obtain ⟨rfl, rfl⟩ := h_68
          refine hc_iret C rfl dX8_givesNow_71 ?_
          refine ⟨?_, rfl⟩
          unfold rGN
          first
            | exact absurd c_56 (by decide)
            | exact if_neg (hb_z.mp c_8)
            | exact (if_pos (hb_nz.mp c_8)).trans (if_neg c_26)
            | exact (if_pos (hb_nz.mp c_8)).trans ((if_pos c_26).trans (if_pos c_46))
            | exact (if_pos (hb_nz.mp c_8)).trans ((if_pos c_26).trans (if_neg c_46))
        · refine hc_iconst C dX8_givesNow_59 (v := 0) rfl ?_
          refine hc_goto C (tgt := 71) dX8_givesNow_60 (by decide) ?_
          refine hc_iret C rfl dX8_givesNow_71 ?_
          refine ⟨?_, rfl⟩
          unfold rGN
          first
            | exact absurd c_56 (by decide)
            | exact if_neg (hb_z.mp c_8)
            | exact (if_pos (hb_nz.mp c_8)).trans (if_neg c_26)
            | exact (if_pos (hb_nz.mp c_8)).trans ((if_pos c_26).trans (if_pos c_46))
            | exact (if_pos (hb_nz.mp c_8)).trans ((if_pos c_26).trans (if_neg c_46))
      · refine hc_iconst C dX8_givesNow_49 (v := 1) rfl ?_
        refine hc_goto C (tgt := 54) dX8_givesNow_50 (by decide) ?_
        refine hc_istore_n2 C dX8_givesNow_54 rfl (by decide) rfl ?_
        refine hc_iload_n C dX8_givesNow_55 rfl rfl ?_
        refine hc_if_eq C (tgt := 63) dX8_givesNow_56 (by decide) (fun c_56 => ?_) (fun c_56 => ?_)
        · refine hc_aload_n C dX8_givesNow_63 rfl rfl ?_
          refine hc_getR C fl_X8_25 rfl rfl dX8_givesNow_64 ?_
          refine hc_iload_n C dX8_givesNow_67 rfl rfl ?_
          refine hc_cS2i C ms_X8_149 (c_X8_heedOf (k := 54) C.ok rfl (show e0 < 6 by omega)) (Nat.le_of_ble_eq_true rfl) (hc_rr_rm (by decide)) ⟨Nat.zero_le _, Nat.zero_le _⟩ dX8_givesNow_68 (fun r_68 M_68 h_68 => ?_)
          obtain ⟨rfl, rfl⟩ := h_68
          refine hc_iret C rfl dX8_givesNow_71 ?_
          refine ⟨?_, rfl⟩
          unfold rGN
          first
            | exact absurd c_56 (by decide)
            | exact if_neg (hb_z.mp c_8)
            | exact (if_pos (hb_nz.mp c_8)).trans (if_neg c_26)
            | exact (if_pos (hb_nz.mp c_8)).trans ((if_pos c_26).trans (if_pos c_46))
            | exact (if_pos (hb_nz.mp c_8)).trans ((if_pos c_26).trans (if_neg c_46))
        · refine hc_iconst C dX8_givesNow_59 (v := 0) rfl ?_
          refine hc_goto C (tgt := 71) dX8_givesNow_60 (by decide) ?_
          refine hc_iret C rfl dX8_givesNow_71 ?_
          refine ⟨?_, rfl⟩
          unfold rGN
          first
            | exact absurd c_56 (by decide)
            | exact if_neg (hb_z.mp c_8)
            | exact (if_pos (hb_nz.mp c_8)).trans (if_neg c_26)
            | exact (if_pos (hb_nz.mp c_8)).trans ((if_pos c_26).trans (if_pos c_46))
            | exact (if_pos (hb_nz.mp c_8)).trans ((if_pos c_26).trans (if_neg c_46))
  · refine hc_iconst C dX8_givesNow_11 (v := 0) rfl ?_
    refine hc_iret C rfl dX8_givesNow_12 ?_
    refine ⟨?_, rfl⟩
    unfold rGN
    first
      | exact absurd c_56 (by decide)
      | exact if_neg (hb_z.mp c_8)
      | exact (if_pos (hb_nz.mp c_8)).trans (if_neg c_26)
      | exact (if_pos (hb_nz.mp c_8)).trans ((if_pos c_26).trans (if_pos c_46))
      | exact (if_pos (hb_nz.mp c_8)).trans ((if_pos c_26).trans (if_neg c_46))

set_option maxRecDepth 100000 in
set_option maxHeartbeats 4000000 in
theorem c_X8_ear_o {l : Launch} {G : hc_Geo} (hG : hc_ok G) {M : hc_Mem} {E e0 : Nat} {v2 : Int32}  (hE : M 54 4 = nI E) (hE6 : E ≤ 6) (he : e0 < E) : hc_M l G yX8_ear cX8_ear 4 (some .int) 4 [.ref (hc_ad G 48), .int (nI e0), .int v2] M (hc_pi (fun z M' => rEar (M 54) E e0 v2 = z ∧ M = M')) := by
  refine hc_M.of hG (by decide) [some (.ref (hc_ad G 48)), some (.int (nI e0)), some (.int v2), none] rfl (Nat.le_of_ble_eq_true rfl) ?_
  intro p e s m args below meth c C
  refine hc_aload_n C dX8_ear_0 rfl rfl ?_
  refine hc_iload_n C dX8_ear_1 rfl rfl ?_
  refine hc_cV1i C mv_X8_178 (c_X8_isEar C.ok hE (by omega)) rfl rfl rfl (Nat.le_of_ble_eq_true rfl) (hc_rr_rm (by decide)) ⟨Nat.zero_le _, Nat.zero_le _⟩ dX8_ear_2 (fun r_2 M_2 h_2 => ?_)
  obtain ⟨rfl, rfl⟩ := h_2
  refine hc_if_ne C (tgt := 11) dX8_ear_5 (by decide) (fun c_5 => ?_) (fun c_5 => ?_)
  rotate_left
  · exact absurd (hx_earR hE hE6 he) (hb_z.mp c_5)
  refine hc_bipush C dX8_ear_11 (v := 6) rfl ?_
  refine hc_bipush C dX8_ear_13 (v := 7) rfl ?_
  refine hc_iload_n C dX8_ear_15 rfl rfl ?_
  refine hc_imul C dX8_ear_16 ?_
  refine hc_iadd C dX8_ear_17 ?_
  refine hc_top (hx_670 e0) ?_
  refine hc_istore_n3 C dX8_ear_18 rfl (by decide) rfl ?_
  refine hc_iload_n C dX8_ear_19 rfl rfl ?_
  by_cases hk0 : v2 = 0
  · refine hc_top hk0 ?_
    refine hc_tableIn C (off := 40) (tgt := 60) dX8_ear_20 (by decide) (by decide) rfl (by decide) ?_
    refine hc_aload_n C dX8_ear_60 rfl rfl ?_
    refine hc_getR C fl_X8_25 rfl rfl dX8_ear_61 ?_
    refine hc_iload_n C dX8_ear_64 rfl rfl ?_
    refine hc_iconst C dX8_ear_65 (v := 1) rfl ?_
    refine hc_iadd C dX8_ear_66 ?_
    refine hc_ialdN C (j := (6 + 7 * e0 + 1)) rfl (show nI (6 + 7 * e0) + nI 1 = nI (6 + 7 * e0 + 1) from nI_add _ _) (by omega) dX8_ear_67 ?_
    refine hc_iret C rfl dX8_ear_68 ?_
    refine ⟨?_, rfl⟩
    unfold rEar
    first
      | exact if_pos hk0
      | exact (if_neg hk0).trans (if_pos hk1)
      | exact (if_neg hk0).trans ((if_neg hk1).trans (if_pos hk2))
      | exact (if_neg hk0).trans ((if_neg hk1).trans ((if_neg hk2).trans ((if_neg hk3).trans ((if_neg hk4).trans (if_pos hk5)))))
      | exact (if_neg hk0).trans ((if_neg hk1).trans ((if_neg hk2).trans ((if_pos hk3).trans (hb_t (hb_nz.mp c_95)))))
      | exact (if_neg hk0).trans ((if_neg hk1).trans ((if_neg hk2).trans ((if_pos hk3).trans (hb_f (hb_z.mp c_95)))))
      | exact (if_neg hk0).trans ((if_neg hk1).trans ((if_neg hk2).trans ((if_neg hk3).trans (if_pos hk4))))
      | exact (if_neg hk0).trans ((if_neg hk1).trans ((if_neg hk2).trans ((if_neg hk3).trans ((if_neg hk4).trans (if_neg hk5)))))
  by_cases hk1 : v2 = 1
  · refine hc_top hk1 ?_
    refine hc_tableIn C (off := 49) (tgt := 69) dX8_ear_20 (by decide) (by decide) rfl (by decide) ?_
    refine hc_aload_n C dX8_ear_69 rfl rfl ?_
    refine hc_getR C fl_X8_25 rfl rfl dX8_ear_70 ?_
    refine hc_iload_n C dX8_ear_73 rfl rfl ?_
    refine hc_iconst C dX8_ear_74 (v := 2) rfl ?_
    refine hc_iadd C dX8_ear_75 ?_
    refine hc_ialdN C (j := (6 + 7 * e0 + 2)) rfl (show nI (6 + 7 * e0) + nI 2 = nI (6 + 7 * e0 + 2) from nI_add _ _) (by omega) dX8_ear_76 ?_
    refine hc_iret C rfl dX8_ear_77 ?_
    refine ⟨?_, rfl⟩
    unfold rEar
    first
      | exact if_pos hk0
      | exact (if_neg hk0).trans (if_pos hk1)
      | exact (if_neg hk0).trans ((if_neg hk1).trans (if_pos hk2))
      | exact (if_neg hk0).trans ((if_neg hk1).trans ((if_neg hk2).trans ((if_neg hk3).trans ((if_neg hk4).trans (if_pos hk5)))))
      | exact (if_neg hk0).trans ((if_neg hk1).trans ((if_neg hk2).trans ((if_pos hk3).trans (hb_t (hb_nz.mp c_95)))))
      | exact (if_neg hk0).trans ((if_neg hk1).trans ((if_neg hk2).trans ((if_pos hk3).trans (hb_f (hb_z.mp c_95)))))
      | exact (if_neg hk0).trans ((if_neg hk1).trans ((if_neg hk2).trans ((if_neg hk3).trans (if_pos hk4))))
      | exact (if_neg hk0).trans ((if_neg hk1).trans ((if_neg hk2).trans ((if_neg hk3).trans ((if_neg hk4).trans (if_neg hk5)))))
  by_cases hk2 : v2 = 2
  · refine hc_top hk2 ?_
    refine hc_tableIn C (off := 58) (tgt := 78) dX8_ear_20 (by decide) (by decide) rfl (by decide) ?_
    refine hc_aload_n C dX8_ear_78 rfl rfl ?_
    refine hc_getR C fl_X8_25 rfl rfl dX8_ear_79 ?_
    refine hc_iload_n C dX8_ear_82 rfl rfl ?_
    refine hc_iconst C dX8_ear_83 (v := 5) rfl ?_
    refine hc_iadd C dX8_ear_84 ?_
    refine hc_ialdN C (j := (6 + 7 * e0 + 5)) rfl (show nI (6 + 7 * e0) + nI 5 = nI (6 + 7 * e0 + 5) from nI_add _ _) (by omega) dX8_ear_85 ?_
    refine hc_iret C rfl dX8_ear_86 ?_
    refine ⟨?_, rfl⟩
    unfold rEar
    first
      | exact if_pos hk0
      | exact (if_neg hk0).trans (if_pos hk1)
      | exact (if_neg hk0).trans ((if_neg hk1).trans (if_pos hk2))
      | exact (if_neg hk0).trans ((if_neg hk1).trans ((if_neg hk2).trans ((if_neg hk3).trans ((if_neg hk4).trans (if_pos hk5)))))
      | exact (if_neg hk0).trans ((if_neg hk1).trans ((if_neg hk2).trans ((if_pos hk3).trans (hb_t (hb_nz.mp c_95)))))
      | exact (if_neg hk0).trans ((if_neg hk1).trans ((if_neg hk2).trans ((if_pos hk3).trans (hb_f (hb_z.mp c_95)))))
      | exact (if_neg hk0).trans ((if_neg hk1).trans ((if_neg hk2).trans ((if_neg hk3).trans (if_pos hk4))))
      | exact (if_neg hk0).trans ((if_neg hk1).trans ((if_neg hk2).trans ((if_neg hk3).trans ((if_neg hk4).trans (if_neg hk5)))))
  by_cases hk3 : v2 = 3
  · refine hc_top hk3 ?_
    refine hc_tableIn C (off := 67) (tgt := 87) dX8_ear_20 (by decide) (by decide) rfl (by decide) ?_
    refine hc_aload_n C dX8_ear_87 rfl rfl ?_
    refine hc_getR C fl_X8_25 rfl rfl dX8_ear_88 ?_
    refine hc_iload_n C dX8_ear_91 rfl rfl ?_
    refine hc_cS2i C ms_X8_141 (c_X8_listens (k := 54) C.ok rfl (show e0 < 6 by omega)) (Nat.le_of_ble_eq_true rfl) (hc_rr_rm (by decide)) ⟨Nat.zero_le _, Nat.zero_le _⟩ dX8_ear_92 (fun r_92 M_92 h_92 => ?_)
    obtain ⟨rfl, rfl⟩ := h_92
    refine hc_if_eq C (tgt := 102) dX8_ear_95 (by decide) (fun c_95 => ?_) (fun c_95 => ?_)
    · refine hc_iconst C dX8_ear_102 (v := 0) rfl ?_
      refine hc_iret C rfl dX8_ear_103 ?_
      refine ⟨?_, rfl⟩
      unfold rEar
      first
        | exact if_pos hk0
        | exact (if_neg hk0).trans (if_pos hk1)
        | exact (if_neg hk0).trans ((if_neg hk1).trans (if_pos hk2))
        | exact (if_neg hk0).trans ((if_neg hk1).trans ((if_neg hk2).trans ((if_neg hk3).trans ((if_neg hk4).trans (if_pos hk5)))))
        | exact (if_neg hk0).trans ((if_neg hk1).trans ((if_neg hk2).trans ((if_pos hk3).trans (hb_t (hb_nz.mp c_95)))))
        | exact (if_neg hk0).trans ((if_neg hk1).trans ((if_neg hk2).trans ((if_pos hk3).trans (hb_f (hb_z.mp c_95)))))
        | exact (if_neg hk0).trans ((if_neg hk1).trans ((if_neg hk2).trans ((if_neg hk3).trans (if_pos hk4))))
        | exact (if_neg hk0).trans ((if_neg hk1).trans ((if_neg hk2).trans ((if_neg hk3).trans ((if_neg hk4).trans (if_neg hk5)))))
    · refine hc_iconst C dX8_ear_98 (v := 1) rfl ?_
      refine hc_goto C (tgt := 103) dX8_ear_99 (by decide) ?_
      refine hc_iret C rfl dX8_ear_103 ?_
      refine ⟨?_, rfl⟩
      unfold rEar
      first
        | exact if_pos hk0
        | exact (if_neg hk0).trans (if_pos hk1)
        | exact (if_neg hk0).trans ((if_neg hk1).trans (if_pos hk2))
        | exact (if_neg hk0).trans ((if_neg hk1).trans ((if_neg hk2).trans ((if_neg hk3).trans ((if_neg hk4).trans (if_pos hk5)))))
        | exact (if_neg hk0).trans ((if_neg hk1).trans ((if_neg hk2).trans ((if_pos hk3).trans (hb_t (hb_nz.mp c_95)))))
        | exact (if_neg hk0).trans ((if_neg hk1).trans ((if_neg hk2).trans ((if_pos hk3).trans (hb_f (hb_z.mp c_95)))))
        | exact (if_neg hk0).trans ((if_neg hk1).trans ((if_neg hk2).trans ((if_neg hk3).trans (if_pos hk4))))
        | exact (if_neg hk0).trans ((if_neg hk1).trans ((if_neg hk2).trans ((if_neg hk3).trans ((if_neg hk4).trans (if_neg hk5)))))
  by_cases hk4 : v2 = 4
  · refine hc_top hk4 ?_
    refine hc_tableIn C (off := 84) (tgt := 104) dX8_ear_20 (by decide) (by decide) rfl (by decide) ?_
    refine hc_aload_n C dX8_ear_104 rfl rfl ?_
    refine hc_iload_n C dX8_ear_105 rfl rfl ?_
    refine hc_cV1i C mv_X8_185 (c_X8_givesNow (E := E) (e0 := e0) C.ok hE hE6 he) rfl rfl rfl (Nat.le_of_ble_eq_true rfl) (hc_rr_rm (by decide)) ⟨Nat.zero_le _, Nat.zero_le _⟩ dX8_ear_106 (fun r_106 M_106 h_106 => ?_)
    obtain ⟨rfl, rfl⟩ := h_106
    refine hc_iret C rfl dX8_ear_109 ?_
    refine ⟨?_, rfl⟩
    unfold rEar
    first
      | exact if_pos hk0
      | exact (if_neg hk0).trans (if_pos hk1)
      | exact (if_neg hk0).trans ((if_neg hk1).trans (if_pos hk2))
      | exact (if_neg hk0).trans ((if_neg hk1).trans ((if_neg hk2).trans ((if_neg hk3).trans ((if_neg hk4).trans (if_pos hk5)))))
      | exact (if_neg hk0).trans ((if_neg hk1).trans ((if_neg hk2).trans ((if_pos hk3).trans (hb_t (hb_nz.mp c_95)))))
      | exact (if_neg hk0).trans ((if_neg hk1).trans ((if_neg hk2).trans ((if_pos hk3).trans (hb_f (hb_z.mp c_95)))))
      | exact (if_neg hk0).trans ((if_neg hk1).trans ((if_neg hk2).trans ((if_neg hk3).trans (if_pos hk4))))
      | exact (if_neg hk0).trans ((if_neg hk1).trans ((if_neg hk2).trans ((if_neg hk3).trans ((if_neg hk4).trans (if_neg hk5)))))
  by_cases hk5 : v2 = 5
  · refine hc_top hk5 ?_
    refine hc_tableIn C (off := 90) (tgt := 110) dX8_ear_20 (by decide) (by decide) rfl (by decide) ?_
    refine hc_aload_n C dX8_ear_110 rfl rfl ?_
    refine hc_getR C fl_X8_25 rfl rfl dX8_ear_111 ?_
    refine hc_iload_n C dX8_ear_114 rfl rfl ?_
    refine hc_bipush C dX8_ear_115 (v := 6) rfl ?_
    refine hc_iadd C dX8_ear_117 ?_
    refine hc_ialdN C (j := (6 + 7 * e0 + 6)) rfl (show nI (6 + 7 * e0) + nI 6 = nI (6 + 7 * e0 + 6) from nI_add _ _) (by omega) dX8_ear_118 ?_
    refine hc_iret C rfl dX8_ear_119 ?_
    refine ⟨?_, rfl⟩
    unfold rEar
    first
      | exact if_pos hk0
      | exact (if_neg hk0).trans (if_pos hk1)
      | exact (if_neg hk0).trans ((if_neg hk1).trans (if_pos hk2))
      | exact (if_neg hk0).trans ((if_neg hk1).trans ((if_neg hk2).trans ((if_neg hk3).trans ((if_neg hk4).trans (if_pos hk5)))))
      | exact (if_neg hk0).trans ((if_neg hk1).trans ((if_neg hk2).trans ((if_pos hk3).trans (hb_t (hb_nz.mp c_95)))))
      | exact (if_neg hk0).trans ((if_neg hk1).trans ((if_neg hk2).trans ((if_pos hk3).trans (hb_f (hb_z.mp c_95)))))
      | exact (if_neg hk0).trans ((if_neg hk1).trans ((if_neg hk2).trans ((if_neg hk3).trans (if_pos hk4))))
      | exact (if_neg hk0).trans ((if_neg hk1).trans ((if_neg hk2).trans ((if_neg hk3).trans ((if_neg hk4).trans (if_neg hk5)))))
  refine hc_tableOut C (tgt := 120) dX8_ear_20 (by have n0 : (v2).toInt ≠ 0 := fun q => hk0 (Int32.toInt_inj.mp q); have n1 : (v2).toInt ≠ 1 := fun q => hk1 (Int32.toInt_inj.mp q); have n2 : (v2).toInt ≠ 2 := fun q => hk2 (Int32.toInt_inj.mp q); have n3 : (v2).toInt ≠ 3 := fun q => hk3 (Int32.toInt_inj.mp q); have n4 : (v2).toInt ≠ 4 := fun q => hk4 (Int32.toInt_inj.mp q); have n5 : (v2).toInt ≠ 5 := fun q => hk5 (Int32.toInt_inj.mp q); omega) (by decide) ?_
  refine hc_ldc C kc_X8_64 dX8_ear_120 ?_
  refine hc_iret C rfl dX8_ear_122 ?_
  refine ⟨?_, rfl⟩
  unfold rEar
  first
    | exact if_pos hk0
    | exact (if_neg hk0).trans (if_pos hk1)
    | exact (if_neg hk0).trans ((if_neg hk1).trans (if_pos hk2))
    | exact (if_neg hk0).trans ((if_neg hk1).trans ((if_neg hk2).trans ((if_neg hk3).trans ((if_neg hk4).trans (if_pos hk5)))))
    | exact (if_neg hk0).trans ((if_neg hk1).trans ((if_neg hk2).trans ((if_pos hk3).trans (hb_t (hb_nz.mp c_95)))))
    | exact (if_neg hk0).trans ((if_neg hk1).trans ((if_neg hk2).trans ((if_pos hk3).trans (hb_f (hb_z.mp c_95)))))
    | exact (if_neg hk0).trans ((if_neg hk1).trans ((if_neg hk2).trans ((if_neg hk3).trans (if_pos hk4))))
    | exact (if_neg hk0).trans ((if_neg hk1).trans ((if_neg hk2).trans ((if_neg hk3).trans ((if_neg hk4).trans (if_neg hk5)))))

set_option maxRecDepth 100000 in
set_option maxHeartbeats 4000000 in
theorem c_X8_clock_o {l : Launch} {G : hc_Geo} (hG : hc_ok G) {M : hc_Mem} {v1 : Int32} {E : Nat}  (h0 : M 54 0 = 1) (hE : M 54 4 = nI E) (hE6 : E ≤ 6) : hc_M l G yX8_clock cX8_clock 2 (some .int) 5 [.ref (hc_ad G 48), .int v1] M (hc_pi (fun z M' => rClk (M 54) E v1 = z ∧ M = M')) := by
  refine hc_M.of hG (by decide) [some (.ref (hc_ad G 48)), some (.int v1)] rfl (Nat.le_of_ble_eq_true rfl) ?_
  intro p e s m args below meth c C
  refine hc_aload_n C dX8_clock_0 rfl rfl ?_
  refine hc_cV0i C mv_X8_171 (c_X8_isHouse C.ok) rfl rfl rfl (Nat.le_of_ble_eq_true rfl) (hc_rr_rm (by decide)) ⟨Nat.zero_le _, Nat.zero_le _⟩ dX8_clock_1 (fun r_1 M_1 h_1 => ?_)
  obtain ⟨rfl, rfl⟩ := h_1
  refine hc_if_ne C (tgt := 10) dX8_clock_4 (by decide) (fun c_4 => ?_) (fun c_4 => ?_)
  rotate_left
  · exact absurd h0 (hb_z.mp c_4)
  refine hc_iload_n C dX8_clock_10 rfl rfl ?_
  by_cases hk0 : v1 = 0
  · refine hc_top hk0 ?_
    refine hc_tableIn C (off := 29) (tgt := 40) dX8_clock_11 (by decide) (by decide) rfl (by decide) ?_
    refine hc_aload_n C dX8_clock_40 rfl rfl ?_
    refine hc_getR C fl_X8_25 rfl rfl dX8_clock_41 ?_
    refine hc_iconst C dX8_clock_44 (v := 3) rfl ?_
    refine hc_ialdN C (j := 3) rfl rfl (by decide) dX8_clock_45 ?_
    refine hc_iret C rfl dX8_clock_46 ?_
    refine ⟨?_, rfl⟩
    unfold rClk
    first
      | exact if_pos hk0
      | exact (if_neg hk0).trans (if_pos hk1)
      | exact (if_neg hk0).trans ((if_neg hk1).trans (if_pos hk2))
      | exact (if_neg hk0).trans ((if_neg hk1).trans ((if_neg hk2).trans (if_pos hk3)))
      | exact (if_neg hk0).trans ((if_neg hk1).trans ((if_neg hk2).trans (if_neg hk3)))
  by_cases hk1 : v1 = 1
  · refine hc_top hk1 ?_
    refine hc_tableIn C (off := 36) (tgt := 47) dX8_clock_11 (by decide) (by decide) rfl (by decide) ?_
    refine hc_aload_n C dX8_clock_47 rfl rfl ?_
    refine hc_getR C fl_X8_25 rfl rfl dX8_clock_48 ?_
    refine hc_iconst C dX8_clock_51 (v := 3) rfl ?_
    refine hc_ialdN C (j := 3) rfl rfl (by decide) dX8_clock_52 ?_
    refine hc_bipush C dX8_clock_53 (v := 12) rfl ?_
    refine hc_idiv C dX8_clock_55 (by decide) ?_
    refine hc_iret C rfl dX8_clock_56 ?_
    refine ⟨?_, rfl⟩
    unfold rClk
    first
      | exact if_pos hk0
      | exact (if_neg hk0).trans (if_pos hk1)
      | exact (if_neg hk0).trans ((if_neg hk1).trans (if_pos hk2))
      | exact (if_neg hk0).trans ((if_neg hk1).trans ((if_neg hk2).trans (if_pos hk3)))
      | exact (if_neg hk0).trans ((if_neg hk1).trans ((if_neg hk2).trans (if_neg hk3)))
  by_cases hk2 : v1 = 2
  · refine hc_top hk2 ?_
    refine hc_tableIn C (off := 46) (tgt := 57) dX8_clock_11 (by decide) (by decide) rfl (by decide) ?_
    refine hc_aload_n C dX8_clock_57 rfl rfl ?_
    refine hc_getR C fl_X8_25 rfl rfl dX8_clock_58 ?_
    refine hc_cS1i C ms_X8_164 (c_X8_goes (k := 54) C.ok rfl hE hE6) (Nat.le_of_ble_eq_true rfl) (hc_rr_rm (by decide)) ⟨Nat.zero_le _, Nat.zero_le _⟩ dX8_clock_61 (fun r_61 M_61 h_61 => ?_)
    obtain ⟨rfl, rfl⟩ := h_61
    refine hc_iret C rfl dX8_clock_64 ?_
    refine ⟨?_, rfl⟩
    unfold rClk
    first
      | exact if_pos hk0
      | exact (if_neg hk0).trans (if_pos hk1)
      | exact (if_neg hk0).trans ((if_neg hk1).trans (if_pos hk2))
      | exact (if_neg hk0).trans ((if_neg hk1).trans ((if_neg hk2).trans (if_pos hk3)))
      | exact (if_neg hk0).trans ((if_neg hk1).trans ((if_neg hk2).trans (if_neg hk3)))
  by_cases hk3 : v1 = 3
  · refine hc_top hk3 ?_
    refine hc_tableIn C (off := 54) (tgt := 65) dX8_clock_11 (by decide) (by decide) rfl (by decide) ?_
    refine hc_aload_n C dX8_clock_65 rfl rfl ?_
    refine hc_getR C fl_X8_25 rfl rfl dX8_clock_66 ?_
    refine hc_iconst C dX8_clock_69 (v := 1) rfl ?_
    refine hc_ialdN C (j := 1) rfl rfl (by decide) dX8_clock_70 ?_
    refine hc_iret C rfl dX8_clock_71 ?_
    refine ⟨?_, rfl⟩
    unfold rClk
    first
      | exact if_pos hk0
      | exact (if_neg hk0).trans (if_pos hk1)
      | exact (if_neg hk0).trans ((if_neg hk1).trans (if_pos hk2))
      | exact (if_neg hk0).trans ((if_neg hk1).trans ((if_neg hk2).trans (if_pos hk3)))
      | exact (if_neg hk0).trans ((if_neg hk1).trans ((if_neg hk2).trans (if_neg hk3)))
  refine hc_tableOut C (tgt := 72) dX8_clock_11 (by have n0 : (v1).toInt ≠ 0 := fun q => hk0 (Int32.toInt_inj.mp q); have n1 : (v1).toInt ≠ 1 := fun q => hk1 (Int32.toInt_inj.mp q); have n2 : (v1).toInt ≠ 2 := fun q => hk2 (Int32.toInt_inj.mp q); have n3 : (v1).toInt ≠ 3 := fun q => hk3 (Int32.toInt_inj.mp q); omega) (by decide) ?_
  refine hc_ldc C kc_X8_64 dX8_clock_72 ?_
  refine hc_iret C rfl dX8_clock_74 ?_
  refine ⟨?_, rfl⟩
  unfold rClk
  first
    | exact if_pos hk0
    | exact (if_neg hk0).trans (if_pos hk1)
    | exact (if_neg hk0).trans ((if_neg hk1).trans (if_pos hk2))
    | exact (if_neg hk0).trans ((if_neg hk1).trans ((if_neg hk2).trans (if_pos hk3)))
    | exact (if_neg hk0).trans ((if_neg hk1).trans ((if_neg hk2).trans (if_neg hk3)))

set_option maxRecDepth 100000 in
set_option maxHeartbeats 4000000 in
theorem c_X8_image_o {l : Launch} {G : hc_Geo} (hG : hc_ok G) {M : hc_Mem} {k : Nat}  (h0 : M 54 0 = 1) (hk : k < 2) : hc_M l G yX8_image cX8_image 2 (some .int) 2 [.ref (hc_ad G 48), .int (nI k)] M (hc_pi (fun z M' => 1 = z ∧ hc_ms (hc_mf M 57 (va_cpy (M 54) (M 57) 0 (68 * k) 68)) 58 k 1 = M')) := by
  refine hc_M.of hG (by decide) [some (.ref (hc_ad G 48)), some (.int (nI k))] rfl (Nat.le_of_ble_eq_true rfl) ?_
  intro p e s m args below meth c C
  refine hc_iload_n C dX8_image_0 rfl rfl ?_
  refine hc_iconst C dX8_image_1 (v := 0) rfl ?_
  refine hc_iconst C dX8_image_2 (v := 1) rfl ?_
  refine hc_cS3i C ms_X8_56 (c_X8_in C.ok) (Nat.le_of_ble_eq_true rfl) (hc_rr_rm (by decide)) ⟨Nat.zero_le _, Nat.zero_le _⟩ dX8_image_3 (fun r_3 M_3 h_3 => ?_)
  obtain ⟨rfl, rfl⟩ := h_3
  refine hc_if_ne C (tgt := 12) dX8_image_6 (by decide) (fun c_6 => ?_) (fun c_6 => ?_)
  rotate_left
  · exact absurd (hx_in (lo := 0) (hi := 1) (Nat.zero_le _) (show k ≤ 1 by omega) (by decide)) (hb_z.mp c_6)
  refine hc_aload_n C dX8_image_12 rfl rfl ?_
  refine hc_cV0i C mv_X8_171 (c_X8_isHouse C.ok) rfl rfl rfl (Nat.le_of_ble_eq_true rfl) (hc_rr_rm (by decide)) ⟨Nat.zero_le _, Nat.zero_le _⟩ dX8_image_13 (fun r_13 M_13 h_13 => ?_)
  obtain ⟨rfl, rfl⟩ := h_13
  refine hc_if_ne C (tgt := 22) dX8_image_16 (by decide) (fun c_16 => ?_) (fun c_16 => ?_)
  rotate_left
  · exact absurd h0 (hb_z.mp c_16)
  refine hc_aload_n C dX8_image_22 rfl rfl ?_
  refine hc_getR C fl_X8_25 rfl rfl dX8_image_23 ?_
  refine hc_iconst C dX8_image_26 (v := 0) rfl ?_
  refine hc_aload_n C dX8_image_27 rfl rfl ?_
  refine hc_getR C fl_X8_34 rfl rfl dX8_image_28 ?_
  refine hc_bipush C dX8_image_31 (v := 68) rfl ?_
  refine hc_iload_n C dX8_image_33 rfl rfl ?_
  refine hc_imul C dX8_image_34 ?_
  refine hc_top (v := nI (68 * k)) (by rw [show (68 : Int32) = nI 68 from rfl, pk_mul]) ?_
  refine hc_cS4v C ms_X8_134 (c_X8_copies (a := 0) (b := 68 * k) C.ok rfl rfl (by decide) (by decide) (by omega)) (Nat.le_of_ble_eq_true rfl) (hc_rr_rm (by decide)) ⟨Nat.zero_le _, Nat.zero_le _⟩ dX8_image_35 (fun M_35 h_35 => ?_)
  obtain rfl := h_35
  refine hc_aload_n C dX8_image_38 rfl rfl ?_
  refine hc_getR C fl_X8_37 rfl rfl dX8_image_39 ?_
  refine hc_iload_n C dX8_image_42 rfl rfl ?_
  refine hc_iconst C dX8_image_43 (v := 1) rfl ?_
  refine hc_zastN C (j := k) rfl rfl rfl (by omega) dX8_image_44 ?_
  refine hc_iconst C dX8_image_45 (v := 1) rfl ?_
  refine hc_iret C rfl dX8_image_46 ?_
  exact ⟨rfl, rfl⟩

set_option maxRecDepth 100000 in
set_option maxHeartbeats 4000000 in
theorem c_X8_restore_o {l : Launch} {G : hc_Geo} (hG : hc_ok G) {M : hc_Mem} {k : Nat}  (hk : k < 2) (h1 : ¬ M 58 k = 0) : hc_M l G yX8_restore cX8_restore 2 (some .int) 2 [.ref (hc_ad G 48), .int (nI k)] M (hc_pi (fun z M' => 1 = z ∧ hc_ms (hc_mf M 54 (va_cpy (M 57) (M 54) (68 * k) 0 68)) 48 16 0 = M')) := by
  refine hc_M.of hG (by decide) [some (.ref (hc_ad G 48)), some (.int (nI k))] rfl (Nat.le_of_ble_eq_true rfl) ?_
  intro p e s m args below meth c C
  refine hc_iload_n C dX8_restore_0 rfl rfl ?_
  refine hc_iconst C dX8_restore_1 (v := 0) rfl ?_
  refine hc_iconst C dX8_restore_2 (v := 1) rfl ?_
  refine hc_cS3i C ms_X8_56 (c_X8_in C.ok) (Nat.le_of_ble_eq_true rfl) (hc_rr_rm (by decide)) ⟨Nat.zero_le _, Nat.zero_le _⟩ dX8_restore_3 (fun r_3 M_3 h_3 => ?_)
  obtain ⟨rfl, rfl⟩ := h_3
  refine hc_if_ne C (tgt := 12) dX8_restore_6 (by decide) (fun c_6 => ?_) (fun c_6 => ?_)
  rotate_left
  · exact absurd (hx_in (lo := 0) (hi := 1) (Nat.zero_le _) (show k ≤ 1 by omega) (by decide)) (hb_z.mp c_6)
  refine hc_aload_n C dX8_restore_12 rfl rfl ?_
  refine hc_getR C fl_X8_37 rfl rfl dX8_restore_13 ?_
  refine hc_iload_n C dX8_restore_16 rfl rfl ?_
  refine hc_zaldN C (j := k) rfl rfl (by omega) dX8_restore_17 ?_
  refine hc_if_ne C (tgt := 24) dX8_restore_18 (by decide) (fun c_18 => ?_) (fun c_18 => ?_)
  rotate_left
  · exact absurd c_18 h1
  refine hc_aload_n C dX8_restore_24 rfl rfl ?_
  refine hc_getR C fl_X8_34 rfl rfl dX8_restore_25 ?_
  refine hc_bipush C dX8_restore_28 (v := 68) rfl ?_
  refine hc_iload_n C dX8_restore_30 rfl rfl ?_
  refine hc_imul C dX8_restore_31 ?_
  refine hc_top (v := nI (68 * k)) (by rw [show (68 : Int32) = nI 68 from rfl, pk_mul]) ?_
  refine hc_aload_n C dX8_restore_32 rfl rfl ?_
  refine hc_getR C fl_X8_25 rfl rfl dX8_restore_33 ?_
  refine hc_iconst C dX8_restore_36 (v := 0) rfl ?_
  refine hc_cS4v C ms_X8_134 (c_X8_copies (a := 68 * k) (b := 0) C.ok rfl rfl (by decide) (by omega) (by decide)) (Nat.le_of_ble_eq_true rfl) (hc_rr_rm (by decide)) ⟨Nat.zero_le _, Nat.zero_le _⟩ dX8_restore_37 (fun M_37 h_37 => ?_)
  obtain rfl := h_37
  refine hc_aload_n C dX8_restore_40 rfl rfl ?_
  refine hc_iconst C dX8_restore_41 (v := 0) rfl ?_
  refine hc_putI C fl_X8_138 pl_6_16 rfl rfl dX8_restore_42 ?_
  refine hc_iconst C dX8_restore_45 (v := 1) rfl ?_
  refine hc_iret C rfl dX8_restore_46 ?_
  exact ⟨rfl, rfl⟩

set_option maxRecDepth 100000 in
set_option maxHeartbeats 4000000 in
theorem c_X8_kindIn {l : Launch} {G : hc_Geo} (hG : hc_ok G) {M : hc_Mem} {e0 : Nat}  (he6 : e0 < 6) : hc_M l G yX8_kindIn cX8_kindIn 2 (some .int) 1 [.ref (hc_ad G 48), .int (nI e0)] M (hc_pi (fun z M' => M 54 (6 + 7 * e0) = z ∧ M = M')) := by
  refine hc_M.of hG (by decide) [some (.ref (hc_ad G 48)), some (.int (nI e0))] rfl (Nat.le_of_ble_eq_true rfl) ?_
  intro p e s m args below meth c C
  refine hc_aload_n C dX8_kindIn_0 rfl rfl ?_
  refine hc_getR C fl_X8_25 rfl rfl dX8_kindIn_1 ?_
  refine hc_bipush C dX8_kindIn_4 (v := 6) rfl ?_
  refine hc_bipush C dX8_kindIn_6 (v := 7) rfl ?_
  refine hc_iload_n C dX8_kindIn_8 rfl rfl ?_
  refine hc_imul C dX8_kindIn_9 ?_
  refine hc_iadd C dX8_kindIn_10 ?_
  refine hc_ialdN C (j := (6 + 7 * e0)) rfl (hx_670 e0) (by omega) dX8_kindIn_11 ?_
  refine hc_iret C rfl dX8_kindIn_12 ?_
  exact ⟨rfl, rfl⟩

set_option maxRecDepth 100000 in
set_option maxHeartbeats 4000000 in
theorem c_X8_kind_o {l : Launch} {G : hc_Geo} (hG : hc_ok G) {M : hc_Mem} {E e0 : Nat}  (hE : M 54 4 = nI E) (hE6 : E ≤ 6) (he : e0 < E) : hc_M l G yX8_kind cX8_kind 2 (some .int) 3 [.ref (hc_ad G 48), .int (nI e0)] M (hc_pi (fun z M' => M 54 (6 + 7 * e0) = z ∧ M = M')) := by
  refine hc_M.of hG (by decide) [some (.ref (hc_ad G 48)), some (.int (nI e0))] rfl (Nat.le_of_ble_eq_true rfl) ?_
  intro p e s m args below meth c C
  refine hc_aload_n C dX8_kind_0 rfl rfl ?_
  refine hc_iload_n C dX8_kind_1 rfl rfl ?_
  refine hc_cV1i C mv_X8_178 (c_X8_isEar C.ok hE (by omega)) rfl rfl rfl (Nat.le_of_ble_eq_true rfl) (hc_rr_rm (by decide)) ⟨Nat.zero_le _, Nat.zero_le _⟩ dX8_kind_2 (fun r_2 M_2 h_2 => ?_)
  obtain ⟨rfl, rfl⟩ := h_2
  refine hc_if_eq C (tgt := 16) dX8_kind_5 (by decide) (fun c_5 => ?_) (fun c_5 => ?_)
  · exact absurd (hx_earR hE hE6 he) (hb_z.mp c_5)
  refine hc_aload_n C dX8_kind_8 rfl rfl ?_
  refine hc_iload_n C dX8_kind_9 rfl rfl ?_
  refine hc_cV1i C mv_X8_206 (c_X8_kindIn C.ok (show e0 < 6 by omega)) rfl rfl rfl (Nat.le_of_ble_eq_true rfl) (hc_rr_rm (by decide)) ⟨Nat.zero_le _, Nat.zero_le _⟩ dX8_kind_10 (fun r_10 M_10 h_10 => ?_)
  obtain ⟨rfl, rfl⟩ := h_10
  refine hc_goto C (tgt := 18) dX8_kind_13 (by decide) ?_
  refine hc_iret C rfl dX8_kind_18 ?_
  exact ⟨rfl, rfl⟩

set_option maxRecDepth 100000 in
set_option maxHeartbeats 4000000 in
theorem c_X8_as_b2 {l : Launch} {G : hc_Geo} (hG : hc_ok G) {M : hc_Mem} {E e0 : Nat} {v2 : Int32}  (hE : M 54 4 = nI E) (hE6 : E ≤ 6) (he : e0 < E) (h1 : ¬ (¬ v2 < 0 ∧ ¬ 5 < v2)) : hc_M l G yX8_as cX8_as 5 (some .int) 3 [.ref (hc_ad G 48), .int (nI e0), .int v2] M (hc_pi (fun z M' => -1000001 = z ∧ M = M')) := by
  refine hc_M.of hG (by decide) [some (.ref (hc_ad G 48)), some (.int (nI e0)), some (.int v2), none, none] rfl (Nat.le_of_ble_eq_true rfl) ?_
  intro p e s m args below meth c C
  refine hc_aload_n C dX8_as_0 rfl rfl ?_
  refine hc_iload_n C dX8_as_1 rfl rfl ?_
  refine hc_cV1i C mv_X8_178 (c_X8_isEar C.ok hE (by omega)) rfl rfl rfl (Nat.le_of_ble_eq_true rfl) (hc_rr_rm (by decide)) ⟨Nat.zero_le _, Nat.zero_le _⟩ dX8_as_2 (fun r_2 M_2 h_2 => ?_)
  obtain ⟨rfl, rfl⟩ := h_2
  refine hc_if_eq C (tgt := 17) dX8_as_5 (by decide) (fun c_5 => ?_) (fun c_5 => ?_)
  · exact absurd (hx_earR hE hE6 he) (hb_z.mp c_5)
  refine hc_iload_n C dX8_as_8 rfl rfl ?_
  refine hc_iconst C dX8_as_9 (v := 0) rfl ?_
  refine hc_iconst C dX8_as_10 (v := 5) rfl ?_
  refine hc_cS3i C ms_X8_56 (c_X8_in C.ok) (Nat.le_of_ble_eq_true rfl) (hc_rr_rm (by decide)) ⟨Nat.zero_le _, Nat.zero_le _⟩ dX8_as_11 (fun r_11 M_11 h_11 => ?_)
  obtain ⟨rfl, rfl⟩ := h_11
  refine hc_if_ne C (tgt := 20) dX8_as_14 (by decide) (fun c_14 => ?_) (fun c_14 => ?_)
  · exact absurd (hb_z.mpr h1) c_14
  refine hc_ldc C kc_X8_64 dX8_as_17 ?_
  refine hc_iret C rfl dX8_as_19 ?_
  exact ⟨rfl, rfl⟩

set_option maxRecDepth 100000 in
set_option maxHeartbeats 4000000 in
theorem c_X8_as_o {l : Launch} {G : hc_Geo} (hG : hc_ok G) {M : hc_Mem} {E e0 : Nat} {v2 : Int32}  (hE : M 54 4 = nI E) (hE6 : E ≤ 6) (he : e0 < E) (h1 : ¬ v2 < 0 ∧ ¬ 5 < v2) : hc_M l G yX8_as cX8_as 5 (some .int) 3 [.ref (hc_ad G 48), .int (nI e0), .int v2] M (hc_pi (fun z M' => (if rAs (M 54 (6 + 7 * e0)) v2 then nI e0 else -1000013) = z ∧ hc_ms M 48 4 (if rAs (M 54 (6 + 7 * e0)) v2 then 0 else 3) = M')) := by
  refine hc_M.of hG (by decide) [some (.ref (hc_ad G 48)), some (.int (nI e0)), some (.int v2), none, none] rfl (Nat.le_of_ble_eq_true rfl) ?_
  intro p e s m args below meth c C
  refine hc_aload_n C dX8_as_0 rfl rfl ?_
  refine hc_iload_n C dX8_as_1 rfl rfl ?_
  refine hc_cV1i C mv_X8_178 (c_X8_isEar C.ok hE (by omega)) rfl rfl rfl (Nat.le_of_ble_eq_true rfl) (hc_rr_rm (by decide)) ⟨Nat.zero_le _, Nat.zero_le _⟩ dX8_as_2 (fun r_2 M_2 h_2 => ?_)
  obtain ⟨rfl, rfl⟩ := h_2
  refine hc_if_eq C (tgt := 17) dX8_as_5 (by decide) (fun c_5 => ?_) (fun c_5 => ?_)
  · exact absurd (hx_earR hE hE6 he) (hb_z.mp c_5)
  refine hc_iload_n C dX8_as_8 rfl rfl ?_
  refine hc_iconst C dX8_as_9 (v := 0) rfl ?_
  refine hc_iconst C dX8_as_10 (v := 5) rfl ?_
  refine hc_cS3i C ms_X8_56 (c_X8_in C.ok) (Nat.le_of_ble_eq_true rfl) (hc_rr_rm (by decide)) ⟨Nat.zero_le _, Nat.zero_le _⟩ dX8_as_11 (fun r_11 M_11 h_11 => ?_)
  obtain ⟨rfl, rfl⟩ := h_11
  refine hc_if_ne C (tgt := 20) dX8_as_14 (by decide) (fun c_14 => ?_) (fun c_14 => ?_)
  rotate_left
  · exact absurd h1 (hb_z.mp c_14)
  refine hc_aload_n C dX8_as_20 rfl rfl ?_
  refine hc_iload_n C dX8_as_21 rfl rfl ?_
  refine hc_cV1i C mv_X8_206 (c_X8_kindIn C.ok (show e0 < 6 by omega)) rfl rfl rfl (Nat.le_of_ble_eq_true rfl) (hc_rr_rm (by decide)) ⟨Nat.zero_le _, Nat.zero_le _⟩ dX8_as_22 (fun r_22 M_22 h_22 => ?_)
  obtain ⟨rfl, rfl⟩ := h_22
  refine hc_istore_n3 C dX8_as_25 rfl (by decide) rfl ?_
  refine hc_iload_n C dX8_as_26 rfl rfl ?_
  refine hc_if_eq C (tgt := 55) dX8_as_27 (by decide) (fun c_27 => ?_) (fun c_27 => ?_)
  · refine hc_iconst C dX8_as_55 (v := 1) rfl ?_
    refine hc_goto C (tgt := 60) dX8_as_56 (by decide) ?_
    refine hc_istore4 C dX8_as_60 (by decide) rfl ?_
    refine hc_iload C dX8_as_62 rfl ?_
    refine hc_if_eq C (tgt := 75) dX8_as_64 (by decide) (fun c_64 => ?_) (fun c_64 => ?_)
    · refine hc_aload_n C dX8_as_75 rfl rfl ?_
      refine hc_iconst C dX8_as_76 (v := 3) rfl ?_
      refine hc_cV1i C mv_X8_65 (c_X8_found C.ok) rfl rfl rfl (Nat.le_of_ble_eq_true rfl) (hc_rr_rm (by decide)) ⟨Nat.zero_le _, Nat.zero_le _⟩ dX8_as_77 (fun r_77 M_77 h_77 => ?_)
      obtain ⟨rfl, rfl⟩ := h_77
      refine hc_iret C rfl dX8_as_80 ?_
      first
        | exact absurd c_64 (by decide)
        | (have hP : rAs (M 54 (6 + 7 * e0)) v2 := by
            first | exact Or.inl c_27 | exact Or.inr (Or.inl c_32) | exact Or.inr (Or.inr (Or.inl ⟨c_37, c_42⟩)) | exact Or.inr (Or.inr (Or.inr ⟨c_47, c_52⟩))
           exact ⟨if_pos hP, by rw [if_pos hP]⟩)
        | (have hP : ¬ rAs (M 54 (6 + 7 * e0)) v2 := by
            intro q
            rcases q with q | q | q | q
            · exact c_27 q
            · exact c_32 q
            · first | exact c_37 q.1 | exact c_42 q.2
            · first | exact c_47 q.1 | exact c_52 q.2
           exact ⟨if_neg hP, by rw [if_neg hP]⟩)
    · refine hc_aload_n C dX8_as_67 rfl rfl ?_
      refine hc_iload_n C dX8_as_68 rfl rfl ?_
      refine hc_cV1i C mv_X8_69 (c_X8_well C.ok) rfl rfl rfl (Nat.le_of_ble_eq_true rfl) (hc_rr_rm (by decide)) ⟨Nat.zero_le _, Nat.zero_le _⟩ dX8_as_69 (fun r_69 M_69 h_69 => ?_)
      obtain ⟨rfl, rfl⟩ := h_69
      refine hc_goto C (tgt := 80) dX8_as_72 (by decide) ?_
      refine hc_iret C rfl dX8_as_80 ?_
      first
        | exact absurd c_64 (by decide)
        | (have hP : rAs (M 54 (6 + 7 * e0)) v2 := by
            first | exact Or.inl c_27 | exact Or.inr (Or.inl c_32) | exact Or.inr (Or.inr (Or.inl ⟨c_37, c_42⟩)) | exact Or.inr (Or.inr (Or.inr ⟨c_47, c_52⟩))
           exact ⟨if_pos hP, by rw [if_pos hP]⟩)
        | (have hP : ¬ rAs (M 54 (6 + 7 * e0)) v2 := by
            intro q
            rcases q with q | q | q | q
            · exact c_27 q
            · exact c_32 q
            · first | exact c_37 q.1 | exact c_42 q.2
            · first | exact c_47 q.1 | exact c_52 q.2
           exact ⟨if_neg hP, by rw [if_neg hP]⟩)
  · refine hc_iload_n C dX8_as_30 rfl rfl ?_
    refine hc_iload_n C dX8_as_31 rfl rfl ?_
    refine hc_icmp_eq C (tgt := 55) dX8_as_32 (by decide) (fun c_32 => ?_) (fun c_32 => ?_)
    · refine hc_iconst C dX8_as_55 (v := 1) rfl ?_
      refine hc_goto C (tgt := 60) dX8_as_56 (by decide) ?_
      refine hc_istore4 C dX8_as_60 (by decide) rfl ?_
      refine hc_iload C dX8_as_62 rfl ?_
      refine hc_if_eq C (tgt := 75) dX8_as_64 (by decide) (fun c_64 => ?_) (fun c_64 => ?_)
      · refine hc_aload_n C dX8_as_75 rfl rfl ?_
        refine hc_iconst C dX8_as_76 (v := 3) rfl ?_
        refine hc_cV1i C mv_X8_65 (c_X8_found C.ok) rfl rfl rfl (Nat.le_of_ble_eq_true rfl) (hc_rr_rm (by decide)) ⟨Nat.zero_le _, Nat.zero_le _⟩ dX8_as_77 (fun r_77 M_77 h_77 => ?_)
        obtain ⟨rfl, rfl⟩ := h_77
        refine hc_iret C rfl dX8_as_80 ?_
        first
          | exact absurd c_64 (by decide)
          | (have hP : rAs (M 54 (6 + 7 * e0)) v2 := by
              first | exact Or.inl c_27 | exact Or.inr (Or.inl c_32) | exact Or.inr (Or.inr (Or.inl ⟨c_37, c_42⟩)) | exact Or.inr (Or.inr (Or.inr ⟨c_47, c_52⟩))
             exact ⟨if_pos hP, by rw [if_pos hP]⟩)
          | (have hP : ¬ rAs (M 54 (6 + 7 * e0)) v2 := by
              intro q
              rcases q with q | q | q | q
              · exact c_27 q
              · exact c_32 q
              · first | exact c_37 q.1 | exact c_42 q.2
              · first | exact c_47 q.1 | exact c_52 q.2
             exact ⟨if_neg hP, by rw [if_neg hP]⟩)
      · refine hc_aload_n C dX8_as_67 rfl rfl ?_
        refine hc_iload_n C dX8_as_68 rfl rfl ?_
        refine hc_cV1i C mv_X8_69 (c_X8_well C.ok) rfl rfl rfl (Nat.le_of_ble_eq_true rfl) (hc_rr_rm (by decide)) ⟨Nat.zero_le _, Nat.zero_le _⟩ dX8_as_69 (fun r_69 M_69 h_69 => ?_)
        obtain ⟨rfl, rfl⟩ := h_69
        refine hc_goto C (tgt := 80) dX8_as_72 (by decide) ?_
        refine hc_iret C rfl dX8_as_80 ?_
        first
          | exact absurd c_64 (by decide)
          | (have hP : rAs (M 54 (6 + 7 * e0)) v2 := by
              first | exact Or.inl c_27 | exact Or.inr (Or.inl c_32) | exact Or.inr (Or.inr (Or.inl ⟨c_37, c_42⟩)) | exact Or.inr (Or.inr (Or.inr ⟨c_47, c_52⟩))
             exact ⟨if_pos hP, by rw [if_pos hP]⟩)
          | (have hP : ¬ rAs (M 54 (6 + 7 * e0)) v2 := by
              intro q
              rcases q with q | q | q | q
              · exact c_27 q
              · exact c_32 q
              · first | exact c_37 q.1 | exact c_42 q.2
              · first | exact c_47 q.1 | exact c_52 q.2
             exact ⟨if_neg hP, by rw [if_neg hP]⟩)
    · refine hc_iload_n C dX8_as_35 rfl rfl ?_
      refine hc_iconst C dX8_as_36 (v := 1) rfl ?_
      refine hc_icmp_ne C (tgt := 45) dX8_as_37 (by decide) (fun c_37 => ?_) (fun c_37 => ?_)
      · refine hc_iload_n C dX8_as_45 rfl rfl ?_
        refine hc_iconst C dX8_as_46 (v := 4) rfl ?_
        refine hc_icmp_ne C (tgt := 59) dX8_as_47 (by decide) (fun c_47 => ?_) (fun c_47 => ?_)
        · refine hc_iconst C dX8_as_59 (v := 0) rfl ?_
          refine hc_istore4 C dX8_as_60 (by decide) rfl ?_
          refine hc_iload C dX8_as_62 rfl ?_
          refine hc_if_eq C (tgt := 75) dX8_as_64 (by decide) (fun c_64 => ?_) (fun c_64 => ?_)
          · refine hc_aload_n C dX8_as_75 rfl rfl ?_
            refine hc_iconst C dX8_as_76 (v := 3) rfl ?_
            refine hc_cV1i C mv_X8_65 (c_X8_found C.ok) rfl rfl rfl (Nat.le_of_ble_eq_true rfl) (hc_rr_rm (by decide)) ⟨Nat.zero_le _, Nat.zero_le _⟩ dX8_as_77 (fun r_77 M_77 h_77 => ?_)
            obtain ⟨rfl, rfl⟩ := h_77
            refine hc_iret C rfl dX8_as_80 ?_
            first
              | exact absurd c_64 (by decide)
              | (have hP : rAs (M 54 (6 + 7 * e0)) v2 := by
                  first | exact Or.inl c_27 | exact Or.inr (Or.inl c_32) | exact Or.inr (Or.inr (Or.inl ⟨c_37, c_42⟩)) | exact Or.inr (Or.inr (Or.inr ⟨c_47, c_52⟩))
                 exact ⟨if_pos hP, by rw [if_pos hP]⟩)
              | (have hP : ¬ rAs (M 54 (6 + 7 * e0)) v2 := by
                  intro q
                  rcases q with q | q | q | q
                  · exact c_27 q
                  · exact c_32 q
                  · first | exact c_37 q.1 | exact c_42 q.2
                  · first | exact c_47 q.1 | exact c_52 q.2
                 exact ⟨if_neg hP, by rw [if_neg hP]⟩)
          · refine hc_aload_n C dX8_as_67 rfl rfl ?_
            refine hc_iload_n C dX8_as_68 rfl rfl ?_
            refine hc_cV1i C mv_X8_69 (c_X8_well C.ok) rfl rfl rfl (Nat.le_of_ble_eq_true rfl) (hc_rr_rm (by decide)) ⟨Nat.zero_le _, Nat.zero_le _⟩ dX8_as_69 (fun r_69 M_69 h_69 => ?_)
            obtain ⟨rfl, rfl⟩ := h_69
            refine hc_goto C (tgt := 80) dX8_as_72 (by decide) ?_
            refine hc_iret C rfl dX8_as_80 ?_
            first
              | exact absurd c_64 (by decide)
              | (have hP : rAs (M 54 (6 + 7 * e0)) v2 := by
                  first | exact Or.inl c_27 | exact Or.inr (Or.inl c_32) | exact Or.inr (Or.inr (Or.inl ⟨c_37, c_42⟩)) | exact Or.inr (Or.inr (Or.inr ⟨c_47, c_52⟩))
                 exact ⟨if_pos hP, by rw [if_pos hP]⟩)
              | (have hP : ¬ rAs (M 54 (6 + 7 * e0)) v2 := by
                  intro q
                  rcases q with q | q | q | q
                  · exact c_27 q
                  · exact c_32 q
                  · first | exact c_37 q.1 | exact c_42 q.2
                  · first | exact c_47 q.1 | exact c_52 q.2
                 exact ⟨if_neg hP, by rw [if_neg hP]⟩)
        · refine hc_iload_n C dX8_as_50 rfl rfl ?_
          refine hc_iconst C dX8_as_51 (v := 5) rfl ?_
          refine hc_icmp_ne C (tgt := 59) dX8_as_52 (by decide) (fun c_52 => ?_) (fun c_52 => ?_)
          · refine hc_iconst C dX8_as_59 (v := 0) rfl ?_
            refine hc_istore4 C dX8_as_60 (by decide) rfl ?_
            refine hc_iload C dX8_as_62 rfl ?_
            refine hc_if_eq C (tgt := 75) dX8_as_64 (by decide) (fun c_64 => ?_) (fun c_64 => ?_)
            · refine hc_aload_n C dX8_as_75 rfl rfl ?_
              refine hc_iconst C dX8_as_76 (v := 3) rfl ?_
              refine hc_cV1i C mv_X8_65 (c_X8_found C.ok) rfl rfl rfl (Nat.le_of_ble_eq_true rfl) (hc_rr_rm (by decide)) ⟨Nat.zero_le _, Nat.zero_le _⟩ dX8_as_77 (fun r_77 M_77 h_77 => ?_)
              obtain ⟨rfl, rfl⟩ := h_77
              refine hc_iret C rfl dX8_as_80 ?_
              first
                | exact absurd c_64 (by decide)
                | (have hP : rAs (M 54 (6 + 7 * e0)) v2 := by
                    first | exact Or.inl c_27 | exact Or.inr (Or.inl c_32) | exact Or.inr (Or.inr (Or.inl ⟨c_37, c_42⟩)) | exact Or.inr (Or.inr (Or.inr ⟨c_47, c_52⟩))
                   exact ⟨if_pos hP, by rw [if_pos hP]⟩)
                | (have hP : ¬ rAs (M 54 (6 + 7 * e0)) v2 := by
                    intro q
                    rcases q with q | q | q | q
                    · exact c_27 q
                    · exact c_32 q
                    · first | exact c_37 q.1 | exact c_42 q.2
                    · first | exact c_47 q.1 | exact c_52 q.2
                   exact ⟨if_neg hP, by rw [if_neg hP]⟩)
            · refine hc_aload_n C dX8_as_67 rfl rfl ?_
              refine hc_iload_n C dX8_as_68 rfl rfl ?_
              refine hc_cV1i C mv_X8_69 (c_X8_well C.ok) rfl rfl rfl (Nat.le_of_ble_eq_true rfl) (hc_rr_rm (by decide)) ⟨Nat.zero_le _, Nat.zero_le _⟩ dX8_as_69 (fun r_69 M_69 h_69 => ?_)
              obtain ⟨rfl, rfl⟩ := h_69
              refine hc_goto C (tgt := 80) dX8_as_72 (by decide) ?_
              refine hc_iret C rfl dX8_as_80 ?_
              first
                | exact absurd c_64 (by decide)
                | (have hP : rAs (M 54 (6 + 7 * e0)) v2 := by
                    first | exact Or.inl c_27 | exact Or.inr (Or.inl c_32) | exact Or.inr (Or.inr (Or.inl ⟨c_37, c_42⟩)) | exact Or.inr (Or.inr (Or.inr ⟨c_47, c_52⟩))
                   exact ⟨if_pos hP, by rw [if_pos hP]⟩)
                | (have hP : ¬ rAs (M 54 (6 + 7 * e0)) v2 := by
                    intro q
                    rcases q with q | q | q | q
                    · exact c_27 q
                    · exact c_32 q
                    · first | exact c_37 q.1 | exact c_42 q.2
                    · first | exact c_47 q.1 | exact c_52 q.2
                   exact ⟨if_neg hP, by rw [if_neg hP]⟩)
          · refine hc_iconst C dX8_as_55 (v := 1) rfl ?_
            refine hc_goto C (tgt := 60) dX8_as_56 (by decide) ?_
            refine hc_istore4 C dX8_as_60 (by decide) rfl ?_
            refine hc_iload C dX8_as_62 rfl ?_
            refine hc_if_eq C (tgt := 75) dX8_as_64 (by decide) (fun c_64 => ?_) (fun c_64 => ?_)
            · refine hc_aload_n C dX8_as_75 rfl rfl ?_
              refine hc_iconst C dX8_as_76 (v := 3) rfl ?_
              refine hc_cV1i C mv_X8_65 (c_X8_found C.ok) rfl rfl rfl (Nat.le_of_ble_eq_true rfl) (hc_rr_rm (by decide)) ⟨Nat.zero_le _, Nat.zero_le _⟩ dX8_as_77 (fun r_77 M_77 h_77 => ?_)
              obtain ⟨rfl, rfl⟩ := h_77
              refine hc_iret C rfl dX8_as_80 ?_
              first
                | exact absurd c_64 (by decide)
                | (have hP : rAs (M 54 (6 + 7 * e0)) v2 := by
                    first | exact Or.inl c_27 | exact Or.inr (Or.inl c_32) | exact Or.inr (Or.inr (Or.inl ⟨c_37, c_42⟩)) | exact Or.inr (Or.inr (Or.inr ⟨c_47, c_52⟩))
                   exact ⟨if_pos hP, by rw [if_pos hP]⟩)
                | (have hP : ¬ rAs (M 54 (6 + 7 * e0)) v2 := by
                    intro q
                    rcases q with q | q | q | q
                    · exact c_27 q
                    · exact c_32 q
                    · first | exact c_37 q.1 | exact c_42 q.2
                    · first | exact c_47 q.1 | exact c_52 q.2
                   exact ⟨if_neg hP, by rw [if_neg hP]⟩)
            · refine hc_aload_n C dX8_as_67 rfl rfl ?_
              refine hc_iload_n C dX8_as_68 rfl rfl ?_
              refine hc_cV1i C mv_X8_69 (c_X8_well C.ok) rfl rfl rfl (Nat.le_of_ble_eq_true rfl) (hc_rr_rm (by decide)) ⟨Nat.zero_le _, Nat.zero_le _⟩ dX8_as_69 (fun r_69 M_69 h_69 => ?_)
              obtain ⟨rfl, rfl⟩ := h_69
              refine hc_goto C (tgt := 80) dX8_as_72 (by decide) ?_
              refine hc_iret C rfl dX8_as_80 ?_
              first
                | exact absurd c_64 (by decide)
                | (have hP : rAs (M 54 (6 + 7 * e0)) v2 := by
                    first | exact Or.inl c_27 | exact Or.inr (Or.inl c_32) | exact Or.inr (Or.inr (Or.inl ⟨c_37, c_42⟩)) | exact Or.inr (Or.inr (Or.inr ⟨c_47, c_52⟩))
                   exact ⟨if_pos hP, by rw [if_pos hP]⟩)
                | (have hP : ¬ rAs (M 54 (6 + 7 * e0)) v2 := by
                    intro q
                    rcases q with q | q | q | q
                    · exact c_27 q
                    · exact c_32 q
                    · first | exact c_37 q.1 | exact c_42 q.2
                    · first | exact c_47 q.1 | exact c_52 q.2
                   exact ⟨if_neg hP, by rw [if_neg hP]⟩)
      · refine hc_iload_n C dX8_as_40 rfl rfl ?_
        refine hc_iconst C dX8_as_41 (v := 4) rfl ?_
        refine hc_icmp_lt C (tgt := 55) dX8_as_42 (by decide) (fun c_42 => ?_) (fun c_42 => ?_)
        · refine hc_iconst C dX8_as_55 (v := 1) rfl ?_
          refine hc_goto C (tgt := 60) dX8_as_56 (by decide) ?_
          refine hc_istore4 C dX8_as_60 (by decide) rfl ?_
          refine hc_iload C dX8_as_62 rfl ?_
          refine hc_if_eq C (tgt := 75) dX8_as_64 (by decide) (fun c_64 => ?_) (fun c_64 => ?_)
          · refine hc_aload_n C dX8_as_75 rfl rfl ?_
            refine hc_iconst C dX8_as_76 (v := 3) rfl ?_
            refine hc_cV1i C mv_X8_65 (c_X8_found C.ok) rfl rfl rfl (Nat.le_of_ble_eq_true rfl) (hc_rr_rm (by decide)) ⟨Nat.zero_le _, Nat.zero_le _⟩ dX8_as_77 (fun r_77 M_77 h_77 => ?_)
            obtain ⟨rfl, rfl⟩ := h_77
            refine hc_iret C rfl dX8_as_80 ?_
            first
              | exact absurd c_64 (by decide)
              | (have hP : rAs (M 54 (6 + 7 * e0)) v2 := by
                  first | exact Or.inl c_27 | exact Or.inr (Or.inl c_32) | exact Or.inr (Or.inr (Or.inl ⟨c_37, c_42⟩)) | exact Or.inr (Or.inr (Or.inr ⟨c_47, c_52⟩))
                 exact ⟨if_pos hP, by rw [if_pos hP]⟩)
              | (have hP : ¬ rAs (M 54 (6 + 7 * e0)) v2 := by
                  intro q
                  rcases q with q | q | q | q
                  · exact c_27 q
                  · exact c_32 q
                  · first | exact c_37 q.1 | exact c_42 q.2
                  · first | exact c_47 q.1 | exact c_52 q.2
                 exact ⟨if_neg hP, by rw [if_neg hP]⟩)
          · refine hc_aload_n C dX8_as_67 rfl rfl ?_
            refine hc_iload_n C dX8_as_68 rfl rfl ?_
            refine hc_cV1i C mv_X8_69 (c_X8_well C.ok) rfl rfl rfl (Nat.le_of_ble_eq_true rfl) (hc_rr_rm (by decide)) ⟨Nat.zero_le _, Nat.zero_le _⟩ dX8_as_69 (fun r_69 M_69 h_69 => ?_)
            obtain ⟨rfl, rfl⟩ := h_69
            refine hc_goto C (tgt := 80) dX8_as_72 (by decide) ?_
            refine hc_iret C rfl dX8_as_80 ?_
            first
              | exact absurd c_64 (by decide)
              | (have hP : rAs (M 54 (6 + 7 * e0)) v2 := by
                  first | exact Or.inl c_27 | exact Or.inr (Or.inl c_32) | exact Or.inr (Or.inr (Or.inl ⟨c_37, c_42⟩)) | exact Or.inr (Or.inr (Or.inr ⟨c_47, c_52⟩))
                 exact ⟨if_pos hP, by rw [if_pos hP]⟩)
              | (have hP : ¬ rAs (M 54 (6 + 7 * e0)) v2 := by
                  intro q
                  rcases q with q | q | q | q
                  · exact c_27 q
                  · exact c_32 q
                  · first | exact c_37 q.1 | exact c_42 q.2
                  · first | exact c_47 q.1 | exact c_52 q.2
                 exact ⟨if_neg hP, by rw [if_neg hP]⟩)
        · refine hc_iload_n C dX8_as_45 rfl rfl ?_
          refine hc_iconst C dX8_as_46 (v := 4) rfl ?_
          refine hc_icmp_ne C (tgt := 59) dX8_as_47 (by decide) (fun c_47 => ?_) (fun c_47 => ?_)
          · refine hc_iconst C dX8_as_59 (v := 0) rfl ?_
            refine hc_istore4 C dX8_as_60 (by decide) rfl ?_
            refine hc_iload C dX8_as_62 rfl ?_
            refine hc_if_eq C (tgt := 75) dX8_as_64 (by decide) (fun c_64 => ?_) (fun c_64 => ?_)
            · refine hc_aload_n C dX8_as_75 rfl rfl ?_
              refine hc_iconst C dX8_as_76 (v := 3) rfl ?_
              refine hc_cV1i C mv_X8_65 (c_X8_found C.ok) rfl rfl rfl (Nat.le_of_ble_eq_true rfl) (hc_rr_rm (by decide)) ⟨Nat.zero_le _, Nat.zero_le _⟩ dX8_as_77 (fun r_77 M_77 h_77 => ?_)
              obtain ⟨rfl, rfl⟩ := h_77
              refine hc_iret C rfl dX8_as_80 ?_
              first
                | exact absurd c_64 (by decide)
                | (have hP : rAs (M 54 (6 + 7 * e0)) v2 := by
                    first | exact Or.inl c_27 | exact Or.inr (Or.inl c_32) | exact Or.inr (Or.inr (Or.inl ⟨c_37, c_42⟩)) | exact Or.inr (Or.inr (Or.inr ⟨c_47, c_52⟩))
                   exact ⟨if_pos hP, by rw [if_pos hP]⟩)
                | (have hP : ¬ rAs (M 54 (6 + 7 * e0)) v2 := by
                    intro q
                    rcases q with q | q | q | q
                    · exact c_27 q
                    · exact c_32 q
                    · first | exact c_37 q.1 | exact c_42 q.2
                    · first | exact c_47 q.1 | exact c_52 q.2
                   exact ⟨if_neg hP, by rw [if_neg hP]⟩)
            · refine hc_aload_n C dX8_as_67 rfl rfl ?_
              refine hc_iload_n C dX8_as_68 rfl rfl ?_
              refine hc_cV1i C mv_X8_69 (c_X8_well C.ok) rfl rfl rfl (Nat.le_of_ble_eq_true rfl) (hc_rr_rm (by decide)) ⟨Nat.zero_le _, Nat.zero_le _⟩ dX8_as_69 (fun r_69 M_69 h_69 => ?_)
              obtain ⟨rfl, rfl⟩ := h_69
              refine hc_goto C (tgt := 80) dX8_as_72 (by decide) ?_
              refine hc_iret C rfl dX8_as_80 ?_
              first
                | exact absurd c_64 (by decide)
                | (have hP : rAs (M 54 (6 + 7 * e0)) v2 := by
                    first | exact Or.inl c_27 | exact Or.inr (Or.inl c_32) | exact Or.inr (Or.inr (Or.inl ⟨c_37, c_42⟩)) | exact Or.inr (Or.inr (Or.inr ⟨c_47, c_52⟩))
                   exact ⟨if_pos hP, by rw [if_pos hP]⟩)
                | (have hP : ¬ rAs (M 54 (6 + 7 * e0)) v2 := by
                    intro q
                    rcases q with q | q | q | q
                    · exact c_27 q
                    · exact c_32 q
                    · first | exact c_37 q.1 | exact c_42 q.2
                    · first | exact c_47 q.1 | exact c_52 q.2
                   exact ⟨if_neg hP, by rw [if_neg hP]⟩)
          · refine hc_iload_n C dX8_as_50 rfl rfl ?_
            refine hc_iconst C dX8_as_51 (v := 5) rfl ?_
            refine hc_icmp_ne C (tgt := 59) dX8_as_52 (by decide) (fun c_52 => ?_) (fun c_52 => ?_)
            · refine hc_iconst C dX8_as_59 (v := 0) rfl ?_
              refine hc_istore4 C dX8_as_60 (by decide) rfl ?_
              refine hc_iload C dX8_as_62 rfl ?_
              refine hc_if_eq C (tgt := 75) dX8_as_64 (by decide) (fun c_64 => ?_) (fun c_64 => ?_)
              · refine hc_aload_n C dX8_as_75 rfl rfl ?_
                refine hc_iconst C dX8_as_76 (v := 3) rfl ?_
                refine hc_cV1i C mv_X8_65 (c_X8_found C.ok) rfl rfl rfl (Nat.le_of_ble_eq_true rfl) (hc_rr_rm (by decide)) ⟨Nat.zero_le _, Nat.zero_le _⟩ dX8_as_77 (fun r_77 M_77 h_77 => ?_)
                obtain ⟨rfl, rfl⟩ := h_77
                refine hc_iret C rfl dX8_as_80 ?_
                first
                  | exact absurd c_64 (by decide)
                  | (have hP : rAs (M 54 (6 + 7 * e0)) v2 := by
                      first | exact Or.inl c_27 | exact Or.inr (Or.inl c_32) | exact Or.inr (Or.inr (Or.inl ⟨c_37, c_42⟩)) | exact Or.inr (Or.inr (Or.inr ⟨c_47, c_52⟩))
                     exact ⟨if_pos hP, by rw [if_pos hP]⟩)
                  | (have hP : ¬ rAs (M 54 (6 + 7 * e0)) v2 := by
                      intro q
                      rcases q with q | q | q | q
                      · exact c_27 q
                      · exact c_32 q
                      · first | exact c_37 q.1 | exact c_42 q.2
                      · first | exact c_47 q.1 | exact c_52 q.2
                     exact ⟨if_neg hP, by rw [if_neg hP]⟩)
              · refine hc_aload_n C dX8_as_67 rfl rfl ?_
                refine hc_iload_n C dX8_as_68 rfl rfl ?_
                refine hc_cV1i C mv_X8_69 (c_X8_well C.ok) rfl rfl rfl (Nat.le_of_ble_eq_true rfl) (hc_rr_rm (by decide)) ⟨Nat.zero_le _, Nat.zero_le _⟩ dX8_as_69 (fun r_69 M_69 h_69 => ?_)
                obtain ⟨rfl, rfl⟩ := h_69
                refine hc_goto C (tgt := 80) dX8_as_72 (by decide) ?_
                refine hc_iret C rfl dX8_as_80 ?_
                first
                  | exact absurd c_64 (by decide)
                  | (have hP : rAs (M 54 (6 + 7 * e0)) v2 := by
                      first | exact Or.inl c_27 | exact Or.inr (Or.inl c_32) | exact Or.inr (Or.inr (Or.inl ⟨c_37, c_42⟩)) | exact Or.inr (Or.inr (Or.inr ⟨c_47, c_52⟩))
                     exact ⟨if_pos hP, by rw [if_pos hP]⟩)
                  | (have hP : ¬ rAs (M 54 (6 + 7 * e0)) v2 := by
                      intro q
                      rcases q with q | q | q | q
                      · exact c_27 q
                      · exact c_32 q
                      · first | exact c_37 q.1 | exact c_42 q.2
                      · first | exact c_47 q.1 | exact c_52 q.2
                     exact ⟨if_neg hP, by rw [if_neg hP]⟩)
            · refine hc_iconst C dX8_as_55 (v := 1) rfl ?_
              refine hc_goto C (tgt := 60) dX8_as_56 (by decide) ?_
              refine hc_istore4 C dX8_as_60 (by decide) rfl ?_
              refine hc_iload C dX8_as_62 rfl ?_
              refine hc_if_eq C (tgt := 75) dX8_as_64 (by decide) (fun c_64 => ?_) (fun c_64 => ?_)
              · refine hc_aload_n C dX8_as_75 rfl rfl ?_
                refine hc_iconst C dX8_as_76 (v := 3) rfl ?_
                refine hc_cV1i C mv_X8_65 (c_X8_found C.ok) rfl rfl rfl (Nat.le_of_ble_eq_true rfl) (hc_rr_rm (by decide)) ⟨Nat.zero_le _, Nat.zero_le _⟩ dX8_as_77 (fun r_77 M_77 h_77 => ?_)
                obtain ⟨rfl, rfl⟩ := h_77
                refine hc_iret C rfl dX8_as_80 ?_
                first
                  | exact absurd c_64 (by decide)
                  | (have hP : rAs (M 54 (6 + 7 * e0)) v2 := by
                      first | exact Or.inl c_27 | exact Or.inr (Or.inl c_32) | exact Or.inr (Or.inr (Or.inl ⟨c_37, c_42⟩)) | exact Or.inr (Or.inr (Or.inr ⟨c_47, c_52⟩))
                     exact ⟨if_pos hP, by rw [if_pos hP]⟩)
                  | (have hP : ¬ rAs (M 54 (6 + 7 * e0)) v2 := by
                      intro q
                      rcases q with q | q | q | q
                      · exact c_27 q
                      · exact c_32 q
                      · first | exact c_37 q.1 | exact c_42 q.2
                      · first | exact c_47 q.1 | exact c_52 q.2
                     exact ⟨if_neg hP, by rw [if_neg hP]⟩)
              · refine hc_aload_n C dX8_as_67 rfl rfl ?_
                refine hc_iload_n C dX8_as_68 rfl rfl ?_
                refine hc_cV1i C mv_X8_69 (c_X8_well C.ok) rfl rfl rfl (Nat.le_of_ble_eq_true rfl) (hc_rr_rm (by decide)) ⟨Nat.zero_le _, Nat.zero_le _⟩ dX8_as_69 (fun r_69 M_69 h_69 => ?_)
                obtain ⟨rfl, rfl⟩ := h_69
                refine hc_goto C (tgt := 80) dX8_as_72 (by decide) ?_
                refine hc_iret C rfl dX8_as_80 ?_
                first
                  | exact absurd c_64 (by decide)
                  | (have hP : rAs (M 54 (6 + 7 * e0)) v2 := by
                      first | exact Or.inl c_27 | exact Or.inr (Or.inl c_32) | exact Or.inr (Or.inr (Or.inl ⟨c_37, c_42⟩)) | exact Or.inr (Or.inr (Or.inr ⟨c_47, c_52⟩))
                     exact ⟨if_pos hP, by rw [if_pos hP]⟩)
                  | (have hP : ¬ rAs (M 54 (6 + 7 * e0)) v2 := by
                      intro q
                      rcases q with q | q | q | q
                      · exact c_27 q
                      · exact c_32 q
                      · first | exact c_37 q.1 | exact c_42 q.2
                      · first | exact c_47 q.1 | exact c_52 q.2
                     exact ⟨if_neg hP, by rw [if_neg hP]⟩)

set_option maxRecDepth 100000 in
set_option maxHeartbeats 4000000 in
theorem c_X8_ahead_b {l : Launch} {G : hc_Geo} (hG : hc_ok G) {M : hc_Mem} {v1 : Int32}  (h0 : M 54 0 = 1) (h1 : ¬ (¬ v1 < 0 ∧ ¬ 99 < v1)) : hc_M l G yX8_ahead cX8_ahead 2 (some .int) 2 [.ref (hc_ad G 48), .int v1] M (hc_pi (fun z M' => -1000001 = z ∧ M = M')) := by
  refine hc_M.of hG (by decide) [some (.ref (hc_ad G 48)), some (.int v1)] rfl (Nat.le_of_ble_eq_true rfl) ?_
  intro p e s m args below meth c C
  refine hc_aload_n C dX8_ahead_0 rfl rfl ?_
  refine hc_cV0i C mv_X8_171 (c_X8_isHouse C.ok) rfl rfl rfl (Nat.le_of_ble_eq_true rfl) (hc_rr_rm (by decide)) ⟨Nat.zero_le _, Nat.zero_le _⟩ dX8_ahead_1 (fun r_1 M_1 h_1 => ?_)
  obtain ⟨rfl, rfl⟩ := h_1
  refine hc_if_ne C (tgt := 10) dX8_ahead_4 (by decide) (fun c_4 => ?_) (fun c_4 => ?_)
  rotate_left
  · exact absurd h0 (hb_z.mp c_4)
  refine hc_iload_n C dX8_ahead_10 rfl rfl ?_
  refine hc_iconst C dX8_ahead_11 (v := 0) rfl ?_
  refine hc_bipush C dX8_ahead_12 (v := 99) rfl ?_
  refine hc_cS3i C ms_X8_56 (c_X8_in C.ok) (Nat.le_of_ble_eq_true rfl) (hc_rr_rm (by decide)) ⟨Nat.zero_le _, Nat.zero_le _⟩ dX8_ahead_14 (fun r_14 M_14 h_14 => ?_)
  obtain ⟨rfl, rfl⟩ := h_14
  refine hc_if_ne C (tgt := 23) dX8_ahead_17 (by decide) (fun c_17 => ?_) (fun c_17 => ?_)
  · exact absurd (hb_z.mpr h1) c_17
  refine hc_ldc C kc_X8_64 dX8_ahead_20 ?_
  refine hc_iret C rfl dX8_ahead_22 ?_
  exact ⟨rfl, rfl⟩

set_option maxRecDepth 100000 in
set_option maxHeartbeats 4000000 in
theorem c_X8_ahead_o {l : Launch} {G : hc_Geo} (hG : hc_ok G) {M : hc_Mem} {E D n : Nat}  (h0 : M 54 0 = 1) (hn : n ≤ 99) (hE : M 54 4 = nI E) (hE6 : E ≤ 6) (hD : M 54 5 = nI D) (hD4 : D ≤ 4) : hc_M l G yX8_ahead cX8_ahead 2 (some .int) 7 [.ref (hc_ad G 48), .int (nI n)] M (hc_pi (fun z M' => rIter E D n (M 54) 3 = z ∧ ∀ q, q ≠ 59 → q ≠ 60 → M' q = M q)) := by
  refine hc_M.of hG (by decide) [some (.ref (hc_ad G 48)), some (.int (nI n))] rfl (Nat.le_of_ble_eq_true rfl) ?_
  intro p e s m args below meth c C
  refine hc_aload_n C dX8_ahead_0 rfl rfl ?_
  refine hc_cV0i C mv_X8_171 (c_X8_isHouse C.ok) rfl rfl rfl (Nat.le_of_ble_eq_true rfl) (hc_rr_rm (by decide)) ⟨Nat.zero_le _, Nat.zero_le _⟩ dX8_ahead_1 (fun r_1 M_1 h_1 => ?_)
  obtain ⟨rfl, rfl⟩ := h_1
  refine hc_if_ne C (tgt := 10) dX8_ahead_4 (by decide) (fun c_4 => ?_) (fun c_4 => ?_)
  rotate_left
  · exact absurd h0 (hb_z.mp c_4)
  refine hc_iload_n C dX8_ahead_10 rfl rfl ?_
  refine hc_iconst C dX8_ahead_11 (v := 0) rfl ?_
  refine hc_bipush C dX8_ahead_12 (v := 99) rfl ?_
  refine hc_cS3i C ms_X8_56 (c_X8_in C.ok) (Nat.le_of_ble_eq_true rfl) (hc_rr_rm (by decide)) ⟨Nat.zero_le _, Nat.zero_le _⟩ dX8_ahead_14 (fun r_14 M_14 h_14 => ?_)
  obtain ⟨rfl, rfl⟩ := h_14
  refine hc_if_ne C (tgt := 23) dX8_ahead_17 (by decide) (fun c_17 => ?_) (fun c_17 => ?_)
  rotate_left
  · exact absurd (hx_in (lo := 0) (hi := 99) (Nat.zero_le _) hn (by decide)) (hb_z.mp c_17)
  refine hc_aload_n C dX8_ahead_23 rfl rfl ?_
  refine hc_getR C fl_X8_25 rfl rfl dX8_ahead_24 ?_
  refine hc_iconst C dX8_ahead_27 (v := 0) rfl ?_
  refine hc_aload_n C dX8_ahead_28 rfl rfl ?_
  refine hc_getR C fl_X8_41 rfl rfl dX8_ahead_29 ?_
  refine hc_iconst C dX8_ahead_32 (v := 0) rfl ?_
  refine hc_cS4v C ms_X8_134 (c_X8_copies (a := 0) (b := 0) C.ok rfl rfl (by decide) (by decide) (by decide)) (Nat.le_of_ble_eq_true rfl) (hc_rr_rm (by decide)) ⟨Nat.zero_le _, Nat.zero_le _⟩ dX8_ahead_33 (fun M_33 h_33 => ?_)
  obtain rfl := h_33
  refine hc_aload_n C dX8_ahead_36 rfl rfl ?_
  refine hc_iload_n C dX8_ahead_37 rfl rfl ?_
  refine hc_cV1i C mv_X8_188 (c_X8_partsIn (E := E) (D := D) (n := n) C.ok hn (by rw [hc_mf_s]; exact (rAg_cpy 4 (by decide)).trans hE) hE6 (by rw [hc_mf_s]; exact (rAg_cpy 5 (by decide)).trans hD) hD4) rfl rfl rfl (Nat.le_of_ble_eq_true rfl) (hc_rr_rm (by decide)) ⟨Nat.zero_le _, Nat.zero_le _⟩ dX8_ahead_38 (fun r_38 M_38 h_38 => ?_)
  obtain ⟨rfl, rfl⟩ := h_38
  refine hc_iret C rfl dX8_ahead_41 ?_
  refine ⟨?_, fun q g1 g2 => by rw [hc_mf_n g1, hc_mf_n g1]⟩
  rw [hc_mf_s]
  exact (rIter_c hE6 hD4 n rAg_cpy 3 (by decide)).symm

set_option maxRecDepth 100000 in
set_option maxHeartbeats 4000000 in
theorem c_X8_older_b2 {l : Launch} {G : hc_Geo} (hG : hc_ok G) {M : hc_Mem} {E e0 : Nat} {v2 v3 : Int32}  (hE : M 54 4 = nI E) (hE6 : E ≤ 6) (he : e0 < E) (h1 : ¬ ((¬ v2 < 0 ∧ ¬ M 54 4 ≤ v2) ∧ ¬ nI e0 = v2 ∧ (¬ v3 < 0 ∧ ¬ 99 < v3))) : hc_M l G yX8_older cX8_older 4 (some .int) 3 [.ref (hc_ad G 48), .int (nI e0), .int v2, .int v3] M (hc_pi (fun z M' => -1000001 = z ∧ M = M')) := by
  refine hc_M.of hG (by decide) [some (.ref (hc_ad G 48)), some (.int (nI e0)), some (.int v2), some (.int v3)] rfl (Nat.le_of_ble_eq_true rfl) ?_
  intro p e s m args below meth c C
  refine hc_aload_n C dX8_older_0 rfl rfl ?_
  refine hc_iload_n C dX8_older_1 rfl rfl ?_
  refine hc_cV1i C mv_X8_178 (c_X8_isEar C.ok hE (by omega)) rfl rfl rfl (Nat.le_of_ble_eq_true rfl) (hc_rr_rm (by decide)) ⟨Nat.zero_le _, Nat.zero_le _⟩ dX8_older_2 (fun r_2 M_2 h_2 => ?_)
  obtain ⟨rfl, rfl⟩ := h_2
  refine hc_if_eq C (tgt := 31) dX8_older_5 (by decide) (fun c_5 => ?_) (fun c_5 => ?_)
  · exact absurd (hx_earR hE hE6 he) (hb_z.mp c_5)
  refine hc_aload_n C dX8_older_8 rfl rfl ?_
  refine hc_iload_n C dX8_older_9 rfl rfl ?_
  refine hc_cV1i C mv_X8_178 (c_X8_isEar C.ok hE (by omega)) rfl rfl rfl (Nat.le_of_ble_eq_true rfl) (hc_rr_rm (by decide)) ⟨Nat.zero_le _, Nat.zero_le _⟩ dX8_older_10 (fun r_10 M_10 h_10 => ?_)
  obtain ⟨rfl, rfl⟩ := h_10
  refine hc_if_eq C (tgt := 31) dX8_older_13 (by decide) (fun c_13 => ?_) (fun c_13 => ?_)
  · refine hc_ldc C kc_X8_64 dX8_older_31 ?_
    refine hc_iret C rfl dX8_older_33 ?_
    first | exact ⟨rfl, rfl⟩ | exact absurd ⟨hb_nz.mp c_13, c_18, hb_nz.mp c_28⟩ h1
  · refine hc_iload_n C dX8_older_16 rfl rfl ?_
    refine hc_iload_n C dX8_older_17 rfl rfl ?_
    refine hc_icmp_eq C (tgt := 31) dX8_older_18 (by decide) (fun c_18 => ?_) (fun c_18 => ?_)
    · refine hc_ldc C kc_X8_64 dX8_older_31 ?_
      refine hc_iret C rfl dX8_older_33 ?_
      first | exact ⟨rfl, rfl⟩ | exact absurd ⟨hb_nz.mp c_13, c_18, hb_nz.mp c_28⟩ h1
    · refine hc_iload_n C dX8_older_21 rfl rfl ?_
      refine hc_iconst C dX8_older_22 (v := 0) rfl ?_
      refine hc_bipush C dX8_older_23 (v := 99) rfl ?_
      refine hc_cS3i C ms_X8_56 (c_X8_in C.ok) (Nat.le_of_ble_eq_true rfl) (hc_rr_rm (by decide)) ⟨Nat.zero_le _, Nat.zero_le _⟩ dX8_older_25 (fun r_25 M_25 h_25 => ?_)
      obtain ⟨rfl, rfl⟩ := h_25
      refine hc_if_ne C (tgt := 34) dX8_older_28 (by decide) (fun c_28 => ?_) (fun c_28 => ?_)
      · exact absurd ⟨hb_nz.mp c_13, c_18, hb_nz.mp c_28⟩ h1
      · refine hc_ldc C kc_X8_64 dX8_older_31 ?_
        refine hc_iret C rfl dX8_older_33 ?_
        first | exact ⟨rfl, rfl⟩ | exact absurd ⟨hb_nz.mp c_13, c_18, hb_nz.mp c_28⟩ h1

set_option maxRecDepth 100000 in
set_option maxHeartbeats 4000000 in
theorem c_X8_older_o {l : Launch} {G : hc_Geo} (hG : hc_ok G) {M : hc_Mem} {E D e0 e1 n : Nat}  (hE : M 54 4 = nI E) (hE6 : E ≤ 6) (he : e0 < E) (he1 : e1 < E) (hne : e0 ≠ e1) (hn : n ≤ 99) (hD : M 54 5 = nI D) (hD4 : D ≤ 4) : hc_M l G yX8_older cX8_older 4 (some .int) 7 [.ref (hc_ad G 48), .int (nI e0), .int (nI e1), .int (nI n)] M (hc_pi (fun z M' => rIter E D n (M 54) (6 + 7 * e0 + 6) - rIter E D n (M 54) (6 + 7 * e1 + 6) = z ∧ ∀ q, q ≠ 59 → q ≠ 60 → M' q = M q)) := by
  refine hc_M.of hG (by decide) [some (.ref (hc_ad G 48)), some (.int (nI e0)), some (.int (nI e1)), some (.int (nI n))] rfl (Nat.le_of_ble_eq_true rfl) ?_
  intro p e s m args below meth c C
  refine hc_aload_n C dX8_older_0 rfl rfl ?_
  refine hc_iload_n C dX8_older_1 rfl rfl ?_
  refine hc_cV1i C mv_X8_178 (c_X8_isEar C.ok hE (by omega)) rfl rfl rfl (Nat.le_of_ble_eq_true rfl) (hc_rr_rm (by decide)) ⟨Nat.zero_le _, Nat.zero_le _⟩ dX8_older_2 (fun r_2 M_2 h_2 => ?_)
  obtain ⟨rfl, rfl⟩ := h_2
  refine hc_if_eq C (tgt := 31) dX8_older_5 (by decide) (fun c_5 => ?_) (fun c_5 => ?_)
  · exact absurd (hx_earR hE hE6 he) (hb_z.mp c_5)
  refine hc_aload_n C dX8_older_8 rfl rfl ?_
  refine hc_iload_n C dX8_older_9 rfl rfl ?_
  refine hc_cV1i C mv_X8_178 (c_X8_isEar C.ok hE (by omega)) rfl rfl rfl (Nat.le_of_ble_eq_true rfl) (hc_rr_rm (by decide)) ⟨Nat.zero_le _, Nat.zero_le _⟩ dX8_older_10 (fun r_10 M_10 h_10 => ?_)
  obtain ⟨rfl, rfl⟩ := h_10
  refine hc_if_eq C (tgt := 31) dX8_older_13 (by decide) (fun c_13 => ?_) (fun c_13 => ?_)
  · exact absurd (hx_earR hE hE6 he1) (hb_z.mp c_13)
  refine hc_iload_n C dX8_older_16 rfl rfl ?_
  refine hc_iload_n C dX8_older_17 rfl rfl ?_
  refine hc_icmp_eq C (tgt := 31) dX8_older_18 (by decide) (fun c_18 => ?_) (fun c_18 => ?_)
  · exact absurd ((nI_eq (by omega) (by omega)).mp c_18) hne
  refine hc_iload_n C dX8_older_21 rfl rfl ?_
  refine hc_iconst C dX8_older_22 (v := 0) rfl ?_
  refine hc_bipush C dX8_older_23 (v := 99) rfl ?_
  refine hc_cS3i C ms_X8_56 (c_X8_in C.ok) (Nat.le_of_ble_eq_true rfl) (hc_rr_rm (by decide)) ⟨Nat.zero_le _, Nat.zero_le _⟩ dX8_older_25 (fun r_25 M_25 h_25 => ?_)
  obtain ⟨rfl, rfl⟩ := h_25
  refine hc_if_ne C (tgt := 34) dX8_older_28 (by decide) (fun c_28 => ?_) (fun c_28 => ?_)
  rotate_left
  · exact absurd (hx_in (lo := 0) (hi := 99) (Nat.zero_le _) hn (by decide)) (hb_z.mp c_28)
  refine hc_aload_n C dX8_older_34 rfl rfl ?_
  refine hc_getR C fl_X8_25 rfl rfl dX8_older_35 ?_
  refine hc_iconst C dX8_older_38 (v := 0) rfl ?_
  refine hc_aload_n C dX8_older_39 rfl rfl ?_
  refine hc_getR C fl_X8_41 rfl rfl dX8_older_40 ?_
  refine hc_iconst C dX8_older_43 (v := 0) rfl ?_
  refine hc_cS4v C ms_X8_134 (c_X8_copies (a := 0) (b := 0) C.ok rfl rfl (by decide) (by decide) (by decide)) (Nat.le_of_ble_eq_true rfl) (hc_rr_rm (by decide)) ⟨Nat.zero_le _, Nat.zero_le _⟩ dX8_older_44 (fun M_44 h_44 => ?_)
  obtain rfl := h_44
  refine hc_aload_n C dX8_older_47 rfl rfl ?_
  refine hc_iload_n C dX8_older_48 rfl rfl ?_
  refine hc_cV1i C mv_X8_188 (c_X8_partsIn (E := E) (D := D) (n := n) C.ok hn (by rw [hc_mf_s]; exact (rAg_cpy 4 (by decide)).trans hE) hE6 (by rw [hc_mf_s]; exact (rAg_cpy 5 (by decide)).trans hD) hD4) rfl rfl rfl (Nat.le_of_ble_eq_true rfl) (hc_rr_rm (by decide)) ⟨Nat.zero_le _, Nat.zero_le _⟩ dX8_older_49 (fun r_49 M_49 h_49 => ?_)
  obtain ⟨rfl, rfl⟩ := h_49
  refine hc_pop C dX8_older_52 rfl ?_
  refine hc_aload_n C dX8_older_53 rfl rfl ?_
  refine hc_getR C fl_X8_41 rfl rfl dX8_older_54 ?_
  refine hc_bipush C dX8_older_57 (v := 6) rfl ?_
  refine hc_bipush C dX8_older_59 (v := 7) rfl ?_
  refine hc_iload_n C dX8_older_61 rfl rfl ?_
  refine hc_imul C dX8_older_62 ?_
  refine hc_iadd C dX8_older_63 ?_
  refine hc_bipush C dX8_older_64 (v := 6) rfl ?_
  refine hc_iadd C dX8_older_66 ?_
  refine hc_ialdN C (j := (6 + 7 * e0 + 6)) rfl (hx_67 e0 6) (by omega) dX8_older_67 ?_
  refine hc_top (v := rIter E D n (M 54) (6 + 7 * e0 + 6)) (by rw [hc_mf_s, hc_mf_s]; exact rIter_c hE6 hD4 n rAg_cpy _ (by omega)) ?_
  refine hc_aload_n C dX8_older_68 rfl rfl ?_
  refine hc_getR C fl_X8_41 rfl rfl dX8_older_69 ?_
  refine hc_bipush C dX8_older_72 (v := 6) rfl ?_
  refine hc_bipush C dX8_older_74 (v := 7) rfl ?_
  refine hc_iload_n C dX8_older_76 rfl rfl ?_
  refine hc_imul C dX8_older_77 ?_
  refine hc_iadd C dX8_older_78 ?_
  refine hc_bipush C dX8_older_79 (v := 6) rfl ?_
  refine hc_iadd C dX8_older_81 ?_
  refine hc_ialdN C (j := (6 + 7 * e1 + 6)) rfl (hx_67 e1 6) (by omega) dX8_older_82 ?_
  refine hc_top (v := rIter E D n (M 54) (6 + 7 * e1 + 6)) (by rw [hc_mf_s, hc_mf_s]; exact rIter_c hE6 hD4 n rAg_cpy _ (by omega)) ?_
  refine hc_isub C dX8_older_83 ?_
  refine hc_iret C rfl dX8_older_84 ?_
  exact ⟨rfl, fun q g1 g2 => by rw [hc_mf_n g1, hc_mf_n g1]⟩

set_option maxRecDepth 100000 in
set_option maxHeartbeats 4000000 in
theorem c_X8_told {l : Launch} {G : hc_Geo} (hG : hc_ok G) {M : hc_Mem} {v1 v2 : Int32}  : hc_M l G yX8_told cX8_told 3 (some .int) 2 [.ref (hc_ad G 48), .int v1, .int v2] M (hc_pi (fun z M' => (if v1 = -1000000 ∨ v2 = 1 then v1 else rOnes v1 8) = z ∧ M = M')) := by
  refine hc_M.of hG (by decide) [some (.ref (hc_ad G 48)), some (.int v1), some (.int v2)] rfl (Nat.le_of_ble_eq_true rfl) ?_
  intro p e s m args below meth c C
  refine hc_iload_n C dX8_told_0 rfl rfl ?_
  refine hc_ldc C kc_X8_50 dX8_told_1 ?_
  refine hc_icmp_eq C (tgt := 11) dX8_told_3 (by decide) (fun c_3 => ?_) (fun c_3 => ?_)
  · refine hc_iload_n C dX8_told_11 rfl rfl ?_
    refine hc_goto C (tgt := 19) dX8_told_12 (by decide) ?_
    refine hc_iret C rfl dX8_told_19 ?_
    refine ⟨?_, rfl⟩
    first | exact if_pos (Or.inl c_3) | exact if_pos (Or.inr c_8) | exact if_neg (not_or.mpr ⟨c_3, c_8⟩)
  · refine hc_iload_n C dX8_told_6 rfl rfl ?_
    refine hc_iconst C dX8_told_7 (v := 1) rfl ?_
    refine hc_icmp_ne C (tgt := 15) dX8_told_8 (by decide) (fun c_8 => ?_) (fun c_8 => ?_)
    · refine hc_iload_n C dX8_told_15 rfl rfl ?_
      refine hc_cS1i C ms_X8_197 (c_X8_ones C.ok) (Nat.le_of_ble_eq_true rfl) (hc_rr_rm (by decide)) ⟨Nat.zero_le _, Nat.zero_le _⟩ dX8_told_16 (fun r_16 M_16 h_16 => ?_)
      obtain ⟨rfl, rfl⟩ := h_16
      refine hc_iret C rfl dX8_told_19 ?_
      refine ⟨?_, rfl⟩
      first | exact if_pos (Or.inl c_3) | exact if_pos (Or.inr c_8) | exact if_neg (not_or.mpr ⟨c_3, c_8⟩)
    · refine hc_iload_n C dX8_told_11 rfl rfl ?_
      refine hc_goto C (tgt := 19) dX8_told_12 (by decide) ?_
      refine hc_iret C rfl dX8_told_19 ?_
      refine ⟨?_, rfl⟩
      first | exact if_pos (Or.inl c_3) | exact if_pos (Or.inr c_8) | exact if_neg (not_or.mpr ⟨c_3, c_8⟩)
