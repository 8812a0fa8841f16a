/-! THE REFERENCE, as it computes: a house is a row f of 68 numbers -/
abbrev rLis (f : Nat → Int32) (e : Nat) : Prop := f (6 + 7 * e + 2) = 0 ∧ f (6 + 7 * e + 5) = 0 ∧ ¬ f (6 + 7 * e + 4) ≤ hRem8 (f 2 + 8 - f (6 + 7 * e + 3))
def rLisM (f : Nat → Int32) : Nat → Int32
  | 0 => 0
  | e + 1 => rLisM f e ||| (if rLis f e then (1 : Int32) <<< (nI e &&& 31) else 0)
def rLeft (f : Nat → Int32) (e : Nat) : Int32 := if f (6 + 7 * e + 1) ≤ f 1 then 0 else f (6 + 7 * e + 1) - f 1
def rHeed (f : Nat → Int32) (e : Nat) : Int32 := if f (6 + 7 * e) = 3 then rLeft f e / 2 else if f (6 + 7 * e) = 4 then (if 3 ≤ rLeft f e / 2 then 3 else rLeft f e / 2) else if f (6 + 7 * e) = 5 then 0 else rLeft f e
def rGiv (f : Nat → Int32) (s w : Int32) : Nat → Int32
  | 0 => 0
  | e + 1 => rGiv f s w e + (if hIn s (nI e) ∧ hb (f (6 + 7 * e) = 2) = w then rHeed f e else 0)
def rBy (f : Nat → Int32) (E : Nat) (s : Int32) : Int32 := if rGiv f s 0 E < 12 then rGiv f s 0 E + rGiv f s 1 E else rGiv f s 0 E
def rGo (f : Nat → Int32) (E : Nat) : Int32 := rBy f E (rLisM f E)
def rP1 (f : Nat → Int32) (its : Int32) : Nat → (Nat → Int32)
  | 0 => f
  | e + 1 => upd (rP1 f its e) (6 + 7 * e + 6) (rP1 f its e (6 + 7 * e + 6) + (if rP1 f its e (6 + 7 * e + 2) = 0 then its else 12))
def rP2 (f : Nat → Int32) (its : Int32) : Nat → Int32 := upd (upd f 3 (f 3 + its)) 2 (upd f 3 (f 3 + its) 2 + 1)
abbrev rIsD (f : Nat → Int32) (x : Nat) : Prop := ¬ f (48 + 5 * x + 3) = -1000000 ∧ f (48 + 5 * x + 4) = -1000000 ∧ ¬ f 3 < f (48 + 5 * x + 3) + 12 * f (48 + 5 * x + 1)
def rP4 (f : Nat → Int32) (x : Nat) : Nat → Int32 := upd f (48 + 5 * x + 4) (if rIsD f x then f 2 else f (48 + 5 * x + 4))
def rP5 (f : Nat → Int32) (x : Nat) : Nat → Int32 := upd f (48 + 5 * x + 3) (if f (48 + 5 * x + 0) = f 2 then f 3 else f (48 + 5 * x + 3))
def rP3 (f : Nat → Int32) : Nat → (Nat → Int32)
  | 0 => f
  | x + 1 => rP5 (rP4 (rP3 f x) x) x
def rPass (f : Nat → Int32) (E D : Nat) : Nat → Int32 := rP3 (rP2 (rP1 f (rGo f E) E) (rGo f E)) D
def rIter (E D : Nat) : Nat → (Nat → Int32) → (Nat → Int32)
  | 0, f => f
  | t + 1, f => rPass (rIter E D t f) E D
def rOnes (s : Int32) : Nat → Int32
  | 0 => 0
  | k + 1 => rOnes s k + ((s >>> (nI k &&& 31)) &&& 1)
theorem rP1_o {f : Nat → Int32} {its : Int32} {j : Nat} : ∀ e : Nat, (∀ x, x < e → j ≠ 6 + 7 * x + 6) → rP1 f its e j = f j := by
  intro e
  induction e with
  | zero => intro _; rfl
  | succ e ih => intro h; unfold rP1 upd; rw [if_neg (h e (by omega))]; exact ih (fun x hx => h x (by omega))
theorem rP3_o {f : Nat → Int32} {j : Nat} (hj : j < 48) : ∀ x : Nat, rP3 f x j = f j := by
  intro x
  induction x with
  | zero => rfl
  | succ x ih => unfold rP3 rP5 rP4 upd; rw [if_neg (by omega), if_neg (by omega)]; exact ih
theorem rPass_45 {f : Nat → Int32} {E D j : Nat} (h : j = 4 ∨ j = 5 ∨ j = 0 ∨ j = 1) : rPass f E D j = f j := by
  unfold rPass
  rw [rP3_o (by omega)]
  unfold rP2 upd
  rw [if_neg (by omega), if_neg (by omega), rP1_o _ (fun x _ => by omega)]
theorem rIter_45 {E D j : Nat} (h : j = 4 ∨ j = 5 ∨ j = 0 ∨ j = 1) : ∀ (t : Nat) (f : Nat → Int32), rIter E D t f j = f j := by
  intro t
  induction t with
  | zero => intro f; rfl
  | succ t ih => intro f; unfold rIter; rw [rPass_45 h]; exact ih f
theorem hx_5 (e k : Nat) : (48 : Int32) + 5 * nI e + nI k = nI (48 + 5 * e + k) := by
  rw [show (48 : Int32) = nI 48 from rfl, show (5 : Int32) = nI 5 from rfl, pk_mul, nI_add, nI_add]
theorem hx_50 (e : Nat) : (48 : Int32) + 5 * nI e = nI (48 + 5 * e) := by
  rw [show (48 : Int32) = nI 48 from rfl, show (5 : Int32) = nI 5 from rfl, pk_mul, nI_add]

set_option maxRecDepth 100000 in
set_option maxHeartbeats 4000000 in
theorem lp_copies {G : hc_Geo} {p : Program} {l : Launch} {e : Env} {d : Nat} {s : State} {m : MethodId} {args : Array Value} {below : List Frame} {meth : Method} {c : Code} {Q : State → Prop} (C : hc_Cx G hc_lay cX8_copies 5 none yX8_copies.cls p s m args meth c) {M : hc_Mem} {k0 k1 n0 n1 a b : Nat} (hy0 : hc_lay[k0]? = some (.inl (false, n0))) (hy1 : hc_lay[k1]? = some (.inl (false, n1))) (hne : k0 ≠ k1) (ha : a + 68 ≤ n0) (hb : b + 68 ≤ n1) 
    (kk : hc_W G hc_lay p l e (hc_rm d) s m args below meth c 5 0 0 Q 28 [some (.ref (hc_ad G k0)), some (.int (nI a)), some (.ref (hc_ad G k1)), some (.int (nI b)), some (.int (nI 68))] [] (hc_mf M k1 (va_cpy (M k0) (M k1) a b 68))) :
    ∀ (t : Nat) (i : Nat), i + t = 68 → hc_W G hc_lay p l e (hc_rm d) s m args below meth c 5 0 0 Q 3 [some (.ref (hc_ad G k0)), some (.int (nI a)), some (.ref (hc_ad G k1)), some (.int (nI b)), some (.int (nI i))] [] (hc_mf M k1 (va_cpy (M k0) (M k1) a b i)) := by
  intro t
  induction t with
  | zero =>
    intro i hi
    refine hc_iload C dX8_copies_3 rfl ?_
    refine hc_bipush C dX8_copies_5 (v := 68) rfl ?_
    refine hc_icmp_ge C (tgt := 28) dX8_copies_7 (by decide) (fun c_7 => ?_) (fun c_7 => ?_)
    rotate_left
    · exact absurd (show (68 : Int32) ≤ nI i from by rw [show i = 68 by omega]; decide) c_7
    rw [show i = 68 by omega]
    exact kk
  | succ t ih =>
    intro i hi
    refine hc_iload C dX8_copies_3 rfl ?_
    refine hc_bipush C dX8_copies_5 (v := 68) rfl ?_
    refine hc_icmp_ge C (tgt := 28) dX8_copies_7 (by decide) (fun c_7 => ?_) (fun c_7 => ?_)
    · exact absurd (show nI 68 ≤ nI i from c_7) (nI_ge (show i < 68 by omega) (by omega))
    refine hc_aload_n C dX8_copies_10 rfl rfl ?_
    refine hc_iload_n C dX8_copies_11 rfl rfl ?_
    refine hc_iload C dX8_copies_12 rfl ?_
    refine hc_iadd C dX8_copies_14 ?_
    refine hc_aload_n C dX8_copies_15 rfl rfl ?_
    refine hc_iload_n C dX8_copies_16 rfl rfl ?_
    refine hc_iload C dX8_copies_17 rfl ?_
    refine hc_iadd C dX8_copies_19 ?_
    refine hc_ialdN C (j := (a + i)) hy0 (nI_add a i) (by omega) dX8_copies_20 ?_
    refine hc_iastN C (j := (b + i)) hy1 (nI_add b i) (by omega) dX8_copies_21 ?_
    refine hc_iinc4 C (v := nI (i + 1)) dX8_copies_22 (by decide) rfl rfl (nI_1 i) ?_
    refine hc_goto C (tgt := 3) dX8_copies_25 (by decide) ?_
    refine hc_mem ?_ (ih (i + 1) (by omega))
    rw [hc_mf_n hne]
    funext q
    by_cases hq : q = k1
    · subst hq
      simp only [hc_ms_s, hc_mf_s]
      funext x
      simp only [upd, va_cpy]
      by_cases hx : x = b + i
      · subst hx
        rw [if_pos rfl, if_pos (by omega)]
        congr 1
        omega
      · rw [if_neg hx]
        have e1 : (b ≤ x ∧ x < b + (i + 1)) ↔ (b ≤ x ∧ x < b + i) := by omega
        simp only [e1]
    · simp only [hc_ms_n hq, hc_mf_n hq]

set_option maxRecDepth 100000 in
set_option maxHeartbeats 4000000 in
theorem c_X8_copies {l : Launch} {G : hc_Geo} (hG : hc_ok G) {M : hc_Mem} {k0 k1 n0 n1 a b : Nat}  (hy0 : hc_lay[k0]? = some (.inl (false, n0))) (hy1 : hc_lay[k1]? = some (.inl (false, n1))) (hne : k0 ≠ k1) (ha : a + 68 ≤ n0) (hb : b + 68 ≤ n1) : hc_M l G yX8_copies cX8_copies 5 none 1 [.ref (hc_ad G k0), .int (nI a), .ref (hc_ad G k1), .int (nI b)] M (hc_pv (fun M' => (hc_mf M k1 (va_cpy (M k0) (M k1) a b 68)) = M')) := by
  refine hc_M.of hG (by decide) [some (.ref (hc_ad G k0)), some (.int (nI a)), some (.ref (hc_ad G k1)), some (.int (nI b)), none] rfl (Nat.le_of_ble_eq_true rfl) ?_
  intro p e s m args below meth c C
  refine hc_iconst C dX8_copies_0 (v := 0) rfl ?_
  refine hc_istore4 C dX8_copies_1 (by decide) rfl ?_
  refine hc_mem ?_ (lp_copies (M := M) C hy0 hy1 hne ha hb ?_ 68 0 rfl)
  · funext q
    by_cases hq : q = k1
    · subst hq
      rw [hc_mf_s]
      funext x
      simp only [va_cpy]
      rw [if_neg (by omega)]
    · rw [hc_mf_n hq]
  exact hc_vret C rfl dX8_copies_28 rfl

set_option maxRecDepth 100000 in
set_option maxHeartbeats 4000000 in
theorem c_X8_has {l : Launch} {G : hc_Geo} (hG : hc_ok G) {M : hc_Mem} {s0 e0 : Int32}  : hc_M l G yX8_has cX8_has 2 (some .boolean) 1 [.int s0, .int e0] M (hc_pi (fun z M' => hb (hIn s0 e0) = z ∧ M = M')) := by
  refine hc_M.of hG (by decide) [some (.int s0), some (.int e0)] rfl (Nat.le_of_ble_eq_true rfl) ?_
  intro p e s m args below meth c C
  refine hc_iload_n C dX8_has_0 rfl rfl ?_
  refine hc_iload_n C dX8_has_1 rfl rfl ?_
  refine hc_ishr C dX8_has_2 ?_
  refine hc_iconst C dX8_has_3 (v := 1) rfl ?_
  refine hc_iand C dX8_has_4 ?_
  refine hc_iconst C dX8_has_5 (v := 1) rfl ?_
  refine hc_icmp_ne C (tgt := 13) dX8_has_6 (by decide) (fun c_6 => ?_) (fun c_6 => ?_)
  · refine hc_iconst C dX8_has_13 (v := 0) rfl ?_
    refine hc_zret C rfl rfl dX8_has_14 ?_
    refine ⟨?_, rfl⟩
    first | exact hb_t c_6 | exact hb_f c_6
  · refine hc_iconst C dX8_has_9 (v := 1) rfl ?_
    refine hc_goto C (tgt := 14) dX8_has_10 (by decide) ?_
    refine hc_zret C rfl rfl dX8_has_14 ?_
    refine ⟨?_, rfl⟩
    first | exact hb_t c_6 | exact hb_f c_6

set_option maxRecDepth 100000 in
set_option maxHeartbeats 4000000 in
theorem lp_ones {G : hc_Geo} {p : Program} {l : Launch} {e : Env} {d : Nat} {s : State} {m : MethodId} {args : Array Value} {below : List Frame} {meth : Method} {c : Code} {Q : State → Prop} (C : hc_Cx G hc_lay cX8_ones 3 (some .int) yX8_ones.cls p s m args meth c) {M : hc_Mem} {s0 : Int32} 
    (kk : hc_W G hc_lay p l e (hc_rm d) s m args below meth c 3 0 0 Q 24 [some (.int s0), some (.int (rOnes s0 8)), some (.int (nI 8))] [] M) :
    ∀ (t : Nat) (i : Nat), i + t = 8 → hc_W G hc_lay p l e (hc_rm d) s m args below meth c 3 0 0 Q 4 [some (.int s0), some (.int (rOnes s0 i)), some (.int (nI i))] [] M := by
  intro t
  induction t with
  | zero =>
    intro i hi
    refine hc_iload_n C dX8_ones_4 rfl rfl ?_
    refine hc_bipush C dX8_ones_5 (v := 8) rfl ?_
    refine hc_icmp_ge C (tgt := 24) dX8_ones_7 (by decide) (fun c_7 => ?_) (fun c_7 => ?_)
    rotate_left
    · exact absurd (show (8 : Int32) ≤ nI i from by rw [show i = 8 by omega]; decide) c_7
    rw [show i = 8 by omega]
    exact kk
  | succ t ih =>
    intro i hi
    refine hc_iload_n C dX8_ones_4 rfl rfl ?_
    refine hc_bipush C dX8_ones_5 (v := 8) rfl ?_
    refine hc_icmp_ge C (tgt := 24) dX8_ones_7 (by decide) (fun c_7 => ?_) (fun c_7 => ?_)
    · exact absurd (show nI 8 ≤ nI i from c_7) (nI_ge (show i < 8 by omega) (by omega))
    refine hc_iload_n C dX8_ones_10 rfl rfl ?_
    refine hc_iload_n C dX8_ones_11 rfl rfl ?_
    refine hc_iload_n C dX8_ones_12 rfl rfl ?_
    refine hc_ishr C dX8_ones_13 ?_
    refine hc_iconst C dX8_ones_14 (v := 1) rfl ?_
    refine hc_iand C dX8_ones_15 ?_
    refine hc_iadd C dX8_ones_16 ?_
    refine hc_istore_n1 C dX8_ones_17 rfl (by decide) rfl ?_
    refine hc_iinc2 C (v := nI (i + 1)) dX8_ones_18 (by decide) rfl rfl (nI_1 i) ?_
    refine hc_goto C (tgt := 4) dX8_ones_21 (by decide) ?_
    exact ih (i + 1) (by omega)

set_option maxRecDepth 100000 in
set_option maxHeartbeats 4000000 in
theorem c_X8_ones {l : Launch} {G : hc_Geo} (hG : hc_ok G) {M : hc_Mem} {s0 : Int32}  : hc_M l G yX8_ones cX8_ones 3 (some .int) 1 [.int s0] M (hc_pi (fun z M' => rOnes s0 8 = z ∧ M = M')) := by
  refine hc_M.of hG (by decide) [some (.int s0), none, none] rfl (Nat.le_of_ble_eq_true rfl) ?_
  intro p e s m args below meth c C
  refine hc_iconst C dX8_ones_0 (v := 0) rfl ?_
  refine hc_istore_n1 C dX8_ones_1 rfl (by decide) rfl ?_
  refine hc_iconst C dX8_ones_2 (v := 0) rfl ?_
  refine hc_istore_n2 C dX8_ones_3 rfl (by decide) rfl ?_
  refine lp_ones C ?_ 8 0 rfl
  refine hc_iload_n C dX8_ones_24 rfl rfl ?_
  refine hc_iret C rfl dX8_ones_25 ?_
  exact ⟨rfl, rfl⟩

set_option maxRecDepth 100000 in
set_option maxHeartbeats 4000000 in
theorem c_X8_listens {l : Launch} {G : hc_Geo} (hG : hc_ok G) {M : hc_Mem} {k e0 : Nat}  (hy : hc_lay[k]? = some (.inl (false, 68))) (he : e0 < 6) : hc_M l G yX8_listens cX8_listens 3 (some .boolean) 1 [.ref (hc_ad G k), .int (nI e0)] M (hc_pi (fun z M' => hb (rLis (M k) e0) = z ∧ M = M')) := by
  refine hc_M.of hG (by decide) [some (.ref (hc_ad G k)), some (.int (nI e0)), none] rfl (Nat.le_of_ble_eq_true rfl) ?_
  intro p e s m args below meth c C
  refine hc_bipush C dX8_listens_0 (v := 6) rfl ?_
  refine hc_bipush C dX8_listens_2 (v := 7) rfl ?_
  refine hc_iload_n C dX8_listens_4 rfl rfl ?_
  refine hc_imul C dX8_listens_5 ?_
  refine hc_iadd C dX8_listens_6 ?_
  refine hc_top (hx_670 e0) ?_
  refine hc_istore_n2 C dX8_listens_7 rfl (by decide) rfl ?_
  refine hc_aload_n C dX8_listens_8 rfl rfl ?_
  refine hc_iload_n C dX8_listens_9 rfl rfl ?_
  refine hc_iconst C dX8_listens_10 (v := 2) rfl ?_
  refine hc_iadd C dX8_listens_11 ?_
  refine hc_ialdN C (j := (6 + 7 * e0 + 2)) hy (show nI (6 + 7 * e0) + nI 2 = nI (6 + 7 * e0 + 2) from nI_add _ _) (by omega) dX8_listens_12 ?_
  refine hc_if_ne C (tgt := 51) dX8_listens_13 (by decide) (fun c_13 => ?_) (fun c_13 => ?_)
  · refine hc_iconst C dX8_listens_51 (v := 0) rfl ?_
    refine hc_zret C rfl rfl dX8_listens_52 ?_
    refine ⟨?_, rfl⟩
    first | exact hb_f (fun z => c_13 z.1) | exact hb_f (fun z => c_21 z.2.1) | exact hb_f (fun z => z.2.2 c_44) | exact hb_t ⟨c_13, c_21, c_44⟩
  · refine hc_aload_n C dX8_listens_16 rfl rfl ?_
    refine hc_iload_n C dX8_listens_17 rfl rfl ?_
    refine hc_iconst C dX8_listens_18 (v := 5) rfl ?_
    refine hc_iadd C dX8_listens_19 ?_
    refine hc_ialdN C (j := (6 + 7 * e0 + 5)) hy (show nI (6 + 7 * e0) + nI 5 = nI (6 + 7 * e0 + 5) from nI_add _ _) (by omega) dX8_listens_20 ?_
    refine hc_if_ne C (tgt := 51) dX8_listens_21 (by decide) (fun c_21 => ?_) (fun c_21 => ?_)
    · refine hc_iconst C dX8_listens_51 (v := 0) rfl ?_
      refine hc_zret C rfl rfl dX8_listens_52 ?_
      refine ⟨?_, rfl⟩
      first | exact hb_f (fun z => c_13 z.1) | exact hb_f (fun z => c_21 z.2.1) | exact hb_f (fun z => z.2.2 c_44) | exact hb_t ⟨c_13, c_21, c_44⟩
    · refine hc_aload_n C dX8_listens_24 rfl rfl ?_
      refine hc_iconst C dX8_listens_25 (v := 2) rfl ?_
      refine hc_ialdN C (j := 2) hy rfl (by decide) dX8_listens_26 ?_
      refine hc_bipush C dX8_listens_27 (v := 8) rfl ?_
      refine hc_iadd C dX8_listens_29 ?_
      refine hc_aload_n C dX8_listens_30 rfl rfl ?_
      refine hc_iload_n C dX8_listens_31 rfl rfl ?_
      refine hc_iconst C dX8_listens_32 (v := 3) rfl ?_
      refine hc_iadd C dX8_listens_33 ?_
      refine hc_ialdN C (j := (6 + 7 * e0 + 3)) hy (show nI (6 + 7 * e0) + nI 3 = nI (6 + 7 * e0 + 3) from nI_add _ _) (by omega) dX8_listens_34 ?_
      refine hc_isub C dX8_listens_35 ?_
      refine hc_bipush C dX8_listens_36 (v := 8) rfl ?_
      refine hc_irem C dX8_listens_38 (by decide) ?_
      refine hc_aload_n C dX8_listens_39 rfl rfl ?_
      refine hc_iload_n C dX8_listens_40 rfl rfl ?_
      refine hc_iconst C dX8_listens_41 (v := 4) rfl ?_
      refine hc_iadd C dX8_listens_42 ?_
      refine hc_ialdN C (j := (6 + 7 * e0 + 4)) hy (show nI (6 + 7 * e0) + nI 4 = nI (6 + 7 * e0 + 4) from nI_add _ _) (by omega) dX8_listens_43 ?_
      refine hc_icmp_ge C (tgt := 51) dX8_listens_44 (by decide) (fun c_44 => ?_) (fun c_44 => ?_)
      · refine hc_iconst C dX8_listens_51 (v := 0) rfl ?_
        refine hc_zret C rfl rfl dX8_listens_52 ?_
        refine ⟨?_, rfl⟩
        first | exact hb_f (fun z => c_13 z.1) | exact hb_f (fun z => c_21 z.2.1) | exact hb_f (fun z => z.2.2 c_44) | exact hb_t ⟨c_13, c_21, c_44⟩
      · refine hc_iconst C dX8_listens_47 (v := 1) rfl ?_
        refine hc_goto C (tgt := 52) dX8_listens_48 (by decide) ?_
        refine hc_zret C rfl rfl dX8_listens_52 ?_
        refine ⟨?_, rfl⟩
        first | exact hb_f (fun z => c_13 z.1) | exact hb_f (fun z => c_21 z.2.1) | exact hb_f (fun z => z.2.2 c_44) | exact hb_t ⟨c_13, c_21, c_44⟩

set_option maxRecDepth 100000 in
set_option maxHeartbeats 4000000 in
theorem lp_listening {G : hc_Geo} {p : Program} {l : Launch} {e : Env} {d : Nat} {s : State} {m : MethodId} {args : Array Value} {below : List Frame} {meth : Method} {c : Code} {Q : State → Prop} (C : hc_Cx G hc_lay cX8_listening 3 (some .int) yX8_listening.cls p s m args meth c) {M : hc_Mem} {k E : Nat} (hd : 1 < d) (hy : hc_lay[k]? = some (.inl (false, 68))) (hE : M k 4 = nI E) (hE6 : E ≤ 6) 
    (kk : hc_W G hc_lay p l e (hc_rm d) s m args below meth c 3 0 0 Q 35 [some (.ref (hc_ad G k)), some (.int (rLisM (M k) E)), some (.int (nI E))] [] M) :
    ∀ (t : Nat) (i : Nat), i + t = E → hc_W G hc_lay p l e (hc_rm d) s m args below meth c 3 0 0 Q 4 [some (.ref (hc_ad G k)), some (.int (rLisM (M k) i)), some (.int (nI i))] [] M := by
  intro t
  induction t with
  | zero =>
    intro i hi
    refine hc_iload_n C dX8_listening_4 rfl rfl ?_
    refine hc_aload_n C dX8_listening_5 rfl rfl ?_
    refine hc_iconst C dX8_listening_6 (v := 4) rfl ?_
    refine hc_ialdN C (j := 4) hy rfl (by decide) dX8_listening_7 ?_
    refine hc_icmp_ge C (tgt := 35) dX8_listening_8 (by decide) (fun c_8 => ?_) (fun c_8 => ?_)
    rotate_left
    · exact absurd (by rw [hE]; exact nI_le (show E ≤ i by omega) (by omega)) c_8
    rw [show i = E by omega]
    exact kk
  | succ t ih =>
    intro i hi
    refine hc_iload_n C dX8_listening_4 rfl rfl ?_
    refine hc_aload_n C dX8_listening_5 rfl rfl ?_
    refine hc_iconst C dX8_listening_6 (v := 4) rfl ?_
    refine hc_ialdN C (j := 4) hy rfl (by decide) dX8_listening_7 ?_
    refine hc_icmp_ge C (tgt := 35) dX8_listening_8 (by decide) (fun c_8 => ?_) (fun c_8 => ?_)
    · exact absurd (hE ▸ c_8) (nI_ge (show i < E by omega) (by omega))
    refine hc_iload_n C dX8_listening_11 rfl rfl ?_
    refine hc_aload_n C dX8_listening_12 rfl rfl ?_
    refine hc_iload_n C dX8_listening_13 rfl rfl ?_
    refine hc_cS2i C ms_X8_141 (c_X8_listens C.ok hy (show i < 6 by omega)) (Nat.le_of_ble_eq_true rfl) (hc_rr_rm hd) ⟨Nat.zero_le _, Nat.zero_le _⟩ dX8_listening_14 (fun r_14 M_14 h_14 => ?_)
    obtain ⟨rfl, rfl⟩ := h_14
    refine hc_if_eq C (tgt := 26) dX8_listening_17 (by decide) (fun c_17 => ?_) (fun c_17 => ?_)
    · refine hc_iconst C dX8_listening_26 (v := 0) rfl ?_
      refine hc_ior C dX8_listening_27 ?_
      refine hc_top (v := rLisM (M k) (i + 1)) ?_ ?_
      · first | rw [rLisM, if_neg (hb_z.mp c_17)] | rw [rLisM, if_pos (hb_nz.mp c_17)]
      refine hc_istore_n1 C dX8_listening_28 rfl (by decide) rfl ?_
      refine hc_iinc2 C (v := nI (i + 1)) dX8_listening_29 (by decide) rfl rfl (nI_1 i) ?_
      refine hc_goto C (tgt := 4) dX8_listening_32 (by decide) ?_
      exact ih (i + 1) (by omega)
    · refine hc_iconst C dX8_listening_20 (v := 1) rfl ?_
      refine hc_iload_n C dX8_listening_21 rfl rfl ?_
      refine hc_ishl C dX8_listening_22 ?_
      refine hc_goto C (tgt := 27) dX8_listening_23 (by decide) ?_
      refine hc_ior C dX8_listening_27 ?_
      refine hc_top (v := rLisM (M k) (i + 1)) ?_ ?_
      · first | rw [rLisM, if_neg (hb_z.mp c_17)] | rw [rLisM, if_pos (hb_nz.mp c_17)]
      refine hc_istore_n1 C dX8_listening_28 rfl (by decide) rfl ?_
      refine hc_iinc2 C (v := nI (i + 1)) dX8_listening_29 (by decide) rfl rfl (nI_1 i) ?_
      refine hc_goto C (tgt := 4) dX8_listening_32 (by decide) ?_
      exact ih (i + 1) (by omega)

set_option maxRecDepth 100000 in
set_option maxHeartbeats 4000000 in
theorem c_X8_listening {l : Launch} {G : hc_Geo} (hG : hc_ok G) {M : hc_Mem} {k E : Nat}  (hy : hc_lay[k]? = some (.inl (false, 68))) (hE : M k 4 = nI E) (hE6 : E ≤ 6) : hc_M l G yX8_listening cX8_listening 3 (some .int) 2 [.ref (hc_ad G k)] M (hc_pi (fun z M' => rLisM (M k) E = z ∧ M = M')) := by
  refine hc_M.of hG (by decide) [some (.ref (hc_ad G k)), none, none] rfl (Nat.le_of_ble_eq_true rfl) ?_
  intro p e s m args below meth c C
  refine hc_iconst C dX8_listening_0 (v := 0) rfl ?_
  refine hc_istore_n1 C dX8_listening_1 rfl (by decide) rfl ?_
  refine hc_iconst C dX8_listening_2 (v := 0) rfl ?_
  refine hc_istore_n2 C dX8_listening_3 rfl (by decide) rfl ?_
  refine lp_listening C (by decide) hy hE hE6 ?_ E 0 (by omega)
  refine hc_iload_n C dX8_listening_35 rfl rfl ?_
  refine hc_iret C rfl dX8_listening_36 ?_
  exact ⟨rfl, rfl⟩

set_option maxRecDepth 100000 in
set_option maxHeartbeats 4000000 in
theorem c_X8_heedOf {l : Launch} {G : hc_Geo} (hG : hc_ok G) {M : hc_Mem} {k e0 : Nat}  (hy : hc_lay[k]? = some (.inl (false, 68))) (he : e0 < 6) : hc_M l G yX8_heedOf cX8_heedOf 4 (some .int) 1 [.ref (hc_ad G k), .int (nI e0)] M (hc_pi (fun z M' => rHeed (M k) e0 = z ∧ M = M')) := by
  refine hc_M.of hG (by decide) [some (.ref (hc_ad G k)), some (.int (nI e0)), none, none] rfl (Nat.le_of_ble_eq_true rfl) ?_
  intro p e s m args below meth c C
  have hJ : ∀ x : Int32, x = rLeft (M k) e0 → hc_W G hc_lay p l e (hc_rm 1) s m args below meth c 4 0 0 (MQ below (hc_Q G hc_lay (hc_pi (fun z M' => rHeed (M k) e0 = z ∧ M = M'))) args s 0 0 (hc_A G)) 32 [some (.ref (hc_ad G k)), some (.int (nI e0)), some (.int (nI (6 + 7 * e0))), none] [.int x] M := by
    intro x hx
    refine hc_istore_n3 C dX8_heedOf_32 rfl (by decide) rfl ?_
    refine hc_aload_n C dX8_heedOf_33 rfl rfl ?_
    refine hc_iload_n C dX8_heedOf_34 rfl rfl ?_
    refine hc_ialdN C (j := (6 + 7 * e0)) hy rfl (by omega) dX8_heedOf_35 ?_
    by_cases hk3 : M k (6 + 7 * e0) = 3
    · refine hc_top hk3 ?_
      refine hc_tableIn C (off := 28) (tgt := 64) dX8_heedOf_36 (by decide) (by decide) rfl (by decide) ?_
      refine hc_iload_n C dX8_heedOf_64 rfl rfl ?_
      refine hc_iconst C dX8_heedOf_65 (v := 2) rfl ?_
      refine hc_idiv C dX8_heedOf_66 (by decide) ?_
      refine hc_iret C rfl dX8_heedOf_67 ?_
      refine ⟨?_, rfl⟩
      subst hx
      unfold rHeed
      first | exact if_pos hk3 | exact (if_neg hk3).trans ((if_pos hk4).trans (if_pos c_72)) | exact (if_neg hk3).trans ((if_pos hk4).trans (if_neg c_72)) | exact (if_neg hk3).trans ((if_neg hk4).trans (if_pos hk5)) | exact (if_neg hk3).trans ((if_neg hk4).trans (if_neg hk5))
    by_cases hk4 : M k (6 + 7 * e0) = 4
    · refine hc_top hk4 ?_
      refine hc_tableIn C (off := 32) (tgt := 68) dX8_heedOf_36 (by decide) (by decide) rfl (by decide) ?_
      refine hc_iload_n C dX8_heedOf_68 rfl rfl ?_
      refine hc_iconst C dX8_heedOf_69 (v := 2) rfl ?_
      refine hc_idiv C dX8_heedOf_70 (by decide) ?_
      refine hc_iconst C dX8_heedOf_71 (v := 3) rfl ?_
      refine hc_icmp_ge C (tgt := 81) dX8_heedOf_72 (by decide) (fun c_72 => ?_) (fun c_72 => ?_)
      · refine hc_iconst C dX8_heedOf_81 (v := 3) rfl ?_
        refine hc_iret C rfl dX8_heedOf_82 ?_
        refine ⟨?_, rfl⟩
        subst hx
        unfold rHeed
        first | exact if_pos hk3 | exact (if_neg hk3).trans ((if_pos hk4).trans (if_pos c_72)) | exact (if_neg hk3).trans ((if_pos hk4).trans (if_neg c_72)) | exact (if_neg hk3).trans ((if_neg hk4).trans (if_pos hk5)) | exact (if_neg hk3).trans ((if_neg hk4).trans (if_neg hk5))
      · refine hc_iload_n C dX8_heedOf_75 rfl rfl ?_
        refine hc_iconst C dX8_heedOf_76 (v := 2) rfl ?_
        refine hc_idiv C dX8_heedOf_77 (by decide) ?_
        refine hc_goto C (tgt := 82) dX8_heedOf_78 (by decide) ?_
        refine hc_iret C rfl dX8_heedOf_82 ?_
        refine ⟨?_, rfl⟩
        subst hx
        unfold rHeed
        first | exact if_pos hk3 | exact (if_neg hk3).trans ((if_pos hk4).trans (if_pos c_72)) | exact (if_neg hk3).trans ((if_pos hk4).trans (if_neg c_72)) | exact (if_neg hk3).trans ((if_neg hk4).trans (if_pos hk5)) | exact (if_neg hk3).trans ((if_neg hk4).trans (if_neg hk5))
    by_cases hk5 : M k (6 + 7 * e0) = 5
    · refine hc_top hk5 ?_
      refine hc_tableIn C (off := 47) (tgt := 83) dX8_heedOf_36 (by decide) (by decide) rfl (by decide) ?_
      refine hc_iconst C dX8_heedOf_83 (v := 0) rfl ?_
      refine hc_iret C rfl dX8_heedOf_84 ?_
      refine ⟨?_, rfl⟩
      subst hx
      unfold rHeed
      first | exact if_pos hk3 | exact (if_neg hk3).trans ((if_pos hk4).trans (if_pos c_72)) | exact (if_neg hk3).trans ((if_pos hk4).trans (if_neg c_72)) | exact (if_neg hk3).trans ((if_neg hk4).trans (if_pos hk5)) | exact (if_neg hk3).trans ((if_neg hk4).trans (if_neg hk5))
    refine hc_tableOut C (tgt := 85) dX8_heedOf_36 (by have n3 : (M k (6 + 7 * e0)).toInt ≠ 3 := fun q => hk3 (Int32.toInt_inj.mp q); have n4 : (M k (6 + 7 * e0)).toInt ≠ 4 := fun q => hk4 (Int32.toInt_inj.mp q); have n5 : (M k (6 + 7 * e0)).toInt ≠ 5 := fun q => hk5 (Int32.toInt_inj.mp q); omega) (by decide) ?_
    refine hc_iload_n C dX8_heedOf_85 rfl rfl ?_
    refine hc_iret C rfl dX8_heedOf_86 ?_
    refine ⟨?_, rfl⟩
    subst hx
    unfold rHeed
    first | exact if_pos hk3 | exact (if_neg hk3).trans ((if_pos hk4).trans (if_pos c_72)) | exact (if_neg hk3).trans ((if_pos hk4).trans (if_neg c_72)) | exact (if_neg hk3).trans ((if_neg hk4).trans (if_pos hk5)) | exact (if_neg hk3).trans ((if_neg hk4).trans (if_neg hk5))
  refine hc_bipush C dX8_heedOf_0 (v := 6) rfl ?_
  refine hc_bipush C dX8_heedOf_2 (v := 7) rfl ?_
  refine hc_iload_n C dX8_heedOf_4 rfl rfl ?_
  refine hc_imul C dX8_heedOf_5 ?_
  refine hc_iadd C dX8_heedOf_6 ?_
  refine hc_top (hx_670 e0) ?_
  refine hc_istore_n2 C dX8_heedOf_7 rfl (by decide) rfl ?_
  refine hc_aload_n C dX8_heedOf_8 rfl rfl ?_
  refine hc_iload_n C dX8_heedOf_9 rfl rfl ?_
  refine hc_iconst C dX8_heedOf_10 (v := 1) rfl ?_
  refine hc_iadd C dX8_heedOf_11 ?_
  refine hc_ialdN C (j := (6 + 7 * e0 + 1)) hy (show nI (6 + 7 * e0) + nI 1 = nI (6 + 7 * e0 + 1) from nI_add _ _) (by omega) dX8_heedOf_12 ?_
  refine hc_aload_n C dX8_heedOf_13 rfl rfl ?_
  refine hc_iconst C dX8_heedOf_14 (v := 1) rfl ?_
  refine hc_ialdN C (j := 1) hy rfl (by decide) dX8_heedOf_15 ?_
  refine hc_icmp_le C (tgt := 31) dX8_heedOf_16 (by decide) (fun c_16 => ?_) (fun c_16 => ?_)
  · refine hc_iconst C dX8_heedOf_31 (v := 0) rfl ?_
    exact hJ _ (by unfold rLeft; simp [c_16])
  · refine hc_aload_n C dX8_heedOf_19 rfl rfl ?_
    refine hc_iload_n C dX8_heedOf_20 rfl rfl ?_
    refine hc_iconst C dX8_heedOf_21 (v := 1) rfl ?_
    refine hc_iadd C dX8_heedOf_22 ?_
    refine hc_ialdN C (j := (6 + 7 * e0 + 1)) hy (show nI (6 + 7 * e0) + nI 1 = nI (6 + 7 * e0 + 1) from nI_add _ _) (by omega) dX8_heedOf_23 ?_
    refine hc_aload_n C dX8_heedOf_24 rfl rfl ?_
    refine hc_iconst C dX8_heedOf_25 (v := 1) rfl ?_
    refine hc_ialdN C (j := 1) hy rfl (by decide) dX8_heedOf_26 ?_
    refine hc_isub C dX8_heedOf_27 ?_
    refine hc_goto C (tgt := 32) dX8_heedOf_28 (by decide) ?_
    exact hJ _ (by unfold rLeft; simp [c_16])

set_option maxRecDepth 100000 in
set_option maxHeartbeats 4000000 in
theorem lp_given0 {G : hc_Geo} {p : Program} {l : Launch} {e : Env} {d : Nat} {s : State} {m : MethodId} {args : Array Value} {below : List Frame} {meth : Method} {c : Code} {Q : State → Prop} (C : hc_Cx G hc_lay cX8_given 5 (some .int) yX8_given.cls p s m args meth c) {M : hc_Mem} {k E : Nat} {s0 : Int32} (hd : 1 < d) (hy : hc_lay[k]? = some (.inl (false, 68))) (hE : M k 4 = nI E) (hE6 : E ≤ 6) 
    (kk : hc_W G hc_lay p l e (hc_rm d) s m args below meth c 5 0 0 Q 64 [some (.ref (hc_ad G k)), some (.int s0), some (.int 0), some (.int (rGiv (M k) s0 0 E)), some (.int (nI E))] [] M) :
    ∀ (t : Nat) (i : Nat), i + t = E → hc_W G hc_lay p l e (hc_rm d) s m args below meth c 5 0 0 Q 5 [some (.ref (hc_ad G k)), some (.int s0), some (.int 0), some (.int (rGiv (M k) s0 0 i)), some (.int (nI i))] [] M := by
  intro t
  induction t with
  | zero =>
    intro i hi
    refine hc_iload C dX8_given_5 rfl ?_
    refine hc_aload_n C dX8_given_7 rfl rfl ?_
    refine hc_iconst C dX8_given_8 (v := 4) rfl ?_
    refine hc_ialdN C (j := 4) hy rfl (by decide) dX8_given_9 ?_
    refine hc_icmp_ge C (tgt := 64) dX8_given_10 (by decide) (fun c_10 => ?_) (fun c_10 => ?_)
    rotate_left
    · exact absurd (by rw [hE]; exact nI_le (show E ≤ i by omega) (by omega)) c_10
    rw [show i = E by omega]
    exact kk
  | succ t ih =>
    intro i hi
    refine hc_iload C dX8_given_5 rfl ?_
    refine hc_aload_n C dX8_given_7 rfl rfl ?_
    refine hc_iconst C dX8_given_8 (v := 4) rfl ?_
    refine hc_ialdN C (j := 4) hy rfl (by decide) dX8_given_9 ?_
    refine hc_icmp_ge C (tgt := 64) dX8_given_10 (by decide) (fun c_10 => ?_) (fun c_10 => ?_)
    · exact absurd (hE ▸ c_10) (nI_ge (show i < E by omega) (by omega))
    refine hc_iload_n C dX8_given_13 rfl rfl ?_
    refine hc_iload_n C dX8_given_14 rfl rfl ?_
    refine hc_iload C dX8_given_15 rfl ?_
    refine hc_cS2i C ms_X8_145 (c_X8_has C.ok) (Nat.le_of_ble_eq_true rfl) (hc_rr_rm hd) ⟨Nat.zero_le _, Nat.zero_le _⟩ dX8_given_17 (fun r_17 M_17 h_17 => ?_)
    obtain ⟨rfl, rfl⟩ := h_17
    refine hc_if_eq C (tgt := 55) dX8_given_20 (by decide) (fun c_20 => ?_) (fun c_20 => ?_)
    · refine hc_iconst C dX8_given_55 (v := 0) rfl ?_
      refine hc_iadd C dX8_given_56 ?_
      refine hc_top (v := rGiv (M k) s0 0 (i + 1)) ?_ ?_
      · rw [rGiv]
        congr 1
        symm
        first
          | exact absurd c_43 (by decide)
          | exact if_neg (fun z => hb_z.mp c_20 z.1)
          | exact if_pos ⟨hb_nz.mp c_20, by first | (rw [hb_t c_34]) | (rw [hb_f c_34])⟩
          | exact if_neg (fun z => by have z2 := z.2; first | (rw [hb_t c_34] at z2; exact absurd z2 (by decide)) | (rw [hb_f c_34] at z2; exact absurd z2 (by decide)))
      refine hc_istore_n3 C dX8_given_57 rfl (by decide) rfl ?_
      refine hc_iinc4 C (v := nI (i + 1)) dX8_given_58 (by decide) rfl rfl (nI_1 i) ?_
      refine hc_goto C (tgt := 5) dX8_given_61 (by decide) ?_
      exact ih (i + 1) (by omega)
    · refine hc_aload_n C dX8_given_23 rfl rfl ?_
      refine hc_bipush C dX8_given_24 (v := 6) rfl ?_
      refine hc_bipush C dX8_given_26 (v := 7) rfl ?_
      refine hc_iload C dX8_given_28 rfl ?_
      refine hc_imul C dX8_given_30 ?_
      refine hc_iadd C dX8_given_31 ?_
      refine hc_top (hx_670 i) ?_
      refine hc_ialdN C (j := (6 + 7 * i)) hy rfl (by omega) dX8_given_32 ?_
      refine hc_iconst C dX8_given_33 (v := 2) rfl ?_
      refine hc_icmp_ne C (tgt := 41) dX8_given_34 (by decide) (fun c_34 => ?_) (fun c_34 => ?_)
      · refine hc_iconst C dX8_given_41 (v := 0) rfl ?_
        refine hc_iload_n C dX8_given_42 rfl rfl ?_
        refine hc_icmp_ne C (tgt := 55) dX8_given_43 (by decide) (fun c_43 => ?_) (fun c_43 => ?_)
        · refine hc_iconst C dX8_given_55 (v := 0) rfl ?_
          refine hc_iadd C dX8_given_56 ?_
          refine hc_top (v := rGiv (M k) s0 0 (i + 1)) ?_ ?_
          · rw [rGiv]
            congr 1
            symm
            first
              | exact absurd c_43 (by decide)
              | exact if_neg (fun z => hb_z.mp c_20 z.1)
              | exact if_pos ⟨hb_nz.mp c_20, by first | (rw [hb_t c_34]) | (rw [hb_f c_34])⟩
              | exact if_neg (fun z => by have z2 := z.2; first | (rw [hb_t c_34] at z2; exact absurd z2 (by decide)) | (rw [hb_f c_34] at z2; exact absurd z2 (by decide)))
          refine hc_istore_n3 C dX8_given_57 rfl (by decide) rfl ?_
          refine hc_iinc4 C (v := nI (i + 1)) dX8_given_58 (by decide) rfl rfl (nI_1 i) ?_
          refine hc_goto C (tgt := 5) dX8_given_61 (by decide) ?_
          exact ih (i + 1) (by omega)
        · refine hc_aload_n C dX8_given_46 rfl rfl ?_
          refine hc_iload C dX8_given_47 rfl ?_
          refine hc_cS2i C ms_X8_149 (c_X8_heedOf C.ok hy (show i < 6 by omega)) (Nat.le_of_ble_eq_true rfl) (hc_rr_rm hd) ⟨Nat.zero_le _, Nat.zero_le _⟩ dX8_given_49 (fun r_49 M_49 h_49 => ?_)
          obtain ⟨rfl, rfl⟩ := h_49
          refine hc_goto C (tgt := 56) dX8_given_52 (by decide) ?_
          refine hc_iadd C dX8_given_56 ?_
          refine hc_top (v := rGiv (M k) s0 0 (i + 1)) ?_ ?_
          · rw [rGiv]
            congr 1
            symm
            first
              | exact absurd c_43 (by decide)
              | exact if_neg (fun z => hb_z.mp c_20 z.1)
              | exact if_pos ⟨hb_nz.mp c_20, by first | (rw [hb_t c_34]) | (rw [hb_f c_34])⟩
              | exact if_neg (fun z => by have z2 := z.2; first | (rw [hb_t c_34] at z2; exact absurd z2 (by decide)) | (rw [hb_f c_34] at z2; exact absurd z2 (by decide)))
          refine hc_istore_n3 C dX8_given_57 rfl (by decide) rfl ?_
          refine hc_iinc4 C (v := nI (i + 1)) dX8_given_58 (by decide) rfl rfl (nI_1 i) ?_
          refine hc_goto C (tgt := 5) dX8_given_61 (by decide) ?_
          exact ih (i + 1) (by omega)
      · refine hc_iconst C dX8_given_37 (v := 1) rfl ?_
        refine hc_goto C (tgt := 42) dX8_given_38 (by decide) ?_
        refine hc_iload_n C dX8_given_42 rfl rfl ?_
        refine hc_icmp_ne C (tgt := 55) dX8_given_43 (by decide) (fun c_43 => ?_) (fun c_43 => ?_)
        · refine hc_iconst C dX8_given_55 (v := 0) rfl ?_
          refine hc_iadd C dX8_given_56 ?_
          refine hc_top (v := rGiv (M k) s0 0 (i + 1)) ?_ ?_
          · rw [rGiv]
            congr 1
            symm
            first
              | exact absurd c_43 (by decide)
              | exact if_neg (fun z => hb_z.mp c_20 z.1)
              | exact if_pos ⟨hb_nz.mp c_20, by first | (rw [hb_t c_34]) | (rw [hb_f c_34])⟩
              | exact if_neg (fun z => by have z2 := z.2; first | (rw [hb_t c_34] at z2; exact absurd z2 (by decide)) | (rw [hb_f c_34] at z2; exact absurd z2 (by decide)))
          refine hc_istore_n3 C dX8_given_57 rfl (by decide) rfl ?_
          refine hc_iinc4 C (v := nI (i + 1)) dX8_given_58 (by decide) rfl rfl (nI_1 i) ?_
          refine hc_goto C (tgt := 5) dX8_given_61 (by decide) ?_
          exact ih (i + 1) (by omega)
        · refine hc_aload_n C dX8_given_46 rfl rfl ?_
          refine hc_iload C dX8_given_47 rfl ?_
          refine hc_cS2i C ms_X8_149 (c_X8_heedOf C.ok hy (show i < 6 by omega)) (Nat.le_of_ble_eq_true rfl) (hc_rr_rm hd) ⟨Nat.zero_le _, Nat.zero_le _⟩ dX8_given_49 (fun r_49 M_49 h_49 => ?_)
          obtain ⟨rfl, rfl⟩ := h_49
          refine hc_goto C (tgt := 56) dX8_given_52 (by decide) ?_
          refine hc_iadd C dX8_given_56 ?_
          refine hc_top (v := rGiv (M k) s0 0 (i + 1)) ?_ ?_
          · rw [rGiv]
            congr 1
            symm
            first
              | exact absurd c_43 (by decide)
              | exact if_neg (fun z => hb_z.mp c_20 z.1)
              | exact if_pos ⟨hb_nz.mp c_20, by first | (rw [hb_t c_34]) | (rw [hb_f c_34])⟩
              | exact if_neg (fun z => by have z2 := z.2; first | (rw [hb_t c_34] at z2; exact absurd z2 (by decide)) | (rw [hb_f c_34] at z2; exact absurd z2 (by decide)))
          refine hc_istore_n3 C dX8_given_57 rfl (by decide) rfl ?_
          refine hc_iinc4 C (v := nI (i + 1)) dX8_given_58 (by decide) rfl rfl (nI_1 i) ?_
          refine hc_goto C (tgt := 5) dX8_given_61 (by decide) ?_
          exact ih (i + 1) (by omega)

set_option maxRecDepth 100000 in
set_option maxHeartbeats 4000000 in
theorem c_X8_given_0 {l : Launch} {G : hc_Geo} (hG : hc_ok G) {M : hc_Mem} {k E : Nat} {s0 : Int32}  (hy : hc_lay[k]? = some (.inl (false, 68))) (hE : M k 4 = nI E) (hE6 : E ≤ 6) : hc_M l G yX8_given cX8_given 5 (some .int) 2 [.ref (hc_ad G k), .int s0, .int 0] M (hc_pi (fun z M' => rGiv (M k) s0 0 E = z ∧ M = M')) := by
  refine hc_M.of hG (by decide) [some (.ref (hc_ad G k)), some (.int s0), some (.int 0), none, none] rfl (Nat.le_of_ble_eq_true rfl) ?_
  intro p e s m args below meth c C
  refine hc_iconst C dX8_given_0 (v := 0) rfl ?_
  refine hc_istore_n3 C dX8_given_1 rfl (by decide) rfl ?_
  refine hc_iconst C dX8_given_2 (v := 0) rfl ?_
  refine hc_istore4 C dX8_given_3 (by decide) rfl ?_
  refine lp_given0 C (by decide) hy hE hE6 ?_ E 0 (by omega)
  refine hc_iload_n C dX8_given_64 rfl rfl ?_
  refine hc_iret C rfl dX8_given_65 ?_
  exact ⟨rfl, rfl⟩

set_option maxRecDepth 100000 in
set_option maxHeartbeats 4000000 in
theorem lp_given1 {G : hc_Geo} {p : Program} {l : Launch} {e : Env} {d : Nat} {s : State} {m : MethodId} {args : Array Value} {below : List Frame} {meth : Method} {c : Code} {Q : State → Prop} (C : hc_Cx G hc_lay cX8_given 5 (some .int) yX8_given.cls p s m args meth c) {M : hc_Mem} {k E : Nat} {s0 : Int32} (hd : 1 < d) (hy : hc_lay[k]? = some (.inl (false, 68))) (hE : M k 4 = nI E) (hE6 : E ≤ 6) 
    (kk : hc_W G hc_lay p l e (hc_rm d) s m args below meth c 5 0 0 Q 64 [some (.ref (hc_ad G k)), some (.int s0), some (.int 1), some (.int (rGiv (M k) s0 1 E)), some (.int (nI E))] [] M) :
    ∀ (t : Nat) (i : Nat), i + t = E → hc_W G hc_lay p l e (hc_rm d) s m args below meth c 5 0 0 Q 5 [some (.ref (hc_ad G k)), some (.int s0), some (.int 1), some (.int (rGiv (M k) s0 1 i)), some (.int (nI i))] [] M := by
  intro t
  induction t with
  | zero =>
    intro i hi
    refine hc_iload C dX8_given_5 rfl ?_
    refine hc_aload_n C dX8_given_7 rfl rfl ?_
    refine hc_iconst C dX8_given_8 (v := 4) rfl ?_
    refine hc_ialdN C (j := 4) hy rfl (by decide) dX8_given_9 ?_
    refine hc_icmp_ge C (tgt := 64) dX8_given_10 (by decide) (fun c_10 => ?_) (fun c_10 => ?_)
    rotate_left
    · exact absurd (by rw [hE]; exact nI_le (show E ≤ i by omega) (by omega)) c_10
    rw [show i = E by omega]
    exact kk
  | succ t ih =>
    intro i hi
    refine hc_iload C dX8_given_5 rfl ?_
    refine hc_aload_n C dX8_given_7 rfl rfl ?_
    refine hc_iconst C dX8_given_8 (v := 4) rfl ?_
    refine hc_ialdN C (j := 4) hy rfl (by decide) dX8_given_9 ?_
    refine hc_icmp_ge C (tgt := 64) dX8_given_10 (by decide) (fun c_10 => ?_) (fun c_10 => ?_)
    · exact absurd (hE ▸ c_10) (nI_ge (show i < E by omega) (by omega))
    refine hc_iload_n C dX8_given_13 rfl rfl ?_
    refine hc_iload_n C dX8_given_14 rfl rfl ?_
    refine hc_iload C dX8_given_15 rfl ?_
    refine hc_cS2i C ms_X8_145 (c_X8_has C.ok) (Nat.le_of_ble_eq_true rfl) (hc_rr_rm hd) ⟨Nat.zero_le _, Nat.zero_le _⟩ dX8_given_17 (fun r_17 M_17 h_17 => ?_)
    obtain ⟨rfl, rfl⟩ := h_17
    refine hc_if_eq C (tgt := 55) dX8_given_20 (by decide) (fun c_20 => ?_) (fun c_20 => ?_)
    · refine hc_iconst C dX8_given_55 (v := 0) rfl ?_
      refine hc_iadd C dX8_given_56 ?_
      refine hc_top (v := rGiv (M k) s0 1 (i + 1)) ?_ ?_
      · rw [rGiv]
        congr 1
        symm
        first
          | exact absurd c_43 (by decide)
          | exact if_neg (fun z => hb_z.mp c_20 z.1)
          | exact if_pos ⟨hb_nz.mp c_20, by first | (rw [hb_t c_34]) | (rw [hb_f c_34])⟩
          | exact if_neg (fun z => by have z2 := z.2; first | (rw [hb_t c_34] at z2; exact absurd z2 (by decide)) | (rw [hb_f c_34] at z2; exact absurd z2 (by decide)))
      refine hc_istore_n3 C dX8_given_57 rfl (by decide) rfl ?_
      refine hc_iinc4 C (v := nI (i + 1)) dX8_given_58 (by decide) rfl rfl (nI_1 i) ?_
      refine hc_goto C (tgt := 5) dX8_given_61 (by decide) ?_
      exact ih (i + 1) (by omega)
    · refine hc_aload_n C dX8_given_23 rfl rfl ?_
      refine hc_bipush C dX8_given_24 (v := 6) rfl ?_
      refine hc_bipush C dX8_given_26 (v := 7) rfl ?_
      refine hc_iload C dX8_given_28 rfl ?_
      refine hc_imul C dX8_given_30 ?_
      refine hc_iadd C dX8_given_31 ?_
      refine hc_top (hx_670 i) ?_
      refine hc_ialdN C (j := (6 + 7 * i)) hy rfl (by omega) dX8_given_32 ?_
      refine hc_iconst C dX8_given_33 (v := 2) rfl ?_
      refine hc_icmp_ne C (tgt := 41) dX8_given_34 (by decide) (fun c_34 => ?_) (fun c_34 => ?_)
      · refine hc_iconst C dX8_given_41 (v := 0) rfl ?_
        refine hc_iload_n C dX8_given_42 rfl rfl ?_
        refine hc_icmp_ne C (tgt := 55) dX8_given_43 (by decide) (fun c_43 => ?_) (fun c_43 => ?_)
        · refine hc_iconst C dX8_given_55 (v := 0) rfl ?_
          refine hc_iadd C dX8_given_56 ?_
          refine hc_top (v := rGiv (M k) s0 1 (i + 1)) ?_ ?_
          · rw [rGiv]
            congr 1
            symm
            first
              | exact absurd c_43 (by decide)
              | exact if_neg (fun z => hb_z.mp c_20 z.1)
              | exact if_pos ⟨hb_nz.mp c_20, by first | (rw [hb_t c_34]) | (rw [hb_f c_34])⟩
              | exact if_neg (fun z => by have z2 := z.2; first | (rw [hb_t c_34] at z2; exact absurd z2 (by decide)) | (rw [hb_f c_34] at z2; exact absurd z2 (by decide)))
          refine hc_istore_n3 C dX8_given_57 rfl (by decide) rfl ?_
          refine hc_iinc4 C (v := nI (i + 1)) dX8_given_58 (by decide) rfl rfl (nI_1 i) ?_
          refine hc_goto C (tgt := 5) dX8_given_61 (by decide) ?_
          exact ih (i + 1) (by omega)
        · refine hc_aload_n C dX8_given_46 rfl rfl ?_
          refine hc_iload C dX8_given_47 rfl ?_
          refine hc_cS2i C ms_X8_149 (c_X8_heedOf C.ok hy (show i < 6 by omega)) (Nat.le_of_ble_eq_true rfl) (hc_rr_rm hd) ⟨Nat.zero_le _, Nat.zero_le _⟩ dX8_given_49 (fun r_49 M_49 h_49 => ?_)
          obtain ⟨rfl, rfl⟩ := h_49
          refine hc_goto C (tgt := 56) dX8_given_52 (by decide) ?_
          refine hc_iadd C dX8_given_56 ?_
          refine hc_top (v := rGiv (M k) s0 1 (i + 1)) ?_ ?_
          · rw [rGiv]
            congr 1
            symm
            first
              | exact absurd c_43 (by decide)
              | exact if_neg (fun z => hb_z.mp c_20 z.1)
              | exact if_pos ⟨hb_nz.mp c_20, by first | (rw [hb_t c_34]) | (rw [hb_f c_34])⟩
              | exact if_neg (fun z => by have z2 := z.2; first | (rw [hb_t c_34] at z2; exact absurd z2 (by decide)) | (rw [hb_f c_34] at z2; exact absurd z2 (by decide)))
          refine hc_istore_n3 C dX8_given_57 rfl (by decide) rfl ?_
          refine hc_iinc4 C (v := nI (i + 1)) dX8_given_58 (by decide) rfl rfl (nI_1 i) ?_
          refine hc_goto C (tgt := 5) dX8_given_61 (by decide) ?_
          exact ih (i + 1) (by omega)
      · refine hc_iconst C dX8_given_37 (v := 1) rfl ?_
        refine hc_goto C (tgt := 42) dX8_given_38 (by decide) ?_
        refine hc_iload_n C dX8_given_42 rfl rfl ?_
        refine hc_icmp_ne C (tgt := 55) dX8_given_43 (by decide) (fun c_43 => ?_) (fun c_43 => ?_)
        · refine hc_iconst C dX8_given_55 (v := 0) rfl ?_
          refine hc_iadd C dX8_given_56 ?_
          refine hc_top (v := rGiv (M k) s0 1 (i + 1)) ?_ ?_
          · rw [rGiv]
            congr 1
            symm
            first
              | exact absurd c_43 (by decide)
              | exact if_neg (fun z => hb_z.mp c_20 z.1)
              | exact if_pos ⟨hb_nz.mp c_20, by first | (rw [hb_t c_34]) | (rw [hb_f c_34])⟩
              | exact if_neg (fun z => by have z2 := z.2; first | (rw [hb_t c_34] at z2; exact absurd z2 (by decide)) | (rw [hb_f c_34] at z2; exact absurd z2 (by decide)))
          refine hc_istore_n3 C dX8_given_57 rfl (by decide) rfl ?_
          refine hc_iinc4 C (v := nI (i + 1)) dX8_given_58 (by decide) rfl rfl (nI_1 i) ?_
          refine hc_goto C (tgt := 5) dX8_given_61 (by decide) ?_
          exact ih (i + 1) (by omega)
        · refine hc_aload_n C dX8_given_46 rfl rfl ?_
          refine hc_iload C dX8_given_47 rfl ?_
          refine hc_cS2i C ms_X8_149 (c_X8_heedOf C.ok hy (show i < 6 by omega)) (Nat.le_of_ble_eq_true rfl) (hc_rr_rm hd) ⟨Nat.zero_le _, Nat.zero_le _⟩ dX8_given_49 (fun r_49 M_49 h_49 => ?_)
          obtain ⟨rfl, rfl⟩ := h_49
          refine hc_goto C (tgt := 56) dX8_given_52 (by decide) ?_
          refine hc_iadd C dX8_given_56 ?_
          refine hc_top (v := rGiv (M k) s0 1 (i + 1)) ?_ ?_
          · rw [rGiv]
            congr 1
            symm
            first
              | exact absurd c_43 (by decide)
              | exact if_neg (fun z => hb_z.mp c_20 z.1)
              | exact if_pos ⟨hb_nz.mp c_20, by first | (rw [hb_t c_34]) | (rw [hb_f c_34])⟩
              | exact if_neg (fun z => by have z2 := z.2; first | (rw [hb_t c_34] at z2; exact absurd z2 (by decide)) | (rw [hb_f c_34] at z2; exact absurd z2 (by decide)))
          refine hc_istore_n3 C dX8_given_57 rfl (by decide) rfl ?_
          refine hc_iinc4 C (v := nI (i + 1)) dX8_given_58 (by decide) rfl rfl (nI_1 i) ?_
          refine hc_goto C (tgt := 5) dX8_given_61 (by decide) ?_
          exact ih (i + 1) (by omega)

set_option maxRecDepth 100000 in
set_option maxHeartbeats 4000000 in
theorem c_X8_given_1 {l : Launch} {G : hc_Geo} (hG : hc_ok G) {M : hc_Mem} {k E : Nat} {s0 : Int32}  (hy : hc_lay[k]? = some (.inl (false, 68))) (hE : M k 4 = nI E) (hE6 : E ≤ 6) : hc_M l G yX8_given cX8_given 5 (some .int) 2 [.ref (hc_ad G k), .int s0, .int 1] M (hc_pi (fun z M' => rGiv (M k) s0 1 E = z ∧ M = M')) := by
  refine hc_M.of hG (by decide) [some (.ref (hc_ad G k)), some (.int s0), some (.int 1), none, none] rfl (Nat.le_of_ble_eq_true rfl) ?_
  intro p e s m args below meth c C
  refine hc_iconst C dX8_given_0 (v := 0) rfl ?_
  refine hc_istore_n3 C dX8_given_1 rfl (by decide) rfl ?_
  refine hc_iconst C dX8_given_2 (v := 0) rfl ?_
  refine hc_istore4 C dX8_given_3 (by decide) rfl ?_
  refine lp_given1 C (by decide) hy hE hE6 ?_ E 0 (by omega)
  refine hc_iload_n C dX8_given_64 rfl rfl ?_
  refine hc_iret C rfl dX8_given_65 ?_
  exact ⟨rfl, rfl⟩

set_option maxRecDepth 100000 in
set_option maxHeartbeats 4000000 in
theorem c_X8_goesBy {l : Launch} {G : hc_Geo} (hG : hc_ok G) {M : hc_Mem} {k E : Nat} {s0 : Int32}  (hy : hc_lay[k]? = some (.inl (false, 68))) (hE : M k 4 = nI E) (hE6 : E ≤ 6) : hc_M l G yX8_goesBy cX8_goesBy 3 (some .int) 3 [.ref (hc_ad G k), .int s0] M (hc_pi (fun z M' => rBy (M k) E s0 = z ∧ M = M')) := by
  refine hc_M.of hG (by decide) [some (.ref (hc_ad G k)), some (.int s0), none] rfl (Nat.le_of_ble_eq_true rfl) ?_
  intro p e s m args below meth c C
  refine hc_aload_n C dX8_goesBy_0 rfl rfl ?_
  refine hc_iload_n C dX8_goesBy_1 rfl rfl ?_
  refine hc_iconst C dX8_goesBy_2 (v := 0) rfl ?_
  refine hc_cS3i C ms_X8_153 (c_X8_given_0 C.ok hy hE hE6) (Nat.le_of_ble_eq_true rfl) (hc_rr_rm (by decide)) ⟨Nat.zero_le _, Nat.zero_le _⟩ dX8_goesBy_3 (fun r_3 M_3 h_3 => ?_)
  obtain ⟨rfl, rfl⟩ := h_3
  refine hc_istore_n2 C dX8_goesBy_6 rfl (by decide) rfl ?_
  refine hc_iload_n C dX8_goesBy_7 rfl rfl ?_
  refine hc_bipush C dX8_goesBy_8 (v := 12) rfl ?_
  refine hc_icmp_lt C (tgt := 17) dX8_goesBy_10 (by decide) (fun c_10 => ?_) (fun c_10 => ?_)
  · refine hc_iload_n C dX8_goesBy_17 rfl rfl ?_
    refine hc_aload_n C dX8_goesBy_18 rfl rfl ?_
    refine hc_iload_n C dX8_goesBy_19 rfl rfl ?_
    refine hc_iconst C dX8_goesBy_20 (v := 1) rfl ?_
    refine hc_cS3i C ms_X8_153 (c_X8_given_1 C.ok hy hE hE6) (Nat.le_of_ble_eq_true rfl) (hc_rr_rm (by decide)) ⟨Nat.zero_le _, Nat.zero_le _⟩ dX8_goesBy_21 (fun r_21 M_21 h_21 => ?_)
    obtain ⟨rfl, rfl⟩ := h_21
    refine hc_iadd C dX8_goesBy_24 ?_
    refine hc_iret C rfl dX8_goesBy_25 ?_
    refine ⟨?_, rfl⟩
    unfold rBy
    first | exact if_pos c_10 | exact if_neg c_10
  · refine hc_iload_n C dX8_goesBy_13 rfl rfl ?_
    refine hc_goto C (tgt := 25) dX8_goesBy_14 (by decide) ?_
    refine hc_iret C rfl dX8_goesBy_25 ?_
    refine ⟨?_, rfl⟩
    unfold rBy
    first | exact if_pos c_10 | exact if_neg c_10

set_option maxRecDepth 100000 in
set_option maxHeartbeats 4000000 in
theorem c_X8_goes {l : Launch} {G : hc_Geo} (hG : hc_ok G) {M : hc_Mem} {k E : Nat}  (hy : hc_lay[k]? = some (.inl (false, 68))) (hE : M k 4 = nI E) (hE6 : E ≤ 6) : hc_M l G yX8_goes cX8_goes 1 (some .int) 4 [.ref (hc_ad G k)] M (hc_pi (fun z M' => rGo (M k) E = z ∧ M = M')) := by
  refine hc_M.of hG (by decide) [some (.ref (hc_ad G k))] rfl (Nat.le_of_ble_eq_true rfl) ?_
  intro p e s m args below meth c C
  refine hc_aload_n C dX8_goes_0 rfl rfl ?_
  refine hc_aload_n C dX8_goes_1 rfl rfl ?_
  refine hc_cS1i C ms_X8_157 (c_X8_listening C.ok hy hE hE6) (Nat.le_of_ble_eq_true rfl) (hc_rr_rm (by decide)) ⟨Nat.zero_le _, Nat.zero_le _⟩ dX8_goes_2 (fun r_2 M_2 h_2 => ?_)
  obtain ⟨rfl, rfl⟩ := h_2
  refine hc_cS2i C ms_X8_161 (c_X8_goesBy C.ok hy hE hE6) (Nat.le_of_ble_eq_true rfl) (hc_rr_rm (by decide)) ⟨Nat.zero_le _, Nat.zero_le _⟩ dX8_goes_5 (fun r_5 M_5 h_5 => ?_)
  obtain ⟨rfl, rfl⟩ := h_5
  refine hc_iret C rfl dX8_goes_8 ?_
  exact ⟨rfl, rfl⟩
