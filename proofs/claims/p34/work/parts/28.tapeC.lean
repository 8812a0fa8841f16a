/-! THE TAPE, as the class reads it: (fault, at, ears, doings, told, kinds, numbers) -/
abbrev cSt : Type := Nat × Nat × Nat × Nat × Nat × (Nat → Int32) × (Nat → Int32)
def mP (M : hc_Mem) (st : cSt) : hc_Mem := fun k => if k = 5 then (fun j => if j = 2 then nI st.1 else if j = 3 then nI st.2.1 else if j = 5 then nI st.2.2.1 else if j = 6 then nI st.2.2.2.1 else if j = 8 then nI st.2.2.2.2.1 else M 5 j) else if k = 7 then st.2.2.2.2.2.1 else if k = 8 then st.2.2.2.2.2.2 else M k
theorem mP_put {M : hc_Mem} {st st' : cSt} {j : Nat} {v : Int32} (h5 : upd (mP M st 5) j v = mP M st' 5) (h7 : st'.2.2.2.2.2.1 = st.2.2.2.2.2.1) (h8 : st'.2.2.2.2.2.2 = st.2.2.2.2.2.2) : hc_ms (mP M st) 5 j v = mP M st' := by
  funext k
  by_cases hk : k = 5
  · subst hk; rw [hc_ms_s]; exact h5
  · rw [hc_ms_n hk]; unfold mP; simp only [hk, if_false, h7, h8]
theorem mP_f {M : hc_Mem} {st : cSt} (x : Nat) : hc_ms (mP M st) 5 2 (nI x) = mP M (x, st.2) := mP_put (by funext b; unfold mP upd; simp only [if_true]; split <;> rfl) rfl rfl
theorem mP_a {M : hc_Mem} {st : cSt} (x : Nat) : hc_ms (mP M st) 5 3 (nI x) = mP M (st.1, x, st.2.2) := mP_put (by funext b; unfold mP upd; simp only [if_true]; split <;> simp_all) rfl rfl
theorem mP_e {M : hc_Mem} {st : cSt} (x : Nat) : hc_ms (mP M st) 5 5 (nI x) = mP M (st.1, st.2.1, x, st.2.2.2) := mP_put (by funext b; unfold mP upd; simp only [if_true]; split <;> simp_all) rfl rfl
theorem mP_d {M : hc_Mem} {st : cSt} (x : Nat) : hc_ms (mP M st) 5 6 (nI x) = mP M (st.1, st.2.1, st.2.2.1, x, st.2.2.2.2) := mP_put (by funext b; unfold mP upd; simp only [if_true]; split <;> simp_all) rfl rfl
theorem mP_t {M : hc_Mem} {st : cSt} (x : Nat) : hc_ms (mP M st) 5 8 (nI x) = mP M (st.1, st.2.1, st.2.2.1, st.2.2.2.1, x, st.2.2.2.2.2) := mP_put (by funext b; unfold mP upd; simp only [if_true]; split <;> simp_all) rfl rfl
theorem mP_k {M : hc_Mem} {st : cSt} {j : Nat} {v : Int32} : hc_ms (mP M st) 7 j v = mP M (st.1, st.2.1, st.2.2.1, st.2.2.2.1, st.2.2.2.2.1, upd st.2.2.2.2.2.1 j v, st.2.2.2.2.2.2) := by
  funext k
  by_cases hk : k = 7
  · subst hk; rw [hc_ms_s]; rfl
  · rw [hc_ms_n hk]; unfold mP; simp only [hk, if_false]
theorem mP_n {M : hc_Mem} {st : cSt} {j : Nat} {v : Int32} : hc_ms (mP M st) 8 j v = mP M (st.1, st.2.1, st.2.2.1, st.2.2.2.1, st.2.2.2.2.1, st.2.2.2.2.2.1, upd st.2.2.2.2.2.2 j v) := by
  funext k
  by_cases hk : k = 8
  · subst hk; rw [hc_ms_s]; rfl
  · rw [hc_ms_n hk]; unfold mP; simp only [hk, if_false]
def cByte (B : Nat → Int32) (n : Nat) (st : cSt) : Int32 := if st.1 = 0 ∧ st.2.1 < n then B st.2.1 else -1000000
abbrev cDig (x : Int32) : Prop := ¬ x < 48 ∧ ¬ 57 < x
def cFig (B : Nat → Int32) : Nat → Nat → Nat
  | 0, _ => 0
  | t + 1, i => if cDig (B i) then cFig B t (i + 1) + 1 else 0
theorem cFig_le (B : Nat → Int32) : ∀ t i, cFig B t i ≤ t := by
  intro t
  induction t with
  | zero => intro i; exact Nat.le_refl 0
  | succ t ih => intro i; unfold cFig; split
                 · have := ih (i + 1); omega
                 · omega
def cVal (B : Nat → Int32) : Nat → Nat → Int32 → Int32
  | 0, _, v => v
  | t + 1, i, v => cVal B t (i + 1) (10 * v + B i - 48)
def cNum (B : Nat → Int32) (n : Nat) (lo hi : Int32) (st : cSt) : cSt :=
  if cFig B (n - st.2.1) st.2.1 = 0 ∨ 2 < cFig B (n - st.2.1) st.2.1 then (1, st.2)
  else if cVal B (cFig B (n - st.2.1) st.2.1) st.2.1 0 < lo ∨ hi < cVal B (cFig B (n - st.2.1) st.2.1) st.2.1 0 ∨ 37 ≤ st.2.2.2.2.1 then (2, st.2)
  else (st.1, st.2.1 + cFig B (n - st.2.1) st.2.1, st.2.2.1, st.2.2.2.1, st.2.2.2.2.1 + 1, st.2.2.2.2.2.1, upd st.2.2.2.2.2.2 st.2.2.2.2.1 (cVal B (cFig B (n - st.2.1) st.2.1) st.2.1 0))
def cSign (B : Nat → Int32) (n : Nat) (sg : Int32) (st : cSt) : cSt := if st.1 = 0 then (if cByte B n st = sg then (st.1, st.2.1 + 1, st.2.2) else (1, st.2)) else st
def cNums (B : Nat → Int32) (n : Nat) (la lb : List Int32) : Nat → Nat → cSt → cSt
  | 0, _, st => st
  | t + 1, i, st => if st.1 = 0 then cNums B n la lb t (i + 1) (cSign B n (if t = 0 then 59 else 44) (cNum B n (la.getD i 0) (lb.getD i 0) st)) else st
def cLet (x : Int32) : Int32 := if x = 100 then 5 else if x = 107 then 4 else if x = 112 then 1 else if x = 116 then 3 else if x = 119 then 2 else 0
def cEar (B : Nat → Int32) (n : Nat) (kd : Int32) (st : cSt) : cSt := if 6 ≤ st.2.2.1 then (3, st.2) else cNums B n [1, 0, 0, 1] [12, 3, 7, 8] 4 0 (st.1, st.2.1 + 1, st.2.2.1 + 1, st.2.2.2.1, st.2.2.2.2.1, upd st.2.2.2.2.2.1 st.2.2.1 kd, st.2.2.2.2.2.2)
def cDoi (B : Nat → Int32) (n : Nat) (st : cSt) : cSt := if 4 ≤ st.2.2.2.1 then (3, st.2) else cNums B n [0, 1, 0] [99, 40, 99] 3 0 (st.1, st.2.1 + 1, st.2.2.1, st.2.2.2.1 + 1, st.2.2.2.2)
def cEars (B : Nat → Int32) (n : Nat) : Nat → cSt → cSt
  | 0, st => st
  | t + 1, st => if cLet (cByte B n st) = 0 then st else cEars B n t (cEar B n (cLet (cByte B n st)) st)
def cDois (B : Nat → Int32) (n : Nat) : Nat → cSt → cSt
  | 0, st => st
  | t + 1, st => if cByte B n st = 120 then cDois B n t (cDoi B n st) else st
def cEnd (n : Nat) (st : cSt) : cSt := if st.1 = 0 ∧ st.2.1 < n then (1, st.2) else st
def cHouse (B : Nat → Int32) (n : Nat) (st : cSt) : cSt := if cByte B n st = 99 then cEnd n (cDois B n 5 (cEars B n 7 (cNums B n [0] [12] 1 0 (st.1, st.2.1 + 1, st.2.2)))) else (1, st.2)
theorem cByte_lt {B : Nat → Int32} {n : Nat} {st : cSt} (h : cByte B n st ≠ -1000000) : st.1 = 0 ∧ st.2.1 < n := by
  unfold cByte at h
  split at h
  · assumption
  · exact absurd rfl h
theorem cNum_at {B : Nat → Int32} {n : Nat} {lo hi : Int32} {st : cSt} (h : st.2.1 ≤ n) : (cNum B n lo hi st).2.1 ≤ n := by
  have := cFig_le B (n - st.2.1) st.2.1
  unfold cNum
  split
  · exact h
  · split
    · exact h
    · show st.2.1 + _ ≤ n; omega
theorem cSign_at {B : Nat → Int32} {n : Nat} {sg : Int32} {st : cSt} (hs : sg ≠ -1000000) (h : st.2.1 ≤ n) : (cSign B n sg st).2.1 ≤ n := by
  unfold cSign
  split
  · split
    · rename_i h1 h2
      have := (cByte_lt (B := B) (n := n) (st := st) (by rw [h2]; exact hs)).2
      show st.2.1 + 1 ≤ n; omega
    · exact h
  · exact h
theorem cNums_at {B : Nat → Int32} {n : Nat} {la lb : List Int32} : ∀ (t i : Nat) (st : cSt), st.2.1 ≤ n → (cNums B n la lb t i st).2.1 ≤ n := by
  intro t
  induction t with
  | zero => intro i st h; exact h
  | succ t ih =>
    intro i st h
    unfold cNums
    split
    · exact ih _ _ (cSign_at (by split <;> decide) (cNum_at h))
    · exact h
theorem cEar_at {B : Nat → Int32} {n : Nat} {kd : Int32} {st : cSt} (h : st.2.1 < n) : (cEar B n kd st).2.1 ≤ n := by
  unfold cEar
  split
  · exact Nat.le_of_lt h
  · exact cNums_at _ _ _ h
theorem cDoi_at {B : Nat → Int32} {n : Nat} {st : cSt} (h : st.2.1 < n) : (cDoi B n st).2.1 ≤ n := by
  unfold cDoi
  split
  · exact Nat.le_of_lt h
  · exact cNums_at _ _ _ h
theorem cLet_b {B : Nat → Int32} {n : Nat} {st : cSt} (h : cLet (cByte B n st) ≠ 0) : st.1 = 0 ∧ st.2.1 < n := cByte_lt (fun q => h (by rw [q]; decide))
theorem cEars_at {B : Nat → Int32} {n : Nat} : ∀ (t : Nat) (st : cSt), st.2.1 ≤ n → (cEars B n t st).2.1 ≤ n := by
  intro t
  induction t with
  | zero => intro st h; exact h
  | succ t ih =>
    intro st h
    unfold cEars
    split
    · exact h
    · rename_i h1
      exact ih _ (cEar_at (cLet_b h1).2)
theorem cDois_at {B : Nat → Int32} {n : Nat} : ∀ (t : Nat) (st : cSt), st.2.1 ≤ n → (cDois B n t st).2.1 ≤ n := by
  intro t
  induction t with
  | zero => intro st h; exact h
  | succ t ih =>
    intro st h
    unfold cDois
    split
    · rename_i h1
      exact ih _ (cDoi_at (cByte_lt (by rw [h1]; decide)).2)
    · exact h
/-- ears and doings stay within their bounds, and told within what they say -/
def cBd (st : cSt) : Prop := st.2.2.1 ≤ 6 ∧ st.2.2.2.1 ≤ 4

set_option maxRecDepth 100000 in
set_option maxHeartbeats 4000000 in
theorem c_X6_byteHere {l : Launch} {G : hc_Geo} (hG : hc_ok G) {M : hc_Mem} {n : Nat} {st : cSt}  (hn : M 5 1 = nI n) (hn1 : n ≤ 120) (hat : st.2.1 ≤ n) (hf9 : st.1 < 2 ^ 31) : hc_M l G yX6_byteHere cX6_byteHere 1 (some .int) 1 [.ref (hc_ad G 5)] (mP M st) (hc_pi (fun z M' => cByte (M 6) n st = z ∧ mP M st = M')) := by
  refine hc_M.of hG (by decide) [some (.ref (hc_ad G 5))] rfl (Nat.le_of_ble_eq_true rfl) ?_
  intro p e s m args below meth c C
  refine hc_aload_n C dX6_byteHere_0 rfl rfl ?_
  refine hc_getI C fl_X6_21 rfl rfl dX6_byteHere_1 ?_
  refine hc_if_ne C (tgt := 30) dX6_byteHere_4 (by decide) (fun c_4 => ?_) (fun c_4 => ?_)
  · refine hc_ldc C kc_X6_46 dX6_byteHere_30 ?_
    refine hc_iret C rfl dX6_byteHere_32 ?_
    refine ⟨?_, rfl⟩
    unfold cByte
    first
      | exact if_neg (fun q => c_4 (show nI st.1 = 0 by rw [q.1]; rfl))
      | exact if_neg (fun q => absurd (show nI n ≤ nI st.2.1 from hn ▸ (show M 5 1 ≤ nI st.2.1 from c_15)) (nI_ge q.2 (by omega)))
      | exact if_pos ⟨(nI_eq hf9 (by decide)).mp c_4, by { rcases Nat.lt_or_ge st.2.1 n with h | h; exact h; exact absurd (show M 5 1 ≤ nI st.2.1 by rw [hn]; exact nI_le h (by omega)) c_15 }⟩
  · refine hc_aload_n C dX6_byteHere_7 rfl rfl ?_
    refine hc_getI C fl_X6_24 rfl rfl dX6_byteHere_8 ?_
    refine hc_aload_n C dX6_byteHere_11 rfl rfl ?_
    refine hc_getI C fl_X6_17 rfl rfl dX6_byteHere_12 ?_
    refine hc_icmp_ge C (tgt := 30) dX6_byteHere_15 (by decide) (fun c_15 => ?_) (fun c_15 => ?_)
    · refine hc_ldc C kc_X6_46 dX6_byteHere_30 ?_
      refine hc_iret C rfl dX6_byteHere_32 ?_
      refine ⟨?_, rfl⟩
      unfold cByte
      first
        | exact if_neg (fun q => c_4 (show nI st.1 = 0 by rw [q.1]; rfl))
        | exact if_neg (fun q => absurd (show nI n ≤ nI st.2.1 from hn ▸ (show M 5 1 ≤ nI st.2.1 from c_15)) (nI_ge q.2 (by omega)))
        | exact if_pos ⟨(nI_eq hf9 (by decide)).mp c_4, by { rcases Nat.lt_or_ge st.2.1 n with h | h; exact h; exact absurd (show M 5 1 ≤ nI st.2.1 by rw [hn]; exact nI_le h (by omega)) c_15 }⟩
    · refine hc_aload_n C dX6_byteHere_18 rfl rfl ?_
      refine hc_getR C fl_X6_13 rfl rfl dX6_byteHere_19 ?_
      refine hc_aload_n C dX6_byteHere_22 rfl rfl ?_
      refine hc_getI C fl_X6_24 rfl rfl dX6_byteHere_23 ?_
      refine hc_ialdN C (j := st.2.1) rfl rfl (show st.2.1 < 120 by have h2 : st.2.1 < n := by { rcases Nat.lt_or_ge st.2.1 n with h | h; exact h; exact absurd (show M 5 1 ≤ nI st.2.1 by rw [hn]; exact nI_le h (by omega)) c_15 }; omega) dX6_byteHere_26 ?_
      refine hc_goto C (tgt := 32) dX6_byteHere_27 (by decide) ?_
      refine hc_iret C rfl dX6_byteHere_32 ?_
      refine ⟨?_, rfl⟩
      unfold cByte
      first
        | exact if_neg (fun q => c_4 (show nI st.1 = 0 by rw [q.1]; rfl))
        | exact if_neg (fun q => absurd (show nI n ≤ nI st.2.1 from hn ▸ (show M 5 1 ≤ nI st.2.1 from c_15)) (nI_ge q.2 (by omega)))
        | exact if_pos ⟨(nI_eq hf9 (by decide)).mp c_4, by { rcases Nat.lt_or_ge st.2.1 n with h | h; exact h; exact absurd (show M 5 1 ≤ nI st.2.1 by rw [hn]; exact nI_le h (by omega)) c_15 }⟩

set_option maxRecDepth 100000 in
set_option maxHeartbeats 4000000 in
theorem lp_figuresHere {G : hc_Geo} {p : Program} {l : Launch} {e : Env} {s : State} {m : MethodId} {args : Array Value} {below : List Frame} {meth : Method} {c : Code} (C : hc_Cx G hc_lay cX6_figuresHere 3 (some .int) yX6_figuresHere.cls p s m args meth c) {M : hc_Mem} {st : cSt} {n r0 : Nat} (hn : M 5 1 = nI n) (hn1 : n ≤ 120)  :
    ∀ (t : Nat) (i f : Nat), i + t = n → f + cFig (M 6) t i = r0 → hc_W G hc_lay p l e (hc_rm 1) s m args below meth c 3 0 0 (MQ below (hc_Q G hc_lay (hc_pi (fun z M' => nI r0 = z ∧ mP M st = M'))) args s 0 0 (hc_A G)) 7 [some (.ref (hc_ad G 5)), some (.int (nI f)), some (.int (nI i))] [] (mP M st) := by
  intro t
  induction t with
  | zero =>
    intro i f hi hr0
    refine hc_iload_n C dX6_figuresHere_7 rfl rfl ?_
    refine hc_aload_n C dX6_figuresHere_8 rfl rfl ?_
    refine hc_getI C fl_X6_17 rfl rfl dX6_figuresHere_9 ?_
    refine hc_icmp_ge C (tgt := 46) dX6_figuresHere_12 (by decide) (fun c_12 => ?_) (fun c_12 => ?_)
    rotate_left
    · exact absurd (show M 5 1 ≤ nI i by rw [hn]; exact nI_le (show n ≤ i by omega) (by omega)) c_12
    refine hc_iload_n C dX6_figuresHere_46 rfl rfl ?_
    refine hc_iret C rfl dX6_figuresHere_47 ?_
    exact ⟨congrArg nI (show r0 = f from hr0.symm), rfl⟩
  | succ t ih =>
    intro i f hi hr0
    refine hc_iload_n C dX6_figuresHere_7 rfl rfl ?_
    refine hc_aload_n C dX6_figuresHere_8 rfl rfl ?_
    refine hc_getI C fl_X6_17 rfl rfl dX6_figuresHere_9 ?_
    refine hc_icmp_ge C (tgt := 46) dX6_figuresHere_12 (by decide) (fun c_12 => ?_) (fun c_12 => ?_)
    · exact absurd (show nI n ≤ nI i from hn ▸ (show M 5 1 ≤ nI i from c_12)) (nI_ge (show i < n by omega) (by omega))
    refine hc_aload_n C dX6_figuresHere_15 rfl rfl ?_
    refine hc_getR C fl_X6_13 rfl rfl dX6_figuresHere_16 ?_
    refine hc_iload_n C dX6_figuresHere_19 rfl rfl ?_
    refine hc_ialdN C (j := i) rfl rfl (by omega) dX6_figuresHere_20 ?_
    refine hc_bipush C dX6_figuresHere_21 (v := 48) rfl ?_
    refine hc_icmp_lt C (tgt := 46) dX6_figuresHere_23 (by decide) (fun c_23 => ?_) (fun c_23 => ?_)
    · refine hc_iload_n C dX6_figuresHere_46 rfl rfl ?_
      refine hc_iret C rfl dX6_figuresHere_47 ?_
      refine ⟨congrArg nI ?_, rfl⟩
      rw [cFig] at hr0
      first
        | (have h2 : M 6 i < 48 := c_23; rw [if_neg (fun q => q.1 h2)] at hr0; exact hr0.symm)
        | (have h2 : 57 < M 6 i := c_34; rw [if_neg (fun q => q.2 h2)] at hr0; exact hr0.symm)
    · refine hc_aload_n C dX6_figuresHere_26 rfl rfl ?_
      refine hc_getR C fl_X6_13 rfl rfl dX6_figuresHere_27 ?_
      refine hc_iload_n C dX6_figuresHere_30 rfl rfl ?_
      refine hc_ialdN C (j := i) rfl rfl (by omega) dX6_figuresHere_31 ?_
      refine hc_bipush C dX6_figuresHere_32 (v := 57) rfl ?_
      refine hc_icmp_gt C (tgt := 46) dX6_figuresHere_34 (by decide) (fun c_34 => ?_) (fun c_34 => ?_)
      · refine hc_iload_n C dX6_figuresHere_46 rfl rfl ?_
        refine hc_iret C rfl dX6_figuresHere_47 ?_
        refine ⟨congrArg nI ?_, rfl⟩
        rw [cFig] at hr0
        first
          | (have h2 : M 6 i < 48 := c_23; rw [if_neg (fun q => q.1 h2)] at hr0; exact hr0.symm)
          | (have h2 : 57 < M 6 i := c_34; rw [if_neg (fun q => q.2 h2)] at hr0; exact hr0.symm)
      · refine hc_iinc1 C (v := nI (f + 1)) dX6_figuresHere_37 (by decide) rfl rfl (nI_1 f) ?_
        refine hc_iinc2 C (v := nI (i + 1)) dX6_figuresHere_40 (by decide) rfl rfl (nI_1 i) ?_
        refine hc_goto C (tgt := 7) dX6_figuresHere_43 (by decide) ?_
        rw [cFig, if_pos ⟨c_23, c_34⟩] at hr0
        exact ih (i + 1) (f + 1) (by omega) (by omega)

set_option maxRecDepth 100000 in
set_option maxHeartbeats 4000000 in
theorem c_X6_figuresHere {l : Launch} {G : hc_Geo} (hG : hc_ok G) {M : hc_Mem} {n : Nat} {st : cSt}  (hn : M 5 1 = nI n) (hn1 : n ≤ 120) (hat : st.2.1 ≤ n) : hc_M l G yX6_figuresHere cX6_figuresHere 3 (some .int) 1 [.ref (hc_ad G 5)] (mP M st) (hc_pi (fun z M' => nI (cFig (M 6) (n - st.2.1) st.2.1) = z ∧ mP M st = M')) := by
  refine hc_M.of hG (by decide) [some (.ref (hc_ad G 5)), none, none] rfl (Nat.le_of_ble_eq_true rfl) ?_
  intro p e s m args below meth c C
  refine hc_iconst C dX6_figuresHere_0 (v := 0) rfl ?_
  refine hc_istore_n1 C dX6_figuresHere_1 rfl (by decide) rfl ?_
  refine hc_aload_n C dX6_figuresHere_2 rfl rfl ?_
  refine hc_getI C fl_X6_24 rfl rfl dX6_figuresHere_3 ?_
  refine hc_istore_n2 C dX6_figuresHere_6 rfl (by decide) rfl ?_
  exact lp_figuresHere C hn hn1 (n - st.2.1) st.2.1 0 (by omega) (by omega)

set_option maxRecDepth 100000 in
set_option maxHeartbeats 4000000 in
theorem lp_readNumber {G : hc_Geo} {p : Program} {l : Launch} {e : Env} {d : Nat} {s : State} {m : MethodId} {args : Array Value} {below : List Frame} {meth : Method} {c : Code} {Q : State → Prop} (C : hc_Cx G hc_lay cX6_readNumber 6 none yX6_readNumber.cls p s m args meth c) {M : hc_Mem} {st : cSt} {n f : Nat} {lo hi v0 : Int32} (hn1 : n ≤ 120) (hf : st.2.1 + f ≤ n) 
    (kk : hc_W G hc_lay p l e (hc_rm d) s m args below meth c 6 0 0 Q 64 [some (.ref (hc_ad G 5)), some (.int lo), some (.int hi), some (.int (nI f)), some (.int v0), some (.int (nI (st.2.1 + f)))] [] (mP M st)) :
    ∀ (t : Nat) (i : Nat) (v : Int32), i + t = st.2.1 + f → cVal (M 6) t i v = v0 → hc_W G hc_lay p l e (hc_rm d) s m args below meth c 6 0 0 Q 29 [some (.ref (hc_ad G 5)), some (.int lo), some (.int hi), some (.int (nI f)), some (.int v), some (.int (nI i))] [] (mP M st) := by
  intro t
  induction t with
  | zero =>
    intro i v hi hv
    refine hc_iload C dX6_readNumber_29 rfl ?_
    refine hc_aload_n C dX6_readNumber_31 rfl rfl ?_
    refine hc_getI C fl_X6_24 rfl rfl dX6_readNumber_32 ?_
    refine hc_iload_n C dX6_readNumber_35 rfl rfl ?_
    refine hc_iadd C dX6_readNumber_36 ?_
    refine hc_icmp_ge C (tgt := 64) dX6_readNumber_37 (by decide) (fun c_37 => ?_) (fun c_37 => ?_)
    rotate_left
    · exact absurd (show nI st.2.1 + nI f ≤ nI i by rw [nI_add]; exact nI_le (by omega) (by omega)) c_37
    obtain rfl : v = v0 := hv
    rw [show i = st.2.1 + f by omega]
    exact kk
  | succ t ih =>
    intro i v hi hv
    refine hc_iload C dX6_readNumber_29 rfl ?_
    refine hc_aload_n C dX6_readNumber_31 rfl rfl ?_
    refine hc_getI C fl_X6_24 rfl rfl dX6_readNumber_32 ?_
    refine hc_iload_n C dX6_readNumber_35 rfl rfl ?_
    refine hc_iadd C dX6_readNumber_36 ?_
    refine hc_icmp_ge C (tgt := 64) dX6_readNumber_37 (by decide) (fun c_37 => ?_) (fun c_37 => ?_)
    · exact absurd (show nI (st.2.1 + f) ≤ nI i from nI_add st.2.1 f ▸ (show nI st.2.1 + nI f ≤ nI i from c_37)) (nI_ge (by omega) (by omega))
    refine hc_bipush C dX6_readNumber_40 (v := 10) rfl ?_
    refine hc_iload C dX6_readNumber_42 rfl ?_
    refine hc_imul C dX6_readNumber_44 ?_
    refine hc_aload_n C dX6_readNumber_45 rfl rfl ?_
    refine hc_getR C fl_X6_13 rfl rfl dX6_readNumber_46 ?_
    refine hc_iload C dX6_readNumber_49 rfl ?_
    refine hc_ialdN C (j := i) rfl rfl (by omega) dX6_readNumber_51 ?_
    refine hc_iadd C dX6_readNumber_52 ?_
    refine hc_bipush C dX6_readNumber_53 (v := 48) rfl ?_
    refine hc_isub C dX6_readNumber_55 ?_
    refine hc_istore4 C dX6_readNumber_56 (by decide) rfl ?_
    refine hc_iinc5 C (v := nI (i + 1)) dX6_readNumber_58 (by decide) rfl rfl (nI_1 i) ?_
    refine hc_goto C (tgt := 29) dX6_readNumber_61 (by decide) ?_
    exact ih (i + 1) _ (by omega) hv

set_option maxRecDepth 100000 in
set_option maxHeartbeats 4000000 in
theorem c_X6_readNumber {l : Launch} {G : hc_Geo} (hG : hc_ok G) {M : hc_Mem} {lo hi : Int32} {n : Nat} {st : cSt}  (hn : M 5 1 = nI n) (hn1 : n ≤ 120) (hat : st.2.1 ≤ n) (hto : st.2.2.2.2.1 < 2 ^ 31) : hc_M l G yX6_readNumber cX6_readNumber 6 none 2 [.ref (hc_ad G 5), .int lo, .int hi] (mP M st) (hc_pv (fun M' => mP M (cNum (M 6) n lo hi st) = M')) := by
  refine hc_M.of hG (by decide) [some (.ref (hc_ad G 5)), some (.int lo), some (.int hi), none, none, none] rfl (Nat.le_of_ble_eq_true rfl) ?_
  intro p e s m args below meth c C
  have hfl := cFig_le (M 6) (n - st.2.1) st.2.1
  refine hc_aload_n C dX6_readNumber_0 rfl rfl ?_
  refine hc_cV0i C mv_X6_94 (c_X6_figuresHere C.ok hn hn1 hat) rfl rfl rfl (Nat.le_of_ble_eq_true rfl) (hc_rr_rm (by decide)) ⟨Nat.zero_le _, Nat.zero_le _⟩ dX6_readNumber_1 (fun r_1 M_1 h_1 => ?_)
  obtain ⟨rfl, rfl⟩ := h_1
  refine hc_istore_n3 C dX6_readNumber_4 rfl (by decide) rfl ?_
  refine hc_iload_n C dX6_readNumber_5 rfl rfl ?_
  refine hc_if_eq C (tgt := 14) dX6_readNumber_6 (by decide) (fun c_6 => ?_) (fun c_6 => ?_)
  · refine hc_aload_n C dX6_readNumber_14 rfl rfl ?_
    refine hc_iconst C dX6_readNumber_15 (v := 1) rfl ?_
    refine hc_putI C fl_X6_21 pl_4_2 rfl rfl dX6_readNumber_16 ?_
    refine hc_mem (mP_f 1) ?_
    refine hc_vret C rfl dX6_readNumber_19 ?_
    show _ = _
    unfold cNum
    first
      | rw [if_pos (Or.inl ((nI_eq (by omega) (by decide)).mp c_6))]
      | rw [if_pos (Or.inr (by { rcases Nat.lt_or_ge 2 (cFig (M 6) (n - st.2.1) st.2.1) with h | h; exact h; exact absurd (show nI _ ≤ nI 2 from nI_le h (by decide)) c_11 }))]
  · refine hc_iload_n C dX6_readNumber_9 rfl rfl ?_
    refine hc_iconst C dX6_readNumber_10 (v := 2) rfl ?_
    refine hc_icmp_le C (tgt := 20) dX6_readNumber_11 (by decide) (fun c_11 => ?_) (fun c_11 => ?_)
    · have hf0 : ¬ (cFig (M 6) (n - st.2.1) st.2.1 = 0 ∨ 2 < cFig (M 6) (n - st.2.1) st.2.1) := fun q => q.elim (fun h => c_6 (show nI _ = 0 by rw [h]; rfl)) (fun h => absurd (show nI _ ≤ nI 2 from c_11) (nI_ge h (by omega)))
      refine hc_iconst C dX6_readNumber_20 (v := 0) rfl ?_
      refine hc_istore4 C dX6_readNumber_21 (by decide) rfl ?_
      refine hc_aload_n C dX6_readNumber_23 rfl rfl ?_
      refine hc_getI C fl_X6_24 rfl rfl dX6_readNumber_24 ?_
      refine hc_istore5 C dX6_readNumber_27 (by decide) rfl ?_
      refine lp_readNumber (f := cFig (M 6) (n - st.2.1) st.2.1) (v0 := cVal (M 6) (cFig (M 6) (n - st.2.1) st.2.1) st.2.1 0) C hn1 (by omega) ?_ (cFig (M 6) (n - st.2.1) st.2.1) st.2.1 0 rfl rfl
      refine hc_iload C dX6_readNumber_64 rfl ?_
      refine hc_iload_n C dX6_readNumber_66 rfl rfl ?_
      refine hc_icmp_lt C (tgt := 85) dX6_readNumber_67 (by decide) (fun c_67 => ?_) (fun c_67 => ?_)
      · refine hc_aload_n C dX6_readNumber_85 rfl rfl ?_
        refine hc_iconst C dX6_readNumber_86 (v := 2) rfl ?_
        refine hc_putI C fl_X6_21 pl_4_2 rfl rfl dX6_readNumber_87 ?_
        refine hc_mem (mP_f 2) ?_
        refine hc_vret C rfl dX6_readNumber_90 ?_
        show _ = _
        unfold cNum
        rw [if_neg hf0]
        first | rw [if_pos (Or.inl c_67)] | rw [if_pos (Or.inr (Or.inl c_73))] | rw [if_pos (Or.inr (Or.inr (by { rcases Nat.lt_or_ge st.2.2.2.2.1 37 with h | h; exact absurd (show nI st.2.2.2.2.1 < nI 37 from nI_lt h (by decide)) c_82; exact h })))]
      · refine hc_iload C dX6_readNumber_70 rfl ?_
        refine hc_iload_n C dX6_readNumber_72 rfl rfl ?_
        refine hc_icmp_gt C (tgt := 85) dX6_readNumber_73 (by decide) (fun c_73 => ?_) (fun c_73 => ?_)
        · refine hc_aload_n C dX6_readNumber_85 rfl rfl ?_
          refine hc_iconst C dX6_readNumber_86 (v := 2) rfl ?_
          refine hc_putI C fl_X6_21 pl_4_2 rfl rfl dX6_readNumber_87 ?_
          refine hc_mem (mP_f 2) ?_
          refine hc_vret C rfl dX6_readNumber_90 ?_
          show _ = _
          unfold cNum
          rw [if_neg hf0]
          first | rw [if_pos (Or.inl c_67)] | rw [if_pos (Or.inr (Or.inl c_73))] | rw [if_pos (Or.inr (Or.inr (by { rcases Nat.lt_or_ge st.2.2.2.2.1 37 with h | h; exact absurd (show nI st.2.2.2.2.1 < nI 37 from nI_lt h (by decide)) c_82; exact h })))]
        · refine hc_aload_n C dX6_readNumber_76 rfl rfl ?_
          refine hc_getI C fl_X6_39 rfl rfl dX6_readNumber_77 ?_
          refine hc_bipush C dX6_readNumber_80 (v := 37) rfl ?_
          refine hc_icmp_lt C (tgt := 91) dX6_readNumber_82 (by decide) (fun c_82 => ?_) (fun c_82 => ?_)
          · have ht37 : st.2.2.2.2.1 < 37 := by
              rcases Nat.lt_or_ge st.2.2.2.2.1 37 with h | h
              · exact h
              · exact absurd (show nI st.2.2.2.2.1 < nI 37 from c_82) (nI_nlt h hto)
            refine hc_aload_n C dX6_readNumber_91 rfl rfl ?_
            refine hc_getR C fl_X6_36 rfl rfl dX6_readNumber_92 ?_
            refine hc_aload_n C dX6_readNumber_95 rfl rfl ?_
            refine hc_getI C fl_X6_39 rfl rfl dX6_readNumber_96 ?_
            refine hc_iload C dX6_readNumber_99 rfl ?_
            refine hc_iastN C (j := st.2.2.2.2.1) rfl rfl ht37 dX6_readNumber_101 ?_
            refine hc_mem mP_n ?_
            refine hc_aload_n C dX6_readNumber_102 rfl rfl ?_
            refine hc_dup C dX6_readNumber_103 rfl ?_
            refine hc_getI C fl_X6_39 rfl rfl dX6_readNumber_104 ?_
            refine hc_iconst C dX6_readNumber_107 (v := 1) rfl ?_
            refine hc_iadd C dX6_readNumber_108 ?_
            refine hc_top (nI_1 st.2.2.2.2.1) ?_
            refine hc_putI C fl_X6_39 pl_4_8 rfl rfl dX6_readNumber_109 ?_
            refine hc_mem (mP_t (st.2.2.2.2.1 + 1)) ?_
            refine hc_aload_n C dX6_readNumber_112 rfl rfl ?_
            refine hc_dup C dX6_readNumber_113 rfl ?_
            refine hc_getI C fl_X6_24 rfl rfl dX6_readNumber_114 ?_
            refine hc_iload_n C dX6_readNumber_117 rfl rfl ?_
            refine hc_iadd C dX6_readNumber_118 ?_
            refine hc_top (nI_add _ _) ?_
            refine hc_putI C fl_X6_24 pl_4_3 rfl rfl dX6_readNumber_119 ?_
            refine hc_mem (mP_a _) ?_
            refine hc_vret C rfl dX6_readNumber_122 ?_
            show _ = _
            unfold cNum
            rw [if_neg hf0, if_neg (fun q => q.elim c_67 (fun q => q.elim c_73 (fun q => absurd ht37 (by omega))))]
          · refine hc_aload_n C dX6_readNumber_85 rfl rfl ?_
            refine hc_iconst C dX6_readNumber_86 (v := 2) rfl ?_
            refine hc_putI C fl_X6_21 pl_4_2 rfl rfl dX6_readNumber_87 ?_
            refine hc_mem (mP_f 2) ?_
            refine hc_vret C rfl dX6_readNumber_90 ?_
            show _ = _
            unfold cNum
            rw [if_neg hf0]
            first | rw [if_pos (Or.inl c_67)] | rw [if_pos (Or.inr (Or.inl c_73))] | rw [if_pos (Or.inr (Or.inr (by { rcases Nat.lt_or_ge st.2.2.2.2.1 37 with h | h; exact absurd (show nI st.2.2.2.2.1 < nI 37 from nI_lt h (by decide)) c_82; exact h })))]
    · refine hc_aload_n C dX6_readNumber_14 rfl rfl ?_
      refine hc_iconst C dX6_readNumber_15 (v := 1) rfl ?_
      refine hc_putI C fl_X6_21 pl_4_2 rfl rfl dX6_readNumber_16 ?_
      refine hc_mem (mP_f 1) ?_
      refine hc_vret C rfl dX6_readNumber_19 ?_
      show _ = _
      unfold cNum
      first
        | rw [if_pos (Or.inl ((nI_eq (by omega) (by decide)).mp c_6))]
        | rw [if_pos (Or.inr (by { rcases Nat.lt_or_ge 2 (cFig (M 6) (n - st.2.1) st.2.1) with h | h; exact h; exact absurd (show nI _ ≤ nI 2 from nI_le h (by decide)) c_11 }))]

set_option maxRecDepth 100000 in
set_option maxHeartbeats 4000000 in
theorem c_X6_readSign {l : Launch} {G : hc_Geo} (hG : hc_ok G) {M : hc_Mem} {sg : Int32} {n : Nat} {st : cSt}  (hn : M 5 1 = nI n) (hn1 : n ≤ 120) (hat : st.2.1 ≤ n) (hf9 : st.1 < 2 ^ 31) : hc_M l G yX6_readSign cX6_readSign 2 none 2 [.ref (hc_ad G 5), .int sg] (mP M st) (hc_pv (fun M' => mP M (cSign (M 6) n sg st) = M')) := by
  refine hc_M.of hG (by decide) [some (.ref (hc_ad G 5)), some (.int sg)] rfl (Nat.le_of_ble_eq_true rfl) ?_
  intro p e s m args below meth c C
  refine hc_aload_n C dX6_readSign_0 rfl rfl ?_
  refine hc_getI C fl_X6_21 rfl rfl dX6_readSign_1 ?_
  refine hc_if_eq C (tgt := 8) dX6_readSign_4 (by decide) (fun c_4 => ?_) (fun c_4 => ?_)
  · refine hc_aload_n C dX6_readSign_8 rfl rfl ?_
    refine hc_cV0i C mv_X6_47 (c_X6_byteHere C.ok hn hn1 hat hf9) rfl rfl rfl (Nat.le_of_ble_eq_true rfl) (hc_rr_rm (by decide)) ⟨Nat.zero_le _, Nat.zero_le _⟩ dX6_readSign_9 (fun r_9 M_9 h_9 => ?_)
    obtain ⟨rfl, rfl⟩ := h_9
    refine hc_iload_n C dX6_readSign_12 rfl rfl ?_
    have hf0 : st.1 = 0 := (nI_eq hf9 (by decide)).mp c_4
    refine hc_icmp_eq C (tgt := 22) dX6_readSign_13 (by decide) (fun c_13 => ?_) (fun c_13 => ?_)
    · refine hc_aload_n C dX6_readSign_22 rfl rfl ?_
      refine hc_dup C dX6_readSign_23 rfl ?_
      refine hc_getI C fl_X6_24 rfl rfl dX6_readSign_24 ?_
      refine hc_iconst C dX6_readSign_27 (v := 1) rfl ?_
      refine hc_iadd C dX6_readSign_28 ?_
      refine hc_top (nI_1 st.2.1) ?_
      refine hc_putI C fl_X6_24 pl_4_3 rfl rfl dX6_readSign_29 ?_
      refine hc_mem (mP_a _) ?_
      refine hc_vret C rfl dX6_readSign_32 ?_
      show _ = _
      unfold cSign
      rw [if_pos hf0, if_pos c_13]
    · refine hc_aload_n C dX6_readSign_16 rfl rfl ?_
      refine hc_iconst C dX6_readSign_17 (v := 1) rfl ?_
      refine hc_putI C fl_X6_21 pl_4_2 rfl rfl dX6_readSign_18 ?_
      refine hc_mem (mP_f 1) ?_
      refine hc_vret C rfl dX6_readSign_21 ?_
      show _ = _
      unfold cSign
      rw [if_pos hf0, if_neg c_13]
  · refine hc_vret C rfl dX6_readSign_7 ?_
    show _ = _
    unfold cSign
    rw [if_neg (fun q => c_4 (show nI st.1 = 0 by rw [q]; rfl))]
