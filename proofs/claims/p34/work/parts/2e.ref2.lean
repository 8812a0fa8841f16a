theorem hc_mf_mf {M : hc_Mem} {k : Nat} {f g : Nat → Int32} : hc_mf (hc_mf M k f) k g = hc_mf M k g := by
  funext a
  by_cases h : a = k
  · subst h; simp only [hc_mf_s]
  · simp only [hc_mf_n h]
theorem hc_ms_mf {M : hc_Mem} {k j : Nat} {v : Int32} {f : Nat → Int32} : hc_ms (hc_mf M k f) k j v = hc_mf M k (upd f j v) := by
  unfold hc_ms
  rw [hc_mf_s, hc_mf_mf]
/-- two rows alike as houses -/
def rAg (f g : Nat → Int32) : Prop := ∀ j, j < 68 → f j = g j
theorem rAg.upd {f g : Nat → Int32} {k : Nat} {x y : Int32} (h : rAg f g) (hx : x = y) : rAg (upd f k x) (upd g k y) := by
  intro j hj
  show (if j = k then x else f j) = (if j = k then y else g j)
  split
  · exact hx
  · exact h j hj
theorem rLis_c {f g : Nat → Int32} {e : Nat} (h : rAg f g) (he : e < 6) : rLis f e ↔ rLis g e := by
  unfold rLis
  rw [h _ (show 6 + 7 * e + 2 < 68 by omega), h _ (show 6 + 7 * e + 5 < 68 by omega), h _ (show 6 + 7 * e + 4 < 68 by omega), h _ (show 6 + 7 * e + 3 < 68 by omega), h 2 (by decide)]
theorem rLisM_c {f g : Nat → Int32} (h : rAg f g) : ∀ e, e ≤ 6 → rLisM f e = rLisM g e := by
  intro e
  induction e with
  | zero => intro _; rfl
  | succ e ih => intro he; unfold rLisM; rw [ih (by omega)]; simp only [rLis_c h (show e < 6 by omega)]
theorem rHeed_c {f g : Nat → Int32} {e : Nat} (h : rAg f g) (he : e < 6) : rHeed f e = rHeed g e := by
  unfold rHeed rLeft
  rw [h _ (show 6 + 7 * e + 1 < 68 by omega), h _ (show 6 + 7 * e < 68 by omega), h 1 (by decide)]
theorem rGiv_c {f g : Nat → Int32} {s w : Int32} (h : rAg f g) : ∀ e, e ≤ 6 → rGiv f s w e = rGiv g s w e := by
  intro e
  induction e with
  | zero => intro _; rfl
  | succ e ih => intro he; unfold rGiv; rw [ih (by omega), rHeed_c h (show e < 6 by omega), h _ (show 6 + 7 * e < 68 by omega)]
theorem rBy_c {f g : Nat → Int32} {E : Nat} {s : Int32} (h : rAg f g) (hE : E ≤ 6) : rBy f E s = rBy g E s := by
  unfold rBy
  rw [rGiv_c h E hE, rGiv_c h E hE]
theorem rGo_c {f g : Nat → Int32} {E : Nat} (h : rAg f g) (hE : E ≤ 6) : rGo f E = rGo g E := by
  unfold rGo
  rw [rLisM_c h E hE, rBy_c h hE]
theorem rP1_c {f g : Nat → Int32} {x y : Int32} (h : rAg f g) (hx : x = y) : ∀ e, e ≤ 6 → rAg (rP1 f x e) (rP1 g y e) := by
  intro e
  induction e with
  | zero => intro _; exact h
  | succ e ih =>
    intro he
    have i1 := ih (by omega)
    exact rAg.upd i1 (by rw [i1 _ (show 6 + 7 * e + 6 < 68 by omega), i1 _ (show 6 + 7 * e + 2 < 68 by omega), hx])
theorem rP2_c {f g : Nat → Int32} {x y : Int32} (h : rAg f g) (hx : x = y) : rAg (rP2 f x) (rP2 g y) := by
  have h1 : rAg (upd f 3 (f 3 + x)) (upd g 3 (g 3 + y)) := rAg.upd h (by rw [h 3 (by decide), hx])
  exact rAg.upd h1 (by rw [h1 2 (by decide)])
theorem rP4_c {f g : Nat → Int32} {x : Nat} (h : rAg f g) (hx : x < 4) : rAg (rP4 f x) (rP4 g x) := by
  refine rAg.upd h ?_
  unfold rIsD
  rw [h _ (show 48 + 5 * x + 3 < 68 by omega), h _ (show 48 + 5 * x + 4 < 68 by omega), h _ (show 48 + 5 * x + 1 < 68 by omega), h 2 (by decide), h 3 (by decide)]
theorem rP5_c {f g : Nat → Int32} {x : Nat} (h : rAg f g) (hx : x < 4) : rAg (rP5 f x) (rP5 g x) := by
  refine rAg.upd h ?_
  rw [h _ (show 48 + 5 * x + 3 < 68 by omega), h _ (show 48 + 5 * x + 0 < 68 by omega), h 2 (by decide), h 3 (by decide)]
theorem rP3_c {f g : Nat → Int32} (h : rAg f g) : ∀ x, x ≤ 4 → rAg (rP3 f x) (rP3 g x) := by
  intro x
  induction x with
  | zero => intro _; exact h
  | succ x ih => intro hx; exact rP5_c (rP4_c (ih (by omega)) (by omega)) (by omega)
theorem rPass_c {f g : Nat → Int32} {E D : Nat} (h : rAg f g) (hE : E ≤ 6) (hD : D ≤ 4) : rAg (rPass f E D) (rPass g E D) := by
  unfold rPass
  rw [rGo_c h hE]
  exact rP3_c (rP2_c (rP1_c h rfl E hE) rfl) D hD
theorem rIter_c {E D : Nat} (hE : E ≤ 6) (hD : D ≤ 4) : ∀ (t : Nat) {f g : Nat → Int32}, rAg f g → rAg (rIter E D t f) (rIter E D t g) := by
  intro t
  induction t with
  | zero => intro f g h; exact h
  | succ t ih => intro f g h; exact rPass_c (ih h) hE hD
theorem rAg_cpy {f g : Nat → Int32} : rAg (va_cpy f g 0 0 68) f := by
  intro j hj
  unfold va_cpy
  rw [if_pos (by omega)]
  congr 1
  omega
def rN1 (M : hc_Mem) (a : Nat) : hc_Mem := hc_ms (hc_mf M 56 (va_cpy (M 54) (M 56) 0 (68 * a) 68)) 48 16 (nI (a + 1))
def rSh (M : hc_Mem) : hc_Mem := hc_ms (hc_mf M 56 (fun j => if j < 1564 then M 56 (j + 68) else M 56 j)) 48 16 (nI 23)
def rNo (M : hc_Mem) (a : Nat) : hc_Mem := if a < 24 then rN1 M a else rN1 (rSh M) 23
theorem rNo_n {M : hc_Mem} {a c : Nat} (h : c ≠ 56) (h2 : c ≠ 48) : rNo M a c = M c := by
  unfold rNo
  split
  · unfold rN1; rw [hc_ms_n h2, hc_mf_n h]
  · unfold rN1 rSh; rw [hc_ms_n h2, hc_mf_n h, hc_ms_n h2, hc_mf_n h]
theorem rNo_16 {M : hc_Mem} {a : Nat} (ha : a ≤ 24) : rNo M a 48 16 = nI (min 24 (a + 1)) := by
  unfold rNo
  split
  · unfold rN1; rw [hc_ms_v]; congr 1; omega
  · unfold rN1; rw [hc_ms_v]; congr 1; omega
theorem rNo_48 {M : hc_Mem} {a j : Nat} (hj : j ≠ 16) : rNo M a 48 j = M 48 j := by
  unfold rNo
  split
  · unfold rN1; rw [hc_ms_j hj, hc_mf_n (by decide)]
  · unfold rN1 rSh; rw [hc_ms_j hj, hc_mf_n (by decide), hc_ms_j hj, hc_mf_n (by decide)]
def rQs (M : hc_Mem) (E D a : Nat) : Nat → hc_Mem
  | 0 => M
  | i + 1 => hc_mf (rNo (rQs M E D a i) (min 24 (a + i))) 54 (rPass (rQs M E D a i 54) E D)
theorem rQs_inv {M : hc_Mem} {E D a : Nat} (hE : M 54 4 = nI E) (hD : M 54 5 = nI D) (ha : M 48 16 = nI a) (ha24 : a ≤ 24) : ∀ i : Nat, rQs M E D a i 54 4 = nI E ∧ rQs M E D a i 54 5 = nI D ∧ rQs M E D a i 48 16 = nI (min 24 (a + i)) := by
  intro i
  induction i with
  | zero => exact ⟨hE, hD, by rw [show min 24 (a + 0) = a by omega]; exact ha⟩
  | succ i ih =>
    refine ⟨?_, ?_, ?_⟩
    · show hc_mf _ 54 _ 54 4 = _
      rw [hc_mf_s, rPass_45 (Or.inl rfl)]; exact ih.1
    · show hc_mf _ 54 _ 54 5 = _
      rw [hc_mf_s, rPass_45 (Or.inr (Or.inl rfl))]; exact ih.2.1
    · show hc_mf _ 54 _ 48 16 = _
      rw [hc_mf_n (by decide), rNo_16 (by omega)]; congr 1; omega

set_option maxRecDepth 100000 in
set_option maxHeartbeats 4000000 in
theorem lp_pass1 {G : hc_Geo} {p : Program} {l : Launch} {e : Env} {d : Nat} {s : State} {m : MethodId} {args : Array Value} {below : List Frame} {meth : Method} {c : Code} {Q : State → Prop} (C : hc_Cx G hc_lay cX8_passes 5 none yX8_passes.cls p s m args meth c) {M : hc_Mem} {k E : Nat} {its : Int32} {v3 v4 : Option Value} (hy : hc_lay[k]? = some (.inl (false, 68))) (hE : M k 4 = nI E) (hE6 : E ≤ 6) 
    (kk : hc_W G hc_lay p l e (hc_rm d) s m args below meth c 5 0 0 Q 55 [some (.ref (hc_ad G k)), some (.int its), some (.int (nI E)), v3, v4] [] (hc_mf M k (rP1 (M k) its E))) :
    ∀ (t : Nat) (i : Nat), i + t = E → hc_W G hc_lay p l e (hc_rm d) s m args below meth c 5 0 0 Q 7 [some (.ref (hc_ad G k)), some (.int its), some (.int (nI i)), v3, v4] [] (hc_mf M k (rP1 (M k) its i)) := by
  intro t
  induction t with
  | zero =>
    intro i hi
    refine hc_iload_n C dX8_passes_7 rfl rfl ?_
    refine hc_aload_n C dX8_passes_8 rfl rfl ?_
    refine hc_iconst C dX8_passes_9 (v := 4) rfl ?_
    refine hc_ialdN C (j := 4) hy rfl (by decide) dX8_passes_10 ?_
    rw [hc_mf_s]
    refine hc_icmp_ge C (tgt := 55) dX8_passes_11 (by decide) (fun c_11 => ?_) (fun c_11 => ?_)
    rotate_left
    · exact absurd (by rw [rP1_o _ (fun x _ => by omega), hE]; exact nI_le (show E ≤ i by omega) (by omega)) c_11
    rw [show i = E by omega]
    exact kk
  | succ t ih =>
    intro i hi
    refine hc_iload_n C dX8_passes_7 rfl rfl ?_
    refine hc_aload_n C dX8_passes_8 rfl rfl ?_
    refine hc_iconst C dX8_passes_9 (v := 4) rfl ?_
    refine hc_ialdN C (j := 4) hy rfl (by decide) dX8_passes_10 ?_
    rw [hc_mf_s]
    refine hc_icmp_ge C (tgt := 55) dX8_passes_11 (by decide) (fun c_11 => ?_) (fun c_11 => ?_)
    · rw [rP1_o _ (fun x _ => by omega), hE] at c_11
      exact absurd c_11 (nI_ge (show i < E by omega) (by omega))
    refine hc_aload_n C dX8_passes_14 rfl rfl ?_
    refine hc_bipush C dX8_passes_15 (v := 6) rfl ?_
    refine hc_bipush C dX8_passes_17 (v := 7) rfl ?_
    refine hc_iload_n C dX8_passes_19 rfl rfl ?_
    refine hc_imul C dX8_passes_20 ?_
    refine hc_iadd C dX8_passes_21 ?_
    refine hc_bipush C dX8_passes_22 (v := 6) rfl ?_
    refine hc_iadd C dX8_passes_24 ?_
    refine hc_top (hx_67 i 6) ?_
    refine hc_dup2 C dX8_passes_25 rfl rfl ?_
    refine hc_ialdN C (j := (6 + 7 * i + 6)) hy rfl (by omega) dX8_passes_26 ?_
    rw [hc_mf_s]
    refine hc_aload_n C dX8_passes_27 rfl rfl ?_
    refine hc_bipush C dX8_passes_28 (v := 6) rfl ?_
    refine hc_bipush C dX8_passes_30 (v := 7) rfl ?_
    refine hc_iload_n C dX8_passes_32 rfl rfl ?_
    refine hc_imul C dX8_passes_33 ?_
    refine hc_iadd C dX8_passes_34 ?_
    refine hc_iconst C dX8_passes_35 (v := 2) rfl ?_
    refine hc_iadd C dX8_passes_36 ?_
    refine hc_ialdN C (j := (6 + 7 * i + 2)) hy (hx_67 i 2) (by omega) dX8_passes_37 ?_
    rw [hc_mf_s]
    refine hc_if_ne C (tgt := 45) dX8_passes_38 (by decide) (fun c_38 => ?_) (fun c_38 => ?_)
    · refine hc_bipush C dX8_passes_45 (v := 12) rfl ?_
      refine hc_iadd C dX8_passes_47 ?_
      refine hc_iastN C (j := (6 + 7 * i + 6)) hy rfl (by omega) dX8_passes_48 ?_
      rw [hc_ms_mf]
      refine hc_iinc2 C (v := nI (i + 1)) dX8_passes_49 (by decide) rfl rfl (nI_1 i) ?_
      refine hc_goto C (tgt := 7) dX8_passes_52 (by decide) ?_
      refine hc_mem ?_ (ih (i + 1) (by omega))
      rw [rP1]
      first | rw [if_pos c_38] | rw [if_neg c_38]
    · refine hc_iload_n C dX8_passes_41 rfl rfl ?_
      refine hc_goto C (tgt := 47) dX8_passes_42 (by decide) ?_
      refine hc_iadd C dX8_passes_47 ?_
      refine hc_iastN C (j := (6 + 7 * i + 6)) hy rfl (by omega) dX8_passes_48 ?_
      rw [hc_ms_mf]
      refine hc_iinc2 C (v := nI (i + 1)) dX8_passes_49 (by decide) rfl rfl (nI_1 i) ?_
      refine hc_goto C (tgt := 7) dX8_passes_52 (by decide) ?_
      refine hc_mem ?_ (ih (i + 1) (by omega))
      rw [rP1]
      first | rw [if_pos c_38] | rw [if_neg c_38]

set_option maxRecDepth 100000 in
set_option maxHeartbeats 4000000 in
theorem lp_pass3 {G : hc_Geo} {p : Program} {l : Launch} {e : Env} {d : Nat} {s : State} {m : MethodId} {args : Array Value} {below : List Frame} {meth : Method} {c : Code} {Q : State → Prop} (C : hc_Cx G hc_lay cX8_passes 5 none yX8_passes.cls p s m args meth c) {M : hc_Mem} {k D : Nat} {its : Int32} {f0 : Nat → Int32} (hy : hc_lay[k]? = some (.inl (false, 68))) (hD5 : f0 5 = nI D) (hD4 : D ≤ 4) (kk : ∀ v3 v4 : Option Value, hc_W G hc_lay p l e (hc_rm d) s m args below meth c 5 0 0 Q 186 [some (.ref (hc_ad G k)), some (.int its), some (.int (nI D)), v3, v4] [] (hc_mf M k (rP3 f0 D)))  :
    ∀ (t : Nat) (i : Nat), i + t = D → ∀ v3 v4 : Option Value, hc_W G hc_lay p l e (hc_rm d) s m args below meth c 5 0 0 Q 71 [some (.ref (hc_ad G k)), some (.int its), some (.int (nI i)), v3, v4] [] (hc_mf M k (rP3 f0 i)) := by
  intro t
  induction t with
  | zero =>
    intro i hi v3 v4
    have hrd : rP3 f0 i 5 = f0 5 := rP3_o (by decide) i
    refine hc_iload_n C dX8_passes_71 rfl rfl ?_
    refine hc_aload_n C dX8_passes_72 rfl rfl ?_
    refine hc_iconst C dX8_passes_73 (v := 5) rfl ?_
    refine hc_ialdN C (j := 5) hy rfl (by decide) dX8_passes_74 ?_
    rw [hc_mf_s]
    refine hc_icmp_ge C (tgt := 186) dX8_passes_75 (by decide) (fun c_75 => ?_) (fun c_75 => ?_)
    rotate_left
    · exact absurd (by rw [hrd, hD5]; exact nI_le (show D ≤ i by omega) (by omega)) c_75
    rw [show i = D by omega]
    exact kk v3 v4
  | succ t ih =>
    intro i hi v3 v4
    have hrd : rP3 f0 i 5 = f0 5 := rP3_o (by decide) i
    refine hc_iload_n C dX8_passes_71 rfl rfl ?_
    refine hc_aload_n C dX8_passes_72 rfl rfl ?_
    refine hc_iconst C dX8_passes_73 (v := 5) rfl ?_
    refine hc_ialdN C (j := 5) hy rfl (by decide) dX8_passes_74 ?_
    rw [hc_mf_s]
    refine hc_icmp_ge C (tgt := 186) dX8_passes_75 (by decide) (fun c_75 => ?_) (fun c_75 => ?_)
    · rw [hrd, hD5] at c_75
      exact absurd c_75 (nI_ge (show i < D by omega) (by omega))
    refine hc_bipush C dX8_passes_78 (v := 48) rfl ?_
    refine hc_iconst C dX8_passes_80 (v := 5) rfl ?_
    refine hc_iload_n C dX8_passes_81 rfl rfl ?_
    refine hc_imul C dX8_passes_82 ?_
    refine hc_iadd C dX8_passes_83 ?_
    refine hc_top (hx_50 i) ?_
    refine hc_istore_n3 C dX8_passes_84 rfl (by decide) rfl ?_
    have hJ : ∀ v : Int32, v = hb (rIsD (rP3 f0 i) i) → hc_W G hc_lay p l e (hc_rm d) s m args below meth c 5 0 0 Q 130 [some (.ref (hc_ad G k)), some (.int its), some (.int (nI i)), some (.int (nI (48 + 5 * i))), v4] [.int v] (hc_mf M k (rP3 f0 i)) := by
      intro v hv
      refine hc_istore4 C dX8_passes_130 (by decide) rfl ?_
      refine hc_aload_n C dX8_passes_132 rfl rfl ?_
      refine hc_iload_n C dX8_passes_133 rfl rfl ?_
      refine hc_iconst C dX8_passes_134 (v := 4) rfl ?_
      refine hc_iadd C dX8_passes_135 ?_
      refine hc_iload C dX8_passes_136 rfl ?_
      refine hc_if_eq C (tgt := 147) dX8_passes_138 (by decide) (fun c_138 => ?_) (fun c_138 => ?_)
      · refine hc_aload_n C dX8_passes_147 rfl rfl ?_
        refine hc_iload_n C dX8_passes_148 rfl rfl ?_
        refine hc_iconst C dX8_passes_149 (v := 4) rfl ?_
        refine hc_iadd C dX8_passes_150 ?_
        refine hc_ialdN C (j := (48 + 5 * i + 4)) hy (show nI (48 + 5 * i) + nI 4 = nI (48 + 5 * i + 4) from nI_add _ _) (by omega) dX8_passes_151 ?_
        rw [hc_mf_s]
        refine hc_iastN C (j := (48 + 5 * i + 4)) hy (show nI (48 + 5 * i) + nI 4 = nI (48 + 5 * i + 4) from nI_add _ _) (by omega) dX8_passes_152 ?_
        rw [hc_ms_mf]
        refine hc_mem (M2 := hc_mf M k (rP4 (rP3 f0 i) i)) (by unfold rP4; have h2 := c_138; rw [hv] at h2; first | rw [if_neg (hb_z.mp h2)] | rw [if_pos (hb_nz.mp h2)]) ?_
        refine hc_aload_n C dX8_passes_153 rfl rfl ?_
        refine hc_iload_n C dX8_passes_154 rfl rfl ?_
        refine hc_iconst C dX8_passes_155 (v := 3) rfl ?_
        refine hc_iadd C dX8_passes_156 ?_
        refine hc_aload_n C dX8_passes_157 rfl rfl ?_
        refine hc_iload_n C dX8_passes_158 rfl rfl ?_
        refine hc_iconst C dX8_passes_159 (v := 0) rfl ?_
        refine hc_iadd C dX8_passes_160 ?_
        refine hc_ialdN C (j := (48 + 5 * i + 0)) hy (show nI (48 + 5 * i) + nI 0 = nI (48 + 5 * i + 0) from nI_add _ _) (by omega) dX8_passes_161 ?_
        rw [hc_mf_s]
        refine hc_aload_n C dX8_passes_162 rfl rfl ?_
        refine hc_iconst C dX8_passes_163 (v := 2) rfl ?_
        refine hc_ialdN C (j := 2) hy rfl (by decide) dX8_passes_164 ?_
        rw [hc_mf_s]
        refine hc_icmp_ne C (tgt := 174) dX8_passes_165 (by decide) (fun c_165 => ?_) (fun c_165 => ?_)
        · refine hc_aload_n C dX8_passes_174 rfl rfl ?_
          refine hc_iload_n C dX8_passes_175 rfl rfl ?_
          refine hc_iconst C dX8_passes_176 (v := 3) rfl ?_
          refine hc_iadd C dX8_passes_177 ?_
          refine hc_ialdN C (j := (48 + 5 * i + 3)) hy (show nI (48 + 5 * i) + nI 3 = nI (48 + 5 * i + 3) from nI_add _ _) (by omega) dX8_passes_178 ?_
          rw [hc_mf_s]
          refine hc_iastN C (j := (48 + 5 * i + 3)) hy (show nI (48 + 5 * i) + nI 3 = nI (48 + 5 * i + 3) from nI_add _ _) (by omega) dX8_passes_179 ?_
          rw [hc_ms_mf]
          refine hc_mem (M2 := hc_mf M k (rP3 f0 (i + 1))) (by rw [rP3]; unfold rP5; first | rw [if_neg c_165] | rw [if_pos c_165]) ?_
          refine hc_iinc2 C (v := nI (i + 1)) dX8_passes_180 (by decide) rfl rfl (nI_1 i) ?_
          refine hc_goto C (tgt := 71) dX8_passes_183 (by decide) ?_
          exact ih (i + 1) (by omega) _ _
        · refine hc_aload_n C dX8_passes_168 rfl rfl ?_
          refine hc_iconst C dX8_passes_169 (v := 3) rfl ?_
          refine hc_ialdN C (j := 3) hy rfl (by decide) dX8_passes_170 ?_
          rw [hc_mf_s]
          refine hc_goto C (tgt := 179) dX8_passes_171 (by decide) ?_
          refine hc_iastN C (j := (48 + 5 * i + 3)) hy (show nI (48 + 5 * i) + nI 3 = nI (48 + 5 * i + 3) from nI_add _ _) (by omega) dX8_passes_179 ?_
          rw [hc_ms_mf]
          refine hc_mem (M2 := hc_mf M k (rP3 f0 (i + 1))) (by rw [rP3]; unfold rP5; first | rw [if_neg c_165] | rw [if_pos c_165]) ?_
          refine hc_iinc2 C (v := nI (i + 1)) dX8_passes_180 (by decide) rfl rfl (nI_1 i) ?_
          refine hc_goto C (tgt := 71) dX8_passes_183 (by decide) ?_
          exact ih (i + 1) (by omega) _ _
      · refine hc_aload_n C dX8_passes_141 rfl rfl ?_
        refine hc_iconst C dX8_passes_142 (v := 2) rfl ?_
        refine hc_ialdN C (j := 2) hy rfl (by decide) dX8_passes_143 ?_
        rw [hc_mf_s]
        refine hc_goto C (tgt := 152) dX8_passes_144 (by decide) ?_
        refine hc_iastN C (j := (48 + 5 * i + 4)) hy (show nI (48 + 5 * i) + nI 4 = nI (48 + 5 * i + 4) from nI_add _ _) (by omega) dX8_passes_152 ?_
        rw [hc_ms_mf]
        refine hc_mem (M2 := hc_mf M k (rP4 (rP3 f0 i) i)) (by unfold rP4; have h2 := c_138; rw [hv] at h2; first | rw [if_neg (hb_z.mp h2)] | rw [if_pos (hb_nz.mp h2)]) ?_
        refine hc_aload_n C dX8_passes_153 rfl rfl ?_
        refine hc_iload_n C dX8_passes_154 rfl rfl ?_
        refine hc_iconst C dX8_passes_155 (v := 3) rfl ?_
        refine hc_iadd C dX8_passes_156 ?_
        refine hc_aload_n C dX8_passes_157 rfl rfl ?_
        refine hc_iload_n C dX8_passes_158 rfl rfl ?_
        refine hc_iconst C dX8_passes_159 (v := 0) rfl ?_
        refine hc_iadd C dX8_passes_160 ?_
        refine hc_ialdN C (j := (48 + 5 * i + 0)) hy (show nI (48 + 5 * i) + nI 0 = nI (48 + 5 * i + 0) from nI_add _ _) (by omega) dX8_passes_161 ?_
        rw [hc_mf_s]
        refine hc_aload_n C dX8_passes_162 rfl rfl ?_
        refine hc_iconst C dX8_passes_163 (v := 2) rfl ?_
        refine hc_ialdN C (j := 2) hy rfl (by decide) dX8_passes_164 ?_
        rw [hc_mf_s]
        refine hc_icmp_ne C (tgt := 174) dX8_passes_165 (by decide) (fun c_165 => ?_) (fun c_165 => ?_)
        · refine hc_aload_n C dX8_passes_174 rfl rfl ?_
          refine hc_iload_n C dX8_passes_175 rfl rfl ?_
          refine hc_iconst C dX8_passes_176 (v := 3) rfl ?_
          refine hc_iadd C dX8_passes_177 ?_
          refine hc_ialdN C (j := (48 + 5 * i + 3)) hy (show nI (48 + 5 * i) + nI 3 = nI (48 + 5 * i + 3) from nI_add _ _) (by omega) dX8_passes_178 ?_
          rw [hc_mf_s]
          refine hc_iastN C (j := (48 + 5 * i + 3)) hy (show nI (48 + 5 * i) + nI 3 = nI (48 + 5 * i + 3) from nI_add _ _) (by omega) dX8_passes_179 ?_
          rw [hc_ms_mf]
          refine hc_mem (M2 := hc_mf M k (rP3 f0 (i + 1))) (by rw [rP3]; unfold rP5; first | rw [if_neg c_165] | rw [if_pos c_165]) ?_
          refine hc_iinc2 C (v := nI (i + 1)) dX8_passes_180 (by decide) rfl rfl (nI_1 i) ?_
          refine hc_goto C (tgt := 71) dX8_passes_183 (by decide) ?_
          exact ih (i + 1) (by omega) _ _
        · refine hc_aload_n C dX8_passes_168 rfl rfl ?_
          refine hc_iconst C dX8_passes_169 (v := 3) rfl ?_
          refine hc_ialdN C (j := 3) hy rfl (by decide) dX8_passes_170 ?_
          rw [hc_mf_s]
          refine hc_goto C (tgt := 179) dX8_passes_171 (by decide) ?_
          refine hc_iastN C (j := (48 + 5 * i + 3)) hy (show nI (48 + 5 * i) + nI 3 = nI (48 + 5 * i + 3) from nI_add _ _) (by omega) dX8_passes_179 ?_
          rw [hc_ms_mf]
          refine hc_mem (M2 := hc_mf M k (rP3 f0 (i + 1))) (by rw [rP3]; unfold rP5; first | rw [if_neg c_165] | rw [if_pos c_165]) ?_
          refine hc_iinc2 C (v := nI (i + 1)) dX8_passes_180 (by decide) rfl rfl (nI_1 i) ?_
          refine hc_goto C (tgt := 71) dX8_passes_183 (by decide) ?_
          exact ih (i + 1) (by omega) _ _
    refine hc_aload_n C dX8_passes_85 rfl rfl ?_
    refine hc_iload_n C dX8_passes_86 rfl rfl ?_
    refine hc_iconst C dX8_passes_87 (v := 3) rfl ?_
    refine hc_iadd C dX8_passes_88 ?_
    refine hc_ialdN C (j := (48 + 5 * i + 3)) hy (show nI (48 + 5 * i) + nI 3 = nI (48 + 5 * i + 3) from nI_add _ _) (by omega) dX8_passes_89 ?_
    rw [hc_mf_s]
    refine hc_ldc C kc_X8_50 dX8_passes_90 ?_
    refine hc_icmp_eq C (tgt := 129) dX8_passes_92 (by decide) (fun c_92 => ?_) (fun c_92 => ?_)
    · refine hc_iconst C dX8_passes_129 (v := 0) rfl ?_
      refine hJ _ ?_
      symm
      first
        | (refine hb_t ⟨?_, ?_, ?_⟩; exact c_92; exact c_102; exact c_122)
        | (refine hb_f (fun z => z.2.2 ?_); exact c_122)
        | (refine hb_f (fun z => ?_); exact c_102 z.2.1)
        | (refine hb_f (fun z => z.1 ?_); exact c_92)
    · refine hc_aload_n C dX8_passes_95 rfl rfl ?_
      refine hc_iload_n C dX8_passes_96 rfl rfl ?_
      refine hc_iconst C dX8_passes_97 (v := 4) rfl ?_
      refine hc_iadd C dX8_passes_98 ?_
      refine hc_ialdN C (j := (48 + 5 * i + 4)) hy (show nI (48 + 5 * i) + nI 4 = nI (48 + 5 * i + 4) from nI_add _ _) (by omega) dX8_passes_99 ?_
      rw [hc_mf_s]
      refine hc_ldc C kc_X8_50 dX8_passes_100 ?_
      refine hc_icmp_ne C (tgt := 129) dX8_passes_102 (by decide) (fun c_102 => ?_) (fun c_102 => ?_)
      · refine hc_iconst C dX8_passes_129 (v := 0) rfl ?_
        refine hJ _ ?_
        symm
        first
          | (refine hb_t ⟨?_, ?_, ?_⟩; exact c_92; exact c_102; exact c_122)
          | (refine hb_f (fun z => z.2.2 ?_); exact c_122)
          | (refine hb_f (fun z => ?_); exact c_102 z.2.1)
          | (refine hb_f (fun z => z.1 ?_); exact c_92)
      · refine hc_aload_n C dX8_passes_105 rfl rfl ?_
        refine hc_iconst C dX8_passes_106 (v := 3) rfl ?_
        refine hc_ialdN C (j := 3) hy rfl (by decide) dX8_passes_107 ?_
        rw [hc_mf_s]
        refine hc_aload_n C dX8_passes_108 rfl rfl ?_
        refine hc_iload_n C dX8_passes_109 rfl rfl ?_
        refine hc_iconst C dX8_passes_110 (v := 3) rfl ?_
        refine hc_iadd C dX8_passes_111 ?_
        refine hc_ialdN C (j := (48 + 5 * i + 3)) hy (show nI (48 + 5 * i) + nI 3 = nI (48 + 5 * i + 3) from nI_add _ _) (by omega) dX8_passes_112 ?_
        rw [hc_mf_s]
        refine hc_bipush C dX8_passes_113 (v := 12) rfl ?_
        refine hc_aload_n C dX8_passes_115 rfl rfl ?_
        refine hc_iload_n C dX8_passes_116 rfl rfl ?_
        refine hc_iconst C dX8_passes_117 (v := 1) rfl ?_
        refine hc_iadd C dX8_passes_118 ?_
        refine hc_ialdN C (j := (48 + 5 * i + 1)) hy (show nI (48 + 5 * i) + nI 1 = nI (48 + 5 * i + 1) from nI_add _ _) (by omega) dX8_passes_119 ?_
        rw [hc_mf_s]
        refine hc_imul C dX8_passes_120 ?_
        refine hc_iadd C dX8_passes_121 ?_
        refine hc_icmp_lt C (tgt := 129) dX8_passes_122 (by decide) (fun c_122 => ?_) (fun c_122 => ?_)
        · refine hc_iconst C dX8_passes_129 (v := 0) rfl ?_
          refine hJ _ ?_
          symm
          first
            | (refine hb_t ⟨?_, ?_, ?_⟩; exact c_92; exact c_102; exact c_122)
            | (refine hb_f (fun z => z.2.2 ?_); exact c_122)
            | (refine hb_f (fun z => ?_); exact c_102 z.2.1)
            | (refine hb_f (fun z => z.1 ?_); exact c_92)
        · refine hc_iconst C dX8_passes_125 (v := 1) rfl ?_
          refine hc_goto C (tgt := 130) dX8_passes_126 (by decide) ?_
          refine hJ _ ?_
          symm
          first
            | (refine hb_t ⟨?_, ?_, ?_⟩; exact c_92; exact c_102; exact c_122)
            | (refine hb_f (fun z => z.2.2 ?_); exact c_122)
            | (refine hb_f (fun z => ?_); exact c_102 z.2.1)
            | (refine hb_f (fun z => z.1 ?_); exact c_92)

set_option maxRecDepth 100000 in
set_option maxHeartbeats 4000000 in
theorem c_X8_passes {l : Launch} {G : hc_Geo} (hG : hc_ok G) {M : hc_Mem} {k E D : Nat}  (hy : hc_lay[k]? = some (.inl (false, 68))) (hE : M k 4 = nI E) (hE6 : E ≤ 6) (hD : M k 5 = nI D) (hD4 : D ≤ 4) : hc_M l G yX8_passes cX8_passes 5 none 5 [.ref (hc_ad G k)] M (hc_pv (fun M' => hc_mf M k (rPass (M k) E D) = M')) := by
  refine hc_M.of hG (by decide) [some (.ref (hc_ad G k)), none, none, none, none] rfl (Nat.le_of_ble_eq_true rfl) ?_
  intro p e s m args below meth c C
  refine hc_aload_n C dX8_passes_0 rfl rfl ?_
  refine hc_cS1i C ms_X8_164 (c_X8_goes C.ok hy hE hE6) (Nat.le_of_ble_eq_true rfl) (hc_rr_rm (by decide)) ⟨Nat.zero_le _, Nat.zero_le _⟩ dX8_passes_1 (fun r_1 M_1 h_1 => ?_)
  obtain ⟨rfl, rfl⟩ := h_1
  refine hc_istore_n1 C dX8_passes_4 rfl (by decide) rfl ?_
  refine hc_iconst C dX8_passes_5 (v := 0) rfl ?_
  refine hc_istore_n2 C dX8_passes_6 rfl (by decide) rfl ?_
  refine hc_mem (M2 := hc_mf M k (rP1 (M k) (rGo (M k) E) 0)) (show M = hc_mf M k (M k) from hc_mf_id.symm) ?_
  refine lp_pass1 C hy hE hE6 ?_ E 0 (by omega)
  refine hc_aload_n C dX8_passes_55 rfl rfl ?_
  refine hc_iconst C dX8_passes_56 (v := 3) rfl ?_
  refine hc_dup2 C dX8_passes_57 rfl rfl ?_
  refine hc_ialdN C (j := 3) hy rfl (by decide) dX8_passes_58 ?_
  rw [hc_mf_s]
  refine hc_iload_n C dX8_passes_59 rfl rfl ?_
  refine hc_iadd C dX8_passes_60 ?_
  refine hc_iastN C (j := 3) hy rfl (by decide) dX8_passes_61 ?_
  rw [hc_ms_mf]
  refine hc_aload_n C dX8_passes_62 rfl rfl ?_
  refine hc_iconst C dX8_passes_63 (v := 2) rfl ?_
  refine hc_dup2 C dX8_passes_64 rfl rfl ?_
  refine hc_ialdN C (j := 2) hy rfl (by decide) dX8_passes_65 ?_
  rw [hc_mf_s]
  refine hc_iconst C dX8_passes_66 (v := 1) rfl ?_
  refine hc_iadd C dX8_passes_67 ?_
  refine hc_iastN C (j := 2) hy rfl (by decide) dX8_passes_68 ?_
  rw [hc_ms_mf]
  refine hc_iconst C dX8_passes_69 (v := 0) rfl ?_
  refine hc_istore_n2 C dX8_passes_70 rfl (by decide) rfl ?_
  refine lp_pass3 (f0 := rP2 (rP1 (M k) (rGo (M k) E) E) (rGo (M k) E)) C hy ?_ hD4 (fun v3 v4 => ?_) D 0 (by omega) none none
  · unfold rP2 upd
    rw [if_neg (by decide), if_neg (by decide), rP1_o _ (fun x _ => by omega)]
    exact hD
  · exact hc_vret C rfl dX8_passes_186 rfl

set_option maxRecDepth 100000 in
set_option maxHeartbeats 4000000 in
theorem lp_partsIn {G : hc_Geo} {p : Program} {l : Launch} {e : Env} {d : Nat} {s : State} {m : MethodId} {args : Array Value} {below : List Frame} {meth : Method} {c : Code} {Q : State → Prop} (C : hc_Cx G hc_lay cX8_partsIn 3 (some .int) yX8_partsIn.cls p s m args meth c) {M : hc_Mem} {E D n : Nat} (hd : 5 < d) (hn : n ≤ 99) (hE : M 59 4 = nI E) (hE6 : E ≤ 6) (hD : M 59 5 = nI D) (hD4 : D ≤ 4) 
    (kk : hc_W G hc_lay p l e (hc_rm d) s m args below meth c 3 0 0 Q 20 [some (.ref (hc_ad G 48)), some (.int (nI n)), some (.int (nI n))] [] (hc_mf M 59 (rIter E D n (M 59)))) :
    ∀ (t : Nat) (i : Nat), i + t = n → hc_W G hc_lay p l e (hc_rm d) s m args below meth c 3 0 0 Q 2 [some (.ref (hc_ad G 48)), some (.int (nI n)), some (.int (nI i))] [] (hc_mf M 59 (rIter E D i (M 59))) := by
  intro t
  induction t with
  | zero =>
    intro i hi
    refine hc_iload_n C dX8_partsIn_2 rfl rfl ?_
    refine hc_iload_n C dX8_partsIn_3 rfl rfl ?_
    refine hc_icmp_ge C (tgt := 20) dX8_partsIn_4 (by decide) (fun c_4 => ?_) (fun c_4 => ?_)
    rotate_left
    · exact absurd (nI_le (show n ≤ i by omega) (by omega)) c_4
    rw [show i = n by omega]
    exact kk
  | succ t ih =>
    intro i hi
    refine hc_iload_n C dX8_partsIn_2 rfl rfl ?_
    refine hc_iload_n C dX8_partsIn_3 rfl rfl ?_
    refine hc_icmp_ge C (tgt := 20) dX8_partsIn_4 (by decide) (fun c_4 => ?_) (fun c_4 => ?_)
    · exact absurd c_4 (nI_ge (show i < n by omega) (by omega))
    refine hc_aload_n C dX8_partsIn_7 rfl rfl ?_
    refine hc_getR C fl_X8_41 rfl rfl dX8_partsIn_8 ?_
    refine hc_cS1v C ms_X8_167 (c_X8_passes (E := E) (D := D) C.ok rfl (by rw [hc_mf_s, rIter_45 (Or.inl rfl)]; exact hE) hE6 (by rw [hc_mf_s, rIter_45 (Or.inr (Or.inl rfl))]; exact hD) hD4) (Nat.le_of_ble_eq_true rfl) (hc_rr_rm hd) ⟨Nat.zero_le _, Nat.zero_le _⟩ dX8_partsIn_11 (fun M_11 h_11 => ?_)
    obtain rfl := h_11
    refine hc_mem (M2 := (hc_mf M 59 (rIter E D (i + 1) (M 59)))) (by rw [hc_mf_s, hc_mf_mf]; rfl) ?_
    refine hc_iinc2 C (v := nI (i + 1)) dX8_partsIn_14 (by decide) rfl rfl (nI_1 i) ?_
    refine hc_goto C (tgt := 2) dX8_partsIn_17 (by decide) ?_
    exact ih (i + 1) (by omega)

set_option maxRecDepth 100000 in
set_option maxHeartbeats 4000000 in
theorem c_X8_partsIn {l : Launch} {G : hc_Geo} (hG : hc_ok G) {M : hc_Mem} {E D n : Nat}  (hn : n ≤ 99) (hE : M 59 4 = nI E) (hE6 : E ≤ 6) (hD : M 59 5 = nI D) (hD4 : D ≤ 4) : hc_M l G yX8_partsIn cX8_partsIn 3 (some .int) 6 [.ref (hc_ad G 48), .int (nI n)] M (hc_pi (fun z M' => rIter E D n (M 59) 3 = z ∧ (hc_mf M 59 (rIter E D n (M 59))) = M')) := by
  refine hc_M.of hG (by decide) [some (.ref (hc_ad G 48)), some (.int (nI n)), none] rfl (Nat.le_of_ble_eq_true rfl) ?_
  intro p e s m args below meth c C
  refine hc_iconst C dX8_partsIn_0 (v := 0) rfl ?_
  refine hc_istore_n2 C dX8_partsIn_1 rfl (by decide) rfl ?_
  refine hc_mem (M2 := (hc_mf M 59 (rIter E D 0 (M 59)))) (show M = hc_mf M 59 (M 59) from hc_mf_id.symm) ?_
  refine lp_partsIn C (by decide) hn hE hE6 hD hD4 ?_ n 0 (by omega)
  refine hc_aload_n C dX8_partsIn_20 rfl rfl ?_
  refine hc_getR C fl_X8_41 rfl rfl dX8_partsIn_21 ?_
  refine hc_iconst C dX8_partsIn_24 (v := 3) rfl ?_
  refine hc_ialdN C (j := 3) rfl rfl (by decide) dX8_partsIn_25 ?_
  refine hc_iret C rfl dX8_partsIn_26 ?_
  exact ⟨rfl, rfl⟩

set_option maxRecDepth 100000 in
set_option maxHeartbeats 4000000 in
theorem lp_notes {G : hc_Geo} {p : Program} {l : Launch} {e : Env} {d : Nat} {s : State} {m : MethodId} {args : Array Value} {below : List Frame} {meth : Method} {c : Code} {Q : State → Prop} (C : hc_Cx G hc_lay cX8_notes 2 none yX8_notes.cls p s m args meth c) {M : hc_Mem} 
    (kk : hc_W G hc_lay p l e (hc_rm d) s m args below meth c 2 0 0 Q 39 [some (.ref (hc_ad G 48)), some (.int (nI 1564))] [] (hc_mf M 56 (fun j => if j < 1564 then M 56 (j + 68) else M 56 j))) :
    ∀ (t : Nat) (i : Nat), i + t = 1564 → hc_W G hc_lay p l e (hc_rm d) s m args below meth c 2 0 0 Q 11 [some (.ref (hc_ad G 48)), some (.int (nI i))] [] (hc_mf M 56 (fun j => if j < i then M 56 (j + 68) else M 56 j)) := by
  intro t
  induction t with
  | zero =>
    intro i hi
    refine hc_iload_n C dX8_notes_11 rfl rfl ?_
    refine hc_sipush C dX8_notes_12 (v := 1564) rfl ?_
    refine hc_icmp_ge C (tgt := 39) dX8_notes_15 (by decide) (fun c_15 => ?_) (fun c_15 => ?_)
    rotate_left
    · exact absurd (show nI 1564 ≤ nI i from nI_le (by omega) (by omega)) c_15
    rw [show i = 1564 by omega]
    exact kk
  | succ t ih =>
    intro i hi
    refine hc_iload_n C dX8_notes_11 rfl rfl ?_
    refine hc_sipush C dX8_notes_12 (v := 1564) rfl ?_
    refine hc_icmp_ge C (tgt := 39) dX8_notes_15 (by decide) (fun c_15 => ?_) (fun c_15 => ?_)
    · exact absurd (show nI 1564 ≤ nI i from c_15) (nI_ge (show i < 1564 by omega) (by omega))
    refine hc_aload_n C dX8_notes_18 rfl rfl ?_
    refine hc_getR C fl_X8_31 rfl rfl dX8_notes_19 ?_
    refine hc_iload_n C dX8_notes_22 rfl rfl ?_
    refine hc_aload_n C dX8_notes_23 rfl rfl ?_
    refine hc_getR C fl_X8_31 rfl rfl dX8_notes_24 ?_
    refine hc_iload_n C dX8_notes_27 rfl rfl ?_
    refine hc_bipush C dX8_notes_28 (v := 68) rfl ?_
    refine hc_iadd C dX8_notes_30 ?_
    refine hc_ialdN C (j := (i + 68)) rfl (show nI i + nI 68 = nI (i + 68) from nI_add _ _) (by omega) dX8_notes_31 ?_
    refine hc_top (v := M 56 (i + 68)) (show (if i + 68 < i then M 56 (i + 68 + 68) else M 56 (i + 68)) = _ from if_neg (by omega)) ?_
    refine hc_iastN C (j := i) rfl rfl (by omega) dX8_notes_32 ?_
    rw [hc_ms_mf]
    refine hc_mem (M2 := (hc_mf M 56 (fun j => if j < (i + 1) then M 56 (j + 68) else M 56 j))) (congrArg (hc_mf M 56) (upd_lt (f := fun j => M 56 (j + 68)))) ?_
    refine hc_iinc1 C (v := nI (i + 1)) dX8_notes_33 (by decide) rfl rfl (nI_1 i) ?_
    refine hc_goto C (tgt := 11) dX8_notes_36 (by decide) ?_
    exact ih (i + 1) (by omega)

set_option maxRecDepth 100000 in
set_option maxHeartbeats 4000000 in
theorem c_X8_notes_a {l : Launch} {G : hc_Geo} (hG : hc_ok G) {M : hc_Mem} {a : Nat}  (ha : M 48 16 = nI a) (ha24 : a < 24) : hc_M l G yX8_notes cX8_notes 2 none 2 [.ref (hc_ad G 48)] M (hc_pv (fun M' => rN1 M a = M')) := by
  refine hc_M.of hG (by decide) [some (.ref (hc_ad G 48)), none] rfl (Nat.le_of_ble_eq_true rfl) ?_
  intro p e s m args below meth c C
  refine hc_aload_n C dX8_notes_0 rfl rfl ?_
  refine hc_getI C fl_X8_138 rfl rfl dX8_notes_1 ?_
  refine hc_bipush C dX8_notes_4 (v := 24) rfl ?_
  refine hc_icmp_ne C (tgt := 49) dX8_notes_6 (by decide) (fun c_6 => ?_) (fun c_6 => ?_)
  rotate_left
  · exact absurd (show nI a = nI 24 from ha ▸ c_6) (fun q => by have := (nI_eq (by omega) (by decide)).mp q; omega)
  refine hc_aload_n C dX8_notes_49 rfl rfl ?_
  refine hc_getR C fl_X8_25 rfl rfl dX8_notes_50 ?_
  refine hc_iconst C dX8_notes_53 (v := 0) rfl ?_
  refine hc_aload_n C dX8_notes_54 rfl rfl ?_
  refine hc_getR C fl_X8_31 rfl rfl dX8_notes_55 ?_
  refine hc_bipush C dX8_notes_58 (v := 68) rfl ?_
  refine hc_aload_n C dX8_notes_60 rfl rfl ?_
  refine hc_getI C fl_X8_138 rfl rfl dX8_notes_61 ?_
  refine hc_imul C dX8_notes_64 ?_
  refine hc_top (v := nI (68 * a)) (show (68 : Int32) * M 48 16 = _ by rw [ha, show (68 : Int32) = nI 68 from rfl, pk_mul]) ?_
  refine hc_cS4v C ms_X8_134 (c_X8_copies C.ok rfl rfl (by decide) (by decide) (by omega)) (Nat.le_of_ble_eq_true rfl) (hc_rr_rm (by decide)) ⟨Nat.zero_le _, Nat.zero_le _⟩ dX8_notes_65 (fun M_65 h_65 => ?_)
  obtain rfl := h_65
  refine hc_aload_n C dX8_notes_68 rfl rfl ?_
  refine hc_dup C dX8_notes_69 rfl ?_
  refine hc_getI C fl_X8_138 rfl rfl dX8_notes_70 ?_
  refine hc_iconst C dX8_notes_73 (v := 1) rfl ?_
  refine hc_iadd C dX8_notes_74 ?_
  refine hc_top (v := nI (a + 1)) (show M 48 16 + 1 = _ by rw [ha, nI_1]) ?_
  refine hc_putI C fl_X8_138 pl_6_16 rfl rfl dX8_notes_75 ?_
  refine hc_vret C rfl dX8_notes_78 ?_
  rfl

set_option maxRecDepth 100000 in
set_option maxHeartbeats 4000000 in
theorem c_X8_notes_b {l : Launch} {G : hc_Geo} (hG : hc_ok G) {M : hc_Mem}  (ha : M 48 16 = 24) : hc_M l G yX8_notes cX8_notes 2 none 2 [.ref (hc_ad G 48)] M (hc_pv (fun M' => rN1 (rSh M) 23 = M')) := by
  refine hc_M.of hG (by decide) [some (.ref (hc_ad G 48)), none] rfl (Nat.le_of_ble_eq_true rfl) ?_
  intro p e s m args below meth c C
  refine hc_aload_n C dX8_notes_0 rfl rfl ?_
  refine hc_getI C fl_X8_138 rfl rfl dX8_notes_1 ?_
  refine hc_bipush C dX8_notes_4 (v := 24) rfl ?_
  refine hc_icmp_ne C (tgt := 49) dX8_notes_6 (by decide) (fun c_6 => ?_) (fun c_6 => ?_)
  · exact absurd ha c_6
  refine hc_iconst C dX8_notes_9 (v := 0) rfl ?_
  refine hc_istore_n1 C dX8_notes_10 rfl (by decide) rfl ?_
  refine hc_mem (M2 := (hc_mf M 56 (fun j => if j < 0 then M 56 (j + 68) else M 56 j))) (show M = _ from by funext q; by_cases hq : q = 56; { subst hq; rw [hc_mf_s]; funext x; rw [if_neg (by omega)] }; { rw [hc_mf_n hq] }) ?_
  refine lp_notes C ?_ 1564 0 rfl
  refine hc_aload_n C dX8_notes_39 rfl rfl ?_
  refine hc_dup C dX8_notes_40 rfl ?_
  refine hc_getI C fl_X8_138 rfl rfl dX8_notes_41 ?_
  refine hc_iconst C dX8_notes_44 (v := 1) rfl ?_
  refine hc_isub C dX8_notes_45 ?_
  refine hc_top (v := nI 23) (show M 48 16 - 1 = _ by rw [ha]; decide) ?_
  refine hc_putI C fl_X8_138 pl_6_16 rfl rfl dX8_notes_46 ?_
  refine hc_mem (M2 := rSh M) rfl ?_
  refine hc_aload_n C dX8_notes_49 rfl rfl ?_
  refine hc_getR C fl_X8_25 rfl rfl dX8_notes_50 ?_
  refine hc_iconst C dX8_notes_53 (v := 0) rfl ?_
  refine hc_aload_n C dX8_notes_54 rfl rfl ?_
  refine hc_getR C fl_X8_31 rfl rfl dX8_notes_55 ?_
  refine hc_bipush C dX8_notes_58 (v := 68) rfl ?_
  refine hc_aload_n C dX8_notes_60 rfl rfl ?_
  refine hc_getI C fl_X8_138 rfl rfl dX8_notes_61 ?_
  refine hc_imul C dX8_notes_64 ?_
  refine hc_top (v := nI (68 * 23)) (show (68 : Int32) * nI 23 = nI (68 * 23) by decide) ?_
  refine hc_cS4v C ms_X8_134 (c_X8_copies C.ok rfl rfl (by decide) (by decide) (by decide)) (Nat.le_of_ble_eq_true rfl) (hc_rr_rm (by decide)) ⟨Nat.zero_le _, Nat.zero_le _⟩ dX8_notes_65 (fun M_65 h_65 => ?_)
  obtain rfl := h_65
  refine hc_aload_n C dX8_notes_68 rfl rfl ?_
  refine hc_dup C dX8_notes_69 rfl ?_
  refine hc_getI C fl_X8_138 rfl rfl dX8_notes_70 ?_
  refine hc_iconst C dX8_notes_73 (v := 1) rfl ?_
  refine hc_iadd C dX8_notes_74 ?_
  refine hc_top (v := nI 24) (show nI 23 + 1 = nI 24 by decide) ?_
  refine hc_putI C fl_X8_138 pl_6_16 rfl rfl dX8_notes_75 ?_
  refine hc_vret C rfl dX8_notes_78 ?_
  rfl

theorem c_X8_notes {l : Launch} {G : hc_Geo} (hG : hc_ok G) {M : hc_Mem} {a : Nat} (ha : M 48 16 = nI a) (ha24 : a ≤ 24) : hc_M l G yX8_notes cX8_notes 2 none 2 [.ref (hc_ad G 48)] M (hc_pv (fun M' => rNo M a = M')) := by
  by_cases h : a < 24
  · rw [show rNo M a = rN1 M a from if_pos h]
    exact c_X8_notes_a hG ha h
  · rw [show rNo M a = rN1 (rSh M) 23 from if_neg h]
    exact c_X8_notes_b hG (by rw [ha, show a = 24 by omega]; rfl)
