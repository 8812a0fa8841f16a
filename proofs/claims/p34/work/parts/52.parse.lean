/-! THE TWO READERS: bytes against tokens -/
def rTk0 (T : Nat → Int32) (n a : Nat) : Nat × Int32 × Int32 :=
  if rIsF (rBt T n a) then ((rDg T n a (n - a) a 0).1, (if 3 ≤ nI (rDg T n a (n - a) a 0).1 - nI a then 5 else 2), (rDg T n a (n - a) a 0).2)
  else ((if rKd (rBt T n a) = 0 then a else a + 1), rKd (rBt T n a), rBt T n a)
def rWell (T : Nat → Int32) (n : Nat) (k0 : Int32) (a : Nat) : rPs := (k0, -1, (rTk0 T n a).1, a, (rTk0 T n a).2.1, (rTk0 T n a).2.2)
theorem rAdv_well {T : Nat → Int32} {n : Nat} {k0 : Int32} {a b : Nat} {x y : Int32} : rAdv T n (k0, -1, a, b, x, y) = rWell T n k0 a := by
  unfold rAdv rWell rTk0
  show (if rIsF (rBt T n a) then _ else _) = _
  split
  · rfl
  · rfl
/-- the class's reader and the reference's stand alike -/
def PR (T : Nat → Int32) (n : Nat) (k0 : Int32) (st : cSt) (r : rPs) : Prop := st.2.1 ≤ n ∧ ((st.1 = 0 ∧ r = rWell T n k0 st.2.1) ∨ (1 ≤ st.1 ∧ st.1 ≤ 3 ∧ r.1 = nI st.1 ∧ r.2.1 = nI st.2.1))
def tOk (B T : Nat → Int32) (n : Nat) : Prop := n ≤ 120 ∧ ∀ i, i < n → B i = T i ∧ ∃ b, b ≤ 255 ∧ T i = nI b
theorem rBt_in {T : Nat → Int32} {n a : Nat} (h : a < n) : rBt T n a = T a := if_pos h
theorem rBt_out {T : Nat → Int32} {n a : Nat} (h : n ≤ a) : rBt T n a = -1 := if_neg (by omega)
theorem isF_m1 : ¬ rIsF (-1) := by decide
/-- figures -/
theorem dg_end {B T : Nat → Int32} {n s0 : Nat} (h : tOk B T n) : ∀ (t a : Nat) (v : Int32), a + t = n → (rDg T n s0 t a v).1 = a + cFig B t a := by
  intro t
  induction t with
  | zero => intro a v _; rfl
  | succ t ih =>
    intro a v hat
    unfold rDg cFig
    rw [rBt_in (by omega), ← (h.2 a (by omega)).1]
    by_cases hd : rIsF (B a)
    · rw [if_pos hd, if_pos (show cDig (B a) from hd), ih (a + 1) _ (by omega)]; omega
    · rw [if_neg hd, if_neg (show ¬ cDig (B a) from hd)]
      rfl
theorem dg_val {B T : Nat → Int32} {n s0 : Nat} (h : tOk B T n) : ∀ (t d : Nat) (v : Int32), s0 + d + t = n → d + cFig B t (s0 + d) ≤ 2 → (rDg T n s0 t (s0 + d) v).2 = cVal B (cFig B t (s0 + d)) (s0 + d) v := by
  intro t
  induction t with
  | zero => intro d v _ _; rfl
  | succ t ih =>
    intro d v hat hf
    have hT := rBt_in (T := T) (show s0 + d < n by omega)
    have hB := (h.2 (s0 + d) (by omega)).1
    unfold rDg
    unfold cFig at hf ⊢
    rw [hT, ← hB]
    by_cases hd : rIsF (B (s0 + d))
    · rw [if_pos (show cDig (B (s0 + d)) from hd)] at hf ⊢
      rw [if_pos hd, if_neg]
      · have k := ih (d + 1) (10 * v + B (s0 + d) - 48) (by omega) (by rw [← Nat.add_assoc]; omega)
        rw [← Nat.add_assoc] at k
        exact k
      · rw [pk_sub (by omega), show (2 : Int32) = nI 2 from rfl, nI_leI (by decide) (by have := h.1; omega)]
        omega
    · rw [if_neg hd, if_neg (show ¬ cDig (B (s0 + d)) from hd)]
      rfl
theorem cFig_s {B T : Nat → Int32} {n a : Nat} (h : tOk B T n) (hF : rIsF (rBt T n a)) : a < n ∧ 1 ≤ cFig B (n - a) a := by
  rcases Nat.lt_or_ge a n with q | q
  · refine ⟨q, ?_⟩
    obtain ⟨t, ht⟩ : ∃ t, n - a = t + 1 := ⟨n - a - 1, by omega⟩
    rw [rBt_in q, ← (h.2 a q).1] at hF
    rw [ht]
    unfold cFig
    rw [if_pos (show cDig (B a) from hF)]
    omega
  · rw [rBt_out q] at hF
    exact absurd hF isF_m1
theorem cFig_0 {B T : Nat → Int32} {n a : Nat} (h : tOk B T n) (hF : ¬ rIsF (rBt T n a)) : cFig B (n - a) a = 0 := by
  rcases Nat.lt_or_ge a n with q | q
  · obtain ⟨t, ht⟩ : ∃ t, n - a = t + 1 := ⟨n - a - 1, by omega⟩
    rw [rBt_in q, ← (h.2 a q).1] at hF
    rw [ht]
    unfold cFig
    rw [if_neg (show ¬ cDig (B a) from hF)]
  · rw [show n - a = 0 by omega]; rfl
theorem rKd_ne2 (b : Int32) : ¬ rKd b = 2 := by unfold rKd; repeat' split
                                                all_goals decide
/-- a NUMBER -/
theorem tk_num {B T : Nat → Int32} {n a : Nat} (h : tOk B T n) (ha : a ≤ n) : ((rTk0 T n a).2.1 = 2 ↔ ¬ (cFig B (n - a) a = 0 ∨ 2 < cFig B (n - a) a)) ∧ (¬ (cFig B (n - a) a = 0 ∨ 2 < cFig B (n - a) a) → (rTk0 T n a).1 = a + cFig B (n - a) a ∧ (rTk0 T n a).2.2 = cVal B (cFig B (n - a) a) a 0) := by
  have hle := cFig_le B (n - a) a
  have hn := h.1
  by_cases hF : rIsF (rBt T n a)
  · obtain ⟨h1, h2⟩ := cFig_s h hF
    have e1 := dg_end (s0 := a) h (n - a) a 0 (by omega)
    unfold rTk0
    rw [if_pos hF]
    show ((if 3 ≤ nI (rDg T n a (n - a) a 0).1 - nI a then (5 : Int32) else 2) = 2 ↔ _) ∧ (_ → (rDg T n a (n - a) a 0).1 = _ ∧ (rDg T n a (n - a) a 0).2 = _)
    rw [e1, pk_sub (by omega), show a + cFig B (n - a) a - a = cFig B (n - a) a by omega, show (3 : Int32) = nI 3 from rfl]
    refine ⟨?_, fun w => ⟨rfl, dg_val (s0 := a) h (n - a) 0 0 (by omega) (show 0 + cFig B (n - a) a ≤ 2 by omega)⟩⟩
    by_cases h3 : 3 ≤ cFig B (n - a) a
    · rw [if_pos (nI_le h3 (by omega))]
      exact ⟨fun w => absurd w (by decide), fun w => absurd (Or.inr (by omega)) w⟩
    · rw [if_neg (fun w => h3 ((nI_leI (by decide) (by omega)).mp w))]
      exact ⟨fun _ => by omega, fun _ => rfl⟩
  · have h0 := cFig_0 h hF
    unfold rTk0
    rw [if_neg hF]
    exact ⟨⟨fun w => absurd w (rKd_ne2 _), fun w => absurd (Or.inl h0) w⟩, fun w => absurd (Or.inl h0) w⟩
theorem rTk_fault {T : Nat → Int32} {n : Nat} {b k : Int32} {r : rPs} (h : 0 ≤ r.2.1) : rTk T n b k r = (0, r) := by
  unfold rTk
  rw [if_neg (fun w => w h)]
theorem rFg_fault {T : Nat → Int32} {n : Nat} {lo hi : Int32} {r : rPs} (h : 0 ≤ r.2.1) : rFg T n lo hi r = (0, r) := by
  unfold rFg
  rw [if_neg (fun w => w.1 h), rTk_fault h]
theorem PR.fp {T : Nat → Int32} {n : Nat} {k0 : Int32} {st : cSt} {r : rPs} (h : PR T n k0 st r) (hn : n ≤ 120) (hs : ¬ st.1 = 0) : 0 ≤ r.2.1 := by
  obtain ⟨h1, h2⟩ := h
  rcases h2 with h2 | h2
  · exact absurd h2.1 hs
  · rw [h2.2.2.2]; exact nI_pos' (by omega)
theorem PR.wl {T : Nat → Int32} {n : Nat} {k0 : Int32} {st : cSt} {r : rPs} (h : PR T n k0 st r) (hs : st.1 = 0) : r = rWell T n k0 st.2.1 := by
  rcases h.2 with h2 | h2
  · exact h2.2
  · exact absurd h2.1 (by omega)
theorem well_fp {T : Nat → Int32} {n : Nat} {k0 : Int32} {a : Nat} : ¬ 0 ≤ (rWell T n k0 a).2.1 := by
  show ¬ (0 : Int32) ≤ -1
  decide
theorem take_no {T : Nat → Int32} {n a : Nat} {k0 k : Int32} : (rTk T n 0 k (rWell T n k0 a)).2 = (k, nI a, (rTk0 T n a).1, a, (rTk0 T n a).2.1, (rTk0 T n a).2.2) := by
  unfold rTk
  rw [if_pos well_fp, if_pos rfl]
  rfl
theorem take_yes {T : Nat → Int32} {n a : Nat} {b k0 k : Int32} (hb : ¬ b = 0) : rTk T n b k (rWell T n k0 a) = ((rTk0 T n a).2.2, rWell T n k0 (rTk0 T n a).1) := by
  unfold rTk
  rw [if_pos well_fp, if_neg hb]
  show ((rTk0 T n a).2.2, rAdv T n (k0, -1, (rTk0 T n a).1, a, _, _)) = _
  rw [rAdv_well]
theorem pr_num {B T : Nat → Int32} {n : Nat} {k0 lo hi : Int32} {st : cSt} {r : rPs} (h : tOk B T n) (hP : PR T n k0 st r) (hs : st.1 = 0) (ht : st.2.2.2.2.1 < 37) :
    PR T n k0 (cNum B n lo hi st) (rFg T n lo hi r).2 ∧ ((cNum B n lo hi st).1 = 0 → (cNum B n lo hi st).2.2 = (st.2.2.1, st.2.2.2.1, st.2.2.2.2.1 + 1, st.2.2.2.2.2.1, upd st.2.2.2.2.2.2 st.2.2.2.2.1 (rFg T n lo hi r).1) ∧ ¬ (rFg T n lo hi r).1 < lo ∧ ¬ hi < (rFg T n lo hi r).1) := by
  obtain ⟨fa, a, ea, dg, to, ki, nu⟩ := st
  have hr := hP.wl hs
  have ha : a ≤ n := hP.1
  simp only [] at hs ht hr
  subst hs
  subst hr
  obtain ⟨k1, k2⟩ := tk_num h ha
  have hle := cFig_le B (n - a) a
  unfold rFg cNum
  simp only []
  by_cases hc : cFig B (n - a) a = 0 ∨ 2 < cFig B (n - a) a
  · rw [if_pos hc, if_pos (show ¬ 0 ≤ (rWell T n k0 a).2.1 ∧ ¬ (rWell T n k0 a).2.2.2.2.1 = 2 from ⟨well_fp, fun w => absurd hc (k1.mp w)⟩), take_no]
    exact ⟨⟨ha, Or.inr ⟨show 1 ≤ 1 by decide, show 1 ≤ 3 by decide, rfl, rfl⟩⟩, fun w => absurd (show 1 = 0 from w) (by decide)⟩
  · have e2 : (rTk0 T n a).2.1 = 2 := k1.mpr hc
    obtain ⟨e1, e3⟩ := k2 hc
    rw [if_neg hc, if_neg (show ¬ (¬ 0 ≤ (rWell T n k0 a).2.1 ∧ ¬ (rWell T n k0 a).2.2.2.2.1 = 2) from fun w => w.2 e2)]
    show PR T n k0 _ (rTk T n (hb (¬ (rTk0 T n a).2.2 < lo ∧ ¬ hi < (rTk0 T n a).2.2)) 2 (rWell T n k0 a)).2 ∧ _
    by_cases hv : ¬ (rTk0 T n a).2.2 < lo ∧ ¬ hi < (rTk0 T n a).2.2
    · have hh : hb (¬ (rTk0 T n a).2.2 < lo ∧ ¬ hi < (rTk0 T n a).2.2) = 1 := hb_t hv
      rw [e3] at hv
      rw [if_neg (fun w => by rcases w with w | w | w; exact hv.1 w; exact hv.2 w; omega)]
      have e4 : rTk T n (hb (¬ (rTk0 T n a).2.2 < lo ∧ ¬ hi < (rTk0 T n a).2.2)) 2 (rWell T n k0 a) = ((rTk0 T n a).2.2, rWell T n k0 (rTk0 T n a).1) := take_yes (by rw [hh]; decide)
      show PR T n k0 _ (rTk T n (hb (¬ (rTk0 T n a).2.2 < lo ∧ ¬ hi < (rTk0 T n a).2.2)) 2 (rWell T n k0 a)).2 ∧ (_ → _ = (_, _, _, _, upd nu to (rTk T n (hb (¬ (rTk0 T n a).2.2 < lo ∧ ¬ hi < (rTk0 T n a).2.2)) 2 (rWell T n k0 a)).1) ∧ ¬ (rTk T n (hb (¬ (rTk0 T n a).2.2 < lo ∧ ¬ hi < (rTk0 T n a).2.2)) 2 (rWell T n k0 a)).1 < lo ∧ ¬ hi < (rTk T n (hb (¬ (rTk0 T n a).2.2 < lo ∧ ¬ hi < (rTk0 T n a).2.2)) 2 (rWell T n k0 a)).1)
      rw [e4, e1, e3]
      exact ⟨⟨by show a + cFig B (n - a) a ≤ n; omega, Or.inl ⟨rfl, rfl⟩⟩, fun _ => ⟨rfl, hv.1, hv.2⟩⟩
    · have hh : hb (¬ (rTk0 T n a).2.2 < lo ∧ ¬ hi < (rTk0 T n a).2.2) = 0 := hb_f hv
      rw [e3] at hv
      rw [if_pos (show cVal B (cFig B (n - a) a) a 0 < lo ∨ hi < cVal B (cFig B (n - a) a) a 0 ∨ 37 ≤ to from by
        by_cases q : cVal B (cFig B (n - a) a) a 0 < lo
        · exact Or.inl q
        · by_cases q2 : hi < cVal B (cFig B (n - a) a) a 0
          · exact Or.inr (Or.inl q2)
          · exact absurd ⟨q, q2⟩ hv), hh, take_no]
      exact ⟨⟨ha, Or.inr ⟨show 1 ≤ 2 by decide, show 2 ≤ 3 by decide, rfl, rfl⟩⟩, fun w => absurd (show 2 = 0 from w) (by decide)⟩
theorem kd_34 {T : Nat → Int32} {n a : Nat} {sg tk : Int32} (h : (sg = 44 ∧ tk = 3) ∨ (sg = 59 ∧ tk = 4)) : (rTk0 T n a).2.1 = tk ↔ rBt T n a = sg := by
  unfold rTk0
  by_cases hF : rIsF (rBt T n a)
  · rw [if_pos hF]
    show (if 3 ≤ nI (rDg T n a (n - a) a 0).1 - nI a then (5 : Int32) else 2) = tk ↔ _
    refine ⟨fun w => absurd w ?_, fun w => absurd hF ?_⟩
    · split
      · rcases h with h | h <;> rw [h.2] <;> decide
      · rcases h with h | h <;> rw [h.2] <;> decide
    · rw [w]
      rcases h with h | h <;> rw [h.1] <;> decide
  · rw [if_neg hF]
    show rKd (rBt T n a) = tk ↔ _
    generalize rBt T n a = b
    refine ⟨fun w => ?_, fun w => ?_⟩
    · revert w
      unfold rKd
      rcases h with h | h <;> rw [h.1, h.2]
      all_goals (split; rotate_left; (· exact fun w => absurd w (by decide)); split; (· exact fun w => absurd w (by decide)); split; (· first | (intro _; assumption) | exact fun w => absurd w (by decide)); split; (· first | (intro _; assumption) | exact fun w => absurd w (by decide)); exact fun w => absurd w (by decide))
    · rw [w]
      rcases h with h | h <;> rw [h.1, h.2] <;> decide
theorem pr_sign {B T : Nat → Int32} {n : Nat} {k0 sg tk : Int32} {st : cSt} {r : rPs} (h : tOk B T n) (hP : PR T n k0 st r) (hg : (sg = 44 ∧ tk = 3) ∨ (sg = 59 ∧ tk = 4)) :
    PR T n k0 (cSign B n sg st) (rTk T n (hb (r.2.2.2.2.1 = tk)) 1 r).2 ∧ ((cSign B n sg st).1 = 0 → st.1 = 0 ∧ (cSign B n sg st).2.2 = st.2.2) := by
  obtain ⟨fa, a, rs⟩ := st
  by_cases hs : fa = 0
  · have hr := hP.wl hs
    have ha : a ≤ n := hP.1
    simp only [] at hr
    subst hs
    subst hr
    have k := kd_34 (T := T) (n := n) (a := a) hg
    have ec : cSign B n sg (0, a, rs) = if cByte B n (0, a, rs) = sg then (0, a + 1, rs) else (1, a, rs) := by
      unfold cSign
      rw [if_pos (show ((0 : Nat), a, rs).1 = 0 from rfl)]
    rw [ec]
    show PR T n k0 _ (rTk T n (hb ((rTk0 T n a).2.1 = tk)) 1 (rWell T n k0 a)).2 ∧ _
    have hsg : ¬ sg = -1000000 ∧ ¬ sg = -1 := by rcases hg with q | q <;> rw [q.1] <;> decide
    have hcb : cByte B n (0, a, rs) = sg ↔ rBt T n a = sg := by
      unfold cByte
      rcases Nat.lt_or_ge a n with q | q
      · rw [if_pos ⟨rfl, q⟩, rBt_in q, (h.2 a q).1]
      · rw [if_neg (fun w => absurd (show a < n from w.2) (by omega)), rBt_out q]
        exact ⟨fun w => absurd w.symm hsg.1, fun w => absurd w.symm hsg.2⟩
    by_cases hb0 : rBt T n a = sg
    · rw [if_pos (hcb.mpr hb0)]
      have e4 : rTk T n (hb ((rTk0 T n a).2.1 = tk)) 1 (rWell T n k0 a) = ((rTk0 T n a).2.2, rWell T n k0 (rTk0 T n a).1) := take_yes (by rw [hb_t (k.mpr hb0)]; decide)
      rw [e4]
      have hF : ¬ rIsF (rBt T n a) := by rw [hb0]; rcases hg with q | q <;> rw [q.1] <;> decide
      have e1 : (rTk0 T n a).1 = a + 1 := by
        unfold rTk0
        rw [if_neg hF]
        show (if rKd (rBt T n a) = 0 then a else a + 1) = a + 1
        rw [hb0, if_neg]
        rcases hg with q | q <;> rw [q.1] <;> decide
      have haN : a < n := by
        rcases Nat.lt_or_ge a n with q | q
        · exact q
        · rw [rBt_out q] at hb0; exact absurd hb0.symm hsg.2
      rw [e1]
      exact ⟨⟨haN, Or.inl ⟨rfl, rfl⟩⟩, fun _ => ⟨rfl, rfl⟩⟩
    · rw [if_neg (fun w => hb0 (hcb.mp w)), hb_f (fun w => hb0 (k.mp w)), take_no]
      exact ⟨⟨ha, Or.inr ⟨show 1 ≤ 1 by decide, show 1 ≤ 3 by decide, rfl, rfl⟩⟩, fun w => absurd (show 1 = 0 from w) (by decide)⟩
  · have ec : cSign B n sg (fa, a, rs) = (fa, a, rs) := by
      unfold cSign
      rw [if_neg (show ¬ (fa, a, rs).1 = 0 from hs)]
    rw [ec, rTk_fault (hP.fp h.1 hs)]
    exact ⟨hP, fun w => absurd w hs⟩
/-- a NUMBER and its sign -/
def cStep (B : Nat → Int32) (n : Nat) (lo hi sg : Int32) (st : cSt) : cSt := if st.1 = 0 then cSign B n sg (cNum B n lo hi st) else st
theorem cNums_f {B : Nat → Int32} {n : Nat} {la lb : List Int32} {st : cSt} (h : ¬ st.1 = 0) : ∀ t i, cNums B n la lb t i st = st := by
  intro t i
  cases t with
  | zero => rfl
  | succ t => unfold cNums; rw [if_neg h]
theorem cNums_s {B : Nat → Int32} {n : Nat} {la lb : List Int32} {st : cSt} {t i : Nat} : cNums B n la lb (t + 1) i st = cNums B n la lb t (i + 1) (cStep B n (la.getD i 0) (lb.getD i 0) (if t = 0 then 59 else 44) st) := by
  unfold cStep
  by_cases h : st.1 = 0
  · rw [if_pos h]
    show (if st.1 = 0 then _ else st) = _
    rw [if_pos h]
  · rw [if_neg h, cNums_f h, cNums_f h]
theorem pr_step {B T : Nat → Int32} {n : Nat} {k0 lo hi sg tk : Int32} {st : cSt} {r : rPs} (h : tOk B T n) (hP : PR T n k0 st r) (hg : (sg = 44 ∧ tk = 3) ∨ (sg = 59 ∧ tk = 4)) (ht : st.1 = 0 → st.2.2.2.2.1 < 37) :
    PR T n k0 (cStep B n lo hi sg st) (rTk T n (hb ((rFg T n lo hi r).2.2.2.2.2.1 = tk)) 1 (rFg T n lo hi r).2).2 ∧ ((cStep B n lo hi sg st).1 = 0 → st.1 = 0 ∧ (cStep B n lo hi sg st).2.2 = (st.2.2.1, st.2.2.2.1, st.2.2.2.2.1 + 1, st.2.2.2.2.2.1, upd st.2.2.2.2.2.2 st.2.2.2.2.1 (rFg T n lo hi r).1) ∧ ¬ (rFg T n lo hi r).1 < lo ∧ ¬ hi < (rFg T n lo hi r).1) := by
  unfold cStep
  by_cases hs : st.1 = 0
  · rw [if_pos hs]
    obtain ⟨a1, a2⟩ := pr_num (lo := lo) (hi := hi) h hP hs (ht hs)
    obtain ⟨b1, b2⟩ := pr_sign h a1 hg
    refine ⟨b1, fun w => ?_⟩
    obtain ⟨c1, c2⟩ := b2 w
    obtain ⟨d1, d2⟩ := a2 c1
    exact ⟨hs, by rw [c2, d1], d2⟩
  · have hf := hP.fp h.1 hs
    rw [if_neg hs, rFg_fault hf, rTk_fault hf]
    exact ⟨hP, fun w => absurd w hs⟩
