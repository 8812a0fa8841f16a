theorem nI_surj (x : Int32) : ∃ a, x = nI a := ⟨x.toBitVec.toNat, by
  apply Int32.toBitVec_inj.mp
  show x.toBitVec = BitVec.ofNat 32 x.toBitVec.toNat
  rw [BitVec.ofNat_toNat, BitVec.setWidth_eq]⟩
/-- the reader stands within the tape -/
def rOk (n : Nat) (r : rPs) : Prop := r.2.2.1 ≤ n ∧ r.2.2.2.1 ≤ n
theorem rAdv_ok {T : Nat → Int32} {n : Nat} {r : rPs} (h : rOk n r) : rOk n (rAdv T n r) := by
  refine ⟨rAdv_ps h.1, ?_⟩
  unfold rAdv
  split
  · exact h.1
  · exact h.1
theorem rAdv_fp {T : Nat → Int32} {n : Nat} {r : rPs} : (rAdv T n r).2.1 = r.2.1 := by
  unfold rAdv
  split
  · rfl
  · rfl
theorem rTk_ok {T : Nat → Int32} {n : Nat} {b k : Int32} {r : rPs} (h : rOk n r) : rOk n (rTk T n b k r).2 := by
  unfold rTk
  split
  · split
    · exact h
    · exact rAdv_ok h
  · exact h
theorem rTk_w {T : Nat → Int32} {n : Nat} {b k : Int32} {r : rPs} (h : rOk n r) (hn : n ≤ 120) (hw : ¬ 0 ≤ (rTk T n b k r).2.2.1) : ¬ 0 ≤ r.2.1 ∧ ¬ b = 0 := by
  revert hw
  unfold rTk
  split
  · rename_i h1
    split
    · intro hw
      exact absurd (nI_pos' (by have := h.2; omega)) hw
    · rename_i h2
      intro _
      exact ⟨h1, h2⟩
  · rename_i h1
    intro hw
    exact absurd hw h1
theorem rFg_ok {T : Nat → Int32} {n : Nat} {lo hi : Int32} {r : rPs} (h : rOk n r) : rOk n (rFg T n lo hi r).2 := by
  unfold rFg
  split
  · exact rTk_ok h
  · exact rTk_ok h
theorem rFg_w {T : Nat → Int32} {n : Nat} {lo hi : Int32} {r : rPs} (h : rOk n r) (hn : n ≤ 120) (hw : ¬ 0 ≤ (rFg T n lo hi r).2.2.1) : ¬ 0 ≤ r.2.1 := by
  revert hw
  unfold rFg
  split
  · intro hw; exact (rTk_w h hn hw).1
  · intro hw; exact (rTk_w h hn hw).1
theorem rNx_ok {T : Nat → Int32} {n : Nat} {lo hi : Int32} {r : rPs} (h : rOk n r) : rOk n (rNx T n lo hi r).2 := rFg_ok (rTk_ok h)
theorem rNx_w {T : Nat → Int32} {n : Nat} {lo hi : Int32} {r : rPs} (h : rOk n r) (hn : n ≤ 120) (hw : ¬ 0 ≤ (rNx T n lo hi r).2.2.1) : ¬ 0 ≤ r.2.1 := (rTk_w h hn (rFg_w (rTk_ok h) hn hw)).1
theorem rE1_ok {T : Nat → Int32} {n c : Nat} {r : rPs} (h : rOk n r) : rOk n (rE1 T n c r) := rTk_ok h
theorem rE2_ok {T : Nat → Int32} {n c : Nat} {r : rPs} (h : rOk n r) : rOk n (rE2 T n c r).2 := rFg_ok (rE1_ok h)
theorem rE3_ok {T : Nat → Int32} {n c : Nat} {r : rPs} (h : rOk n r) : rOk n (rE3 T n c r).2 := rNx_ok (rE2_ok h)
theorem rE4_ok {T : Nat → Int32} {n c : Nat} {r : rPs} (h : rOk n r) : rOk n (rE4 T n c r).2 := rNx_ok (rE3_ok h)
theorem rE5_ok {T : Nat → Int32} {n c : Nat} {r : rPs} (h : rOk n r) : rOk n (rE5 T n c r).2 := rNx_ok (rE4_ok h)
theorem rE6_ok {T : Nat → Int32} {n c : Nat} {r : rPs} (h : rOk n r) : rOk n (rE6 T n c r) := rTk_ok (rE5_ok h)
theorem rE6_w {T : Nat → Int32} {n c : Nat} {r : rPs} (h : rOk n r) (hn : n ≤ 120) (hw : ¬ 0 ≤ (rE6 T n c r).2.1) : ¬ (6 : Int32) ≤ nI c := by
  unfold rE6 at hw
  have h5 := (rTk_w (rE5_ok h) hn hw).1
  unfold rE5 at h5
  have h4 := rNx_w (rE4_ok h) hn h5
  unfold rE4 at h4
  have h3 := rNx_w (rE3_ok h) hn h4
  unfold rE3 at h3
  have h2 := rNx_w (rE2_ok h) hn h3
  unfold rE2 at h2
  have h1 := rFg_w (rE1_ok h) hn h2
  unfold rE1 at h1
  exact hb_nz.mp (rTk_w h hn h1).2
theorem rD1_ok {T : Nat → Int32} {n c : Nat} {r : rPs} (h : rOk n r) : rOk n (rD1 T n c r) := rTk_ok h
theorem rD2_ok {T : Nat → Int32} {n c : Nat} {r : rPs} (h : rOk n r) : rOk n (rD2 T n c r).2 := rFg_ok (rD1_ok h)
theorem rD3_ok {T : Nat → Int32} {n c : Nat} {r : rPs} (h : rOk n r) : rOk n (rD3 T n c r).2 := rNx_ok (rD2_ok h)
theorem rD4_ok {T : Nat → Int32} {n c : Nat} {r : rPs} (h : rOk n r) : rOk n (rD4 T n c r).2 := rNx_ok (rD3_ok h)
theorem rD5_ok {T : Nat → Int32} {n c : Nat} {r : rPs} (h : rOk n r) : rOk n (rD5 T n c r) := rTk_ok (rD4_ok h)
theorem rD5_w {T : Nat → Int32} {n c : Nat} {r : rPs} (h : rOk n r) (hn : n ≤ 120) (hw : ¬ 0 ≤ (rD5 T n c r).2.1) : ¬ (4 : Int32) ≤ nI c := by
  unfold rD5 at hw
  have h4 := (rTk_w (rD4_ok h) hn hw).1
  unfold rD4 at h4
  have h3 := rNx_w (rD3_ok h) hn h4
  unfold rD3 at h3
  have h2 := rNx_w (rD2_ok h) hn h3
  unfold rD2 at h2
  have h1 := rFg_w (rD1_ok h) hn h2
  unfold rD1 at h1
  exact hb_nz.mp (rTk_w h hn h1).2
