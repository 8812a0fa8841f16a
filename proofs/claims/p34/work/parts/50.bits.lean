/-! SETS OF EARS, by bits -/
theorem and1_b (y : Int32) : y &&& 1 = 1 ↔ y.toBitVec.getLsbD 0 = true := by
  rw [pk_and y (m := 1) 1 (by decide), show (1 : Int32) = nI 1 from rfl, nI_eq (by omega) (by decide)]
  show _ ↔ y.toBitVec.toNat.testBit 0 = true
  rw [Nat.testBit_zero]
  simp
theorem smod_n : ∀ n, n < 32 → ((nI n &&& 31).toBitVec.smod 32).toNat = n := by decide +kernel
theorem hIn_b {x : Int32} {e : Nat} (h : e < 32) : hIn x (nI e) ↔ x.toBitVec.getLsbD e = true := by
  show (x >>> (nI e &&& 31)) &&& 1 = 1 ↔ _
  rw [and1_b, Int32.toBitVec_shiftRight]
  show (x.toBitVec.sshiftRight ((nI e &&& 31).toBitVec.smod 32).toNat).getLsbD 0 = true ↔ _
  rw [smod_n e h, BitVec.getLsbD_sshiftRight]
  simp [h]
theorem hIn_and {x y : Int32} {e : Nat} (h : e < 32) : hIn (x &&& y) (nI e) ↔ hIn x (nI e) ∧ hIn y (nI e) := by
  rw [hIn_b h, hIn_b h, hIn_b h, Int32.toBitVec_and, BitVec.getLsbD_and, Bool.and_eq_true]
theorem hIn_or {x y : Int32} {e : Nat} (h : e < 32) : hIn (x ||| y) (nI e) ↔ hIn x (nI e) ∨ hIn y (nI e) := by
  rw [hIn_b h, hIn_b h, hIn_b h, Int32.toBitVec_or, BitVec.getLsbD_or, Bool.or_eq_true]
theorem m1_b : ∀ i, i < 32 → (-1 : Int32).toBitVec.getLsbD i = true := by decide +kernel
theorem hIn_not {x : Int32} {e : Nat} (h : e < 32) : hIn (x ^^^ -1) (nI e) ↔ ¬ hIn x (nI e) := by
  rw [hIn_b h, hIn_b h, Int32.toBitVec_xor, BitVec.getLsbD_xor, m1_b e h]
  simp
theorem hIn_one : ∀ k, k < 32 → ∀ e, e < 32 → (hIn ((1 : Int32) <<< (nI k &&& 31)) (nI e) ↔ e = k) := by decide +kernel
theorem hIn_0 {e : Nat} (h : e < 32) : ¬ hIn 0 (nI e) := by
  rw [hIn_b h]
  simp
theorem set_nI {x : Int32} {E : Nat} (hE : E ≤ 6) (h : ∀ e, E ≤ e → e < 32 → ¬ hIn x (nI e)) : ∃ k, k < 2 ^ E ∧ x = nI k := by
  refine ⟨x.toBitVec.toNat, ?_, ?_⟩
  · refine Nat.lt_pow_two_of_testBit _ (fun i hi => ?_)
    rcases Nat.lt_or_ge i 32 with q | q
    · have := h i hi q
      rw [hIn_b q] at this
      simpa [BitVec.getLsbD] using this
    · exact BitVec.getLsbD_of_ge _ _ q
  · apply Int32.toBitVec_inj.mp
    show x.toBitVec = BitVec.ofNat 32 x.toBitVec.toNat
    rw [BitVec.ofNat_toNat, BitVec.setWidth_eq]
theorem hIn_nI {k e : Nat} (he : e < 32) (hk : k < 2 ^ 32) : hIn (nI k) (nI e) ↔ k.testBit e = true := by
  rw [hIn_b he]
  show (nI k).toBitVec.toNat.testBit e = true ↔ _
  rw [pk_tn hk]
theorem set_ext {x y : Int32} (h : ∀ e, e < 32 → (hIn x (nI e) ↔ hIn y (nI e))) : x = y := by
  apply Int32.toBitVec_inj.mp
  refine BitVec.eq_of_getLsbD_eq (fun i hi => ?_)
  have := h i hi
  rw [hIn_b hi, hIn_b hi] at this
  exact Bool.eq_iff_iff.mpr this
theorem hIn_nI_ge {k E e : Nat} (hk : k < 2 ^ E) (hE : E ≤ 6) (h : E ≤ e) (he : e < 32) : ¬ hIn (nI k) (nI e) := by
  have h1 : 2 ^ E ≤ 2 ^ 6 := Nat.pow_le_pow_right (by decide) hE
  rw [hIn_nI he (by omega), Nat.testBit_lt_two_pow (Nat.lt_of_lt_of_le hk (Nat.pow_le_pow_right (by decide) h))]
  simp
/-- a set laid bit by bit -/
def hMk (P : Nat → Prop) [DecidablePred P] : Nat → Int32
  | 0 => 0
  | e + 1 => if P e then hMk P e ||| ((1 : Int32) <<< (nI e &&& 31)) else hMk P e
theorem hMk_in {P : Nat → Prop} [DecidablePred P] : ∀ (E : Nat), E ≤ 32 → ∀ e, e < 32 → (hIn (hMk P E) (nI e) ↔ e < E ∧ P e) := by
  intro E
  induction E with
  | zero => intro _ e he; exact ⟨fun w => absurd w (hIn_0 he), fun w => absurd w.1 (by omega)⟩
  | succ E ih =>
    intro hE e he
    unfold hMk
    split
    · rename_i hp
      rw [hIn_or he, ih (by omega) e he, hIn_one E (by omega) e he]
      constructor
      · rintro (q | q)
        · exact ⟨by omega, q.2⟩
        · subst q; exact ⟨by omega, hp⟩
      · rintro ⟨q, r⟩
        rcases Nat.lt_or_ge e E with s | s
        · exact Or.inl ⟨s, r⟩
        · exact Or.inr (by omega)
    · rename_i hp
      rw [ih (by omega) e he]
      constructor
      · rintro ⟨q, r⟩; exact ⟨by omega, r⟩
      · rintro ⟨q, r⟩
        refine ⟨?_, r⟩
        rcases Nat.lt_or_ge e E with s | s
        · exact s
        · have : e = E := by omega
          subst this; exact absurd r hp
theorem hMk_nI {P : Nat → Prop} [DecidablePred P] {E : Nat} (hE : E ≤ 6) : ∃ k, k < 2 ^ E ∧ hMk P E = nI k :=
  set_nI hE (fun e h he w => absurd ((hMk_in E (by omega) e he).mp w).1 (by omega))
theorem icr_mk (M : hc_Mem) : ∀ E, hc_icr M E = hMk (fun e => M 12 e = 0) E := by
  intro E
  induction E with
  | zero => rfl
  | succ E ih => unfold hc_icr hMk; rw [ih]
theorem lis_mk (M : hc_Mem) (E : Nat) : ∀ k, hLisM M E k = hMk (fun e => hLis M E e) k := by
  intro k
  induction k with
  | zero => rfl
  | succ k ih => unfold hLisM hMk; rw [ih]
theorem wid_mk (M : hc_Mem) : ∀ E, hWid M E = hMk (fun e => M 10 e = 2) E := by
  intro E
  induction E with
  | zero => rfl
  | succ E ih => unfold hWid hMk; rw [ih]
theorem or0 (x : Int32) : x ||| 0 = x := set_ext (fun e he => by rw [hIn_or he]; exact ⟨fun w => w.elim id (fun q => absurd q (hIn_0 he)), Or.inl⟩)
theorem rLis_mk (f : Nat → Int32) : ∀ E, rLisM f E = hMk (fun e => rLis f e) E := by
  intro E
  induction E with
  | zero => rfl
  | succ E ih =>
    unfold rLisM hMk
    rw [ih]
    split
    · rfl
    · exact or0 _
/-- ones, by bits -/
theorem rOnes_bc : ∀ k, k < 64 → rOnes (nI k) 8 = hc_bc (nI k) := by decide +kernel
theorem rOnes_E : ∀ E, E ≤ 6 → ∀ k, k < 2 ^ E → rOnes (nI k) E = hc_bc (nI k) := by decide +kernel
theorem hb_and1 (x : Int32) : x &&& 1 = hb (x &&& 1 = 1) := by
  obtain ⟨j, hj, e⟩ := pk_andE x (m := 1) 1 (by decide)
  rw [e]
  have : j = 0 ∨ j = 1 := by omega
  rcases this with rfl | rfl
  · rfl
  · rfl
theorem rOnes_s (s : Int32) (k : Nat) : rOnes s (k + 1) = rOnes s k + hb (hIn s (nI k)) := by
  show rOnes s k + ((s >>> (nI k &&& 31)) &&& 1) = _
  exact congrArg (fun y => rOnes s k + y) (hb_and1 _)
theorem bc_le {k : Nat} : ∀ k, k < 64 → hc_bc (nI k) ≤ 6 := by decide +kernel
