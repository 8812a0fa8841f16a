theorem hc_Cx.ok {G : hc_Geo} {ly : List hc_Ly} {cc : ByteArray} {nL : Nat} {ret : Option FieldType} {own : String} {p : Program} {s : State} {m : MethodId} {args : Array Value} {meth : Method} {c : Code} (C : hc_Cx G ly cc nL ret own p s m args meth c) : hc_okL G ly := C.2.2.2.2.2.2.2.1
/-- a truth as an int -/
def hb (P : Prop) [Decidable P] : Int32 := if P then 1 else 0
theorem hb_t {P : Prop} [Decidable P] (h : P) : hb P = 1 := by simp [hb, h]
theorem hb_f {P : Prop} [Decidable P] (h : ¬ P) : hb P = 0 := by simp [hb, h]
theorem hb_z {P : Prop} [Decidable P] : hb P = 0 ↔ ¬ P := by unfold hb; split <;> simp_all
theorem hb_nz {P : Prop} [Decidable P] : ¬ hb P = 0 ↔ P := by unfold hb; split <;> simp_all
theorem hb_o {P : Prop} [Decidable P] : hb P = 1 ↔ P := by unfold hb; split <;> simp_all
theorem hb_nar {P : Prop} [Decidable P] : narrow .boolean (.int (hb P)) = .int (hb P) := by unfold hb; split <;> rfl
theorem hx_ix {x : Int32} (n : Nat) {k : Int32} (hk : nI n = k) (h0 : ¬ x < 0) (h1 : ¬ k ≤ x) (hn : n < 2 ^ 31) : ∃ j : Nat, j < n ∧ x = nI j := by
  rcases pk_ix x hn with h | h | h
  · exact absurd h h0
  · exact absurd (hk ▸ h) h1
  · exact h
theorem hc_lay_sm {k : Nat} {b : Bool} {n : Nat} (h : hc_lay[k]? = some (.inl (b, n))) : n < 2 ^ 31 := by
  have h0 : hc_lay.all (fun d => match d with | .inl a => decide (a.2 < 2 ^ 31) | .inr _ => true) = true := by decide +kernel
  have h1 := List.all_eq_true.mp h0 _ (List.mem_of_getElem? h)
  simpa using h1
section HN
variable {G : hc_Geo} {ly : List hc_Ly} {p : Program} {l : Launch} {e : Env} {R : Room} {s : State} {m : MethodId} {args : Array Value} {below : List Frame} {meth : Method} {c : Code} {nL cells slots : Nat} {Q : State → Prop} {cc : ByteArray} {ret : Option FieldType} {own : String} {pc : Nat} {L : List (Option Value)} {st : List Value} {M : hc_Mem}
/-- arrays by a natural place -/
theorem hc_ialdN (C : hc_Cx G hc_lay cc nL ret own p s m args meth c) {k n j : Nat} {i : Int32} (hy : hc_lay[k]? = some (.inl (false, n))) (hi : i = nI j) (hj : j < n) (hd : decode cc pc = .ok (.iaload, 1)) (kk : hc_W G hc_lay p l e R s m args below meth c nL cells slots Q (pc + 1) L (.int (M k j) :: st) M) : hc_W G hc_lay p l e R s m args below meth c nL cells slots Q pc L (.int i :: .ref (hc_ad G k) :: st) M := by
  have hn := hc_lay_sm hy
  subst hi
  refine hc_iald C hy (vp_in_nI hj hn) hd ?_
  rw [nI_clamp (by omega)]
  exact kk
theorem hc_zaldN (C : hc_Cx G hc_lay cc nL ret own p s m args meth c) {k n j : Nat} {i : Int32} (hy : hc_lay[k]? = some (.inl (true, n))) (hi : i = nI j) (hj : j < n) (hd : decode cc pc = .ok (.baload, 1)) (kk : hc_W G hc_lay p l e R s m args below meth c nL cells slots Q (pc + 1) L (.int (M k j) :: st) M) : hc_W G hc_lay p l e R s m args below meth c nL cells slots Q pc L (.int i :: .ref (hc_ad G k) :: st) M := by
  have hn := hc_lay_sm hy
  subst hi
  refine hc_zald C hy (vp_in_nI hj hn) hd ?_
  rw [nI_clamp (by omega)]
  exact kk
theorem hc_iastN (C : hc_Cx G hc_lay cc nL ret own p s m args meth c) {k n j : Nat} {i x : Int32} (hy : hc_lay[k]? = some (.inl (false, n))) (hi : i = nI j) (hj : j < n) (hd : decode cc pc = .ok (.iastore, 1)) (kk : hc_W G hc_lay p l e R s m args below meth c nL cells slots Q (pc + 1) L st (hc_ms M k j x)) : hc_W G hc_lay p l e R s m args below meth c nL cells slots Q pc L (.int x :: .int i :: .ref (hc_ad G k) :: st) M := by
  have hn := hc_lay_sm hy
  subst hi
  refine hc_iast C hy (vp_in_nI hj hn) hd ?_
  rw [nI_clamp (by omega)]
  exact kk
theorem hc_zastN (C : hc_Cx G hc_lay cc nL ret own p s m args meth c) {k n j : Nat} {i x : Int32} (hy : hc_lay[k]? = some (.inl (true, n))) (hx : vp_nar .boolean x = x) (hi : i = nI j) (hj : j < n) (hd : decode cc pc = .ok (.bastore, 1)) (kk : hc_W G hc_lay p l e R s m args below meth c nL cells slots Q (pc + 1) L st (hc_ms M k j x)) : hc_W G hc_lay p l e R s m args below meth c nL cells slots Q pc L (.int x :: .int i :: .ref (hc_ad G k) :: st) M := by
  have hn := hc_lay_sm hy
  subst hi
  refine hc_zast C hy hx (vp_in_nI hj hn) hd ?_
  rw [nI_clamp (by omega)]
  exact kk
/-- another name for the number on the stack's top -/
theorem hc_top {x v : Int32} (h : x = v) (k : hc_W G ly p l e R s m args below meth c nL cells slots Q pc L (.int v :: st) M) : hc_W G ly p l e R s m args below meth c nL cells slots Q pc L (.int x :: st) M := h ▸ k
theorem hc_top2 {x v : Int32} {w : Value} (h : x = v) (k : hc_W G ly p l e R s m args below meth c nL cells slots Q pc L (w :: .int v :: st) M) : hc_W G ly p l e R s m args below meth c nL cells slots Q pc L (w :: .int x :: st) M := h ▸ k
theorem hc_mem {M2 : hc_Mem} (h : M = M2) (k : hc_W G ly p l e R s m args below meth c nL cells slots Q pc L st M2) : hc_W G ly p l e R s m args below meth c nL cells slots Q pc L st M := h ▸ k
end HN
