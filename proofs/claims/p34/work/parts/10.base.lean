/-! THE WORLD: 62 cells at addresses G.ad, their numbers in a flat memory M (cell, slot); references among them never change after the constructors. -/
abbrev hc_Mem : Type := Nat → Nat → Int32
def hc_mf (M : hc_Mem) (k : Nat) (f : Nat → Int32) : hc_Mem := fun a => if a = k then f else M a
def hc_ms (M : hc_Mem) (k j : Nat) (v : Int32) : hc_Mem := hc_mf M k (upd (M k) j v)
theorem hc_mf_s {M : hc_Mem} {k : Nat} {f : Nat → Int32} : hc_mf M k f k = f := by simp [hc_mf]
theorem hc_mf_n {M : hc_Mem} {k a : Nat} {f : Nat → Int32} (h : a ≠ k) : hc_mf M k f a = M a := by simp [hc_mf, h]
theorem hc_ms_s {M : hc_Mem} {k : Nat} {j : Nat} {v : Int32} : hc_ms M k j v k = upd (M k) j v := hc_mf_s
theorem hc_ms_n {M : hc_Mem} {k a : Nat} {j : Nat} {v : Int32} (h : a ≠ k) : hc_ms M k j v a = M a := hc_mf_n h
theorem hc_ms_v {M : hc_Mem} {k j : Nat} {v : Int32} : hc_ms M k j v k j = v := by simp [hc_ms, hc_mf, upd]
theorem hc_ms_j {M : hc_Mem} {k j b : Nat} {v : Int32} (h : b ≠ j) : hc_ms M k j v k b = M k b := by simp [hc_ms, hc_mf, upd, h]
theorem hc_upd_id {f : Nat → Int32} {k : Nat} : upd f k (f k) = f := by funext j; unfold upd; split <;> simp_all
theorem hc_mf_id {M : hc_Mem} {k : Nat} : hc_mf M k (M k) = M := by funext j; unfold hc_mf; split <;> simp_all
theorem hc_ms_id {M : hc_Mem} {k j : Nat} : hc_ms M k j (M k j) = M := by unfold hc_ms; rw [hc_upd_id, hc_mf_id]
abbrev hc_Geo : Type := va_G × (ClassId × ClassId) × (Nat → Nat) × (Nat → Nat) × Nat
abbrev hc_ad (G : hc_Geo) : Nat → Nat := G.2.2.1
abbrev hc_sa (G : hc_Geo) : Nat → Nat := G.2.2.2.1
/-- a cell's shape: an array (of booleans or of ints, its length), or an object (its class in vwCl, its fields: none a number, some none the null, some (some t) the cell t) -/
abbrev hc_Ly : Type := (Bool × Nat) ⊕ (Nat × List (Option (Option Nat)))
def hc_fe (G : hc_Geo) (x : Int32) : Option (Option Nat) → Value
  | some (some t) => Value.ref (hc_ad G t)
  | some none => Value.null
  | none => Value.int x
def hc_fv (G : hc_Geo) (f : Nat → Int32) (fs : List (Option (Option Nat))) : List Value := fs.mapIdx (fun j r => hc_fe G (f j) r)
def hc_cell (G : hc_Geo) (f : Nat → Int32) (d : hc_Ly) : va_E := match d with
  | .inl a => .inl (cond a.1 G.2.1.2 G.2.1.1, a.2, .inl f)
  | .inr o => .inr (o.1, hc_fv G f o.2)
def hc_lay : List hc_Ly := [
  .inr (5, [some (some 1), some (some 5), some (some 9), some (some 20), some (some 31), some (some 42), some (some 46), none, none]),
  .inr (3, [some (some 2), some (some 3), some (some 4)]), .inl (false, 8), .inl (false, 8), .inl (false, 320),
  .inr (4, [some (some 6), none, none, none, some (some 7), none, none, some (some 8), none]), .inl (false, 120), .inl (false, 6), .inl (false, 37),
  .inr (2, [none, none, none, none, none, none, none, some (some 10), some (some 11), some (some 12), some (some 13), some (some 14), some (some 15), some (some 16), some (some 17), some (some 18), some (some 19)]), .inl (false, 6), .inl (false, 6), .inl (false, 6), .inl (false, 6), .inl (false, 6), .inl (false, 6), .inl (false, 4), .inl (false, 4), .inl (false, 4), .inl (false, 1000),
  .inr (2, [none, none, none, none, none, none, none, some (some 21), some (some 22), some (some 23), some (some 24), some (some 25), some (some 26), some (some 27), some (some 28), some (some 29), some (some 30)]), .inl (false, 6), .inl (false, 6), .inl (false, 6), .inl (false, 6), .inl (false, 6), .inl (false, 6), .inl (false, 4), .inl (false, 4), .inl (false, 4), .inl (false, 1000),
  .inr (2, [none, none, none, none, none, none, none, some (some 32), some (some 33), some (some 34), some (some 35), some (some 36), some (some 37), some (some 38), some (some 39), some (some 40), some (some 41)]), .inl (false, 6), .inl (false, 6), .inl (false, 6), .inl (false, 6), .inl (false, 6), .inl (false, 6), .inl (false, 4), .inl (false, 4), .inl (false, 4), .inl (false, 1000),
  .inr (0, [some (some 43), some (some 44), some (some 45), none]), .inl (false, 24), .inl (false, 24), .inl (false, 24),
  .inr (1, [some (some 47), none, none, none, none, none]), .inl (false, 16),
  .inr (6, [some (some 49), some (some 50), some (some 51), some (some 52), none, some (some 53), none, none, none, none, none, none, none, some (some 54), some (some 55), some (some 56), none, some (some 57), some (some 58), some (some 59), some (some 60), some (some 61), none]),
  .inl (false, 8), .inl (false, 8), .inl (false, 320), .inl (false, 40), .inl (false, 120), .inl (false, 68), .inl (false, 68), .inl (false, 1632), .inl (false, 136), .inl (true, 2), .inl (false, 68), .inl (false, 100), .inl (false, 16)]
theorem hc_lay_len : hc_lay.length = 62 := rfl
def hc_ws (G : hc_Geo) (ly : List hc_Ly) (M : hc_Mem) : va_W := ly.mapIdx (fun k d => (hc_ad G k, hc_cell G (M k) d))
abbrev hc_tys (G : hc_Geo) : List (ClassId × FieldType) := [(G.2.1.1, .int), (G.2.1.2, .boolean)]
/-- what may change: all cells from the first of ours on -/
def hc_A (G : hc_Geo) : Nat → Prop := fun q => G.2.2.2.2 ≤ q
def hc_okL (G : hc_Geo) (ly : List hc_Ly) : Prop := (∀ i j : Nat, i < ly.length → j < ly.length → hc_ad G i = hc_ad G j → i = j) ∧ ∀ i : Nat, i < ly.length → G.2.2.2.2 ≤ hc_ad G i
abbrev hc_ok (G : hc_Geo) : Prop := hc_okL G hc_lay
/-- static arrays: class, field, contents -/
def hc_sta : List (String × String × List Int32) := [
  ("HeedClock$Tape", "LAW_LEAST", [0]), ("HeedClock$Tape", "LAW_MOST", [12]), ("HeedClock$Tape", "EAR_LEAST", [1, 0, 0, 1]), ("HeedClock$Tape", "EAR_MOST", [12, 3, 7, 8]), ("HeedClock$Tape", "DOING_LEAST", [0, 1, 0]), ("HeedClock$Tape", "DOING_MOST", [99, 40, 99]),
  ("HeedClock$Kinds", "NEAREST", [-1, 0, 1, 1, 0, 4]), ("HeedClock$Asks", "SIZE_BODIES", [10, 11, 12, 0, 13, 14]), ("HeedClock$Asks", "MARK_BODIES", [20, 21, 24, 22, 23, 0])]
def hc_St (G : hc_Geo) (A : Nat → Prop) (U : State) (H : Heap) : Prop := ∀ (i : Nat) (q : String × String × List Int32), hc_sta[i]? = some q → va_Z q.1 q.2.1 "[I" (.ref (hc_sa G i)) A U H ∧ va_T .int (hc_sa G i) q.2.2.length (fun j => .int (q.2.2.getD j 0)) A U H
theorem hc_St.moved {G : hc_Geo} {A : Nat → Prop} {u U : State} {H : Heap} (hvm : u.vm.Alike U.vm) (h : hc_St G A u H) : hc_St G A U H := fun i q hq => ⟨(h i q hq).1.moved hvm, (h i q hq).2.moved hvm⟩
theorem hc_St.kept {G : hc_Geo} {A : Nat → Prop} {U : State} {H H1 : Heap} (h : hc_St G A U H) (hq : ∀ a : Nat, a < H.size → ¬ A a → H1[a]? = H[a]?) : hc_St G A U H1 := fun i q hi => ⟨(h i q hi).1.kept hq, (h i q hi).2.kept hq⟩
def hc_wd (G : hc_Geo) (ly : List hc_Ly) (M : hc_Mem) (U : State) : Prop := va_P G.1 vwCl (hc_ws G ly M) U.heap ∧ va_K G.1 vwCl (hc_tys G) U ∧ hc_St G (hc_A G) U U.heap
theorem hc_ws_len {G : hc_Geo} {ly : List hc_Ly} {M : hc_Mem} : (hc_ws G ly M).length = ly.length := by rw [hc_ws, List.length_mapIdx]
theorem hc_ws_get {G : hc_Geo} {ly : List hc_Ly} {M : hc_Mem} {k : Nat} {d : hc_Ly} (h : ly[k]? = some d) : (hc_ws G ly M)[k]? = some (hc_ad G k, hc_cell G (M k) d) := by
  rw [hc_ws, List.getElem?_mapIdx, h]; rfl
theorem hc_ws_ad {G : hc_Geo} {ly : List hc_Ly} {M : hc_Mem} {k : Nat} {q : Nat × va_E} (h : (hc_ws G ly M)[k]? = some q) : k < ly.length ∧ q.1 = hc_ad G k := by
  have hl := (List.getElem?_eq_some_iff.mp h).1
  rw [hc_ws_len] at hl
  rw [hc_ws, List.getElem?_mapIdx] at h
  cases hd : ly[k]? with
  | none => rw [hd] at h; cases h
  | some d => rw [hd] at h; cases h; exact ⟨hl, rfl⟩
theorem hc_D {G : hc_Geo} {ly : List hc_Ly} (hG : hc_okL G ly) (M : hc_Mem) : va_D (hc_A G) (hc_ws G ly M) := by
  refine ⟨fun i j p q hi hj he => ?_, fun k q hk => ?_⟩
  · obtain ⟨a1, a2⟩ := hc_ws_ad hi
    obtain ⟨b1, b2⟩ := hc_ws_ad hj
    exact hG.1 i j a1 b1 (by rw [← a2, ← b2]; exact he)
  · obtain ⟨a1, a2⟩ := hc_ws_ad hk
    rw [a2]
    exact hG.2 k a1
theorem hc_ws_set {G : hc_Geo} {ly : List hc_Ly} {M M' : hc_Mem} {k : Nat} {d : hc_Ly} {e : va_E} (h : ly[k]? = some d) (he : hc_cell G (M' k) d = e) (ho : ∀ i, i ≠ k → M' i = M i) : (hc_ws G ly M).set k (hc_ad G k, e) = hc_ws G ly M' := by
  have hk := (List.getElem?_eq_some_iff.mp h).1
  apply List.ext_getElem?
  intro i
  by_cases hi : i = k
  · subst hi
    rw [List.getElem?_set_self (by rw [hc_ws_len]; exact hk), hc_ws_get h, he]
  · rw [List.getElem?_set_ne (Ne.symm hi)]
    simp only [hc_ws, List.getElem?_mapIdx]
    rw [ho i hi]
theorem hc_fv_get {G : hc_Geo} {f : Nat → Int32} {fs : List (Option (Option Nat))} {j : Nat} {r : Option (Option Nat)} (h : fs[j]? = some r) : (hc_fv G f fs)[j]? = some (hc_fe G (f j) r) := by
  rw [hc_fv, List.getElem?_mapIdx, h]; rfl
theorem hc_fv_set {G : hc_Geo} {f : Nat → Int32} {fs : List (Option (Option Nat))} {j : Nat} {x : Int32} (h : fs[j]? = some none) : (hc_fv G f fs).set j (.int x) = hc_fv G (upd f j x) fs := by
  have hk := (List.getElem?_eq_some_iff.mp h).1
  apply List.ext_getElem?
  intro i
  by_cases hi : i = j
  · subst hi
    rw [List.getElem?_set_self (by rw [hc_fv, List.length_mapIdx]; exact hk), hc_fv_get h]
    simp [upd, hc_fe]
  · rw [List.getElem?_set_ne (Ne.symm hi)]
    simp only [hc_fv, List.getElem?_mapIdx]
    cases fs[i]? with
    | none => rfl
    | some r => cases r with
      | none => simp [upd, hi, hc_fe]
      | some t => cases t <;> rfl
/-! locals by place -/
def hc_en : Nat → List (Option Value) → List (Nat × Value)
  | _, [] => []
  | n, none :: r => hc_en (n + 1) r
  | n, some v :: r => (n, v) :: hc_en (n + 1) r
theorem hc_en_mem : ∀ (L : List (Option Value)) (n k : Nat) (v : Value), (k, v) ∈ hc_en n L ↔ ∃ j : Nat, k = n + j ∧ L[j]? = some (some v) := by
  intro L
  induction L with
  | nil => intro n k v; simp [hc_en]
  | cons a r ih =>
    intro n k v
    cases a with
    | none =>
      rw [hc_en, ih]
      constructor
      · rintro ⟨j, h1, h2⟩; exact ⟨j + 1, by omega, by simpa using h2⟩
      · rintro ⟨j, h1, h2⟩
        cases j with
        | zero => simp at h2
        | succ j => exact ⟨j, by omega, by simpa using h2⟩
    | some w =>
      rw [hc_en, List.mem_cons, ih]
      constructor
      · rintro (h | ⟨j, h1, h2⟩)
        · cases h; exact ⟨0, by omega, rfl⟩
        · exact ⟨j + 1, by omega, by simpa using h2⟩
      · rintro ⟨j, h1, h2⟩
        cases j with
        | zero => left; simp at h2; rw [h1, h2]; rfl
        | succ j => right; exact ⟨j, by omega, by simpa using h2⟩
def hc_lv (ls : Array Slot) (nL : Nat) (L : List (Option Value)) : Prop := lv_has ls nL (hc_en 0 L)
theorem hc_lv_at {ls : Array Slot} {nL : Nat} {L : List (Option Value)} (h : hc_lv ls nL L) {i : Nat} {v : Value} (hi : L[i]? = some (some v)) : ls[i]? = some (.val v) := h.2.2 (i, v) ((hc_en_mem L 0 i v).mpr ⟨i, by omega, hi⟩)
def hc_c1 : Option Value → Bool
  | some (.long _) => false
  | some (.double _) => false
  | _ => true
theorem hc_c1_cat {v : Value} (h : hc_c1 (some v) = true) : v.category = 1 := by cases v <;> first | rfl | (exact absurd h (by simp [hc_c1]))
theorem hc_lv_put1 {ls' : Array Slot} {nL i : Nat} {L L' : List (Option Value)} {x : Value} (hL : L' = L.set i (some x)) (hp : ∀ j : Nat, j + 1 = i → hc_c1 (L[j]?.join) = true)
    (h : lv_has ls' nL ((i, x) :: (hc_en 0 L).filter (fun q => !(q.1 == i) && !(q.1 + 1 == i && q.2.category == 2)))) : hc_lv ls' nL L' := by
  refine ⟨h.1, h.2.1, fun q hq => h.2.2 q ?_⟩
  obtain ⟨k, v⟩ := q
  obtain ⟨j, e, hj⟩ := (hc_en_mem L' 0 k v).mp hq
  have e : k = j := by omega
  subst e
  rw [hL] at hj
  by_cases hki : k = i
  · subst hki
    by_cases hlt : k < L.length
    · rw [List.getElem?_set_self hlt] at hj
      cases hj
      exact List.mem_cons_self
    · rw [List.getElem?_eq_none (by rw [List.length_set]; omega)] at hj
      cases hj
  · rw [List.getElem?_set_ne (Ne.symm hki)] at hj
    refine List.mem_cons_of_mem _ (List.mem_filter.mpr ⟨(hc_en_mem L 0 k v).mpr ⟨k, by omega, hj⟩, ?_⟩)
    simp only [Bool.and_eq_true, Bool.not_eq_true', beq_eq_false_iff_ne, ne_eq, Bool.and_eq_false_iff]
    refine ⟨hki, ?_⟩
    by_cases h1 : k + 1 = i
    · right
      have h2 := hp k h1
      rw [hj] at h2
      rw [hc_c1_cat h2]; decide
    · left; exact h1
theorem hc_lv_put2 {ls' : Array Slot} {nL i : Nat} {L L' : List (Option Value)} {x : Value} (hL : L' = (L.set i (some x)).set (i + 1) none) (hp : ∀ j : Nat, j + 1 = i → hc_c1 (L[j]?.join) = true)
    (h : lv_has ls' nL ((i, x) :: (hc_en 0 L).filter (fun q => !(q.1 == i) && (!(q.1 == i + 1) && !(q.1 + 1 == i && q.2.category == 2))))) : hc_lv ls' nL L' := by
  refine ⟨h.1, h.2.1, fun q hq => h.2.2 q ?_⟩
  obtain ⟨k, v⟩ := q
  obtain ⟨j, e, hj⟩ := (hc_en_mem L' 0 k v).mp hq
  have e : k = j := by omega
  subst e
  rw [hL] at hj
  by_cases hk1 : k = i + 1
  · subst hk1
    by_cases hlt : i + 1 < L.length
    · rw [List.getElem?_set_self (by rw [List.length_set]; exact hlt)] at hj
      cases hj
    · rw [List.getElem?_eq_none (by simp only [List.length_set]; omega)] at hj
      cases hj
  rw [List.getElem?_set_ne (Ne.symm hk1)] at hj
  by_cases hki : k = i
  · subst hki
    by_cases hlt : k < L.length
    · rw [List.getElem?_set_self hlt] at hj
      cases hj
      exact List.mem_cons_self
    · rw [List.getElem?_eq_none (by rw [List.length_set]; omega)] at hj
      cases hj
  · rw [List.getElem?_set_ne (Ne.symm hki)] at hj
    refine List.mem_cons_of_mem _ (List.mem_filter.mpr ⟨(hc_en_mem L 0 k v).mpr ⟨k, by omega, hj⟩, ?_⟩)
    simp only [Bool.and_eq_true, Bool.not_eq_true', beq_eq_false_iff_ne, ne_eq, Bool.and_eq_false_iff]
    refine ⟨hki, hk1, ?_⟩
    by_cases h1 : k + 1 = i
    · right
      have h2 := hp k h1
      rw [hj] at h2
      rw [hc_c1_cat h2]; decide
    · left; exact h1
/-! the room by depth, the context, the judgement, the contract -/
def hc_rm (d : Nat) : Room := { frames := d, cells := 0, slots := 0, locals := 40 * d }
def hc_Cx (G : hc_Geo) (ly : List hc_Ly) (cc : ByteArray) (nL : Nat) (ret : Option FieldType) (own : String) (p : Program) (s : State) (m : MethodId) (args : Array Value) (meth : Method) (c : Code) : Prop :=
  p.tables.exec = Jvm.exec ∧ c.code = cc ∧ c.maxLocals = nL ∧ s.vm.findClass own = some m.cls ∧ (∀ w ∈ hc_tb, w.before args s = true) ∧ va_K G.1 vwCl (hc_tys G) s ∧ hc_St G (hc_A G) s s.heap ∧ hc_okL G ly ∧ meth.sig.returnType = ret ∧ meth.locks = false
def hc_W (G : hc_Geo) (ly : List hc_Ly) (p : Program) (l : Launch) (e : Env) (R : Room) (s : State) (m : MethodId) (args : Array Value) (below : List Frame) (meth : Method) (c : Code) (nL cells slots : Nat) (Q : State → Prop) (pc : Nat) (L : List (Option Value)) (st : List Value) (M : hc_Mem) : Prop :=
  ∀ (H : Heap) (locs : List Loc) (ls : Array Slot), va_P G.1 vwCl (hc_ws G ly M) H → va_S (hc_A G) s.heap H locs → hc_lv ls nL L → W p l e R s m args below meth c H locs cells slots Q (F0 m pc ls st)
def hc_Q (G : hc_Geo) (ly : List hc_Ly) (Post : Option Value → hc_Mem → Prop) : Array Value → State → Outcome → State → Prop := fun _ st oc t => (∃ (r : Option Value) (M' : hc_Mem), oc = .returned r ∧ Post r M' ∧ hc_wd G ly M' t) ∧ va_F (hc_A G) st t
def hc_M (l : Launch) (G : hc_Geo) (y : MethodName) (cc : ByteArray) (nL : Nat) (ret : Option FieldType) (d : Nat) (av : List Value) (M : hc_Mem) (Post : Option Value → hc_Mem → Prop) : Prop :=
  Met l y (Cond.code y cc nL ret :: hc_tb) (hc_rm d) (va_Pc av (hc_wd G hc_lay M)) (hc_Q G hc_lay Post) 0 0 (hc_A G)
def hc_pi (Post : Int32 → hc_Mem → Prop) : Option Value → hc_Mem → Prop := fun r M' => ∃ z : Int32, r = some (.int z) ∧ Post z M'
def hc_pl (Post : Int64 → hc_Mem → Prop) : Option Value → hc_Mem → Prop := fun r M' => ∃ z : Int64, r = some (.long z) ∧ Post z M'
def hc_pv (Post : hc_Mem → Prop) : Option Value → hc_Mem → Prop := fun r M' => r = none ∧ Post M'
def hc_pr (Post : Nat → hc_Mem → Prop) : Option Value → hc_Mem → Prop := fun r M' => ∃ z : Nat, r = some (.ref z) ∧ Post z M'
