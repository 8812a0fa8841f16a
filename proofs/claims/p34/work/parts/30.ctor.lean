/-! CONSTRUCTORS: the layout grows. hk_at n pend: the first n cells; of an object in pend only the first j references are set -/
def hk_mask : Nat → List (Option (Option Nat)) → List (Option (Option Nat))
  | _, [] => []
  | j, none :: r => none :: hk_mask j r
  | 0, some _ :: r => some none :: hk_mask 0 r
  | j + 1, some x :: r => some x :: hk_mask j r
def hk_look : List (Nat × Nat) → Nat → Option Nat
  | [], _ => none
  | (a, j) :: r, i => if a = i then some j else hk_look r i
def hk_ob (d : hc_Ly) (q : Option Nat) : hc_Ly := match d, q with
  | .inr o, some j => .inr (o.1, hk_mask j o.2)
  | d, _ => d
def hk_at (n : Nat) (pend : List (Nat × Nat)) : List hc_Ly := (hc_lay.take n).mapIdx (fun i d => hk_ob d (hk_look pend i))
def hk_cl (ly : List hc_Ly) : Bool := ly.all (fun d => match d with | .inl _ => true | .inr o => o.2.all (fun r => match r with | some (some t) => decide (t < ly.length) | _ => true))
/-- a geometry that agrees with another below n -/
def hk_ag (G G' : hc_Geo) (n : Nat) : Prop := G'.1 = G.1 ∧ G'.2.1 = G.2.1 ∧ hc_sa G' = hc_sa G ∧ G'.2.2.2.2 = G.2.2.2.2 ∧ ∀ k, k < n → hc_ad G' k = hc_ad G k
theorem hk_ag.tr {G G' G'' : hc_Geo} {n n' : Nat} (h : hk_ag G G' n) (h' : hk_ag G' G'' n') (hn : n ≤ n') : hk_ag G G'' n := ⟨h'.1.trans h.1, h'.2.1.trans h.2.1, h'.2.2.1.trans h.2.2.1, h'.2.2.2.1.trans h.2.2.2.1, fun k hk => (h'.2.2.2.2 k (by omega)).trans (h.2.2.2.2 k hk)⟩
theorem hk_ag.rf {G : hc_Geo} {n : Nat} : hk_ag G G n := ⟨rfl, rfl, rfl, rfl, fun _ _ => rfl⟩
theorem hk_ws_ag {G G' : hc_Geo} {ly : List hc_Ly} {M : hc_Mem} (h : hk_ag G G' ly.length) (hc : hk_cl ly = true) : hc_ws G' ly M = hc_ws G ly M := by
  apply List.ext_getElem?
  intro i
  simp only [hc_ws, List.getElem?_mapIdx]
  cases hd : ly[i]? with
  | none => rfl
  | some d =>
    have hi := (List.getElem?_eq_some_iff.mp hd).1
    have h1 := List.all_eq_true.mp hc _ (List.mem_of_getElem? hd)
    simp only [Option.map_some, Option.some.injEq, Prod.mk.injEq]
    refine ⟨h.2.2.2.2 i hi, ?_⟩
    cases d with
    | inl a => simp only [hc_cell]; rw [h.2.1]
    | inr o =>
      simp only [hc_cell]
      congr 2
      apply List.ext_getElem?
      intro j
      simp only [hc_fv, List.getElem?_mapIdx]
      cases hr : o.2[j]? with
      | none => rfl
      | some r =>
        have h2 := List.all_eq_true.mp h1 _ (List.mem_of_getElem? hr)
        cases r with
        | none => rfl
        | some r => cases r with
          | none => rfl
          | some t =>
            simp only [decide_eq_true_eq] at h2
            simp only [Option.map_some, hc_fe, h.2.2.2.2 t h2]
def hk_up (G : hc_Geo) (n q : Nat) : hc_Geo := (G.1, G.2.1, (fun k => if k = n then q else hc_ad G k), G.2.2.2.1, G.2.2.2.2)
theorem hk_up_ag (G : hc_Geo) (n q : Nat) : hk_ag G (hk_up G n q) n := ⟨rfl, rfl, rfl, rfl, fun k hk => if_neg (show ¬ k = n by omega)⟩
theorem hk_up_q {G : hc_Geo} {n q : Nat} : hc_ad (hk_up G n q) n = q := if_pos rfl
theorem hk_up_ws {G : hc_Geo} {ly : List hc_Ly} {M : hc_Mem} {q : Nat} {d : hc_Ly} {e : va_E} (hc : hk_cl ly = true) (he : hc_cell (hk_up G ly.length q) (M ly.length) d = e) : hc_ws (hk_up G ly.length q) (ly ++ [d]) M = hc_ws G ly M ++ [(q, e)] := by
  rw [hc_ws, List.mapIdx_append, ← hc_ws, hk_ws_ag (hk_up_ag G ly.length q) hc]
  congr 1
  simp only [List.mapIdx_cons, List.mapIdx_nil, Nat.zero_add, he, hk_up_q]
theorem hk_Cx {G G' : hc_Geo} {ly ly' : List hc_Ly} {cc : ByteArray} {nL : Nat} {ret : Option FieldType} {own : String} {p : Program} {s : State} {m : MethodId} {args : Array Value} {meth : Method} {c : Code} (C : hc_Cx G ly cc nL ret own p s m args meth c) {n : Nat} (h : hk_ag G G' n) (ho : hc_okL G' ly') : hc_Cx G' ly' cc nL ret own p s m args meth c := by
  obtain ⟨h1, h2, h3, h4, h5, h6, h7, h8, h9⟩ := C
  refine ⟨h1, h2, h3, h4, h5, ?_, ?_, ho, h9⟩
  · rw [h.1]; unfold hc_tys; rw [h.2.1]; exact h6
  · intro i q hq
    have e1 : hc_A G' = hc_A G := by funext x; simp only [hc_A, h.2.2.2.1]
    rw [e1, h.2.2.1]
    exact h7 i q hq
theorem hk_ok_up {G : hc_Geo} {ly : List hc_Ly} {q : Nat} {d : hc_Ly} {M : hc_Mem} {e : va_E} (hc : hk_cl ly = true) (he : hc_cell (hk_up G ly.length q) (M ly.length) d = e) (hD : va_D (hc_A G) (hc_ws G ly M ++ [(q, e)])) : hc_okL (hk_up G ly.length q) (ly ++ [d]) := by
  have hw := hk_up_ws (M := M) hc he
  rw [← hw] at hD
  have hg : ∀ i : Nat, i < (ly ++ [d]).length → ∃ x : va_E, (hc_ws (hk_up G ly.length q) (ly ++ [d]) M)[i]? = some (hc_ad (hk_up G ly.length q) i, x) := by
    intro i hi
    obtain ⟨d', hd'⟩ : ∃ d', (ly ++ [d])[i]? = some d' := ⟨_, List.getElem?_eq_getElem hi⟩
    exact ⟨_, hc_ws_get hd'⟩
  refine ⟨fun i j hi hj he => ?_, fun i hi => ?_⟩
  · obtain ⟨x, hx⟩ := hg i hi
    obtain ⟨y, hy⟩ := hg j hj
    exact hD.1 i j _ _ hx hy he
  · obtain ⟨x, hx⟩ := hg i hi
    exact hD.2 i _ hx
theorem hk_okL_same {G : hc_Geo} {ly ly' : List hc_Ly} (h : hc_okL G ly) (hl : ly'.length = ly.length) : hc_okL G ly' := ⟨fun i j hi hj => h.1 i j (by omega) (by omega), fun i hi => h.2 i (by omega)⟩
def hk_rm (d mc ms : Nat) : Room := { frames := d, cells := mc, slots := ms, locals := 40 * d }
def hk_Q (G : hc_Geo) (ly : List hc_Ly) (ly' : List hc_Ly) (M' : hc_Mem) : Array Value → State → Outcome → State → Prop := fun _ st oc t => (∃ G' : hc_Geo, oc = .returned none ∧ hk_ag G G' ly.length ∧ hc_okL G' ly' ∧ hc_wd G' ly' M' t) ∧ va_F (hc_A G) st t
def hk_M (l : Launch) (G : hc_Geo) (y : MethodName) (cc : ByteArray) (nL : Nat) (d mc ms : Nat) (av : List Value) (ly : List hc_Ly) (M : hc_Mem) (ly' : List hc_Ly) (M' : hc_Mem) : Prop :=
  Met l y (Cond.code y cc nL none :: hc_tb) (hk_rm d mc ms) (va_Pc av (hc_wd G ly M)) (hk_Q G ly ly' M') mc ms (hc_A G)
section HK
variable {G : hc_Geo} {ly : List hc_Ly} {p : Program} {l : Launch} {e : Env} {R : Room} {s : State} {m : MethodId} {args : Array Value} {below : List Frame} {meth : Method} {c : Code} {nL cells slots : Nat} {Q : State → Prop} {cc : ByteArray} {ret : Option FieldType} {own : String} {pc : Nat} {L : List (Option Value)} {st : List Value} {M : hc_Mem}
theorem hk_new (C : hc_Cx G ly cc nL ret own p s m args meth c) {idx ci : Nat} (q0 : vw_C) (ty : Nat → FieldType) (ly' : List hc_Ly) (fs : List (Option (Option Nat))) (hb : G.2.2.2.2 ≤ s.heap.size) (hin : ∀ w ∈ u_ws q0.1 q0.2.1 q0.2.2, w ∈ hc_tb) (hty : ∀ k, k < q0.2.2 → parseFieldDescriptor (q0.2.1 k).2.2.1 = some (ty k)) (hcl : Cond.classLink own idx q0.1 ∈ hc_tb) (hinst : Cond.instantiable q0.1 q0.2.2 ∈ hc_tb) (hini : Cond.initialized q0.1 ∈ hc_tb) (hc : vwCl[ci]? = some q0) {n0 : Nat} (hn0 : ly.length = n0) (hM : M n0 = fun _ => 0) (hfs : ∀ j, j < q0.2.2 → defaultValue (ty j) = (match fs.getD j none with | none => Value.int 0 | some _ => Value.null)) (hfn : ∀ x ∈ fs, x = none ∨ x = some none) (hfl : fs.length = q0.2.2) (hkc : hk_cl ly = true) (hly : ly' = ly ++ [.inr (ci, fs)]) (hcs : cells + 1 ≤ R.cells ∧ slots + q0.2.2 ≤ R.slots) (hd : decode cc pc = .ok (.new idx, 3))
    (kk : ∀ G' : hc_Geo, hk_ag G G' n0 → hc_Cx G' ly' cc nL ret own p s m args meth c → hc_W G' ly' p l e R s m args below meth c nL (cells + 1) (slots + q0.2.2) Q (pc + 3) L (.ref (hc_ad G' n0) :: st) M) : hc_W G ly p l e R s m args below meth c nL cells slots Q pc L st M := by
  obtain ⟨C', T, N⟩ := q0
  subst hn0
  intro H locs ls hP hS hl
  subst hly
  have hts := C.2.2.2.2.1
  have hfv : ∀ G2 : hc_Geo, hc_fv G2 (M ly.length) fs = fs.map (fun x => match x with | none => Value.int 0 | some _ => Value.null) := by
    intro G2
    apply List.ext_getElem?
    intro j
    rw [hc_fv, List.getElem?_mapIdx, List.getElem?_map, hM]
    cases hj : fs[j]? with
    | none => rfl
    | some x => rcases hfn x (List.mem_of_getElem? hj) with rfl | rfl <;> rfl
  refine va_new (ci := ci) (fs := hc_fv G (M ly.length) fs) (C := C') (T := T) (N := N) C.1 C.2.1 hts hin ty hty C.2.2.2.1 (hts _ hcl) (hts _ hinst) (hts _ hini) C.2.2.2.2.2.1 hP (hc_D C.2.2.2.2.2.2.2.1 M) hS (fun q h => Nat.le_trans hb h) hc ?_ hcs.1 hcs.2 hd (fun q H1 hP1 hD1 hS1 => ?_)
  · intro j hj
    rw [hfs j hj, hfv G]
    have hjl : j < fs.length := by rw [hfl]; exact hj
    simp only [vp_V, List.getD_eq_getElem?_getD, List.getElem?_map, List.getElem?_eq_getElem hjl, Option.map_some, Option.getD_some]
  · have he : hc_cell (hk_up G ly.length q) (M ly.length) (.inr (ci, fs)) = .inr (ci, hc_fv G (M ly.length) fs) := by
      simp only [hc_cell]; rw [hfv, hfv]
    have ho := hk_ok_up (M := M) hkc he hD1
    have hw := hk_up_ws (M := M) hkc he
    rw [← hw] at hP1
    have hq : hc_ad (hk_up G ly.length q) ly.length = q := hk_up_q
    have := kk (hk_up G ly.length q) (hk_up_ag G ly.length q) (hk_Cx C (hk_up_ag G ly.length q) ho) H1 locs ls hP1 hS1 hl
    rw [hq] at this
    exact this
theorem hk_newa (C : hc_Cx G ly cc nL ret own p s m args meth c) {z : Bool} {atype : ArrayType} {n : Int32} (N : Nat) (ly' : List hc_Ly) (hb : G.2.2.2.2 ≤ s.heap.size) (hat : newarray.typeOf atype = cond z .boolean .int) (harr : Cond.arrayClass (newarray.typeOf atype) ∈ hc_tb) {n0 : Nat} (hn0 : ly.length = n0) (hM : M n0 = fun _ => 0) (hkc : hk_cl ly = true) (hly : ly' = ly ++ [.inl (z, N)]) (hn : ¬ n < 0) (hN : n.toNatClampNeg = N) (hbytes : N * 4 ≤ 536870912) (hcs : cells + 1 ≤ R.cells ∧ slots + N ≤ R.slots) (hd : decode cc pc = .ok (.newarray atype, 2))
    (kk : ∀ G' : hc_Geo, hk_ag G G' n0 → hc_Cx G' ly' cc nL ret own p s m args meth c → hc_W G' ly' p l e R s m args below meth c nL (cells + 1) (slots + N) Q (pc + 2) L (.ref (hc_ad G' n0) :: st) M) : hc_W G ly p l e R s m args below meth c nL cells slots Q pc L (.int n :: st) M := by
  subst hn0
  intro H locs ls hP hS hl
  subst hly
  have hts := C.2.2.2.2.1
  refine va_newa (ty := cond z .boolean .int) (a0 := (N, .inl (fun _ => 0))) C.1 C.2.1 (hts _ harr) hat C.2.2.2.2.2.1 hP (hc_D C.2.2.2.2.2.2.2.1 M) hS (fun q h => Nat.le_trans hb h) (fun cA => by cases z <;> rfl) hn hN (by cases z <;> simp [componentBytes] <;> omega) hcs.1 hcs.2 hd (fun q cA H1 hK1 hP1 hD1 hS1 => ?_)
  have hcA : cA = cond z G.2.1.2 G.2.1.1 := by
    have h1 := (hK1.2 2 (cA, cond z .boolean .int) rfl).2
    cases z with
    | false => exact Option.some.inj (h1.symm.trans (hK1.2 0 (G.2.1.1, .int) rfl).2)
    | true => exact Option.some.inj (h1.symm.trans (hK1.2 1 (G.2.1.2, .boolean) rfl).2)
  have he : hc_cell (hk_up G ly.length q) (M ly.length) (.inl (z, N)) = .inl (cA, (N, .inl (fun _ => 0))) := by
    simp only [hc_cell, hM, hcA]; rfl
  have ho := hk_ok_up (M := M) hkc he hD1
  have hw := hk_up_ws (M := M) hkc he
  rw [← hw] at hP1
  have hq : hc_ad (hk_up G ly.length q) ly.length = q := hk_up_q
  have := kk (hk_up G ly.length q) (hk_up_ag G ly.length q) (hk_Cx C (hk_up_ag G ly.length q) ho) H1 locs ls hP1 hS1 hl
  rw [hq] at this
  exact this
theorem hk_putF (C : hc_Cx G ly cc nL ret own p s m args meth c) {idx ci j k t : Nat} {fs fs' : List (Option (Option Nat))} {tyj : FieldType} (q0 : vw_C) (ty0 : Nat → FieldType) (ly' : List hc_Ly) (hin2 : meth.name = "<init>") (hin : ∀ w ∈ u_ws q0.1 q0.2.1 q0.2.2, w ∈ hc_tb) (hty : ∀ k, k < q0.2.2 → parseFieldDescriptor (q0.2.1 k).2.2.1 = some (ty0 k)) (hnm : ∀ a, a < q0.2.2 → ∀ b, b < q0.2.2 → a ≠ b → (q0.2.1 a).2.1 ≠ (q0.2.1 b).2.1) (hc : vwCl[ci]? = some q0) (hj : j < q0.2.2) (hw : Cond.fieldLink own idx (q0.2.1 j).1 (q0.2.1 j).2.1 (q0.2.1 j).2.2.1 ∈ hc_tb) (hfin : (q0.2.1 j).2.2.2 = true) (hdecl : (q0.2.1 j).1 = own) (hdj : parseFieldDescriptor (q0.2.1 j).2.2.1 = some tyj) (hr : ∀ a : Nat, narrow tyj (.ref a) = .ref a ∧ fits tyj (.ref a) = true) (hy : ly[k]? = some (.inr (ci, fs))) (hfl : j < fs.length) (hfs : fs' = fs.set j (some (some t))) (hly : ly' = ly.set k (.inr (ci, fs'))) (hd : decode cc pc = .ok (.putfield idx, 3))
    (kk : hc_Cx G ly' cc nL ret own p s m args meth c → hc_W G ly' p l e R s m args below meth c nL cells slots Q (pc + 3) L st M) : hc_W G ly p l e R s m args below meth c nL cells slots Q pc L (.ref (hc_ad G t) :: .ref (hc_ad G k) :: st) M := by
  obtain ⟨C', T, N⟩ := q0
  intro H locs ls hP hS hl
  have hts := C.2.2.2.2.1
  refine va_putF (v := .ref (hc_ad G t)) C.1 C.2.1 hts hin ty0 hty hnm C.2.2.2.1 C.2.2.2.2.2.1 hP (hc_D C.2.2.2.2.2.2.2.1 M) hS k (hc_ws_get hy) hc j hj (hts _ hw) (fun _ h => h) hfin hin2 hdecl hdj (hr _).1 (hr _).2 (by rw [hc_fv, List.length_mapIdx]; exact hfl) hd (fun H1 locs1 hP1 hD1 hS1 => ?_)
  have hll : ly'.length = ly.length := by rw [hly, List.length_set]
  refine kk (hk_Cx C (hk_ag.rf (n := 0)) (hk_okL_same C.2.2.2.2.2.2.2.1 hll)) H1 locs1 ls ?_ hS1 hl
  have hk := (List.getElem?_eq_some_iff.mp hy).1
  have he : (hc_ws G ly M).set k (hc_ad G k, .inr (ci, (hc_fv G (M k) fs).set j (.ref (hc_ad G t)))) = hc_ws G ly' M := by
    apply List.ext_getElem?
    intro i
    by_cases hi : i = k
    · subst hi
      rw [List.getElem?_set_self (by rw [hc_ws_len]; exact hk), hc_ws_get (d := .inr (ci, fs')) (by rw [hly]; exact List.getElem?_set_self hk)]
      simp only [hc_cell, Option.some.injEq, Prod.mk.injEq, true_and]
      congr 2
      apply List.ext_getElem?
      intro x
      rw [hfs]
      by_cases hx : x = j
      · subst hx
        rw [List.getElem?_set_self (by rw [hc_fv, List.length_mapIdx]; exact hfl), hc_fv_get (List.getElem?_set_self hfl)]
        rfl
      · rw [List.getElem?_set_ne (Ne.symm hx)]
        simp only [hc_fv, List.getElem?_mapIdx]
        rw [List.getElem?_set_ne (Ne.symm hx)]
    · rw [List.getElem?_set_ne (Ne.symm hi)]
      simp only [hc_ws, List.getElem?_mapIdx]
      rw [hly, List.getElem?_set_ne (Ne.symm hi)]
  rw [← he]
  exact hP1
theorem hk_obj (C : hc_Cx G ly cc nL ret own p s m args meth c) {idx a : Nat} (hw : Cond.methodLink own idx Lib.objectInit ∈ hc_tb) (hi : Cond.instanceMethod Lib.objectInit ∈ hc_tb) (hc : Cond.code Lib.objectInit ⟨#[0xb1]⟩ 1 none ∈ hc_tb) (hfr : 1 ≤ R.frames) (hlo : (st.map fun v => v.category).sum + 12 ≤ R.locals) (hd : decode cc pc = .ok (.invokespecial idx, 3)) (kk : hc_W G ly p l e R s m args below meth c nL cells slots Q (pc + 3) L st M) : hc_W G ly p l e R s m args below meth c nL cells slots Q pc L (.ref a :: st) M := by
  intro H locs ls hP hS hl
  have hts := C.2.2.2.2.1
  refine W.objInit C.1 C.2.1 C.2.2.2.1 (hts _ hw) (hts _ hi) (hts _ hc) rfl (by rw [C.2.2.1]; exact hl.1) rfl hd hfr ?_ (kk H locs ls hP hS hl)
  show 2 * (F0 m pc ls (.ref a :: st)).monitorRoom + _ + 12 ≤ _
  have e1 : (F0 m pc ls (.ref a :: st)).monitorRoom = 0 := rfl
  rw [e1]; omega
theorem hk_on (C : hc_Cx G ly cc nL ret own p s m args meth c) {ly' : List hc_Ly} {M' : hc_Mem} {H : Heap} {locs : List Loc} {ls : Array Slot} {st0 rest : List Value} {a : Array Value} {mc ms : Nat} (hS : va_S (hc_A G) s.heap H locs) (hl : hc_lv ls nL L)
    (hr : va_Run p l e R s m args below meth c H locs cells slots mc ms (F0 m pc ls st0) rest (hk_Q G ly ly' M' a) (hc_A G)) (kk : ∀ G' : hc_Geo, hk_ag G G' ly.length → hc_Cx G' ly' cc nL ret own p s m args meth c → hc_W G' ly' p l e R s m args below meth c nL (cells + mc) (slots + ms) Q (pc + 3) L rest M') : W p l e R s m args below meth c H locs cells slots Q (F0 m pc ls st0) := by
  intro T hT X
  obtain ⟨v, st₀, t, T', L2, h0, X', hL, e1, e2, ⟨⟨G', hv, hag, hok, hw⟩, hz, hk⟩, stp⟩ := hr T hT X
  cases hv
  rw [h0] at hz hk
  have eA : hc_A G' = hc_A G := by funext x; simp only [hc_A, hag.2.2.2.1]
  have hS' : va_S (hc_A G) s.heap T'.heap (locs ++ L2) := ⟨Nat.le_trans hS.1 (by rw [e1]; exact hz), fun q h1 h2 => by rw [e1, hk q (Nat.lt_of_lt_of_le h1 hS.1) h2]; exact hS.2.1 q h1 h2, fun q hq => by
      rcases List.mem_append.mp hq with h | h
      · exact hS.2.2 q h
      · exact hL q h⟩
  obtain ⟨t2, a1, b1⟩ := kk G' hag (hk_Cx C hag hok) T'.heap (locs ++ L2) ls (by rw [e1]; exact hw.1) (by rw [eA]; exact hS') hl T' rfl X'
  exact ⟨t2, stp t2 a1, b1⟩
theorem hk_CB {idx : Nat} {y : MethodName} {bytes : ByteArray} {maxL d mc ms : Nat} (C : hc_Cx G ly cc nL ret own p s m args meth c) (h : hc_CB own idx y bytes maxL none 0) (hR : hc_rr d R) : CallB R s args own idx y bytes maxL none (Cond.code y bytes maxL none :: hc_tb) (hk_rm d mc ms) mc ms 0 := by
  have hts := C.2.2.2.2.1
  refine callB_of (Ts := hc_tb) 0 hts ?_ rfl rfl rfl (hts _ h.2.1) (hts _ h.2.2.1) h.2.2.2.1 ⟨hR.1, ?_⟩
  · intro w hw
    rcases List.mem_cons.mp hw with e | e
    · rw [e]; exact hc_good _ h.1
    · exact hc_good w e
  · have h1 := hR.2
    have h2 := h.2.2.2.2
    show 8 + (maxL + 11) + 40 * d ≤ R.locals
    omega
theorem hk_callI (C : hc_Cx G ly cc nL ret own p s m args meth c) {idx : Nat} {y : MethodName} {bytes : ByteArray} {maxL d mc ms b : Nat} {ly' : List hc_Ly} {M' : hc_Mem} (hv : hc_CB own idx y bytes maxL none 0) (hi : Cond.instanceMethod y ∈ hc_tb) (hn : y.name = "<init>") (hM : hk_M l G y bytes maxL d mc ms [.ref b] ly M ly' M') (hw : (st.map fun v => v.category).sum ≤ 8) (hR : hc_rr d R) (hcs : cells + mc ≤ R.cells ∧ slots + ms ≤ R.slots) (hd : decode cc pc = .ok (.invokespecial idx, 3))
    {n0 : Nat} (hn0 : ly.length = n0) (kk : ∀ G' : hc_Geo, hk_ag G G' n0 → hc_Cx G' ly' cc nL ret own p s m args meth c → hc_W G' ly' p l e R s m args below meth c nL (cells + mc) (slots + ms) Q (pc + 3) L st M') : hc_W G ly p l e R s m args below meth c nL cells slots Q pc L (.ref b :: st) M := by
  subst hn0
  intro H locs ls hP hS hl
  have hts := C.2.2.2.2.1
  exact hk_on C hS hl (va_runI (Ts := hc_tb) (nL := nL) (As := []) (rest := st) (n := 0) ⟨C.1, C.2.1, C.2.2.1, C.2.2.2.1, hts⟩ hM ⟨hk_CB C hv hR, hn, hts _ hi⟩ ⟨hc_wd_blind, fun U hU hW => ⟨rfl, hc_wd_at C hP hS hU hW⟩⟩ rfl rfl hl.1 rfl (lv_room hw) hd hcs) kk
theorem hk_callN (C : hc_Cx G ly cc nL ret own p s m args meth c) {idx : Nat} {y : MethodName} {host : String} {bytes : ByteArray} {maxL d mc ms b : Nat} {ly' : List hc_Ly} {M' : hc_Mem} (hc1 : Cond.code y bytes maxL none ∈ hc_tb) (hini : Cond.initialized y.cls ∈ hc_tb) (hlk : va_Nw (.methodLinkNest own idx y host) s) (hdd : y.cls ≠ "java/lang/invoke/MethodHandle" ∧ y.cls ≠ "java/lang/invoke/VarHandle" ∧ (parseMethodDescriptor y.desc).map (fun d => d.parameters.length) = some 0) (hL : maxL ≤ 21) (hi : Cond.instanceMethod y ∈ hc_tb) (hn : y.name = "<init>") (hM : hk_M l G y bytes maxL d mc ms [.ref b] ly M ly' M') (hw : (st.map fun v => v.category).sum ≤ 8) (hR : hc_rr d R) (hcs : cells + mc ≤ R.cells ∧ slots + ms ≤ R.slots) (hd : decode cc pc = .ok (.invokespecial idx, 3))
    {n0 : Nat} (hn0 : ly.length = n0) (kk : ∀ G' : hc_Geo, hk_ag G G' n0 → hc_Cx G' ly' cc nL ret own p s m args meth c → hc_W G' ly' p l e R s m args below meth c nL (cells + mc) (slots + ms) Q (pc + 3) L st M') : hc_W G ly p l e R s m args below meth c nL cells slots Q pc L (.ref b :: st) M := by
  subst hn0
  intro H locs ls hP hS hl
  have hts := C.2.2.2.2.1
  have hGd : GoodIn hc_tb (Cond.code y bytes maxL none :: hc_tb) := by
    intro w hw
    rcases List.mem_cons.mp hw with e | e
    · rw [e]; exact hc_good _ hc1
    · exact hc_good w e
  have hcn : va_CN R s args own idx y host bytes maxL none (Cond.code y bytes maxL none :: hc_tb) (hk_rm d mc ms) mc ms 0 := by
    refine va_cnB 0 hts hGd rfl rfl rfl ?_ (hts _ hini) hdd ⟨hR.1, ?_⟩
    · exact hlk
    · have h1 := hR.2
      show 8 + (maxL + 11) + 40 * d ≤ R.locals
      omega
  exact hk_on C hS hl (va_runIN (Ts := hc_tb) (nL := nL) (As := []) (rest := st) (n := 0) ⟨C.1, C.2.1, C.2.2.1, C.2.2.2.1, hts⟩ hM ⟨hcn, hn, hts _ hi⟩ ⟨hc_wd_blind, fun U hU hW => ⟨rfl, hc_wd_at C hP hS hU hW⟩⟩ rfl rfl hl.1 rfl (lv_room hw) hd hcs) kk
theorem hk_vret (C : hc_Cx G ly cc nL ret own p s m args meth c) {G0 : hc_Geo} {ly0 : List hc_Ly} {n0 : Nat} (hn0 : ly0.length = n0) (hr : ret = none) (hd : decode cc pc = .ok (.return_, 1)) (hag : hk_ag G0 G n0) : hc_W G ly p l e R s m args below meth c nL cells slots (MQ below (hk_Q G0 ly0 ly M) args s cells slots (hc_A G0)) pc L [] M := by
  subst hr
  subst hn0
  intro H locs ls hP hS hl
  have eA : hc_A G = hc_A G0 := by funext x; simp only [hc_A, hag.2.2.2.1]
  have hS0 : va_S (hc_A G0) s.heap H locs := by rw [← eA]; exact hS
  exact W.vret C.1 C.2.1 C.2.2.2.2.2.2.2.2.1 (fun t ht hw => ⟨⟨G, rfl, hag, C.2.2.2.2.2.2.2.1, hc_wd_at C hP hS ht hw⟩, hS0.F ht⟩) hS0.2.2 hd C.2.2.2.2.2.2.2.2.2
end HK
theorem hk_M.of {l : Launch} {G : hc_Geo} {y : MethodName} {cc : ByteArray} {nL : Nat} {d mc ms : Nat} {av : List Value} {ly ly' : List hc_Ly} {M M' : hc_Mem} (hG : hc_okL G ly) (hy : plainName y.cls = true) (hyn : y.name = "<init>") (L0 : List (Option Value)) (hen : hc_en 0 L0 = lv_args 0 av) (hn : (lg_sl av).length ≤ nL)
    (body : ∀ (p : Program) (e : Env) (s : State) (m : MethodId) (args : Array Value) (below : List Frame) (meth : Method) (c : Code), meth.name = "<init>" → hc_Cx G ly cc nL none y.cls p s m args meth c → (0 < ly.length → G.2.2.2.2 ≤ s.heap.size) → hc_W G ly p l e (hk_rm d mc ms) s m args below meth c nL 0 0 (MQ below (hk_Q G ly ly' M') args s mc ms (hc_A G)) 0 L0 [] M) : hk_M l G y cc nL d mc ms av ly M ly' M' := by
  refine Met.ofW (cc := cc) (maxL := nL) (ret := none) hy rfl ?_
  intro p e s m args below meth c s₁ B hml hv
  obtain ⟨rfl, hP, hK, hSt⟩ := hv
  have hts := atoms_spec (ws := Cond.code y cc nL none :: hc_tb) B.pre
  have hl := lv_entry av (n := nL) hn
  rw [lg_entry_eq]
  generalize (lg_sl av ++ List.replicate (nL - (lg_sl av).length) Slot.unset).toArray = ls at hl ⊢
  refine body p e s m av.toArray below meth c ((name_of_methodNamed B.named B.method).1.trans hyn) ⟨B.exec, B.bytes, hml, findClass_of_methodNamed B.named, fun w h => hts w (List.mem_cons_of_mem _ h), hK, hSt, hG, B.returns, B.notSynchronized⟩ ?_ s.heap [] ls hP va_S.rf (by unfold hc_lv; rw [hen]; exact hl)
  intro h0
  obtain ⟨d', hd'⟩ : ∃ d', ly[0]? = some d' := ⟨_, List.getElem?_eq_getElem h0⟩
  exact Nat.le_of_lt (Nat.lt_of_le_of_lt (hG.2 0 h0) ((hP 0 _ (hc_ws_get hd')).lt))
/-- the words of the private constructors' links, which a contract must carry by itself -/
def hk_nest (U : State) : Prop := va_Nw (.methodLinkNest RX7 18 yX6_init "HeedClock") U ∧ va_Nw (.methodLinkNest RX7 25 yX3_init "HeedClock") U ∧ va_Nw (.methodLinkNest RX7 38 yX0_init "HeedClock") U ∧ va_Nw (.methodLinkNest RX7 45 yX1_init "HeedClock") U
theorem hk_nest.warm {s U : State} (hW : s.WarmedH U.vm) (h : hk_nest s) : hk_nest U := ⟨h.1.warmM hW, h.2.1.warmM hW, h.2.2.1.warmM hW, h.2.2.2.warmM hW⟩
theorem hk_nest.same {s U : State} (hW : s.vm = U.vm) (h : hk_nest s) : hk_nest U := ⟨h.1.same rfl hW, h.2.1.same rfl hW, h.2.2.1.same rfl hW, h.2.2.2.same rfl hW⟩
def hk_MN (l : Launch) (G : hc_Geo) (y : MethodName) (cc : ByteArray) (nL : Nat) (d mc ms : Nat) (av : List Value) (ly : List hc_Ly) (M : hc_Mem) (ly' : List hc_Ly) (M' : hc_Mem) : Prop :=
  Met l y (Cond.code y cc nL none :: hc_tb) (hk_rm d mc ms) (va_Pc av (fun U => hc_wd G ly M U ∧ hk_nest U)) (hk_Q G ly ly' M') mc ms (hc_A G)
theorem hk_MN.of {l : Launch} {G : hc_Geo} {y : MethodName} {cc : ByteArray} {nL : Nat} {d mc ms : Nat} {av : List Value} {ly ly' : List hc_Ly} {M M' : hc_Mem} (hG : hc_okL G ly) (hy : plainName y.cls = true) (hyn : y.name = "<init>") (L0 : List (Option Value)) (hen : hc_en 0 L0 = lv_args 0 av) (hn : (lg_sl av).length ≤ nL)
    (body : ∀ (p : Program) (e : Env) (s : State) (m : MethodId) (args : Array Value) (below : List Frame) (meth : Method) (c : Code), meth.name = "<init>" → hc_Cx G ly cc nL none y.cls p s m args meth c → hk_nest s → (0 < ly.length → G.2.2.2.2 ≤ s.heap.size) → hc_W G ly p l e (hk_rm d mc ms) s m args below meth c nL 0 0 (MQ below (hk_Q G ly ly' M') args s mc ms (hc_A G)) 0 L0 [] M) : hk_MN l G y cc nL d mc ms av ly M ly' M' := by
  refine Met.ofW (cc := cc) (maxL := nL) (ret := none) hy rfl ?_
  intro p e s m args below meth c s₁ B hml hv
  obtain ⟨rfl, ⟨hP, hK, hSt⟩, hN⟩ := hv
  have hts := atoms_spec (ws := Cond.code y cc nL none :: hc_tb) B.pre
  have hl := lv_entry av (n := nL) hn
  rw [lg_entry_eq]
  generalize (lg_sl av ++ List.replicate (nL - (lg_sl av).length) Slot.unset).toArray = ls at hl ⊢
  refine body p e s m av.toArray below meth c ((name_of_methodNamed B.named B.method).1.trans hyn) ⟨B.exec, B.bytes, hml, findClass_of_methodNamed B.named, fun w h => hts w (List.mem_cons_of_mem _ h), hK, hSt, hG, B.returns, B.notSynchronized⟩ hN ?_ s.heap [] ls hP va_S.rf (by unfold hc_lv; rw [hen]; exact hl)
  intro h0
  obtain ⟨d', hd'⟩ : ∃ d', ly[0]? = some d' := ⟨_, List.getElem?_eq_getElem h0⟩
  exact Nat.le_of_lt (Nat.lt_of_le_of_lt (hG.2 0 h0) ((hP 0 _ (hc_ws_get hd')).lt))
theorem hk_callIN {G : hc_Geo} {ly : List hc_Ly} {p : Program} {l : Launch} {e : Env} {R : Room} {s : State} {m : MethodId} {args : Array Value} {below : List Frame} {meth : Method} {c : Code} {nL cells slots : Nat} {Q : State → Prop} {cc : ByteArray} {ret : Option FieldType} {own : String} {pc : Nat} {L : List (Option Value)} {st : List Value} {M : hc_Mem} (C : hc_Cx G ly cc nL ret own p s m args meth c) {idx : Nat} {y : MethodName} {bytes : ByteArray} {maxL d mc ms b : Nat} {ly' : List hc_Ly} {M' : hc_Mem} (hN : hk_nest s) (hv : hc_CB own idx y bytes maxL none 0) (hi : Cond.instanceMethod y ∈ hc_tb) (hn : y.name = "<init>") (hM : hk_MN l G y bytes maxL d mc ms [.ref b] ly M ly' M') (hw : (st.map fun v => v.category).sum ≤ 8) (hR : hc_rr d R) (hcs : cells + mc ≤ R.cells ∧ slots + ms ≤ R.slots) (hd : decode cc pc = .ok (.invokespecial idx, 3))
    {n0 : Nat} (hn0 : ly.length = n0) (kk : ∀ G' : hc_Geo, hk_ag G G' n0 → hc_Cx G' ly' cc nL ret own p s m args meth c → hc_W G' ly' p l e R s m args below meth c nL (cells + mc) (slots + ms) Q (pc + 3) L st M') : hc_W G ly p l e R s m args below meth c nL cells slots Q pc L (.ref b :: st) M := by
  subst hn0
  intro H locs ls hP hS hl
  have hts := C.2.2.2.2.1
  exact hk_on C hS hl (va_runI (Ts := hc_tb) (nL := nL) (As := []) (rest := st) (n := 0) ⟨C.1, C.2.1, C.2.2.1, C.2.2.2.1, hts⟩ hM ⟨hk_CB C hv hR, hn, hts _ hi⟩ ⟨fun a U g mk h => ⟨h.1, (hc_wd_blind a U g mk ⟨h.1, h.2.1⟩).2, hk_nest.same rfl h.2.2⟩, fun U hU hW => ⟨rfl, hc_wd_at C hP hS hU hW, hN.warm hW⟩⟩ rfl rfl hl.1 rfl (lv_room hw) hd hcs) kk
