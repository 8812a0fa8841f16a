/-! THE CLAIM OUT OF ONE WALK OF THE LAW'S BODY. Your part is whole_start (and what it stands on); all else here is the same for every law, but numbers. -/
def R_law : String := "HeedClockLaw"
def lw_P (b : Addr) (xs : List Int32) (args : Array Value) (s : State) : Prop := args = #[.ref b] ∧ s.IntsAt b xs ∧ xs.length ≤ 384 ∧ (Jvm.Cond.and given_1 narrow_1).before args s = true
def lw_Q (_ : Array Value) (s : State) (o : Outcome) (t : State) : Prop := o = .returned (some (.int 1)) ∧ Framed s o t [] 600000 7302250
def lw_Z (below : List Frame) (a : Array Value) (s : State) : State → Prop := fun t => ∃ o, t.status = .running ∧ Ended t below o ∧ lw_Q a s o t
/-- the law's own end, with 1 on the stack, nothing written that was there before, its room as the claim has it -/
theorem lw_ret {p : Program} {l : Launch} {e : Env} {s : State} {m : MethodId} {below : List Frame} {meth : Method} {c : Code} {b : Nat} (hx : p.tables.exec = Jvm.exec) (hb : c.code = code) (hr : meth.sig.returnType = ret) (hlocks : meth.locks = false) {pc : Nat} {H : Heap} {ls : Array Slot} (hdg : decode code pc = .ok (.ireturn, 1)) : W p l e room_1 s m #[Value.ref b] below meth c H [] 600000 7302250 (lw_Z below #[Value.ref b] s) (F0 m pc ls [.int 1]) := by
  intro T hT X
  obtain ⟨fs, hret, hrun, hended, hW, hframe⟩ := X.leave (v := some (.int 1)) (hlocks := hlocks) (fun h => by rw [hr] at h; cases h)
  have hmeth' : T.vm.method? m = some meth := X.method'
  refine ⟨T.setFrames fs, ?_, .returned (some (.int 1)), hrun, hended, rfl, ⟨_, rfl⟩, hW, hframe⟩
  jvm_step X.here [X.here.top, hx, hb, hdg, hmeth', hr, ret, narrow_b1]
  (try refine ⟨rfl, ?_⟩); (try refine ⟨rfl, ?_⟩)
  first | (intro acts; rw [hret _ acts rfl rfl rfl]) | rw [hret _ _ rfl rfl rfl]
  exact Steps.refl _
/-- what holds at the law's entry: the machine, the code, the tables' words (any of lw_tbl by 'hts w (by decide +kernel)'), the script of L ints xs at the cell b, what the Statement gives of the start (any of its parts by flat_of_before) -/
def lw_At (p : Program) (s : State) (m : MethodId) (meth : Method) (c : Code) (b L : Nat) (xs : Nat → Int32) : Prop :=
  p.tables.exec = Jvm.exec ∧ c.code = code ∧ meth.sig.returnType = ret ∧ c.maxLocals = 4 ∧ s.vm.findClass R_law = some m.cls ∧ (∀ w ∈ lw_tbl, w.before #[Value.ref b] s = true) ∧ va_X b L xs s s.heap ∧ b < s.heap.size ∧ meth.locks = false ∧ (Jvm.Cond.and given_1 narrow_1).before #[Value.ref b] s = true

set_option maxRecDepth 20000 in
theorem hs_sta0 {args : Array Value} {s : State} {A : Nat → Prop} (hts : ∀ w ∈ lw_tbl, w.before args s = true) (hgv : (Jvm.Cond.and given_1 narrow_1).before args s = true) (hA : ∀ a : Nat, a < s.heap.size → ¬ A a) : ∃ t : Nat, va_Z "HeedClock$Tape" "LAW_LEAST" "[I" (.ref t) A s s.heap ∧ va_T .int t 1 (fun j => .int (([0] : List Int32).getD j 0)) A s s.heap := by
  have hs := flat_of_before _ hgv
  have hel : ∀ j : Nat, j < 1 → (Term.elem (Term.static "HeedClock$Tape" "LAW_LEAST" "[I") (.int (Int32.ofNat j))).eval args s none [] s = some (.int (([0] : List Int32).getD j 0)) := by
    intro j hj
    match j, hj with
    | 0, _ => exact va_eqt (hs (Cond.eq (.elem (Term.static "HeedClock$Tape" "LAW_LEAST" "[I") (.int 0)) (.int 0)) (by decide +kernel))
    | j + 1, h => omega
  obtain ⟨t, h1, h2⟩ := va_Tof (N := 1) (by decide) (hs (Cond.arrayOf (Term.static "HeedClock$Tape" "LAW_LEAST" "[I") .int) (by decide +kernel)) (va_eqt (hs (Cond.eq (.length (Term.static "HeedClock$Tape" "LAW_LEAST" "[I")) (.int 1)) (by decide +kernel))) hel hA
  exact ⟨t, va_Zof (hts _ (List.mem_of_getElem? (i := 399) (by decide +kernel : lw_tbl[399]? = some (Cond.laysStatic "HeedClock$Tape" "LAW_LEAST" "[I")))) (hts _ (List.mem_of_getElem? (i := 55) (by decide +kernel : lw_tbl[55]? = some (Cond.initialized "HeedClock$Tape")))) h1 hA, h2⟩

set_option maxRecDepth 20000 in
theorem hs_sta1 {args : Array Value} {s : State} {A : Nat → Prop} (hts : ∀ w ∈ lw_tbl, w.before args s = true) (hgv : (Jvm.Cond.and given_1 narrow_1).before args s = true) (hA : ∀ a : Nat, a < s.heap.size → ¬ A a) : ∃ t : Nat, va_Z "HeedClock$Tape" "LAW_MOST" "[I" (.ref t) A s s.heap ∧ va_T .int t 1 (fun j => .int (([12] : List Int32).getD j 0)) A s s.heap := by
  have hs := flat_of_before _ hgv
  have hel : ∀ j : Nat, j < 1 → (Term.elem (Term.static "HeedClock$Tape" "LAW_MOST" "[I") (.int (Int32.ofNat j))).eval args s none [] s = some (.int (([12] : List Int32).getD j 0)) := by
    intro j hj
    match j, hj with
    | 0, _ => exact va_eqt (hs (Cond.eq (.elem (Term.static "HeedClock$Tape" "LAW_MOST" "[I") (.int 0)) (.int 12)) (by decide +kernel))
    | j + 1, h => omega
  obtain ⟨t, h1, h2⟩ := va_Tof (N := 1) (by decide) (hs (Cond.arrayOf (Term.static "HeedClock$Tape" "LAW_MOST" "[I") .int) (by decide +kernel)) (va_eqt (hs (Cond.eq (.length (Term.static "HeedClock$Tape" "LAW_MOST" "[I")) (.int 1)) (by decide +kernel))) hel hA
  exact ⟨t, va_Zof (hts _ (List.mem_of_getElem? (i := 401) (by decide +kernel : lw_tbl[401]? = some (Cond.laysStatic "HeedClock$Tape" "LAW_MOST" "[I")))) (hts _ (List.mem_of_getElem? (i := 55) (by decide +kernel : lw_tbl[55]? = some (Cond.initialized "HeedClock$Tape")))) h1 hA, h2⟩

set_option maxRecDepth 20000 in
theorem hs_sta2 {args : Array Value} {s : State} {A : Nat → Prop} (hts : ∀ w ∈ lw_tbl, w.before args s = true) (hgv : (Jvm.Cond.and given_1 narrow_1).before args s = true) (hA : ∀ a : Nat, a < s.heap.size → ¬ A a) : ∃ t : Nat, va_Z "HeedClock$Tape" "EAR_LEAST" "[I" (.ref t) A s s.heap ∧ va_T .int t 4 (fun j => .int (([1, 0, 0, 1] : List Int32).getD j 0)) A s s.heap := by
  have hs := flat_of_before _ hgv
  have hel : ∀ j : Nat, j < 4 → (Term.elem (Term.static "HeedClock$Tape" "EAR_LEAST" "[I") (.int (Int32.ofNat j))).eval args s none [] s = some (.int (([1, 0, 0, 1] : List Int32).getD j 0)) := by
    intro j hj
    match j, hj with
    | 0, _ => exact va_eqt (hs (Cond.eq (.elem (Term.static "HeedClock$Tape" "EAR_LEAST" "[I") (.int 0)) (.int 1)) (by decide +kernel))
    | 1, _ => exact va_eqt (hs (Cond.eq (.elem (Term.static "HeedClock$Tape" "EAR_LEAST" "[I") (.int 1)) (.int 0)) (by decide +kernel))
    | 2, _ => exact va_eqt (hs (Cond.eq (.elem (Term.static "HeedClock$Tape" "EAR_LEAST" "[I") (.int 2)) (.int 0)) (by decide +kernel))
    | 3, _ => exact va_eqt (hs (Cond.eq (.elem (Term.static "HeedClock$Tape" "EAR_LEAST" "[I") (.int 3)) (.int 1)) (by decide +kernel))
    | j + 4, h => omega
  obtain ⟨t, h1, h2⟩ := va_Tof (N := 4) (by decide) (hs (Cond.arrayOf (Term.static "HeedClock$Tape" "EAR_LEAST" "[I") .int) (by decide +kernel)) (va_eqt (hs (Cond.eq (.length (Term.static "HeedClock$Tape" "EAR_LEAST" "[I")) (.int 4)) (by decide +kernel))) hel hA
  exact ⟨t, va_Zof (hts _ (List.mem_of_getElem? (i := 426) (by decide +kernel : lw_tbl[426]? = some (Cond.laysStatic "HeedClock$Tape" "EAR_LEAST" "[I")))) (hts _ (List.mem_of_getElem? (i := 55) (by decide +kernel : lw_tbl[55]? = some (Cond.initialized "HeedClock$Tape")))) h1 hA, h2⟩

set_option maxRecDepth 20000 in
theorem hs_sta3 {args : Array Value} {s : State} {A : Nat → Prop} (hts : ∀ w ∈ lw_tbl, w.before args s = true) (hgv : (Jvm.Cond.and given_1 narrow_1).before args s = true) (hA : ∀ a : Nat, a < s.heap.size → ¬ A a) : ∃ t : Nat, va_Z "HeedClock$Tape" "EAR_MOST" "[I" (.ref t) A s s.heap ∧ va_T .int t 4 (fun j => .int (([12, 3, 7, 8] : List Int32).getD j 0)) A s s.heap := by
  have hs := flat_of_before _ hgv
  have hel : ∀ j : Nat, j < 4 → (Term.elem (Term.static "HeedClock$Tape" "EAR_MOST" "[I") (.int (Int32.ofNat j))).eval args s none [] s = some (.int (([12, 3, 7, 8] : List Int32).getD j 0)) := by
    intro j hj
    match j, hj with
    | 0, _ => exact va_eqt (hs (Cond.eq (.elem (Term.static "HeedClock$Tape" "EAR_MOST" "[I") (.int 0)) (.int 12)) (by decide +kernel))
    | 1, _ => exact va_eqt (hs (Cond.eq (.elem (Term.static "HeedClock$Tape" "EAR_MOST" "[I") (.int 1)) (.int 3)) (by decide +kernel))
    | 2, _ => exact va_eqt (hs (Cond.eq (.elem (Term.static "HeedClock$Tape" "EAR_MOST" "[I") (.int 2)) (.int 7)) (by decide +kernel))
    | 3, _ => exact va_eqt (hs (Cond.eq (.elem (Term.static "HeedClock$Tape" "EAR_MOST" "[I") (.int 3)) (.int 8)) (by decide +kernel))
    | j + 4, h => omega
  obtain ⟨t, h1, h2⟩ := va_Tof (N := 4) (by decide) (hs (Cond.arrayOf (Term.static "HeedClock$Tape" "EAR_MOST" "[I") .int) (by decide +kernel)) (va_eqt (hs (Cond.eq (.length (Term.static "HeedClock$Tape" "EAR_MOST" "[I")) (.int 4)) (by decide +kernel))) hel hA
  exact ⟨t, va_Zof (hts _ (List.mem_of_getElem? (i := 428) (by decide +kernel : lw_tbl[428]? = some (Cond.laysStatic "HeedClock$Tape" "EAR_MOST" "[I")))) (hts _ (List.mem_of_getElem? (i := 55) (by decide +kernel : lw_tbl[55]? = some (Cond.initialized "HeedClock$Tape")))) h1 hA, h2⟩

set_option maxRecDepth 20000 in
theorem hs_sta4 {args : Array Value} {s : State} {A : Nat → Prop} (hts : ∀ w ∈ lw_tbl, w.before args s = true) (hgv : (Jvm.Cond.and given_1 narrow_1).before args s = true) (hA : ∀ a : Nat, a < s.heap.size → ¬ A a) : ∃ t : Nat, va_Z "HeedClock$Tape" "DOING_LEAST" "[I" (.ref t) A s s.heap ∧ va_T .int t 3 (fun j => .int (([0, 1, 0] : List Int32).getD j 0)) A s s.heap := by
  have hs := flat_of_before _ hgv
  have hel : ∀ j : Nat, j < 3 → (Term.elem (Term.static "HeedClock$Tape" "DOING_LEAST" "[I") (.int (Int32.ofNat j))).eval args s none [] s = some (.int (([0, 1, 0] : List Int32).getD j 0)) := by
    intro j hj
    match j, hj with
    | 0, _ => exact va_eqt (hs (Cond.eq (.elem (Term.static "HeedClock$Tape" "DOING_LEAST" "[I") (.int 0)) (.int 0)) (by decide +kernel))
    | 1, _ => exact va_eqt (hs (Cond.eq (.elem (Term.static "HeedClock$Tape" "DOING_LEAST" "[I") (.int 1)) (.int 1)) (by decide +kernel))
    | 2, _ => exact va_eqt (hs (Cond.eq (.elem (Term.static "HeedClock$Tape" "DOING_LEAST" "[I") (.int 2)) (.int 0)) (by decide +kernel))
    | j + 3, h => omega
  obtain ⟨t, h1, h2⟩ := va_Tof (N := 3) (by decide) (hs (Cond.arrayOf (Term.static "HeedClock$Tape" "DOING_LEAST" "[I") .int) (by decide +kernel)) (va_eqt (hs (Cond.eq (.length (Term.static "HeedClock$Tape" "DOING_LEAST" "[I")) (.int 3)) (by decide +kernel))) hel hA
  exact ⟨t, va_Zof (hts _ (List.mem_of_getElem? (i := 434) (by decide +kernel : lw_tbl[434]? = some (Cond.laysStatic "HeedClock$Tape" "DOING_LEAST" "[I")))) (hts _ (List.mem_of_getElem? (i := 55) (by decide +kernel : lw_tbl[55]? = some (Cond.initialized "HeedClock$Tape")))) h1 hA, h2⟩

set_option maxRecDepth 20000 in
theorem hs_sta5 {args : Array Value} {s : State} {A : Nat → Prop} (hts : ∀ w ∈ lw_tbl, w.before args s = true) (hgv : (Jvm.Cond.and given_1 narrow_1).before args s = true) (hA : ∀ a : Nat, a < s.heap.size → ¬ A a) : ∃ t : Nat, va_Z "HeedClock$Tape" "DOING_MOST" "[I" (.ref t) A s s.heap ∧ va_T .int t 3 (fun j => .int (([99, 40, 99] : List Int32).getD j 0)) A s s.heap := by
  have hs := flat_of_before _ hgv
  have hel : ∀ j : Nat, j < 3 → (Term.elem (Term.static "HeedClock$Tape" "DOING_MOST" "[I") (.int (Int32.ofNat j))).eval args s none [] s = some (.int (([99, 40, 99] : List Int32).getD j 0)) := by
    intro j hj
    match j, hj with
    | 0, _ => exact va_eqt (hs (Cond.eq (.elem (Term.static "HeedClock$Tape" "DOING_MOST" "[I") (.int 0)) (.int 99)) (by decide +kernel))
    | 1, _ => exact va_eqt (hs (Cond.eq (.elem (Term.static "HeedClock$Tape" "DOING_MOST" "[I") (.int 1)) (.int 40)) (by decide +kernel))
    | 2, _ => exact va_eqt (hs (Cond.eq (.elem (Term.static "HeedClock$Tape" "DOING_MOST" "[I") (.int 2)) (.int 99)) (by decide +kernel))
    | j + 3, h => omega
  obtain ⟨t, h1, h2⟩ := va_Tof (N := 3) (by decide) (hs (Cond.arrayOf (Term.static "HeedClock$Tape" "DOING_MOST" "[I") .int) (by decide +kernel)) (va_eqt (hs (Cond.eq (.length (Term.static "HeedClock$Tape" "DOING_MOST" "[I")) (.int 3)) (by decide +kernel))) hel hA
  exact ⟨t, va_Zof (hts _ (List.mem_of_getElem? (i := 436) (by decide +kernel : lw_tbl[436]? = some (Cond.laysStatic "HeedClock$Tape" "DOING_MOST" "[I")))) (hts _ (List.mem_of_getElem? (i := 55) (by decide +kernel : lw_tbl[55]? = some (Cond.initialized "HeedClock$Tape")))) h1 hA, h2⟩

set_option maxRecDepth 20000 in
theorem hs_sta6 {args : Array Value} {s : State} {A : Nat → Prop} (hts : ∀ w ∈ lw_tbl, w.before args s = true) (hgv : (Jvm.Cond.and given_1 narrow_1).before args s = true) (hA : ∀ a : Nat, a < s.heap.size → ¬ A a) : ∃ t : Nat, va_Z "HeedClock$Kinds" "NEAREST" "[I" (.ref t) A s s.heap ∧ va_T .int t 6 (fun j => .int (([(-1), 0, 1, 1, 0, 4] : List Int32).getD j 0)) A s s.heap := by
  have hs := flat_of_before _ hgv
  have hel : ∀ j : Nat, j < 6 → (Term.elem (Term.static "HeedClock$Kinds" "NEAREST" "[I") (.int (Int32.ofNat j))).eval args s none [] s = some (.int (([(-1), 0, 1, 1, 0, 4] : List Int32).getD j 0)) := by
    intro j hj
    match j, hj with
    | 0, _ => exact va_eqt (hs (Cond.eq (.elem (Term.static "HeedClock$Kinds" "NEAREST" "[I") (.int 0)) (.int (-1))) (by decide +kernel))
    | 1, _ => exact va_eqt (hs (Cond.eq (.elem (Term.static "HeedClock$Kinds" "NEAREST" "[I") (.int 1)) (.int 0)) (by decide +kernel))
    | 2, _ => exact va_eqt (hs (Cond.eq (.elem (Term.static "HeedClock$Kinds" "NEAREST" "[I") (.int 2)) (.int 1)) (by decide +kernel))
    | 3, _ => exact va_eqt (hs (Cond.eq (.elem (Term.static "HeedClock$Kinds" "NEAREST" "[I") (.int 3)) (.int 1)) (by decide +kernel))
    | 4, _ => exact va_eqt (hs (Cond.eq (.elem (Term.static "HeedClock$Kinds" "NEAREST" "[I") (.int 4)) (.int 0)) (by decide +kernel))
    | 5, _ => exact va_eqt (hs (Cond.eq (.elem (Term.static "HeedClock$Kinds" "NEAREST" "[I") (.int 5)) (.int 4)) (by decide +kernel))
    | j + 6, h => omega
  obtain ⟨t, h1, h2⟩ := va_Tof (N := 6) (by decide) (hs (Cond.arrayOf (Term.static "HeedClock$Kinds" "NEAREST" "[I") .int) (by decide +kernel)) (va_eqt (hs (Cond.eq (.length (Term.static "HeedClock$Kinds" "NEAREST" "[I")) (.int 6)) (by decide +kernel))) hel hA
  exact ⟨t, va_Zof (hts _ (List.mem_of_getElem? (i := 780) (by decide +kernel : lw_tbl[780]? = some (Cond.laysStatic "HeedClock$Kinds" "NEAREST" "[I")))) (hts _ (List.mem_of_getElem? (i := 61) (by decide +kernel : lw_tbl[61]? = some (Cond.initialized "HeedClock$Kinds")))) h1 hA, h2⟩

set_option maxRecDepth 20000 in
theorem hs_sta7 {args : Array Value} {s : State} {A : Nat → Prop} (hts : ∀ w ∈ lw_tbl, w.before args s = true) (hgv : (Jvm.Cond.and given_1 narrow_1).before args s = true) (hA : ∀ a : Nat, a < s.heap.size → ¬ A a) : ∃ t : Nat, va_Z "HeedClock$Asks" "SIZE_BODIES" "[I" (.ref t) A s s.heap ∧ va_T .int t 6 (fun j => .int (([10, 11, 12, 0, 13, 14] : List Int32).getD j 0)) A s s.heap := by
  have hs := flat_of_before _ hgv
  have hel : ∀ j : Nat, j < 6 → (Term.elem (Term.static "HeedClock$Asks" "SIZE_BODIES" "[I") (.int (Int32.ofNat j))).eval args s none [] s = some (.int (([10, 11, 12, 0, 13, 14] : List Int32).getD j 0)) := by
    intro j hj
    match j, hj with
    | 0, _ => exact va_eqt (hs (Cond.eq (.elem (Term.static "HeedClock$Asks" "SIZE_BODIES" "[I") (.int 0)) (.int 10)) (by decide +kernel))
    | 1, _ => exact va_eqt (hs (Cond.eq (.elem (Term.static "HeedClock$Asks" "SIZE_BODIES" "[I") (.int 1)) (.int 11)) (by decide +kernel))
    | 2, _ => exact va_eqt (hs (Cond.eq (.elem (Term.static "HeedClock$Asks" "SIZE_BODIES" "[I") (.int 2)) (.int 12)) (by decide +kernel))
    | 3, _ => exact va_eqt (hs (Cond.eq (.elem (Term.static "HeedClock$Asks" "SIZE_BODIES" "[I") (.int 3)) (.int 0)) (by decide +kernel))
    | 4, _ => exact va_eqt (hs (Cond.eq (.elem (Term.static "HeedClock$Asks" "SIZE_BODIES" "[I") (.int 4)) (.int 13)) (by decide +kernel))
    | 5, _ => exact va_eqt (hs (Cond.eq (.elem (Term.static "HeedClock$Asks" "SIZE_BODIES" "[I") (.int 5)) (.int 14)) (by decide +kernel))
    | j + 6, h => omega
  obtain ⟨t, h1, h2⟩ := va_Tof (N := 6) (by decide) (hs (Cond.arrayOf (Term.static "HeedClock$Asks" "SIZE_BODIES" "[I") .int) (by decide +kernel)) (va_eqt (hs (Cond.eq (.length (Term.static "HeedClock$Asks" "SIZE_BODIES" "[I")) (.int 6)) (by decide +kernel))) hel hA
  exact ⟨t, va_Zof (hts _ (List.mem_of_getElem? (i := 798) (by decide +kernel : lw_tbl[798]? = some (Cond.laysStatic "HeedClock$Asks" "SIZE_BODIES" "[I")))) (hts _ (List.mem_of_getElem? (i := 58) (by decide +kernel : lw_tbl[58]? = some (Cond.initialized "HeedClock$Asks")))) h1 hA, h2⟩

set_option maxRecDepth 20000 in
theorem hs_sta8 {args : Array Value} {s : State} {A : Nat → Prop} (hts : ∀ w ∈ lw_tbl, w.before args s = true) (hgv : (Jvm.Cond.and given_1 narrow_1).before args s = true) (hA : ∀ a : Nat, a < s.heap.size → ¬ A a) : ∃ t : Nat, va_Z "HeedClock$Asks" "MARK_BODIES" "[I" (.ref t) A s s.heap ∧ va_T .int t 6 (fun j => .int (([20, 21, 24, 22, 23, 0] : List Int32).getD j 0)) A s s.heap := by
  have hs := flat_of_before _ hgv
  have hel : ∀ j : Nat, j < 6 → (Term.elem (Term.static "HeedClock$Asks" "MARK_BODIES" "[I") (.int (Int32.ofNat j))).eval args s none [] s = some (.int (([20, 21, 24, 22, 23, 0] : List Int32).getD j 0)) := by
    intro j hj
    match j, hj with
    | 0, _ => exact va_eqt (hs (Cond.eq (.elem (Term.static "HeedClock$Asks" "MARK_BODIES" "[I") (.int 0)) (.int 20)) (by decide +kernel))
    | 1, _ => exact va_eqt (hs (Cond.eq (.elem (Term.static "HeedClock$Asks" "MARK_BODIES" "[I") (.int 1)) (.int 21)) (by decide +kernel))
    | 2, _ => exact va_eqt (hs (Cond.eq (.elem (Term.static "HeedClock$Asks" "MARK_BODIES" "[I") (.int 2)) (.int 24)) (by decide +kernel))
    | 3, _ => exact va_eqt (hs (Cond.eq (.elem (Term.static "HeedClock$Asks" "MARK_BODIES" "[I") (.int 3)) (.int 22)) (by decide +kernel))
    | 4, _ => exact va_eqt (hs (Cond.eq (.elem (Term.static "HeedClock$Asks" "MARK_BODIES" "[I") (.int 4)) (.int 23)) (by decide +kernel))
    | 5, _ => exact va_eqt (hs (Cond.eq (.elem (Term.static "HeedClock$Asks" "MARK_BODIES" "[I") (.int 5)) (.int 0)) (by decide +kernel))
    | j + 6, h => omega
  obtain ⟨t, h1, h2⟩ := va_Tof (N := 6) (by decide) (hs (Cond.arrayOf (Term.static "HeedClock$Asks" "MARK_BODIES" "[I") .int) (by decide +kernel)) (va_eqt (hs (Cond.eq (.length (Term.static "HeedClock$Asks" "MARK_BODIES" "[I")) (.int 6)) (by decide +kernel))) hel hA
  exact ⟨t, va_Zof (hts _ (List.mem_of_getElem? (i := 800) (by decide +kernel : lw_tbl[800]? = some (Cond.laysStatic "HeedClock$Asks" "MARK_BODIES" "[I")))) (hts _ (List.mem_of_getElem? (i := 58) (by decide +kernel : lw_tbl[58]? = some (Cond.initialized "HeedClock$Asks")))) h1 hA, h2⟩

/-- the words of the private constructors, at the law's start -/
theorem hs_nest {args : Array Value} {s : State} (hts : ∀ w ∈ lw_tbl, w.before args s = true) : hk_nest s := ⟨va_Nw.of rfl (hts _ kw_mn_X7_18), va_Nw.of rfl (hts _ kw_mn_X7_25), va_Nw.of rfl (hts _ kw_mn_X7_38), va_Nw.of rfl (hts _ kw_mn_X7_45)⟩
/-- a geometry for the law's start: no cell yet -/
theorem hs_start {args : Array Value} {s : State} (hts : ∀ w ∈ lw_tbl, w.before args s = true) (hgv : (Jvm.Cond.and given_1 narrow_1).before args s = true) : ∃ G : hc_Geo, G.2.2.2.2 = s.heap.size ∧ va_K G.1 vwCl (hc_tys G) s ∧ hc_St G (hc_A G) s s.heap := by
  have hA : ∀ a : Nat, a < s.heap.size → ¬ (fun q : Nat => s.heap.size ≤ q) a := fun a h => Nat.not_le.mpr h
  obtain ⟨c0, i0, k0⟩ := u_known (C := RX0) (T := TX0) (N := 4) (n := 4) hts inX0 (hts (.instantiable RX0 4) (List.mem_filter.mp kw_in_X0).1)
  obtain ⟨c1, i1, k1⟩ := u_known (C := RX1) (T := TX1) (N := 6) (n := 6) hts inX1 (hts (.instantiable RX1 6) (List.mem_filter.mp kw_in_X1).1)
  obtain ⟨c2, i2, k2⟩ := u_known (C := RX3) (T := TX3) (N := 17) (n := 17) hts inX3 (hts (.instantiable RX3 17) (List.mem_filter.mp kw_in_X3).1)
  obtain ⟨c3, i3, k3⟩ := u_known (C := RX5) (T := TX5) (N := 3) (n := 3) hts inX5 (hts (.instantiable RX5 3) (List.mem_filter.mp kw_in_X5).1)
  obtain ⟨c4, i4, k4⟩ := u_known (C := RX6) (T := TX6) (N := 9) (n := 9) hts inX6 (hts (.instantiable RX6 9) (List.mem_filter.mp kw_in_X6).1)
  obtain ⟨c5, i5, k5⟩ := u_known (C := RX7) (T := TX7) (N := 9) (n := 9) hts inX7 (hts (.instantiable RX7 9) (List.mem_filter.mp kw_in_X7).1)
  obtain ⟨c6, i6, k6⟩ := u_known (C := RX8) (T := TX8) (N := 23) (n := 23) hts inX8 (hts (.instantiable RX8 23) (List.mem_filter.mp kw_in_X8).1)
  obtain ⟨t0, z0, y0⟩ := hs_sta0 hts hgv hA
  obtain ⟨t1, z1, y1⟩ := hs_sta1 hts hgv hA
  obtain ⟨t2, z2, y2⟩ := hs_sta2 hts hgv hA
  obtain ⟨t3, z3, y3⟩ := hs_sta3 hts hgv hA
  obtain ⟨t4, z4, y4⟩ := hs_sta4 hts hgv hA
  obtain ⟨t5, z5, y5⟩ := hs_sta5 hts hgv hA
  obtain ⟨t6, z6, y6⟩ := hs_sta6 hts hgv hA
  obtain ⟨t7, z7, y7⟩ := hs_sta7 hts hgv hA
  obtain ⟨t8, z8, y8⟩ := hs_sta8 hts hgv hA
  obtain ⟨cI, kI, pI, fI1, fI2, fI3⟩ := Cond.arrayClass_spec (hts (.arrayClass .int) (List.mem_filter.mp kw_ai).1)
  obtain ⟨cZ, kZ, pZ, fZ1, fZ2, fZ3⟩ := Cond.arrayClass_spec (hts (.arrayClass .boolean) (List.mem_filter.mp kw_az).1)
  refine ⟨((fun k => if k = 0 then c0 else if k = 1 then c1 else if k = 2 then c2 else if k = 3 then c3 else if k = 4 then c4 else if k = 5 then c5 else c6, fun k => if k = 0 then i0 else if k = 1 then i1 else if k = 2 then i2 else if k = 3 then i3 else if k = 4 then i4 else if k = 5 then i5 else i6), (cI, cZ), (fun _ => 0), (fun k => if k = 0 then t0 else if k = 1 then t1 else if k = 2 then t2 else if k = 3 then t3 else if k = 4 then t4 else if k = 5 then t5 else if k = 6 then t6 else if k = 7 then t7 else t8), s.heap.size), rfl, ⟨?_, ?_⟩, ?_⟩
  · intro k q hq
    match k, hq with
    | 0, hq => cases hq; exact k0
    | 1, hq => cases hq; exact k1
    | 2, hq => cases hq; exact k2
    | 3, hq => cases hq; exact k3
    | 4, hq => cases hq; exact k4
    | 5, hq => cases hq; exact k5
    | 6, hq => cases hq; exact k6
    | k + 7, hq => simp [vwCl] at hq
  · intro k q hq
    match k, hq with
    | 0, hq => cases hq; exact ⟨fun n z => ⟨fun k h => (by cases h), kI, fI2, pI, fI3⟩, fI1⟩
    | 1, hq => cases hq; exact ⟨fun n z => ⟨fun k h => (by cases h), kZ, fZ2, pZ, fZ3⟩, fZ1⟩
    | k + 2, hq => simp [hc_tys] at hq
  · intro k q hq
    match k, hq with
    | 0, hq => cases hq; exact ⟨z0, y0⟩
    | 1, hq => cases hq; exact ⟨z1, y1⟩
    | 2, hq => cases hq; exact ⟨z2, y2⟩
    | 3, hq => cases hq; exact ⟨z3, y3⟩
    | 4, hq => cases hq; exact ⟨z4, y4⟩
    | 5, hq => cases hq; exact ⟨z5, y5⟩
    | 6, hq => cases hq; exact ⟨z6, y6⟩
    | 7, hq => cases hq; exact ⟨z7, y7⟩
    | 8, hq => cases hq; exact ⟨z8, y8⟩
    | k + 9, hq => simp [hc_sta] at hq
section LW
variable {G : hc_Geo} {ly : List hc_Ly} {p : Program} {l : Launch} {e : Env} {R : Room} {s : State} {m : MethodId} {args : Array Value} {below : List Frame} {meth : Method} {c : Code} {nL cells slots : Nat} {Q : State → Prop} {cc : ByteArray} {ret : Option FieldType} {own : String} {pc : Nat} {L : List (Option Value)} {st : List Value} {M : hc_Mem}
/-- the script -/
theorem hc_sld (C : hc_Cx G ly cc nL ret own p s m args meth c) {b n j : Nat} {xs : Nat → Int32} {i : Int32} (hX : va_X b n xs s s.heap) (hbl : b < s.heap.size) (hbA : ¬ hc_A G b) (hn : n < 2 ^ 31) (hi : i = nI j) (hj : j < n) (hd : decode cc pc = .ok (.iaload, 1)) (kk : hc_W G ly p l e R s m args below meth c nL cells slots Q (pc + 1) L (.int (xs j) :: st) M) : hc_W G ly p l e R s m args below meth c nL cells slots Q pc L (.int i :: .ref b :: st) M := by
  subst hi
  intro H locs ls hP hS hl
  refine va_sld C.1 C.2.1 hX hbl hbA hS (vp_in_nI hj hn) hd ?_
  rw [nI_clamp (by omega)]
  exact kk H locs ls hP hS hl
theorem hc_sln (C : hc_Cx G ly cc nL ret own p s m args meth c) {b n : Nat} {xs : Nat → Int32} (hX : va_X b n xs s s.heap) (hbl : b < s.heap.size) (hbA : ¬ hc_A G b) (hd : decode cc pc = .ok (.arraylength, 1)) (kk : hc_W G ly p l e R s m args below meth c nL cells slots Q (pc + 1) L (.int (nI n) :: st) M) : hc_W G ly p l e R s m args below meth c nL cells slots Q pc L (.ref b :: st) M :=
  fun H locs ls hP hS hl => va_slen C.1 C.2.1 hX hbl hbA hS hd (kk H locs ls hP hS hl)
end LW
theorem hk_at62 : hk_at 62 [] = hc_lay := by decide +kernel

