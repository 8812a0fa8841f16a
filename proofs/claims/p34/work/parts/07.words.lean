/-- the words that a method keeps through a call -/
def hc_tb : List Cond := lw_tbl.filter goodWord
theorem hc_tb_of {w : Cond} (i : Nat) (h : lw_tbl[i]? = some w) (g : goodWord w = true) : w ∈ hc_tb := List.mem_filter.mpr ⟨List.mem_of_getElem? h, g⟩
theorem hc_good : GoodIn hc_tb hc_tb := fun w hw => ⟨hw, good_of_word (List.mem_filter.mp hw).2⟩
/-- a field by its pool place: class ci of vwCl, field j -/
def hc_FL (own : String) (idx ci j : Nat) : Prop := ∃ q : vw_C, vwCl[ci]? = some q ∧ j < q.2.2 ∧ (∀ w ∈ u_ws q.1 q.2.1 q.2.2, w ∈ hc_tb) ∧ Cond.fieldLink own idx (q.2.1 j).1 (q.2.1 j).2.1 (q.2.1 j).2.2.1 ∈ hc_tb
def hc_PL (ci j : Nat) (ty : FieldType) : Prop := ∃ (q : vw_C) (ty0 : Nat → FieldType), vwCl[ci]? = some q ∧ (∀ k, k < q.2.2 → parseFieldDescriptor (q.2.1 k).2.2.1 = some (ty0 k)) ∧ (∀ a, a < q.2.2 → ∀ b, b < q.2.2 → a ≠ b → (q.2.1 a).2.1 ≠ (q.2.1 b).2.1) ∧ (q.2.1 j).2.2.2 = false ∧ parseFieldDescriptor (q.2.1 j).2.2.1 = some ty
/-- words of a call, virtual and static -/
def hc_CB (own : String) (idx : Nat) (y : MethodName) (bytes : ByteArray) (maxL : Nat) (rt : Option FieldType) (n : Nat) : Prop := Cond.code y bytes maxL rt ∈ hc_tb ∧ Cond.initialized y.cls ∈ hc_tb ∧ Cond.methodLink own idx y ∈ hc_tb ∧ (y.cls ≠ "java/lang/invoke/MethodHandle" ∧ y.cls ≠ "java/lang/invoke/VarHandle" ∧ (parseMethodDescriptor y.desc).map (fun d => d.parameters.length) = some n) ∧ maxL ≤ 21
def hc_MV (own : String) (idx : Nat) (y : MethodName) (bytes : ByteArray) (maxL : Nat) (rt : Option FieldType) (n : Nat) : Prop := hc_CB own idx y bytes maxL rt n ∧ Cond.instanceMethod y ∈ hc_tb ∧ Cond.selects y.cls y y ∈ hc_tb
def hc_MS (own : String) (idx : Nat) (y : MethodName) (bytes : ByteArray) (maxL : Nat) (rt : Option FieldType) (n : Nat) : Prop := hc_CB own idx y bytes maxL rt n ∧ Cond.static y ∈ hc_tb
