/-! SETTLING a house that was told on the tape -/
def sE (M : hc_Mem) (k : Nat) : hc_Mem := fun c => if c = 10 then (fun j => if j < k then M 7 j else M 10 j) else if c = 11 then (fun j => if j < k then M 8 (1 + 4 * j + 0) else M 11 j) else if c = 12 then (fun j => if j < k then M 8 (1 + 4 * j + 1) else M 12 j) else if c = 13 then (fun j => if j < k then M 8 (1 + 4 * j + 2) else M 13 j) else if c = 14 then (fun j => if j < k then M 8 (1 + 4 * j + 3) else M 14 j) else if c = 15 then (fun j => if j < k then 0 else M 15 j) else M c
theorem sE_0 {M : hc_Mem} : sE M 0 = M := by
  funext c
  unfold sE
  simp only [Nat.not_lt_zero, if_false]
  repeat' split
  all_goals (subst_vars; rfl)
theorem upd_lt {f g : Nat → Int32} {k : Nat} : upd (fun j => if j < k then f j else g j) k (f k) = (fun j => if j < k + 1 then f j else g j) := by
  funext j
  unfold upd
  by_cases h : j = k
  · subst h; rw [if_pos rfl, if_pos (Nat.lt_succ_self j)]
  · have e : (j < k + 1) ↔ (j < k) := by omega
    simp only [h, if_false, e]
theorem sE_s {M : hc_Mem} {k : Nat} : hc_ms (hc_ms (hc_ms (hc_ms (hc_ms (hc_ms (sE M k) 10 k (M 7 k)) 11 k (M 8 (1 + 4 * k + 0))) 12 k (M 8 (1 + 4 * k + 1))) 13 k (M 8 (1 + 4 * k + 2))) 14 k (M 8 (1 + 4 * k + 3))) 15 k 0 = sE M (k + 1) := by
  funext c
  by_cases h15 : c = 15
  · subst h15; rw [hc_ms_s]; simp only [hc_ms_n (show (15 : Nat) ≠ 14 by decide), hc_ms_n (show (15 : Nat) ≠ 13 by decide), hc_ms_n (show (15 : Nat) ≠ 12 by decide), hc_ms_n (show (15 : Nat) ≠ 11 by decide), hc_ms_n (show (15 : Nat) ≠ 10 by decide)]; exact upd_lt (f := fun _ => 0)
  rw [hc_ms_n h15]
  by_cases h14 : c = 14
  · subst h14; rw [hc_ms_s]; simp only [hc_ms_n (show (14 : Nat) ≠ 13 by decide), hc_ms_n (show (14 : Nat) ≠ 12 by decide), hc_ms_n (show (14 : Nat) ≠ 11 by decide), hc_ms_n (show (14 : Nat) ≠ 10 by decide)]; exact upd_lt (f := fun j => M 8 (1 + 4 * j + 3))
  rw [hc_ms_n h14]
  by_cases h13 : c = 13
  · subst h13; rw [hc_ms_s]; simp only [hc_ms_n (show (13 : Nat) ≠ 12 by decide), hc_ms_n (show (13 : Nat) ≠ 11 by decide), hc_ms_n (show (13 : Nat) ≠ 10 by decide)]; exact upd_lt (f := fun j => M 8 (1 + 4 * j + 2))
  rw [hc_ms_n h13]
  by_cases h12 : c = 12
  · subst h12; rw [hc_ms_s]; simp only [hc_ms_n (show (12 : Nat) ≠ 11 by decide), hc_ms_n (show (12 : Nat) ≠ 10 by decide)]; exact upd_lt (f := fun j => M 8 (1 + 4 * j + 1))
  rw [hc_ms_n h12]
  by_cases h11 : c = 11
  · subst h11; rw [hc_ms_s]; simp only [hc_ms_n (show (11 : Nat) ≠ 10 by decide)]; exact upd_lt (f := fun j => M 8 (1 + 4 * j + 0))
  rw [hc_ms_n h11]
  by_cases h10 : c = 10
  · subst h10; rw [hc_ms_s]; exact upd_lt (f := fun j => M 7 j)
  rw [hc_ms_n h10]
  unfold sE
  simp only [h10, h11, h12, h13, h14, h15, if_false]
def sD (M : hc_Mem) (E k : Nat) : hc_Mem := fun c => if c = 16 then (fun j => if j < k then M 8 (1 + 4 * E + 3 * j + 0) else M 16 j) else if c = 17 then (fun j => if j < k then M 8 (1 + 4 * E + 3 * j + 1) else M 17 j) else if c = 18 then (fun j => if j < k then M 8 (1 + 4 * E + 3 * j + 2) else M 18 j) else M c
theorem sD_0 {M : hc_Mem} {E : Nat} : sD M E 0 = M := by
  funext c
  unfold sD
  simp only [Nat.not_lt_zero, if_false]
  repeat' split
  all_goals (subst_vars; rfl)
theorem sD_s {M : hc_Mem} {E k : Nat} : hc_ms (hc_ms (hc_ms (sD M E k) 16 k (M 8 (1 + 4 * E + 3 * k + 0))) 17 k (M 8 (1 + 4 * E + 3 * k + 1))) 18 k (M 8 (1 + 4 * E + 3 * k + 2)) = sD M E (k + 1) := by
  funext c
  by_cases h18 : c = 18
  · subst h18; rw [hc_ms_s]; simp only [hc_ms_n (show (18 : Nat) ≠ 17 by decide), hc_ms_n (show (18 : Nat) ≠ 16 by decide)]; exact upd_lt (f := fun j => M 8 (1 + 4 * E + 3 * j + 2))
  rw [hc_ms_n h18]
  by_cases h17 : c = 17
  · subst h17; rw [hc_ms_s]; simp only [hc_ms_n (show (17 : Nat) ≠ 16 by decide)]; exact upd_lt (f := fun j => M 8 (1 + 4 * E + 3 * j + 1))
  rw [hc_ms_n h17]
  by_cases h16 : c = 16
  · subst h16; rw [hc_ms_s]; exact upd_lt (f := fun j => M 8 (1 + 4 * E + 3 * j + 0))
  rw [hc_ms_n h16]
  unfold sD
  simp only [h16, h17, h18, if_false]
def hSet1 (M : hc_Mem) : hc_Mem := hc_ms (hc_ms (hc_ms (hc_ms (hc_ms (hc_ms M 9 0 1) 9 1 (M 8 0)) 9 2 0) 9 3 0) 9 4 0) 19 0 0
def hSettle (M : hc_Mem) (E D : Nat) : hc_Mem := sD (hc_ms (sE (hc_ms (hSet1 M) 9 5 (nI E)) E) 9 6 (nI D)) E D
/-! ACTS -/
def hFo (M : hc_Mem) : hc_Mem := hc_mf (hc_mf (hc_mf (hc_ms M 42 3 23) 43 (va_cpy (M 43) (M 43) 1 0 23)) 44 (va_cpy (M 44) (M 44) 1 0 23)) 45 (va_cpy (M 45) (M 45) 1 0 23)
def hK1 (M : hc_Mem) (k : Nat) (d e b : Int32) : hc_Mem := hc_ms (hc_ms (hc_ms (hc_ms M 43 k d) 44 k e) 45 k b) 42 3 (nI (k + 1))
def hKp (M : hc_Mem) (k : Nat) (d e b : Int32) : hc_Mem := if k < 24 then hK1 M k d e b else hK1 (hFo M) 23 d e b
theorem hKp_n {M : hc_Mem} {k a : Nat} {d e b : Int32} (h : a < 42 ∨ 45 < a) : hKp M k d e b a = M a := by
  unfold hKp
  split
  · unfold hK1; rw [hc_ms_n (by omega), hc_ms_n (by omega), hc_ms_n (by omega), hc_ms_n (by omega)]
  · unfold hK1 hFo; rw [hc_ms_n (by omega), hc_ms_n (by omega), hc_ms_n (by omega), hc_ms_n (by omega), hc_mf_n (by omega), hc_mf_n (by omega), hc_mf_n (by omega), hc_ms_n (by omega)]

set_option maxRecDepth 100000 in
set_option maxHeartbeats 4000000 in
theorem c_X6_toldWool {l : Launch} {G : hc_Geo} (hG : hc_ok G) {M : hc_Mem}  : hc_M l G yX6_toldWool cX6_toldWool 1 (some .int) 1 [.ref (hc_ad G 5)] M (hc_pi (fun z M' => M 8 0 = z ∧ M = M')) := by
  refine hc_M.of hG (by decide) [some (.ref (hc_ad G 5))] rfl (Nat.le_of_ble_eq_true rfl) ?_
  intro p e s m args below meth c C
  refine hc_aload_n C dX6_toldWool_0 rfl rfl ?_
  refine hc_getR C fl_X6_36 rfl rfl dX6_toldWool_1 ?_
  refine hc_iconst C dX6_toldWool_4 (v := 0) rfl ?_
  refine hc_ialdN C (j := 0) rfl rfl (by decide) dX6_toldWool_5 ?_
  refine hc_iret C rfl dX6_toldWool_6 ?_
  exact ⟨rfl, rfl⟩

set_option maxRecDepth 100000 in
set_option maxHeartbeats 4000000 in
theorem c_X6_toldOfEar_0 {l : Launch} {G : hc_Geo} (hG : hc_ok G) {M : hc_Mem} {j : Nat}  (hj : j < 6) : hc_M l G yX6_toldOfEar cX6_toldOfEar 3 (some .int) 1 [.ref (hc_ad G 5), .int (nI j), .int 0] M (hc_pi (fun z M' => M 8 (1 + 4 * j + 0) = z ∧ M = M')) := by
  refine hc_M.of hG (by decide) [some (.ref (hc_ad G 5)), some (.int (nI j)), some (.int 0)] rfl (Nat.le_of_ble_eq_true rfl) ?_
  intro p e s m args below meth c C
  refine hc_aload_n C dX6_toldOfEar_0 rfl rfl ?_
  refine hc_getR C fl_X6_36 rfl rfl dX6_toldOfEar_1 ?_
  refine hc_iconst C dX6_toldOfEar_4 (v := 1) rfl ?_
  refine hc_iconst C dX6_toldOfEar_5 (v := 4) rfl ?_
  refine hc_iload_n C dX6_toldOfEar_6 rfl rfl ?_
  refine hc_imul C dX6_toldOfEar_7 ?_
  refine hc_iadd C dX6_toldOfEar_8 ?_
  refine hc_iload_n C dX6_toldOfEar_9 rfl rfl ?_
  refine hc_iadd C dX6_toldOfEar_10 ?_
  refine hc_ialdN C (j := (1 + 4 * j + 0)) rfl (show (1 : Int32) + 4 * nI j + nI 0 = nI (1 + 4 * j + 0) by rw [show (1 : Int32) = nI 1 from rfl, show (4 : Int32) = nI 4 from rfl, pk_mul, nI_add, nI_add]) (by omega) dX6_toldOfEar_11 ?_
  refine hc_iret C rfl dX6_toldOfEar_12 ?_
  exact ⟨rfl, rfl⟩

set_option maxRecDepth 100000 in
set_option maxHeartbeats 4000000 in
theorem c_X6_toldOfEar_1 {l : Launch} {G : hc_Geo} (hG : hc_ok G) {M : hc_Mem} {j : Nat}  (hj : j < 6) : hc_M l G yX6_toldOfEar cX6_toldOfEar 3 (some .int) 1 [.ref (hc_ad G 5), .int (nI j), .int 1] M (hc_pi (fun z M' => M 8 (1 + 4 * j + 1) = z ∧ M = M')) := by
  refine hc_M.of hG (by decide) [some (.ref (hc_ad G 5)), some (.int (nI j)), some (.int 1)] rfl (Nat.le_of_ble_eq_true rfl) ?_
  intro p e s m args below meth c C
  refine hc_aload_n C dX6_toldOfEar_0 rfl rfl ?_
  refine hc_getR C fl_X6_36 rfl rfl dX6_toldOfEar_1 ?_
  refine hc_iconst C dX6_toldOfEar_4 (v := 1) rfl ?_
  refine hc_iconst C dX6_toldOfEar_5 (v := 4) rfl ?_
  refine hc_iload_n C dX6_toldOfEar_6 rfl rfl ?_
  refine hc_imul C dX6_toldOfEar_7 ?_
  refine hc_iadd C dX6_toldOfEar_8 ?_
  refine hc_iload_n C dX6_toldOfEar_9 rfl rfl ?_
  refine hc_iadd C dX6_toldOfEar_10 ?_
  refine hc_ialdN C (j := (1 + 4 * j + 1)) rfl (show (1 : Int32) + 4 * nI j + nI 1 = nI (1 + 4 * j + 1) by rw [show (1 : Int32) = nI 1 from rfl, show (4 : Int32) = nI 4 from rfl, pk_mul, nI_add, nI_add]) (by omega) dX6_toldOfEar_11 ?_
  refine hc_iret C rfl dX6_toldOfEar_12 ?_
  exact ⟨rfl, rfl⟩

set_option maxRecDepth 100000 in
set_option maxHeartbeats 4000000 in
theorem c_X6_toldOfEar_2 {l : Launch} {G : hc_Geo} (hG : hc_ok G) {M : hc_Mem} {j : Nat}  (hj : j < 6) : hc_M l G yX6_toldOfEar cX6_toldOfEar 3 (some .int) 1 [.ref (hc_ad G 5), .int (nI j), .int 2] M (hc_pi (fun z M' => M 8 (1 + 4 * j + 2) = z ∧ M = M')) := by
  refine hc_M.of hG (by decide) [some (.ref (hc_ad G 5)), some (.int (nI j)), some (.int 2)] rfl (Nat.le_of_ble_eq_true rfl) ?_
  intro p e s m args below meth c C
  refine hc_aload_n C dX6_toldOfEar_0 rfl rfl ?_
  refine hc_getR C fl_X6_36 rfl rfl dX6_toldOfEar_1 ?_
  refine hc_iconst C dX6_toldOfEar_4 (v := 1) rfl ?_
  refine hc_iconst C dX6_toldOfEar_5 (v := 4) rfl ?_
  refine hc_iload_n C dX6_toldOfEar_6 rfl rfl ?_
  refine hc_imul C dX6_toldOfEar_7 ?_
  refine hc_iadd C dX6_toldOfEar_8 ?_
  refine hc_iload_n C dX6_toldOfEar_9 rfl rfl ?_
  refine hc_iadd C dX6_toldOfEar_10 ?_
  refine hc_ialdN C (j := (1 + 4 * j + 2)) rfl (show (1 : Int32) + 4 * nI j + nI 2 = nI (1 + 4 * j + 2) by rw [show (1 : Int32) = nI 1 from rfl, show (4 : Int32) = nI 4 from rfl, pk_mul, nI_add, nI_add]) (by omega) dX6_toldOfEar_11 ?_
  refine hc_iret C rfl dX6_toldOfEar_12 ?_
  exact ⟨rfl, rfl⟩

set_option maxRecDepth 100000 in
set_option maxHeartbeats 4000000 in
theorem c_X6_toldOfEar_3 {l : Launch} {G : hc_Geo} (hG : hc_ok G) {M : hc_Mem} {j : Nat}  (hj : j < 6) : hc_M l G yX6_toldOfEar cX6_toldOfEar 3 (some .int) 1 [.ref (hc_ad G 5), .int (nI j), .int 3] M (hc_pi (fun z M' => M 8 (1 + 4 * j + 3) = z ∧ M = M')) := by
  refine hc_M.of hG (by decide) [some (.ref (hc_ad G 5)), some (.int (nI j)), some (.int 3)] rfl (Nat.le_of_ble_eq_true rfl) ?_
  intro p e s m args below meth c C
  refine hc_aload_n C dX6_toldOfEar_0 rfl rfl ?_
  refine hc_getR C fl_X6_36 rfl rfl dX6_toldOfEar_1 ?_
  refine hc_iconst C dX6_toldOfEar_4 (v := 1) rfl ?_
  refine hc_iconst C dX6_toldOfEar_5 (v := 4) rfl ?_
  refine hc_iload_n C dX6_toldOfEar_6 rfl rfl ?_
  refine hc_imul C dX6_toldOfEar_7 ?_
  refine hc_iadd C dX6_toldOfEar_8 ?_
  refine hc_iload_n C dX6_toldOfEar_9 rfl rfl ?_
  refine hc_iadd C dX6_toldOfEar_10 ?_
  refine hc_ialdN C (j := (1 + 4 * j + 3)) rfl (show (1 : Int32) + 4 * nI j + nI 3 = nI (1 + 4 * j + 3) by rw [show (1 : Int32) = nI 1 from rfl, show (4 : Int32) = nI 4 from rfl, pk_mul, nI_add, nI_add]) (by omega) dX6_toldOfEar_11 ?_
  refine hc_iret C rfl dX6_toldOfEar_12 ?_
  exact ⟨rfl, rfl⟩

set_option maxRecDepth 100000 in
set_option maxHeartbeats 4000000 in
theorem c_X6_toldOfDoing_0 {l : Launch} {G : hc_Geo} (hG : hc_ok G) {M : hc_Mem} {E j : Nat}  (hE5 : M 5 5 = nI E) (hE6 : E ≤ 6) (hj : j < 4) : hc_M l G yX6_toldOfDoing cX6_toldOfDoing 3 (some .int) 1 [.ref (hc_ad G 5), .int (nI j), .int 0] M (hc_pi (fun z M' => M 8 (1 + 4 * E + 3 * j + 0) = z ∧ M = M')) := by
  refine hc_M.of hG (by decide) [some (.ref (hc_ad G 5)), some (.int (nI j)), some (.int 0)] rfl (Nat.le_of_ble_eq_true rfl) ?_
  intro p e s m args below meth c C
  refine hc_aload_n C dX6_toldOfDoing_0 rfl rfl ?_
  refine hc_getR C fl_X6_36 rfl rfl dX6_toldOfDoing_1 ?_
  refine hc_iconst C dX6_toldOfDoing_4 (v := 1) rfl ?_
  refine hc_iconst C dX6_toldOfDoing_5 (v := 4) rfl ?_
  refine hc_aload_n C dX6_toldOfDoing_6 rfl rfl ?_
  refine hc_getI C fl_X6_30 rfl rfl dX6_toldOfDoing_7 ?_
  refine hc_imul C dX6_toldOfDoing_10 ?_
  refine hc_iadd C dX6_toldOfDoing_11 ?_
  refine hc_iconst C dX6_toldOfDoing_12 (v := 3) rfl ?_
  refine hc_iload_n C dX6_toldOfDoing_13 rfl rfl ?_
  refine hc_imul C dX6_toldOfDoing_14 ?_
  refine hc_iadd C dX6_toldOfDoing_15 ?_
  refine hc_iload_n C dX6_toldOfDoing_16 rfl rfl ?_
  refine hc_iadd C dX6_toldOfDoing_17 ?_
  refine hc_ialdN C (j := (1 + 4 * E + 3 * j + 0)) rfl (show (1 : Int32) + 4 * M 5 5 + 3 * nI j + nI 0 = nI (1 + 4 * E + 3 * j + 0) by rw [hE5, show (1 : Int32) = nI 1 from rfl, show (4 : Int32) = nI 4 from rfl, show (3 : Int32) = nI 3 from rfl, pk_mul, pk_mul, nI_add, nI_add, nI_add]) (by omega) dX6_toldOfDoing_18 ?_
  refine hc_iret C rfl dX6_toldOfDoing_19 ?_
  exact ⟨rfl, rfl⟩

set_option maxRecDepth 100000 in
set_option maxHeartbeats 4000000 in
theorem c_X6_toldOfDoing_1 {l : Launch} {G : hc_Geo} (hG : hc_ok G) {M : hc_Mem} {E j : Nat}  (hE5 : M 5 5 = nI E) (hE6 : E ≤ 6) (hj : j < 4) : hc_M l G yX6_toldOfDoing cX6_toldOfDoing 3 (some .int) 1 [.ref (hc_ad G 5), .int (nI j), .int 1] M (hc_pi (fun z M' => M 8 (1 + 4 * E + 3 * j + 1) = z ∧ M = M')) := by
  refine hc_M.of hG (by decide) [some (.ref (hc_ad G 5)), some (.int (nI j)), some (.int 1)] rfl (Nat.le_of_ble_eq_true rfl) ?_
  intro p e s m args below meth c C
  refine hc_aload_n C dX6_toldOfDoing_0 rfl rfl ?_
  refine hc_getR C fl_X6_36 rfl rfl dX6_toldOfDoing_1 ?_
  refine hc_iconst C dX6_toldOfDoing_4 (v := 1) rfl ?_
  refine hc_iconst C dX6_toldOfDoing_5 (v := 4) rfl ?_
  refine hc_aload_n C dX6_toldOfDoing_6 rfl rfl ?_
  refine hc_getI C fl_X6_30 rfl rfl dX6_toldOfDoing_7 ?_
  refine hc_imul C dX6_toldOfDoing_10 ?_
  refine hc_iadd C dX6_toldOfDoing_11 ?_
  refine hc_iconst C dX6_toldOfDoing_12 (v := 3) rfl ?_
  refine hc_iload_n C dX6_toldOfDoing_13 rfl rfl ?_
  refine hc_imul C dX6_toldOfDoing_14 ?_
  refine hc_iadd C dX6_toldOfDoing_15 ?_
  refine hc_iload_n C dX6_toldOfDoing_16 rfl rfl ?_
  refine hc_iadd C dX6_toldOfDoing_17 ?_
  refine hc_ialdN C (j := (1 + 4 * E + 3 * j + 1)) rfl (show (1 : Int32) + 4 * M 5 5 + 3 * nI j + nI 1 = nI (1 + 4 * E + 3 * j + 1) by rw [hE5, show (1 : Int32) = nI 1 from rfl, show (4 : Int32) = nI 4 from rfl, show (3 : Int32) = nI 3 from rfl, pk_mul, pk_mul, nI_add, nI_add, nI_add]) (by omega) dX6_toldOfDoing_18 ?_
  refine hc_iret C rfl dX6_toldOfDoing_19 ?_
  exact ⟨rfl, rfl⟩

set_option maxRecDepth 100000 in
set_option maxHeartbeats 4000000 in
theorem c_X6_toldOfDoing_2 {l : Launch} {G : hc_Geo} (hG : hc_ok G) {M : hc_Mem} {E j : Nat}  (hE5 : M 5 5 = nI E) (hE6 : E ≤ 6) (hj : j < 4) : hc_M l G yX6_toldOfDoing cX6_toldOfDoing 3 (some .int) 1 [.ref (hc_ad G 5), .int (nI j), .int 2] M (hc_pi (fun z M' => M 8 (1 + 4 * E + 3 * j + 2) = z ∧ M = M')) := by
  refine hc_M.of hG (by decide) [some (.ref (hc_ad G 5)), some (.int (nI j)), some (.int 2)] rfl (Nat.le_of_ble_eq_true rfl) ?_
  intro p e s m args below meth c C
  refine hc_aload_n C dX6_toldOfDoing_0 rfl rfl ?_
  refine hc_getR C fl_X6_36 rfl rfl dX6_toldOfDoing_1 ?_
  refine hc_iconst C dX6_toldOfDoing_4 (v := 1) rfl ?_
  refine hc_iconst C dX6_toldOfDoing_5 (v := 4) rfl ?_
  refine hc_aload_n C dX6_toldOfDoing_6 rfl rfl ?_
  refine hc_getI C fl_X6_30 rfl rfl dX6_toldOfDoing_7 ?_
  refine hc_imul C dX6_toldOfDoing_10 ?_
  refine hc_iadd C dX6_toldOfDoing_11 ?_
  refine hc_iconst C dX6_toldOfDoing_12 (v := 3) rfl ?_
  refine hc_iload_n C dX6_toldOfDoing_13 rfl rfl ?_
  refine hc_imul C dX6_toldOfDoing_14 ?_
  refine hc_iadd C dX6_toldOfDoing_15 ?_
  refine hc_iload_n C dX6_toldOfDoing_16 rfl rfl ?_
  refine hc_iadd C dX6_toldOfDoing_17 ?_
  refine hc_ialdN C (j := (1 + 4 * E + 3 * j + 2)) rfl (show (1 : Int32) + 4 * M 5 5 + 3 * nI j + nI 2 = nI (1 + 4 * E + 3 * j + 2) by rw [hE5, show (1 : Int32) = nI 1 from rfl, show (4 : Int32) = nI 4 from rfl, show (3 : Int32) = nI 3 from rfl, pk_mul, pk_mul, nI_add, nI_add, nI_add]) (by omega) dX6_toldOfDoing_18 ?_
  refine hc_iret C rfl dX6_toldOfDoing_19 ?_
  exact ⟨rfl, rfl⟩

set_option maxRecDepth 100000 in
set_option maxHeartbeats 4000000 in
theorem lp_settleEars {G : hc_Geo} {p : Program} {l : Launch} {e : Env} {d : Nat} {s : State} {m : MethodId} {args : Array Value} {below : List Frame} {meth : Method} {c : Code} {Q : State → Prop} (C : hc_Cx G hc_lay cX3_settleEars 3 none yX3_settleEars.cls p s m args meth c) {M : hc_Mem} {E : Nat} (hd : 1 < d) (hE : M 9 5 = nI E) (hE6 : E ≤ 6) 
    (kk : hc_W G hc_lay p l e (hc_rm d) s m args below meth c 3 0 0 Q 91 [some (.ref (hc_ad G 9)), some (.ref (hc_ad G 5)), some (.int (nI E))] [] (sE M E)) :
    ∀ (t : Nat) (i : Nat), i + t = E → hc_W G hc_lay p l e (hc_rm d) s m args below meth c 3 0 0 Q 10 [some (.ref (hc_ad G 9)), some (.ref (hc_ad G 5)), some (.int (nI i))] [] (sE M i) := by
  intro t
  induction t with
  | zero =>
    intro i hi
    refine hc_iload_n C dX3_settleEars_10 rfl rfl ?_
    refine hc_aload_n C dX3_settleEars_11 rfl rfl ?_
    refine hc_getI C fl_X3_26 rfl rfl dX3_settleEars_12 ?_
    refine hc_icmp_ge C (tgt := 91) dX3_settleEars_15 (by decide) (fun c_15 => ?_) (fun c_15 => ?_)
    rotate_left
    · exact absurd (show M 9 5 ≤ nI i by rw [hE]; exact nI_le (show E ≤ i by omega) (by omega)) c_15
    rw [show i = E by omega]
    exact kk
  | succ t ih =>
    intro i hi
    refine hc_iload_n C dX3_settleEars_10 rfl rfl ?_
    refine hc_aload_n C dX3_settleEars_11 rfl rfl ?_
    refine hc_getI C fl_X3_26 rfl rfl dX3_settleEars_12 ?_
    refine hc_icmp_ge C (tgt := 91) dX3_settleEars_15 (by decide) (fun c_15 => ?_) (fun c_15 => ?_)
    · exact absurd (show nI E ≤ nI i from hE ▸ (show M 9 5 ≤ nI i from c_15)) (nI_ge (show i < E by omega) (by omega))
    refine hc_aload_n C dX3_settleEars_18 rfl rfl ?_
    refine hc_getR C fl_X3_32 rfl rfl dX3_settleEars_19 ?_
    refine hc_iload_n C dX3_settleEars_22 rfl rfl ?_
    refine hc_aload_n C dX3_settleEars_23 rfl rfl ?_
    refine hc_getR C fl_X3_77 rfl rfl dX3_settleEars_24 ?_
    refine hc_iload_n C dX3_settleEars_27 rfl rfl ?_
    refine hc_ialdN C (j := i) rfl rfl (by omega) dX3_settleEars_28 ?_
    refine hc_iastN C (j := i) rfl rfl (by omega) dX3_settleEars_29 ?_
    refine hc_aload_n C dX3_settleEars_30 rfl rfl ?_
    refine hc_getR C fl_X3_36 rfl rfl dX3_settleEars_31 ?_
    refine hc_iload_n C dX3_settleEars_34 rfl rfl ?_
    refine hc_aload_n C dX3_settleEars_35 rfl rfl ?_
    refine hc_iload_n C dX3_settleEars_36 rfl rfl ?_
    refine hc_iconst C dX3_settleEars_37 (v := 0) rfl ?_
    refine hc_cV2i C mv_X3_78 (c_X6_toldOfEar_0 C.ok (show i < 6 by omega)) rfl rfl rfl (Nat.le_of_ble_eq_true rfl) (hc_rr_rm hd) ⟨Nat.zero_le _, Nat.zero_le _⟩ dX3_settleEars_38 (fun r_38 M_38 h_38 => ?_)
    obtain ⟨rfl, rfl⟩ := h_38
    refine hc_iastN C (j := i) rfl rfl (by omega) dX3_settleEars_41 ?_
    refine hc_aload_n C dX3_settleEars_42 rfl rfl ?_
    refine hc_getR C fl_X3_39 rfl rfl dX3_settleEars_43 ?_
    refine hc_iload_n C dX3_settleEars_46 rfl rfl ?_
    refine hc_aload_n C dX3_settleEars_47 rfl rfl ?_
    refine hc_iload_n C dX3_settleEars_48 rfl rfl ?_
    refine hc_iconst C dX3_settleEars_49 (v := 1) rfl ?_
    refine hc_cV2i C mv_X3_78 (c_X6_toldOfEar_1 C.ok (show i < 6 by omega)) rfl rfl rfl (Nat.le_of_ble_eq_true rfl) (hc_rr_rm hd) ⟨Nat.zero_le _, Nat.zero_le _⟩ dX3_settleEars_50 (fun r_50 M_50 h_50 => ?_)
    obtain ⟨rfl, rfl⟩ := h_50
    refine hc_iastN C (j := i) rfl rfl (by omega) dX3_settleEars_53 ?_
    refine hc_aload_n C dX3_settleEars_54 rfl rfl ?_
    refine hc_getR C fl_X3_42 rfl rfl dX3_settleEars_55 ?_
    refine hc_iload_n C dX3_settleEars_58 rfl rfl ?_
    refine hc_aload_n C dX3_settleEars_59 rfl rfl ?_
    refine hc_iload_n C dX3_settleEars_60 rfl rfl ?_
    refine hc_iconst C dX3_settleEars_61 (v := 2) rfl ?_
    refine hc_cV2i C mv_X3_78 (c_X6_toldOfEar_2 C.ok (show i < 6 by omega)) rfl rfl rfl (Nat.le_of_ble_eq_true rfl) (hc_rr_rm hd) ⟨Nat.zero_le _, Nat.zero_le _⟩ dX3_settleEars_62 (fun r_62 M_62 h_62 => ?_)
    obtain ⟨rfl, rfl⟩ := h_62
    refine hc_iastN C (j := i) rfl rfl (by omega) dX3_settleEars_65 ?_
    refine hc_aload_n C dX3_settleEars_66 rfl rfl ?_
    refine hc_getR C fl_X3_45 rfl rfl dX3_settleEars_67 ?_
    refine hc_iload_n C dX3_settleEars_70 rfl rfl ?_
    refine hc_aload_n C dX3_settleEars_71 rfl rfl ?_
    refine hc_iload_n C dX3_settleEars_72 rfl rfl ?_
    refine hc_iconst C dX3_settleEars_73 (v := 3) rfl ?_
    refine hc_cV2i C mv_X3_78 (c_X6_toldOfEar_3 C.ok (show i < 6 by omega)) rfl rfl rfl (Nat.le_of_ble_eq_true rfl) (hc_rr_rm hd) ⟨Nat.zero_le _, Nat.zero_le _⟩ dX3_settleEars_74 (fun r_74 M_74 h_74 => ?_)
    obtain ⟨rfl, rfl⟩ := h_74
    refine hc_iastN C (j := i) rfl rfl (by omega) dX3_settleEars_77 ?_
    refine hc_aload_n C dX3_settleEars_78 rfl rfl ?_
    refine hc_getR C fl_X3_48 rfl rfl dX3_settleEars_79 ?_
    refine hc_iload_n C dX3_settleEars_82 rfl rfl ?_
    refine hc_iconst C dX3_settleEars_83 (v := 0) rfl ?_
    refine hc_iastN C (j := i) rfl rfl (by omega) dX3_settleEars_84 ?_
    refine hc_mem sE_s ?_
    refine hc_iinc2 C (v := nI (i + 1)) dX3_settleEars_85 (by decide) rfl rfl (nI_1 i) ?_
    refine hc_goto C (tgt := 10) dX3_settleEars_88 (by decide) ?_
    exact ih (i + 1) (by omega)

set_option maxRecDepth 100000 in
set_option maxHeartbeats 4000000 in
theorem c_X3_settleEars {l : Launch} {G : hc_Geo} (hG : hc_ok G) {M : hc_Mem} {E : Nat}  (hE5 : M 5 5 = nI E) (hE6 : E ≤ 6) : hc_M l G yX3_settleEars cX3_settleEars 3 none 2 [.ref (hc_ad G 9), .ref (hc_ad G 5)] M (hc_pv (fun M' => sE (hc_ms M 9 5 (nI E)) E = M')) := by
  refine hc_M.of hG (by decide) [some (.ref (hc_ad G 9)), some (.ref (hc_ad G 5)), none] rfl (Nat.le_of_ble_eq_true rfl) ?_
  intro p e s m args below meth c C
  refine hc_aload_n C dX3_settleEars_0 rfl rfl ?_
  refine hc_aload_n C dX3_settleEars_1 rfl rfl ?_
  refine hc_getI C fl_X3_76 rfl rfl dX3_settleEars_2 ?_
  refine hc_top hE5 ?_
  refine hc_putI C fl_X3_26 pl_2_5 rfl rfl dX3_settleEars_5 ?_
  refine hc_iconst C dX3_settleEars_8 (v := 0) rfl ?_
  refine hc_istore_n2 C dX3_settleEars_9 rfl (by decide) rfl ?_
  refine hc_mem sE_0.symm ?_
  exact lp_settleEars (M := hc_ms M 9 5 (nI E)) C (by decide) hc_ms_v hE6 (hc_vret C rfl dX3_settleEars_91 rfl) E 0 (by omega)

set_option maxRecDepth 100000 in
set_option maxHeartbeats 4000000 in
theorem lp_settleDoings {G : hc_Geo} {p : Program} {l : Launch} {e : Env} {d : Nat} {s : State} {m : MethodId} {args : Array Value} {below : List Frame} {meth : Method} {c : Code} {Q : State → Prop} (C : hc_Cx G hc_lay cX3_settleDoings 3 none yX3_settleDoings.cls p s m args meth c) {M : hc_Mem} {E D : Nat} (hd : 1 < d) (hD : M 9 6 = nI D) (hD4 : D ≤ 4) (hE5 : M 5 5 = nI E) (hE6 : E ≤ 6) 
    (kk : hc_W G hc_lay p l e (hc_rm d) s m args below meth c 3 0 0 Q 60 [some (.ref (hc_ad G 9)), some (.ref (hc_ad G 5)), some (.int (nI D))] [] (sD M E D)) :
    ∀ (t : Nat) (i : Nat), i + t = D → hc_W G hc_lay p l e (hc_rm d) s m args below meth c 3 0 0 Q 10 [some (.ref (hc_ad G 9)), some (.ref (hc_ad G 5)), some (.int (nI i))] [] (sD M E i) := by
  intro t
  induction t with
  | zero =>
    intro i hi
    refine hc_iload_n C dX3_settleDoings_10 rfl rfl ?_
    refine hc_aload_n C dX3_settleDoings_11 rfl rfl ?_
    refine hc_getI C fl_X3_29 rfl rfl dX3_settleDoings_12 ?_
    refine hc_icmp_ge C (tgt := 60) dX3_settleDoings_15 (by decide) (fun c_15 => ?_) (fun c_15 => ?_)
    rotate_left
    · exact absurd (show M 9 6 ≤ nI i by rw [hD]; exact nI_le (show D ≤ i by omega) (by omega)) c_15
    rw [show i = D by omega]
    exact kk
  | succ t ih =>
    intro i hi
    refine hc_iload_n C dX3_settleDoings_10 rfl rfl ?_
    refine hc_aload_n C dX3_settleDoings_11 rfl rfl ?_
    refine hc_getI C fl_X3_29 rfl rfl dX3_settleDoings_12 ?_
    refine hc_icmp_ge C (tgt := 60) dX3_settleDoings_15 (by decide) (fun c_15 => ?_) (fun c_15 => ?_)
    · exact absurd (show nI D ≤ nI i from hD ▸ (show M 9 6 ≤ nI i from c_15)) (nI_ge (show i < D by omega) (by omega))
    refine hc_aload_n C dX3_settleDoings_18 rfl rfl ?_
    refine hc_getR C fl_X3_51 rfl rfl dX3_settleDoings_19 ?_
    refine hc_iload_n C dX3_settleDoings_22 rfl rfl ?_
    refine hc_aload_n C dX3_settleDoings_23 rfl rfl ?_
    refine hc_iload_n C dX3_settleDoings_24 rfl rfl ?_
    refine hc_iconst C dX3_settleDoings_25 (v := 0) rfl ?_
    refine hc_cV2i C mv_X3_83 (c_X6_toldOfDoing_0 (E := E) C.ok (show M 5 5 = nI E from hE5) hE6 (show i < 4 by omega)) rfl rfl rfl (Nat.le_of_ble_eq_true rfl) (hc_rr_rm hd) ⟨Nat.zero_le _, Nat.zero_le _⟩ dX3_settleDoings_26 (fun r_26 M_26 h_26 => ?_)
    obtain ⟨rfl, rfl⟩ := h_26
    refine hc_iastN C (j := i) rfl rfl (by omega) dX3_settleDoings_29 ?_
    refine hc_aload_n C dX3_settleDoings_30 rfl rfl ?_
    refine hc_getR C fl_X3_54 rfl rfl dX3_settleDoings_31 ?_
    refine hc_iload_n C dX3_settleDoings_34 rfl rfl ?_
    refine hc_aload_n C dX3_settleDoings_35 rfl rfl ?_
    refine hc_iload_n C dX3_settleDoings_36 rfl rfl ?_
    refine hc_iconst C dX3_settleDoings_37 (v := 1) rfl ?_
    refine hc_cV2i C mv_X3_83 (c_X6_toldOfDoing_1 (E := E) C.ok (show M 5 5 = nI E from hE5) hE6 (show i < 4 by omega)) rfl rfl rfl (Nat.le_of_ble_eq_true rfl) (hc_rr_rm hd) ⟨Nat.zero_le _, Nat.zero_le _⟩ dX3_settleDoings_38 (fun r_38 M_38 h_38 => ?_)
    obtain ⟨rfl, rfl⟩ := h_38
    refine hc_iastN C (j := i) rfl rfl (by omega) dX3_settleDoings_41 ?_
    refine hc_aload_n C dX3_settleDoings_42 rfl rfl ?_
    refine hc_getR C fl_X3_57 rfl rfl dX3_settleDoings_43 ?_
    refine hc_iload_n C dX3_settleDoings_46 rfl rfl ?_
    refine hc_aload_n C dX3_settleDoings_47 rfl rfl ?_
    refine hc_iload_n C dX3_settleDoings_48 rfl rfl ?_
    refine hc_iconst C dX3_settleDoings_49 (v := 2) rfl ?_
    refine hc_cV2i C mv_X3_83 (c_X6_toldOfDoing_2 (E := E) C.ok (show M 5 5 = nI E from hE5) hE6 (show i < 4 by omega)) rfl rfl rfl (Nat.le_of_ble_eq_true rfl) (hc_rr_rm hd) ⟨Nat.zero_le _, Nat.zero_le _⟩ dX3_settleDoings_50 (fun r_50 M_50 h_50 => ?_)
    obtain ⟨rfl, rfl⟩ := h_50
    refine hc_iastN C (j := i) rfl rfl (by omega) dX3_settleDoings_53 ?_
    refine hc_mem sD_s ?_
    refine hc_iinc2 C (v := nI (i + 1)) dX3_settleDoings_54 (by decide) rfl rfl (nI_1 i) ?_
    refine hc_goto C (tgt := 10) dX3_settleDoings_57 (by decide) ?_
    exact ih (i + 1) (by omega)

set_option maxRecDepth 100000 in
set_option maxHeartbeats 4000000 in
theorem c_X3_settleDoings {l : Launch} {G : hc_Geo} (hG : hc_ok G) {M : hc_Mem} {E D : Nat}  (hE5 : M 5 5 = nI E) (hE6 : E ≤ 6) (hD5 : M 5 6 = nI D) (hD4 : D ≤ 4) : hc_M l G yX3_settleDoings cX3_settleDoings 3 none 2 [.ref (hc_ad G 9), .ref (hc_ad G 5)] M (hc_pv (fun M' => sD (hc_ms M 9 6 (nI D)) E D = M')) := by
  refine hc_M.of hG (by decide) [some (.ref (hc_ad G 9)), some (.ref (hc_ad G 5)), none] rfl (Nat.le_of_ble_eq_true rfl) ?_
  intro p e s m args below meth c C
  refine hc_aload_n C dX3_settleDoings_0 rfl rfl ?_
  refine hc_aload_n C dX3_settleDoings_1 rfl rfl ?_
  refine hc_getI C fl_X3_82 rfl rfl dX3_settleDoings_2 ?_
  refine hc_top hD5 ?_
  refine hc_putI C fl_X3_29 pl_2_6 rfl rfl dX3_settleDoings_5 ?_
  refine hc_iconst C dX3_settleDoings_8 (v := 0) rfl ?_
  refine hc_istore_n2 C dX3_settleDoings_9 rfl (by decide) rfl ?_
  refine hc_mem (sD_0 (E := E)).symm ?_
  exact lp_settleDoings (M := hc_ms M 9 6 (nI D)) C (by decide) hc_ms_v hD4 hE5 hE6 (hc_vret C rfl dX3_settleDoings_60 rfl) D 0 (by omega)

set_option maxRecDepth 100000 in
set_option maxHeartbeats 4000000 in
theorem c_X3_settle {l : Launch} {G : hc_Geo} (hG : hc_ok G) {M : hc_Mem} {E D : Nat}  (hE5 : M 5 5 = nI E) (hE6 : E ≤ 6) (hD5 : M 5 6 = nI D) (hD4 : D ≤ 4) : hc_M l G yX3_settle cX3_settle 2 none 3 [.ref (hc_ad G 9), .ref (hc_ad G 5)] M (hc_pv (fun M' => hSettle M E D = M')) := by
  refine hc_M.of hG (by decide) [some (.ref (hc_ad G 9)), some (.ref (hc_ad G 5))] rfl (Nat.le_of_ble_eq_true rfl) ?_
  intro p e s m args below meth c C
  refine hc_aload_n C dX3_settle_0 rfl rfl ?_
  refine hc_iconst C dX3_settle_1 (v := 1) rfl ?_
  refine hc_putT C fl_X3_7 pl_2_0 rfl rfl rfl rfl dX3_settle_2 ?_
  refine hc_aload_n C dX3_settle_5 rfl rfl ?_
  refine hc_aload_n C dX3_settle_6 rfl rfl ?_
  refine hc_cV0i C mv_X3_63 (c_X6_toldWool C.ok) rfl rfl rfl (Nat.le_of_ble_eq_true rfl) (hc_rr_rm (by decide)) ⟨Nat.zero_le _, Nat.zero_le _⟩ dX3_settle_7 (fun r_7 M_7 h_7 => ?_)
  obtain ⟨rfl, rfl⟩ := h_7
  refine hc_putI C fl_X3_13 pl_2_1 rfl rfl dX3_settle_10 ?_
  refine hc_aload_n C dX3_settle_13 rfl rfl ?_
  refine hc_iconst C dX3_settle_14 (v := 0) rfl ?_
  refine hc_putI C fl_X3_17 pl_2_2 rfl rfl dX3_settle_15 ?_
  refine hc_aload_n C dX3_settle_18 rfl rfl ?_
  refine hc_iconst C dX3_settle_19 (v := 0) rfl ?_
  refine hc_putI C fl_X3_20 pl_2_3 rfl rfl dX3_settle_20 ?_
  refine hc_aload_n C dX3_settle_23 rfl rfl ?_
  refine hc_iconst C dX3_settle_24 (v := 0) rfl ?_
  refine hc_putI C fl_X3_23 pl_2_4 rfl rfl dX3_settle_25 ?_
  refine hc_aload_n C dX3_settle_28 rfl rfl ?_
  refine hc_getR C fl_X3_60 rfl rfl dX3_settle_29 ?_
  refine hc_iconst C dX3_settle_32 (v := 0) rfl ?_
  refine hc_iconst C dX3_settle_33 (v := 0) rfl ?_
  refine hc_iastN C (j := 0) rfl rfl (by decide) dX3_settle_34 ?_
  refine hc_aload_n C dX3_settle_35 rfl rfl ?_
  refine hc_aload_n C dX3_settle_36 rfl rfl ?_
  refine hc_cV1v C mv_X3_69 (c_X3_settleEars (E := E) C.ok (show M 5 5 = nI E from hE5) hE6) rfl rfl rfl (Nat.le_of_ble_eq_true rfl) (hc_rr_rm (by decide)) ⟨Nat.zero_le _, Nat.zero_le _⟩ dX3_settle_37 (fun M_37 h_37 => ?_)
  obtain rfl := h_37
  refine hc_aload_n C dX3_settle_40 rfl rfl ?_
  refine hc_aload_n C dX3_settle_41 rfl rfl ?_
  refine hc_cV1v C mv_X3_73 (c_X3_settleDoings (E := E) (D := D) C.ok (show M 5 5 = nI E from hE5) hE6 (show M 5 6 = nI D from hD5) hD4) rfl rfl rfl (Nat.le_of_ble_eq_true rfl) (hc_rr_rm (by decide)) ⟨Nat.zero_le _, Nat.zero_le _⟩ dX3_settle_42 (fun M_42 h_42 => ?_)
  obtain rfl := h_42
  refine hc_vret C rfl dX3_settle_45 ?_
  rfl

set_option maxRecDepth 100000 in
set_option maxHeartbeats 4000000 in
theorem c_X0_forgetAll {l : Launch} {G : hc_Geo} (hG : hc_ok G) {M : hc_Mem}  : hc_M l G yX0_forgetAll cX0_forgetAll 1 none 1 [.ref (hc_ad G 42)] M (hc_pv (fun M' => hc_ms M 42 3 0 = M')) := by
  refine hc_M.of hG (by decide) [some (.ref (hc_ad G 42))] rfl (Nat.le_of_ble_eq_true rfl) ?_
  intro p e s m args below meth c C
  refine hc_aload_n C dX0_forgetAll_0 rfl rfl ?_
  refine hc_iconst C dX0_forgetAll_1 (v := 0) rfl ?_
  refine hc_putI C fl_X0_19 pl_0_3 rfl rfl dX0_forgetAll_2 ?_
  refine hc_vret C rfl dX0_forgetAll_5 ?_
  rfl

set_option maxRecDepth 100000 in
set_option maxHeartbeats 4000000 in
theorem c_X0_forgetOldest {l : Launch} {G : hc_Geo} (hG : hc_ok G) {M : hc_Mem}  : hc_M l G yX0_forgetOldest cX0_forgetOldest 1 none 1 [.ref (hc_ad G 42)] M (hc_pv (fun M' => hFo M = M')) := by
  refine hc_M.of hG (by decide) [some (.ref (hc_ad G 42))] rfl (Nat.le_of_ble_eq_true rfl) ?_
  intro p e s m args below meth c C
  refine hc_aload_n C dX0_forgetOldest_0 rfl rfl ?_
  refine hc_bipush C dX0_forgetOldest_1 (v := 23) rfl ?_
  refine hc_putI C fl_X0_19 pl_0_3 rfl rfl dX0_forgetOldest_3 ?_
  refine hc_aload_n C dX0_forgetOldest_6 rfl rfl ?_
  refine hc_getR C fl_X0_9 rfl rfl dX0_forgetOldest_7 ?_
  refine hc_iconst C dX0_forgetOldest_10 (v := 1) rfl ?_
  refine hc_aload_n C dX0_forgetOldest_11 rfl rfl ?_
  refine hc_getR C fl_X0_9 rfl rfl dX0_forgetOldest_12 ?_
  refine hc_iconst C dX0_forgetOldest_15 (v := 0) rfl ?_
  refine hc_aload_n C dX0_forgetOldest_16 rfl rfl ?_
  refine hc_getI C fl_X0_19 rfl rfl dX0_forgetOldest_17 ?_
  refine hc_top (v := 23) (by simp [hc_ms, hc_mf, upd]) ?_
  refine hc_copy C ac_X0_26 ac_nat ac_sta ac_ini rfl rfl (by decide) (by decide) (by decide) (by decide) (by decide) (by decide) (Nat.le_of_ble_eq_true rfl) dX0_forgetOldest_20 ?_
  refine hc_aload_n C dX0_forgetOldest_23 rfl rfl ?_
  refine hc_getR C fl_X0_13 rfl rfl dX0_forgetOldest_24 ?_
  refine hc_iconst C dX0_forgetOldest_27 (v := 1) rfl ?_
  refine hc_aload_n C dX0_forgetOldest_28 rfl rfl ?_
  refine hc_getR C fl_X0_13 rfl rfl dX0_forgetOldest_29 ?_
  refine hc_iconst C dX0_forgetOldest_32 (v := 0) rfl ?_
  refine hc_aload_n C dX0_forgetOldest_33 rfl rfl ?_
  refine hc_getI C fl_X0_19 rfl rfl dX0_forgetOldest_34 ?_
  refine hc_top (v := 23) (by simp [hc_ms, hc_mf, upd]) ?_
  refine hc_copy C ac_X0_26 ac_nat ac_sta ac_ini rfl rfl (by decide) (by decide) (by decide) (by decide) (by decide) (by decide) (Nat.le_of_ble_eq_true rfl) dX0_forgetOldest_37 ?_
  refine hc_aload_n C dX0_forgetOldest_40 rfl rfl ?_
  refine hc_getR C fl_X0_16 rfl rfl dX0_forgetOldest_41 ?_
  refine hc_iconst C dX0_forgetOldest_44 (v := 1) rfl ?_
  refine hc_aload_n C dX0_forgetOldest_45 rfl rfl ?_
  refine hc_getR C fl_X0_16 rfl rfl dX0_forgetOldest_46 ?_
  refine hc_iconst C dX0_forgetOldest_49 (v := 0) rfl ?_
  refine hc_aload_n C dX0_forgetOldest_50 rfl rfl ?_
  refine hc_getI C fl_X0_19 rfl rfl dX0_forgetOldest_51 ?_
  refine hc_top (v := 23) (by simp [hc_ms, hc_mf, upd]) ?_
  refine hc_copy C ac_X0_26 ac_nat ac_sta ac_ini rfl rfl (by decide) (by decide) (by decide) (by decide) (by decide) (by decide) (Nat.le_of_ble_eq_true rfl) dX0_forgetOldest_54 ?_
  refine hc_vret C rfl dX0_forgetOldest_57 ?_
  rfl

set_option maxRecDepth 100000 in
set_option maxHeartbeats 4000000 in
theorem c_X0_keep_a2 {l : Launch} {G : hc_Geo} (hG : hc_ok G) {M : hc_Mem} {k : Nat} {d0 e0 b0 : Int32}  (hk : M 42 3 = nI k) (hk24 : k < 24) : hc_M l G yX0_keep cX0_keep 4 none 2 [.ref (hc_ad G 42), .int d0, .int e0, .int b0] M (hc_pv (fun M' => hK1 M k d0 e0 b0 = M')) := by
  refine hc_M.of hG (by decide) [some (.ref (hc_ad G 42)), some (.int d0), some (.int e0), some (.int b0)] rfl (Nat.le_of_ble_eq_true rfl) ?_
  intro p e s m args below meth c C
  refine hc_aload_n C dX0_keep_0 rfl rfl ?_
  refine hc_getI C fl_X0_19 rfl rfl dX0_keep_1 ?_
  refine hc_bipush C dX0_keep_4 (v := 24) rfl ?_
  refine hc_icmp_lt C (tgt := 13) dX0_keep_6 (by decide) (fun c_6 => ?_) (fun c_6 => ?_)
  rotate_left
  · exact absurd (by rw [hk]; exact (show nI k < nI 24 from nI_lt hk24 (by decide))) c_6
  refine hc_aload_n C dX0_keep_13 rfl rfl ?_
  refine hc_getR C fl_X0_9 rfl rfl dX0_keep_14 ?_
  refine hc_aload_n C dX0_keep_17 rfl rfl ?_
  refine hc_getI C fl_X0_19 rfl rfl dX0_keep_18 ?_
  refine hc_iload_n C dX0_keep_21 rfl rfl ?_
  refine hc_iastN C (j := k) rfl hk (by omega) dX0_keep_22 ?_
  refine hc_aload_n C dX0_keep_23 rfl rfl ?_
  refine hc_getR C fl_X0_13 rfl rfl dX0_keep_24 ?_
  refine hc_aload_n C dX0_keep_27 rfl rfl ?_
  refine hc_getI C fl_X0_19 rfl rfl dX0_keep_28 ?_
  refine hc_iload_n C dX0_keep_31 rfl rfl ?_
  refine hc_iastN C (j := k) rfl (show M 42 3 = nI k from hk) (by omega) dX0_keep_32 ?_
  refine hc_aload_n C dX0_keep_33 rfl rfl ?_
  refine hc_getR C fl_X0_16 rfl rfl dX0_keep_34 ?_
  refine hc_aload_n C dX0_keep_37 rfl rfl ?_
  refine hc_getI C fl_X0_19 rfl rfl dX0_keep_38 ?_
  refine hc_iload_n C dX0_keep_41 rfl rfl ?_
  refine hc_iastN C (j := k) rfl (show M 42 3 = nI k from hk) (by omega) dX0_keep_42 ?_
  refine hc_aload_n C dX0_keep_43 rfl rfl ?_
  refine hc_dup C dX0_keep_44 rfl ?_
  refine hc_getI C fl_X0_19 rfl rfl dX0_keep_45 ?_
  refine hc_iconst C dX0_keep_48 (v := 1) rfl ?_
  refine hc_iadd C dX0_keep_49 ?_
  refine hc_top (v := nI (k + 1)) (show M 42 3 + 1 = nI (k + 1) by rw [hk, nI_1]) ?_
  refine hc_putI C fl_X0_19 pl_0_3 rfl rfl dX0_keep_50 ?_
  refine hc_vret C rfl dX0_keep_53 ?_
  rfl

set_option maxRecDepth 100000 in
set_option maxHeartbeats 4000000 in
theorem c_X0_keep_b {l : Launch} {G : hc_Geo} (hG : hc_ok G) {M : hc_Mem} {d0 e0 b0 : Int32}  (hk : M 42 3 = 24) : hc_M l G yX0_keep cX0_keep 4 none 2 [.ref (hc_ad G 42), .int d0, .int e0, .int b0] M (hc_pv (fun M' => hK1 (hFo M) 23 d0 e0 b0 = M')) := by
  refine hc_M.of hG (by decide) [some (.ref (hc_ad G 42)), some (.int d0), some (.int e0), some (.int b0)] rfl (Nat.le_of_ble_eq_true rfl) ?_
  intro p e s m args below meth c C
  refine hc_aload_n C dX0_keep_0 rfl rfl ?_
  refine hc_getI C fl_X0_19 rfl rfl dX0_keep_1 ?_
  refine hc_bipush C dX0_keep_4 (v := 24) rfl ?_
  refine hc_icmp_lt C (tgt := 13) dX0_keep_6 (by decide) (fun c_6 => ?_) (fun c_6 => ?_)
  · rw [hk] at c_6
    exact absurd c_6 (by decide)
  refine hc_aload_n C dX0_keep_9 rfl rfl ?_
  refine hc_cV0v C mv_X0_23 (c_X0_forgetOldest C.ok) rfl rfl rfl (Nat.le_of_ble_eq_true rfl) (hc_rr_rm (by decide)) ⟨Nat.zero_le _, Nat.zero_le _⟩ dX0_keep_10 (fun M_10 h_10 => ?_)
  obtain rfl := h_10
  refine hc_aload_n C dX0_keep_13 rfl rfl ?_
  refine hc_getR C fl_X0_9 rfl rfl dX0_keep_14 ?_
  refine hc_aload_n C dX0_keep_17 rfl rfl ?_
  refine hc_getI C fl_X0_19 rfl rfl dX0_keep_18 ?_
  refine hc_iload_n C dX0_keep_21 rfl rfl ?_
  refine hc_iastN C (j := 23) rfl (by simp [hFo, hc_ms, hc_mf, upd]; rfl) (by decide) dX0_keep_22 ?_
  refine hc_aload_n C dX0_keep_23 rfl rfl ?_
  refine hc_getR C fl_X0_13 rfl rfl dX0_keep_24 ?_
  refine hc_aload_n C dX0_keep_27 rfl rfl ?_
  refine hc_getI C fl_X0_19 rfl rfl dX0_keep_28 ?_
  refine hc_iload_n C dX0_keep_31 rfl rfl ?_
  refine hc_iastN C (j := 23) rfl (by simp [hFo, hc_ms, hc_mf, upd]; rfl) (by decide) dX0_keep_32 ?_
  refine hc_aload_n C dX0_keep_33 rfl rfl ?_
  refine hc_getR C fl_X0_16 rfl rfl dX0_keep_34 ?_
  refine hc_aload_n C dX0_keep_37 rfl rfl ?_
  refine hc_getI C fl_X0_19 rfl rfl dX0_keep_38 ?_
  refine hc_iload_n C dX0_keep_41 rfl rfl ?_
  refine hc_iastN C (j := 23) rfl (by simp [hFo, hc_ms, hc_mf, upd]; rfl) (by decide) dX0_keep_42 ?_
  refine hc_aload_n C dX0_keep_43 rfl rfl ?_
  refine hc_dup C dX0_keep_44 rfl ?_
  refine hc_getI C fl_X0_19 rfl rfl dX0_keep_45 ?_
  refine hc_iconst C dX0_keep_48 (v := 1) rfl ?_
  refine hc_iadd C dX0_keep_49 ?_
  refine hc_top (v := nI 24) (by simp [hFo, hc_ms, hc_mf, upd]; rfl) ?_
  refine hc_putI C fl_X0_19 pl_0_3 rfl rfl dX0_keep_50 ?_
  refine hc_vret C rfl dX0_keep_53 ?_
  rfl

theorem c_X0_keep {l : Launch} {G : hc_Geo} (hG : hc_ok G) {M : hc_Mem} {k : Nat} {d0 e0 b0 : Int32} (hk : M 42 3 = nI k) (hk24 : k ≤ 24) : hc_M l G yX0_keep cX0_keep 4 none 2 [.ref (hc_ad G 42), .int d0, .int e0, .int b0] M (hc_pv (fun M' => hKp M k d0 e0 b0 = M')) := by
  by_cases h : k < 24
  · rw [show hKp M k d0 e0 b0 = hK1 M k d0 e0 b0 from if_pos h]
    exact c_X0_keep_a2 hG hk h
  · rw [show hKp M k d0 e0 b0 = hK1 (hFo M) 23 d0 e0 b0 from if_neg h]
    exact c_X0_keep_b hG (by rw [hk, show k = 24 by omega]; rfl)

set_option maxRecDepth 100000 in
set_option maxHeartbeats 4000000 in
theorem c_X4_isKind {l : Launch} {G : hc_Geo} (hG : hc_ok G) {M : hc_Mem} {k0 : Int32}  : hc_M l G yX4_isKind cX4_isKind 1 (some .boolean) 1 [.int k0] M (hc_pi (fun z M' => hb (¬ k0 < 0 ∧ ¬ 5 < k0) = z ∧ M = M')) := by
  refine hc_M.of hG (by decide) [some (.int k0)] rfl (Nat.le_of_ble_eq_true rfl) ?_
  intro p e s m args below meth c C
  refine hc_iload_n C dX4_isKind_0 rfl rfl ?_
  refine hc_if_lt C (tgt := 13) dX4_isKind_1 (by decide) (fun c_1 => ?_) (fun c_1 => ?_)
  · refine hc_iconst C dX4_isKind_13 (v := 0) rfl ?_
    refine hc_zret C rfl rfl dX4_isKind_14 ?_
    refine ⟨?_, rfl⟩
    first | exact hb_t (by simp_all) | exact hb_f (by simp_all)
  · refine hc_iload_n C dX4_isKind_4 rfl rfl ?_
    refine hc_iconst C dX4_isKind_5 (v := 5) rfl ?_
    refine hc_icmp_gt C (tgt := 13) dX4_isKind_6 (by decide) (fun c_6 => ?_) (fun c_6 => ?_)
    · refine hc_iconst C dX4_isKind_13 (v := 0) rfl ?_
      refine hc_zret C rfl rfl dX4_isKind_14 ?_
      refine ⟨?_, rfl⟩
      first | exact hb_t (by simp_all) | exact hb_f (by simp_all)
    · refine hc_iconst C dX4_isKind_9 (v := 1) rfl ?_
      refine hc_goto C (tgt := 14) dX4_isKind_10 (by decide) ?_
      refine hc_zret C rfl rfl dX4_isKind_14 ?_
      refine ⟨?_, rfl⟩
      first | exact hb_t (by simp_all) | exact hb_f (by simp_all)

def hNear (k : Int32) : Int32 := if ¬ k < 0 ∧ ¬ 5 < k then ([-1, 0, 1, 1, 0, 4] : List Int32).getD k.toNatClampNeg 0 else -1
def hOne (w : Int32) : Nat → Int32 → Int32
  | 0, x => x
  | t + 1, x => if x = w then x else hOne w t (hNear x)

set_option maxRecDepth 100000 in
set_option maxHeartbeats 4000000 in
theorem c_X4_nearest {l : Launch} {G : hc_Geo} (hG : hc_ok G) {M : hc_Mem} {k0 : Int32}  : hc_M l G yX4_nearest cX4_nearest 1 (some .int) 2 [.int k0] M (hc_pi (fun z M' => hNear k0 = z ∧ M = M')) := by
  refine hc_M.of hG (by decide) [some (.int k0)] rfl (Nat.le_of_ble_eq_true rfl) ?_
  intro p e s m args below meth c C
  refine hc_iload_n C dX4_nearest_0 rfl rfl ?_
  refine hc_cS1i C ms_X4_9 (c_X4_isKind C.ok) (Nat.le_of_ble_eq_true rfl) (hc_rr_rm (by decide)) ⟨Nat.zero_le _, Nat.zero_le _⟩ dX4_nearest_1 (fun r_1 M_1 h_1 => ?_)
  obtain ⟨rfl, rfl⟩ := h_1
  refine hc_if_eq C (tgt := 15) dX4_nearest_4 (by decide) (fun c_4 => ?_) (fun c_4 => ?_)
  · refine hc_iconst C dX4_nearest_15 (v := (-1)) rfl ?_
    refine hc_iret C rfl dX4_nearest_16 ?_
    refine ⟨?_, rfl⟩
    unfold hNear
    first | exact if_pos (hb_nz.mp c_4) | exact if_neg (hb_z.mp c_4)
  · refine hc_gets C (i := 6) rfl sl_X4_13 dX4_nearest_7 ?_
    refine hc_iload_n C dX4_nearest_10 rfl rfl ?_
    refine hc_sald C (v := ([-1, 0, 1, 1, 0, 4] : List Int32).getD k0.toNatClampNeg 0) rfl (show vp_in k0 6 by obtain ⟨j, hj, e⟩ := nI_of2 (M := 5) (n := 5) rfl (hb_nz.mp c_4).1 (Int32.not_lt.mp (hb_nz.mp c_4).2); rw [e]; exact vp_in_nI (by omega) (by decide)) rfl dX4_nearest_11 ?_
    refine hc_goto C (tgt := 16) dX4_nearest_12 (by decide) ?_
    refine hc_iret C rfl dX4_nearest_16 ?_
    refine ⟨?_, rfl⟩
    unfold hNear
    first | exact if_pos (hb_nz.mp c_4) | exact if_neg (hb_z.mp c_4)

set_option maxRecDepth 100000 in
set_option maxHeartbeats 4000000 in
theorem lp_isOneOf {G : hc_Geo} {p : Program} {l : Launch} {e : Env} {d : Nat} {s : State} {m : MethodId} {args : Array Value} {below : List Frame} {meth : Method} {c : Code} {Q : State → Prop} (C : hc_Cx G hc_lay cX4_isOneOf 4 (some .boolean) yX4_isOneOf.cls p s m args meth c) {M : hc_Mem} {k0 w0 r0 : Int32} (hd : 2 < d) (kk : ∀ i : Nat, hc_W G hc_lay p l e (hc_rm d) s m args below meth c 4 0 0 Q 25 [some (.int k0), some (.int w0), some (.int r0), some (.int (nI i))] [] M)  :
    ∀ (t : Nat) (i : Nat) (x : Int32), i + t = 3 → hOne w0 t x = r0 → hc_W G hc_lay p l e (hc_rm d) s m args below meth c 4 0 0 Q 4 [some (.int k0), some (.int w0), some (.int x), some (.int (nI i))] [] M := by
  intro t
  induction t with
  | zero =>
    intro i x hi hr
    refine hc_iload_n C dX4_isOneOf_4 rfl rfl ?_
    refine hc_iconst C dX4_isOneOf_5 (v := 3) rfl ?_
    refine hc_icmp_ge C (tgt := 25) dX4_isOneOf_6 (by decide) (fun c_6 => ?_) (fun c_6 => ?_)
    rotate_left
    · exact absurd (show nI 3 ≤ nI i from nI_le (by omega) (by omega)) c_6
    obtain rfl : x = r0 := hr
    exact kk i
  | succ t ih =>
    intro i x hi hr
    refine hc_iload_n C dX4_isOneOf_4 rfl rfl ?_
    refine hc_iconst C dX4_isOneOf_5 (v := 3) rfl ?_
    refine hc_icmp_ge C (tgt := 25) dX4_isOneOf_6 (by decide) (fun c_6 => ?_) (fun c_6 => ?_)
    · exact absurd (show nI 3 ≤ nI i from c_6) (nI_ge (by omega) (by omega))
    refine hc_iload_n C dX4_isOneOf_9 rfl rfl ?_
    refine hc_iload_n C dX4_isOneOf_10 rfl rfl ?_
    refine hc_icmp_eq C (tgt := 25) dX4_isOneOf_11 (by decide) (fun c_11 => ?_) (fun c_11 => ?_)
    · rw [hOne, if_pos c_11] at hr
      obtain rfl : x = r0 := hr
      exact kk i
    · refine hc_iload_n C dX4_isOneOf_14 rfl rfl ?_
      refine hc_cS1i C ms_X4_17 (c_X4_nearest C.ok) (Nat.le_of_ble_eq_true rfl) (hc_rr_rm hd) ⟨Nat.zero_le _, Nat.zero_le _⟩ dX4_isOneOf_15 (fun r_15 M_15 h_15 => ?_)
      obtain ⟨rfl, rfl⟩ := h_15
      refine hc_istore_n2 C dX4_isOneOf_18 rfl (by decide) rfl ?_
      refine hc_iinc3 C (v := nI (i + 1)) dX4_isOneOf_19 (by decide) rfl rfl (nI_1 i) ?_
      refine hc_goto C (tgt := 4) dX4_isOneOf_22 (by decide) ?_
      rw [hOne, if_neg c_11] at hr
      exact ih (i + 1) _ (by omega) hr

set_option maxRecDepth 100000 in
set_option maxHeartbeats 4000000 in
theorem c_X4_isOneOf {l : Launch} {G : hc_Geo} (hG : hc_ok G) {M : hc_Mem} {k0 w0 : Int32}  : hc_M l G yX4_isOneOf cX4_isOneOf 4 (some .boolean) 3 [.int k0, .int w0] M (hc_pi (fun z M' => hb (hOne w0 3 k0 = w0) = z ∧ M = M')) := by
  refine hc_M.of hG (by decide) [some (.int k0), some (.int w0), none, none] rfl (Nat.le_of_ble_eq_true rfl) ?_
  intro p e s m args below meth c C
  refine hc_iload_n C dX4_isOneOf_0 rfl rfl ?_
  refine hc_istore_n2 C dX4_isOneOf_1 rfl (by decide) rfl ?_
  refine hc_iconst C dX4_isOneOf_2 (v := 0) rfl ?_
  refine hc_istore_n3 C dX4_isOneOf_3 rfl (by decide) rfl ?_
  refine lp_isOneOf C (by decide) (fun i => ?_) 3 0 k0 rfl rfl
  refine hc_iload_n C dX4_isOneOf_25 rfl rfl ?_
  refine hc_iload_n C dX4_isOneOf_26 rfl rfl ?_
  refine hc_icmp_ne C (tgt := 34) dX4_isOneOf_27 (by decide) (fun c_27 => ?_) (fun c_27 => ?_)
  · refine hc_iconst C dX4_isOneOf_34 (v := 0) rfl ?_
    refine hc_zret C rfl rfl dX4_isOneOf_35 ?_
    refine ⟨?_, rfl⟩
    first | exact hb_t c_27 | exact hb_f c_27
  · refine hc_iconst C dX4_isOneOf_30 (v := 1) rfl ?_
    refine hc_goto C (tgt := 35) dX4_isOneOf_31 (by decide) ?_
    refine hc_zret C rfl rfl dX4_isOneOf_35 ?_
    refine ⟨?_, rfl⟩
    first | exact hb_t c_27 | exact hb_f c_27

theorem hc_cpyn {A : hc_Mem} {k a b n m : Nat} {f g : Nat → Int32} (h : n = m) : hc_mf A k (va_cpy f g a b n) = hc_mf A k (va_cpy f g a b m) := h ▸ rfl
def hLike_20_9 (M : hc_Mem) (q0 : Nat) : hc_Mem := hc_mf (hc_mf (hc_mf (hc_mf (hc_mf (hc_mf (hc_mf (hc_mf (hc_mf (hc_mf (hc_ms (hc_ms (hc_ms (hc_ms (hc_ms (hc_ms (hc_ms (M) 20 0 (M 9 0)) 20 1 (M 9 1)) 20 2 (M 9 2)) 20 3 (M 9 3)) 20 4 (M 9 4)) 20 5 (M 9 5)) 20 6 (M 9 6)) 21 (va_cpy (M 10) (M 21) 0 0 6)) 22 (va_cpy (M 11) (M 22) 0 0 6)) 23 (va_cpy (M 12) (M 23) 0 0 6)) 24 (va_cpy (M 13) (M 24) 0 0 6)) 25 (va_cpy (M 14) (M 25) 0 0 6)) 26 (va_cpy (M 15) (M 26) 0 0 6)) 27 (va_cpy (M 16) (M 27) 0 0 4)) 28 (va_cpy (M 17) (M 28) 0 0 4)) 29 (va_cpy (M 18) (M 29) 0 0 4)) 30 (va_cpy (M 19) (M 30) 0 0 (q0 + 1))

set_option maxRecDepth 100000 in
set_option maxHeartbeats 4000000 in
theorem c_X3_becomeLike_20_9 {l : Launch} {G : hc_Geo} (hG : hc_ok G) {M : hc_Mem} {q0 : Nat}  (hq : M 9 2 = nI q0) (hq9 : q0 ≤ 999) (hz : M 9 0 = 0 ∨ M 9 0 = 1) : hc_M l G yX3_becomeLike cX3_becomeLike 2 none 1 [.ref (hc_ad G 20), .ref (hc_ad G 9)] M (hc_pv (fun M' => hLike_20_9 M q0 = M')) := by
  refine hc_M.of hG (by decide) [some (.ref (hc_ad G 20)), some (.ref (hc_ad G 9))] rfl (Nat.le_of_ble_eq_true rfl) ?_
  intro p e s m args below meth c C
  refine hc_aload_n C dX3_becomeLike_0 rfl rfl ?_
  refine hc_aload_n C dX3_becomeLike_1 rfl rfl ?_
  refine hc_getI C fl_X3_7 rfl rfl dX3_becomeLike_2 ?_
  refine hc_putT C fl_X3_7 pl_2_0 (show narrow .boolean (.int (M 9 0)) = .int (M 9 0) by rcases hz with h | h <;> rw [h] <;> rfl) (show fits .boolean (.int (M 9 0)) = true by rcases hz with h | h <;> rw [h] <;> rfl) rfl rfl dX3_becomeLike_5 ?_
  refine hc_aload_n C dX3_becomeLike_8 rfl rfl ?_
  refine hc_aload_n C dX3_becomeLike_9 rfl rfl ?_
  refine hc_getI C fl_X3_13 rfl rfl dX3_becomeLike_10 ?_
  refine hc_putI C fl_X3_13 pl_2_1 rfl rfl dX3_becomeLike_13 ?_
  refine hc_aload_n C dX3_becomeLike_16 rfl rfl ?_
  refine hc_aload_n C dX3_becomeLike_17 rfl rfl ?_
  refine hc_getI C fl_X3_17 rfl rfl dX3_becomeLike_18 ?_
  refine hc_putI C fl_X3_17 pl_2_2 rfl rfl dX3_becomeLike_21 ?_
  refine hc_aload_n C dX3_becomeLike_24 rfl rfl ?_
  refine hc_aload_n C dX3_becomeLike_25 rfl rfl ?_
  refine hc_getI C fl_X3_20 rfl rfl dX3_becomeLike_26 ?_
  refine hc_putI C fl_X3_20 pl_2_3 rfl rfl dX3_becomeLike_29 ?_
  refine hc_aload_n C dX3_becomeLike_32 rfl rfl ?_
  refine hc_aload_n C dX3_becomeLike_33 rfl rfl ?_
  refine hc_getI C fl_X3_23 rfl rfl dX3_becomeLike_34 ?_
  refine hc_putI C fl_X3_23 pl_2_4 rfl rfl dX3_becomeLike_37 ?_
  refine hc_aload_n C dX3_becomeLike_40 rfl rfl ?_
  refine hc_aload_n C dX3_becomeLike_41 rfl rfl ?_
  refine hc_getI C fl_X3_26 rfl rfl dX3_becomeLike_42 ?_
  refine hc_putI C fl_X3_26 pl_2_5 rfl rfl dX3_becomeLike_45 ?_
  refine hc_aload_n C dX3_becomeLike_48 rfl rfl ?_
  refine hc_aload_n C dX3_becomeLike_49 rfl rfl ?_
  refine hc_getI C fl_X3_29 rfl rfl dX3_becomeLike_50 ?_
  refine hc_putI C fl_X3_29 pl_2_6 rfl rfl dX3_becomeLike_53 ?_
  refine hc_aload_n C dX3_becomeLike_56 rfl rfl ?_
  refine hc_getR C fl_X3_32 rfl rfl dX3_becomeLike_57 ?_
  refine hc_iconst C dX3_becomeLike_60 (v := 0) rfl ?_
  refine hc_aload_n C dX3_becomeLike_61 rfl rfl ?_
  refine hc_getR C fl_X3_32 rfl rfl dX3_becomeLike_62 ?_
  refine hc_iconst C dX3_becomeLike_65 (v := 0) rfl ?_
  refine hc_bipush C dX3_becomeLike_66 (v := 6) rfl ?_
  refine hc_copy C ac_X3_86 ac_nat ac_sta ac_ini rfl rfl (by decide) (by decide) (by decide) (by decide) (by decide) (by decide) (Nat.le_of_ble_eq_true rfl) dX3_becomeLike_68 ?_
  refine hc_aload_n C dX3_becomeLike_71 rfl rfl ?_
  refine hc_getR C fl_X3_36 rfl rfl dX3_becomeLike_72 ?_
  refine hc_iconst C dX3_becomeLike_75 (v := 0) rfl ?_
  refine hc_aload_n C dX3_becomeLike_76 rfl rfl ?_
  refine hc_getR C fl_X3_36 rfl rfl dX3_becomeLike_77 ?_
  refine hc_iconst C dX3_becomeLike_80 (v := 0) rfl ?_
  refine hc_bipush C dX3_becomeLike_81 (v := 6) rfl ?_
  refine hc_copy C ac_X3_86 ac_nat ac_sta ac_ini rfl rfl (by decide) (by decide) (by decide) (by decide) (by decide) (by decide) (Nat.le_of_ble_eq_true rfl) dX3_becomeLike_83 ?_
  refine hc_aload_n C dX3_becomeLike_86 rfl rfl ?_
  refine hc_getR C fl_X3_39 rfl rfl dX3_becomeLike_87 ?_
  refine hc_iconst C dX3_becomeLike_90 (v := 0) rfl ?_
  refine hc_aload_n C dX3_becomeLike_91 rfl rfl ?_
  refine hc_getR C fl_X3_39 rfl rfl dX3_becomeLike_92 ?_
  refine hc_iconst C dX3_becomeLike_95 (v := 0) rfl ?_
  refine hc_bipush C dX3_becomeLike_96 (v := 6) rfl ?_
  refine hc_copy C ac_X3_86 ac_nat ac_sta ac_ini rfl rfl (by decide) (by decide) (by decide) (by decide) (by decide) (by decide) (Nat.le_of_ble_eq_true rfl) dX3_becomeLike_98 ?_
  refine hc_aload_n C dX3_becomeLike_101 rfl rfl ?_
  refine hc_getR C fl_X3_42 rfl rfl dX3_becomeLike_102 ?_
  refine hc_iconst C dX3_becomeLike_105 (v := 0) rfl ?_
  refine hc_aload_n C dX3_becomeLike_106 rfl rfl ?_
  refine hc_getR C fl_X3_42 rfl rfl dX3_becomeLike_107 ?_
  refine hc_iconst C dX3_becomeLike_110 (v := 0) rfl ?_
  refine hc_bipush C dX3_becomeLike_111 (v := 6) rfl ?_
  refine hc_copy C ac_X3_86 ac_nat ac_sta ac_ini rfl rfl (by decide) (by decide) (by decide) (by decide) (by decide) (by decide) (Nat.le_of_ble_eq_true rfl) dX3_becomeLike_113 ?_
  refine hc_aload_n C dX3_becomeLike_116 rfl rfl ?_
  refine hc_getR C fl_X3_45 rfl rfl dX3_becomeLike_117 ?_
  refine hc_iconst C dX3_becomeLike_120 (v := 0) rfl ?_
  refine hc_aload_n C dX3_becomeLike_121 rfl rfl ?_
  refine hc_getR C fl_X3_45 rfl rfl dX3_becomeLike_122 ?_
  refine hc_iconst C dX3_becomeLike_125 (v := 0) rfl ?_
  refine hc_bipush C dX3_becomeLike_126 (v := 6) rfl ?_
  refine hc_copy C ac_X3_86 ac_nat ac_sta ac_ini rfl rfl (by decide) (by decide) (by decide) (by decide) (by decide) (by decide) (Nat.le_of_ble_eq_true rfl) dX3_becomeLike_128 ?_
  refine hc_aload_n C dX3_becomeLike_131 rfl rfl ?_
  refine hc_getR C fl_X3_48 rfl rfl dX3_becomeLike_132 ?_
  refine hc_iconst C dX3_becomeLike_135 (v := 0) rfl ?_
  refine hc_aload_n C dX3_becomeLike_136 rfl rfl ?_
  refine hc_getR C fl_X3_48 rfl rfl dX3_becomeLike_137 ?_
  refine hc_iconst C dX3_becomeLike_140 (v := 0) rfl ?_
  refine hc_bipush C dX3_becomeLike_141 (v := 6) rfl ?_
  refine hc_copy C ac_X3_86 ac_nat ac_sta ac_ini rfl rfl (by decide) (by decide) (by decide) (by decide) (by decide) (by decide) (Nat.le_of_ble_eq_true rfl) dX3_becomeLike_143 ?_
  refine hc_aload_n C dX3_becomeLike_146 rfl rfl ?_
  refine hc_getR C fl_X3_51 rfl rfl dX3_becomeLike_147 ?_
  refine hc_iconst C dX3_becomeLike_150 (v := 0) rfl ?_
  refine hc_aload_n C dX3_becomeLike_151 rfl rfl ?_
  refine hc_getR C fl_X3_51 rfl rfl dX3_becomeLike_152 ?_
  refine hc_iconst C dX3_becomeLike_155 (v := 0) rfl ?_
  refine hc_iconst C dX3_becomeLike_156 (v := 4) rfl ?_
  refine hc_copy C ac_X3_86 ac_nat ac_sta ac_ini rfl rfl (by decide) (by decide) (by decide) (by decide) (by decide) (by decide) (Nat.le_of_ble_eq_true rfl) dX3_becomeLike_157 ?_
  refine hc_aload_n C dX3_becomeLike_160 rfl rfl ?_
  refine hc_getR C fl_X3_54 rfl rfl dX3_becomeLike_161 ?_
  refine hc_iconst C dX3_becomeLike_164 (v := 0) rfl ?_
  refine hc_aload_n C dX3_becomeLike_165 rfl rfl ?_
  refine hc_getR C fl_X3_54 rfl rfl dX3_becomeLike_166 ?_
  refine hc_iconst C dX3_becomeLike_169 (v := 0) rfl ?_
  refine hc_iconst C dX3_becomeLike_170 (v := 4) rfl ?_
  refine hc_copy C ac_X3_86 ac_nat ac_sta ac_ini rfl rfl (by decide) (by decide) (by decide) (by decide) (by decide) (by decide) (Nat.le_of_ble_eq_true rfl) dX3_becomeLike_171 ?_
  refine hc_aload_n C dX3_becomeLike_174 rfl rfl ?_
  refine hc_getR C fl_X3_57 rfl rfl dX3_becomeLike_175 ?_
  refine hc_iconst C dX3_becomeLike_178 (v := 0) rfl ?_
  refine hc_aload_n C dX3_becomeLike_179 rfl rfl ?_
  refine hc_getR C fl_X3_57 rfl rfl dX3_becomeLike_180 ?_
  refine hc_iconst C dX3_becomeLike_183 (v := 0) rfl ?_
  refine hc_iconst C dX3_becomeLike_184 (v := 4) rfl ?_
  refine hc_copy C ac_X3_86 ac_nat ac_sta ac_ini rfl rfl (by decide) (by decide) (by decide) (by decide) (by decide) (by decide) (Nat.le_of_ble_eq_true rfl) dX3_becomeLike_185 ?_
  refine hc_aload_n C dX3_becomeLike_188 rfl rfl ?_
  refine hc_getR C fl_X3_60 rfl rfl dX3_becomeLike_189 ?_
  refine hc_iconst C dX3_becomeLike_192 (v := 0) rfl ?_
  refine hc_aload_n C dX3_becomeLike_193 rfl rfl ?_
  refine hc_getR C fl_X3_60 rfl rfl dX3_becomeLike_194 ?_
  refine hc_iconst C dX3_becomeLike_197 (v := 0) rfl ?_
  refine hc_aload_n C dX3_becomeLike_198 rfl rfl ?_
  refine hc_getI C fl_X3_17 rfl rfl dX3_becomeLike_199 ?_
  refine hc_iconst C dX3_becomeLike_202 (v := 1) rfl ?_
  refine hc_iadd C dX3_becomeLike_203 ?_
  refine hc_top (v := nI (q0 + 1)) (show M 9 2 + 1 = nI (q0 + 1) by rw [hq, nI_1]) ?_
  refine hc_copy C ac_X3_86 ac_nat ac_sta ac_ini rfl rfl (by decide) (by decide) (nI_pos (by omega)) (by rw [nI_clamp (by omega)]; show 0 + (q0 + 1) ≤ 1000; omega) (by rw [nI_clamp (by omega)]; show 0 + (q0 + 1) ≤ 1000; omega) (by decide) (Nat.le_of_ble_eq_true rfl) dX3_becomeLike_204 ?_
  refine hc_vret C rfl dX3_becomeLike_207 ?_
  exact hc_cpyn (nI_clamp (show q0 + 1 < 2 ^ 31 by omega)).symm

def hLike_31_9 (M : hc_Mem) (q0 : Nat) : hc_Mem := hc_mf (hc_mf (hc_mf (hc_mf (hc_mf (hc_mf (hc_mf (hc_mf (hc_mf (hc_mf (hc_ms (hc_ms (hc_ms (hc_ms (hc_ms (hc_ms (hc_ms (M) 31 0 (M 9 0)) 31 1 (M 9 1)) 31 2 (M 9 2)) 31 3 (M 9 3)) 31 4 (M 9 4)) 31 5 (M 9 5)) 31 6 (M 9 6)) 32 (va_cpy (M 10) (M 32) 0 0 6)) 33 (va_cpy (M 11) (M 33) 0 0 6)) 34 (va_cpy (M 12) (M 34) 0 0 6)) 35 (va_cpy (M 13) (M 35) 0 0 6)) 36 (va_cpy (M 14) (M 36) 0 0 6)) 37 (va_cpy (M 15) (M 37) 0 0 6)) 38 (va_cpy (M 16) (M 38) 0 0 4)) 39 (va_cpy (M 17) (M 39) 0 0 4)) 40 (va_cpy (M 18) (M 40) 0 0 4)) 41 (va_cpy (M 19) (M 41) 0 0 (q0 + 1))

set_option maxRecDepth 100000 in
set_option maxHeartbeats 4000000 in
theorem c_X3_becomeLike_31_9 {l : Launch} {G : hc_Geo} (hG : hc_ok G) {M : hc_Mem} {q0 : Nat}  (hq : M 9 2 = nI q0) (hq9 : q0 ≤ 999) (hz : M 9 0 = 0 ∨ M 9 0 = 1) : hc_M l G yX3_becomeLike cX3_becomeLike 2 none 1 [.ref (hc_ad G 31), .ref (hc_ad G 9)] M (hc_pv (fun M' => hLike_31_9 M q0 = M')) := by
  refine hc_M.of hG (by decide) [some (.ref (hc_ad G 31)), some (.ref (hc_ad G 9))] rfl (Nat.le_of_ble_eq_true rfl) ?_
  intro p e s m args below meth c C
  refine hc_aload_n C dX3_becomeLike_0 rfl rfl ?_
  refine hc_aload_n C dX3_becomeLike_1 rfl rfl ?_
  refine hc_getI C fl_X3_7 rfl rfl dX3_becomeLike_2 ?_
  refine hc_putT C fl_X3_7 pl_2_0 (show narrow .boolean (.int (M 9 0)) = .int (M 9 0) by rcases hz with h | h <;> rw [h] <;> rfl) (show fits .boolean (.int (M 9 0)) = true by rcases hz with h | h <;> rw [h] <;> rfl) rfl rfl dX3_becomeLike_5 ?_
  refine hc_aload_n C dX3_becomeLike_8 rfl rfl ?_
  refine hc_aload_n C dX3_becomeLike_9 rfl rfl ?_
  refine hc_getI C fl_X3_13 rfl rfl dX3_becomeLike_10 ?_
  refine hc_putI C fl_X3_13 pl_2_1 rfl rfl dX3_becomeLike_13 ?_
  refine hc_aload_n C dX3_becomeLike_16 rfl rfl ?_
  refine hc_aload_n C dX3_becomeLike_17 rfl rfl ?_
  refine hc_getI C fl_X3_17 rfl rfl dX3_becomeLike_18 ?_
  refine hc_putI C fl_X3_17 pl_2_2 rfl rfl dX3_becomeLike_21 ?_
  refine hc_aload_n C dX3_becomeLike_24 rfl rfl ?_
  refine hc_aload_n C dX3_becomeLike_25 rfl rfl ?_
  refine hc_getI C fl_X3_20 rfl rfl dX3_becomeLike_26 ?_
  refine hc_putI C fl_X3_20 pl_2_3 rfl rfl dX3_becomeLike_29 ?_
  refine hc_aload_n C dX3_becomeLike_32 rfl rfl ?_
  refine hc_aload_n C dX3_becomeLike_33 rfl rfl ?_
  refine hc_getI C fl_X3_23 rfl rfl dX3_becomeLike_34 ?_
  refine hc_putI C fl_X3_23 pl_2_4 rfl rfl dX3_becomeLike_37 ?_
  refine hc_aload_n C dX3_becomeLike_40 rfl rfl ?_
  refine hc_aload_n C dX3_becomeLike_41 rfl rfl ?_
  refine hc_getI C fl_X3_26 rfl rfl dX3_becomeLike_42 ?_
  refine hc_putI C fl_X3_26 pl_2_5 rfl rfl dX3_becomeLike_45 ?_
  refine hc_aload_n C dX3_becomeLike_48 rfl rfl ?_
  refine hc_aload_n C dX3_becomeLike_49 rfl rfl ?_
  refine hc_getI C fl_X3_29 rfl rfl dX3_becomeLike_50 ?_
  refine hc_putI C fl_X3_29 pl_2_6 rfl rfl dX3_becomeLike_53 ?_
  refine hc_aload_n C dX3_becomeLike_56 rfl rfl ?_
  refine hc_getR C fl_X3_32 rfl rfl dX3_becomeLike_57 ?_
  refine hc_iconst C dX3_becomeLike_60 (v := 0) rfl ?_
  refine hc_aload_n C dX3_becomeLike_61 rfl rfl ?_
  refine hc_getR C fl_X3_32 rfl rfl dX3_becomeLike_62 ?_
  refine hc_iconst C dX3_becomeLike_65 (v := 0) rfl ?_
  refine hc_bipush C dX3_becomeLike_66 (v := 6) rfl ?_
  refine hc_copy C ac_X3_86 ac_nat ac_sta ac_ini rfl rfl (by decide) (by decide) (by decide) (by decide) (by decide) (by decide) (Nat.le_of_ble_eq_true rfl) dX3_becomeLike_68 ?_
  refine hc_aload_n C dX3_becomeLike_71 rfl rfl ?_
  refine hc_getR C fl_X3_36 rfl rfl dX3_becomeLike_72 ?_
  refine hc_iconst C dX3_becomeLike_75 (v := 0) rfl ?_
  refine hc_aload_n C dX3_becomeLike_76 rfl rfl ?_
  refine hc_getR C fl_X3_36 rfl rfl dX3_becomeLike_77 ?_
  refine hc_iconst C dX3_becomeLike_80 (v := 0) rfl ?_
  refine hc_bipush C dX3_becomeLike_81 (v := 6) rfl ?_
  refine hc_copy C ac_X3_86 ac_nat ac_sta ac_ini rfl rfl (by decide) (by decide) (by decide) (by decide) (by decide) (by decide) (Nat.le_of_ble_eq_true rfl) dX3_becomeLike_83 ?_
  refine hc_aload_n C dX3_becomeLike_86 rfl rfl ?_
  refine hc_getR C fl_X3_39 rfl rfl dX3_becomeLike_87 ?_
  refine hc_iconst C dX3_becomeLike_90 (v := 0) rfl ?_
  refine hc_aload_n C dX3_becomeLike_91 rfl rfl ?_
  refine hc_getR C fl_X3_39 rfl rfl dX3_becomeLike_92 ?_
  refine hc_iconst C dX3_becomeLike_95 (v := 0) rfl ?_
  refine hc_bipush C dX3_becomeLike_96 (v := 6) rfl ?_
  refine hc_copy C ac_X3_86 ac_nat ac_sta ac_ini rfl rfl (by decide) (by decide) (by decide) (by decide) (by decide) (by decide) (Nat.le_of_ble_eq_true rfl) dX3_becomeLike_98 ?_
  refine hc_aload_n C dX3_becomeLike_101 rfl rfl ?_
  refine hc_getR C fl_X3_42 rfl rfl dX3_becomeLike_102 ?_
  refine hc_iconst C dX3_becomeLike_105 (v := 0) rfl ?_
  refine hc_aload_n C dX3_becomeLike_106 rfl rfl ?_
  refine hc_getR C fl_X3_42 rfl rfl dX3_becomeLike_107 ?_
  refine hc_iconst C dX3_becomeLike_110 (v := 0) rfl ?_
  refine hc_bipush C dX3_becomeLike_111 (v := 6) rfl ?_
  refine hc_copy C ac_X3_86 ac_nat ac_sta ac_ini rfl rfl (by decide) (by decide) (by decide) (by decide) (by decide) (by decide) (Nat.le_of_ble_eq_true rfl) dX3_becomeLike_113 ?_
  refine hc_aload_n C dX3_becomeLike_116 rfl rfl ?_
  refine hc_getR C fl_X3_45 rfl rfl dX3_becomeLike_117 ?_
  refine hc_iconst C dX3_becomeLike_120 (v := 0) rfl ?_
  refine hc_aload_n C dX3_becomeLike_121 rfl rfl ?_
  refine hc_getR C fl_X3_45 rfl rfl dX3_becomeLike_122 ?_
  refine hc_iconst C dX3_becomeLike_125 (v := 0) rfl ?_
  refine hc_bipush C dX3_becomeLike_126 (v := 6) rfl ?_
  refine hc_copy C ac_X3_86 ac_nat ac_sta ac_ini rfl rfl (by decide) (by decide) (by decide) (by decide) (by decide) (by decide) (Nat.le_of_ble_eq_true rfl) dX3_becomeLike_128 ?_
  refine hc_aload_n C dX3_becomeLike_131 rfl rfl ?_
  refine hc_getR C fl_X3_48 rfl rfl dX3_becomeLike_132 ?_
  refine hc_iconst C dX3_becomeLike_135 (v := 0) rfl ?_
  refine hc_aload_n C dX3_becomeLike_136 rfl rfl ?_
  refine hc_getR C fl_X3_48 rfl rfl dX3_becomeLike_137 ?_
  refine hc_iconst C dX3_becomeLike_140 (v := 0) rfl ?_
  refine hc_bipush C dX3_becomeLike_141 (v := 6) rfl ?_
  refine hc_copy C ac_X3_86 ac_nat ac_sta ac_ini rfl rfl (by decide) (by decide) (by decide) (by decide) (by decide) (by decide) (Nat.le_of_ble_eq_true rfl) dX3_becomeLike_143 ?_
  refine hc_aload_n C dX3_becomeLike_146 rfl rfl ?_
  refine hc_getR C fl_X3_51 rfl rfl dX3_becomeLike_147 ?_
  refine hc_iconst C dX3_becomeLike_150 (v := 0) rfl ?_
  refine hc_aload_n C dX3_becomeLike_151 rfl rfl ?_
  refine hc_getR C fl_X3_51 rfl rfl dX3_becomeLike_152 ?_
  refine hc_iconst C dX3_becomeLike_155 (v := 0) rfl ?_
  refine hc_iconst C dX3_becomeLike_156 (v := 4) rfl ?_
  refine hc_copy C ac_X3_86 ac_nat ac_sta ac_ini rfl rfl (by decide) (by decide) (by decide) (by decide) (by decide) (by decide) (Nat.le_of_ble_eq_true rfl) dX3_becomeLike_157 ?_
  refine hc_aload_n C dX3_becomeLike_160 rfl rfl ?_
  refine hc_getR C fl_X3_54 rfl rfl dX3_becomeLike_161 ?_
  refine hc_iconst C dX3_becomeLike_164 (v := 0) rfl ?_
  refine hc_aload_n C dX3_becomeLike_165 rfl rfl ?_
  refine hc_getR C fl_X3_54 rfl rfl dX3_becomeLike_166 ?_
  refine hc_iconst C dX3_becomeLike_169 (v := 0) rfl ?_
  refine hc_iconst C dX3_becomeLike_170 (v := 4) rfl ?_
  refine hc_copy C ac_X3_86 ac_nat ac_sta ac_ini rfl rfl (by decide) (by decide) (by decide) (by decide) (by decide) (by decide) (Nat.le_of_ble_eq_true rfl) dX3_becomeLike_171 ?_
  refine hc_aload_n C dX3_becomeLike_174 rfl rfl ?_
  refine hc_getR C fl_X3_57 rfl rfl dX3_becomeLike_175 ?_
  refine hc_iconst C dX3_becomeLike_178 (v := 0) rfl ?_
  refine hc_aload_n C dX3_becomeLike_179 rfl rfl ?_
  refine hc_getR C fl_X3_57 rfl rfl dX3_becomeLike_180 ?_
  refine hc_iconst C dX3_becomeLike_183 (v := 0) rfl ?_
  refine hc_iconst C dX3_becomeLike_184 (v := 4) rfl ?_
  refine hc_copy C ac_X3_86 ac_nat ac_sta ac_ini rfl rfl (by decide) (by decide) (by decide) (by decide) (by decide) (by decide) (Nat.le_of_ble_eq_true rfl) dX3_becomeLike_185 ?_
  refine hc_aload_n C dX3_becomeLike_188 rfl rfl ?_
  refine hc_getR C fl_X3_60 rfl rfl dX3_becomeLike_189 ?_
  refine hc_iconst C dX3_becomeLike_192 (v := 0) rfl ?_
  refine hc_aload_n C dX3_becomeLike_193 rfl rfl ?_
  refine hc_getR C fl_X3_60 rfl rfl dX3_becomeLike_194 ?_
  refine hc_iconst C dX3_becomeLike_197 (v := 0) rfl ?_
  refine hc_aload_n C dX3_becomeLike_198 rfl rfl ?_
  refine hc_getI C fl_X3_17 rfl rfl dX3_becomeLike_199 ?_
  refine hc_iconst C dX3_becomeLike_202 (v := 1) rfl ?_
  refine hc_iadd C dX3_becomeLike_203 ?_
  refine hc_top (v := nI (q0 + 1)) (show M 9 2 + 1 = nI (q0 + 1) by rw [hq, nI_1]) ?_
  refine hc_copy C ac_X3_86 ac_nat ac_sta ac_ini rfl rfl (by decide) (by decide) (nI_pos (by omega)) (by rw [nI_clamp (by omega)]; show 0 + (q0 + 1) ≤ 1000; omega) (by rw [nI_clamp (by omega)]; show 0 + (q0 + 1) ≤ 1000; omega) (by decide) (Nat.le_of_ble_eq_true rfl) dX3_becomeLike_204 ?_
  refine hc_vret C rfl dX3_becomeLike_207 ?_
  exact hc_cpyn (nI_clamp (show q0 + 1 < 2 ^ 31 by omega)).symm

def hLike_9_20 (M : hc_Mem) (q0 : Nat) : hc_Mem := hc_mf (hc_mf (hc_mf (hc_mf (hc_mf (hc_mf (hc_mf (hc_mf (hc_mf (hc_mf (hc_ms (hc_ms (hc_ms (hc_ms (hc_ms (hc_ms (hc_ms (M) 9 0 (M 20 0)) 9 1 (M 20 1)) 9 2 (M 20 2)) 9 3 (M 20 3)) 9 4 (M 20 4)) 9 5 (M 20 5)) 9 6 (M 20 6)) 10 (va_cpy (M 21) (M 10) 0 0 6)) 11 (va_cpy (M 22) (M 11) 0 0 6)) 12 (va_cpy (M 23) (M 12) 0 0 6)) 13 (va_cpy (M 24) (M 13) 0 0 6)) 14 (va_cpy (M 25) (M 14) 0 0 6)) 15 (va_cpy (M 26) (M 15) 0 0 6)) 16 (va_cpy (M 27) (M 16) 0 0 4)) 17 (va_cpy (M 28) (M 17) 0 0 4)) 18 (va_cpy (M 29) (M 18) 0 0 4)) 19 (va_cpy (M 30) (M 19) 0 0 (q0 + 1))

set_option maxRecDepth 100000 in
set_option maxHeartbeats 4000000 in
theorem c_X3_becomeLike_9_20 {l : Launch} {G : hc_Geo} (hG : hc_ok G) {M : hc_Mem} {q0 : Nat}  (hq : M 20 2 = nI q0) (hq9 : q0 ≤ 999) (hz : M 20 0 = 0 ∨ M 20 0 = 1) : hc_M l G yX3_becomeLike cX3_becomeLike 2 none 1 [.ref (hc_ad G 9), .ref (hc_ad G 20)] M (hc_pv (fun M' => hLike_9_20 M q0 = M')) := by
  refine hc_M.of hG (by decide) [some (.ref (hc_ad G 9)), some (.ref (hc_ad G 20))] rfl (Nat.le_of_ble_eq_true rfl) ?_
  intro p e s m args below meth c C
  refine hc_aload_n C dX3_becomeLike_0 rfl rfl ?_
  refine hc_aload_n C dX3_becomeLike_1 rfl rfl ?_
  refine hc_getI C fl_X3_7 rfl rfl dX3_becomeLike_2 ?_
  refine hc_putT C fl_X3_7 pl_2_0 (show narrow .boolean (.int (M 20 0)) = .int (M 20 0) by rcases hz with h | h <;> rw [h] <;> rfl) (show fits .boolean (.int (M 20 0)) = true by rcases hz with h | h <;> rw [h] <;> rfl) rfl rfl dX3_becomeLike_5 ?_
  refine hc_aload_n C dX3_becomeLike_8 rfl rfl ?_
  refine hc_aload_n C dX3_becomeLike_9 rfl rfl ?_
  refine hc_getI C fl_X3_13 rfl rfl dX3_becomeLike_10 ?_
  refine hc_putI C fl_X3_13 pl_2_1 rfl rfl dX3_becomeLike_13 ?_
  refine hc_aload_n C dX3_becomeLike_16 rfl rfl ?_
  refine hc_aload_n C dX3_becomeLike_17 rfl rfl ?_
  refine hc_getI C fl_X3_17 rfl rfl dX3_becomeLike_18 ?_
  refine hc_putI C fl_X3_17 pl_2_2 rfl rfl dX3_becomeLike_21 ?_
  refine hc_aload_n C dX3_becomeLike_24 rfl rfl ?_
  refine hc_aload_n C dX3_becomeLike_25 rfl rfl ?_
  refine hc_getI C fl_X3_20 rfl rfl dX3_becomeLike_26 ?_
  refine hc_putI C fl_X3_20 pl_2_3 rfl rfl dX3_becomeLike_29 ?_
  refine hc_aload_n C dX3_becomeLike_32 rfl rfl ?_
  refine hc_aload_n C dX3_becomeLike_33 rfl rfl ?_
  refine hc_getI C fl_X3_23 rfl rfl dX3_becomeLike_34 ?_
  refine hc_putI C fl_X3_23 pl_2_4 rfl rfl dX3_becomeLike_37 ?_
  refine hc_aload_n C dX3_becomeLike_40 rfl rfl ?_
  refine hc_aload_n C dX3_becomeLike_41 rfl rfl ?_
  refine hc_getI C fl_X3_26 rfl rfl dX3_becomeLike_42 ?_
  refine hc_putI C fl_X3_26 pl_2_5 rfl rfl dX3_becomeLike_45 ?_
  refine hc_aload_n C dX3_becomeLike_48 rfl rfl ?_
  refine hc_aload_n C dX3_becomeLike_49 rfl rfl ?_
  refine hc_getI C fl_X3_29 rfl rfl dX3_becomeLike_50 ?_
  refine hc_putI C fl_X3_29 pl_2_6 rfl rfl dX3_becomeLike_53 ?_
  refine hc_aload_n C dX3_becomeLike_56 rfl rfl ?_
  refine hc_getR C fl_X3_32 rfl rfl dX3_becomeLike_57 ?_
  refine hc_iconst C dX3_becomeLike_60 (v := 0) rfl ?_
  refine hc_aload_n C dX3_becomeLike_61 rfl rfl ?_
  refine hc_getR C fl_X3_32 rfl rfl dX3_becomeLike_62 ?_
  refine hc_iconst C dX3_becomeLike_65 (v := 0) rfl ?_
  refine hc_bipush C dX3_becomeLike_66 (v := 6) rfl ?_
  refine hc_copy C ac_X3_86 ac_nat ac_sta ac_ini rfl rfl (by decide) (by decide) (by decide) (by decide) (by decide) (by decide) (Nat.le_of_ble_eq_true rfl) dX3_becomeLike_68 ?_
  refine hc_aload_n C dX3_becomeLike_71 rfl rfl ?_
  refine hc_getR C fl_X3_36 rfl rfl dX3_becomeLike_72 ?_
  refine hc_iconst C dX3_becomeLike_75 (v := 0) rfl ?_
  refine hc_aload_n C dX3_becomeLike_76 rfl rfl ?_
  refine hc_getR C fl_X3_36 rfl rfl dX3_becomeLike_77 ?_
  refine hc_iconst C dX3_becomeLike_80 (v := 0) rfl ?_
  refine hc_bipush C dX3_becomeLike_81 (v := 6) rfl ?_
  refine hc_copy C ac_X3_86 ac_nat ac_sta ac_ini rfl rfl (by decide) (by decide) (by decide) (by decide) (by decide) (by decide) (Nat.le_of_ble_eq_true rfl) dX3_becomeLike_83 ?_
  refine hc_aload_n C dX3_becomeLike_86 rfl rfl ?_
  refine hc_getR C fl_X3_39 rfl rfl dX3_becomeLike_87 ?_
  refine hc_iconst C dX3_becomeLike_90 (v := 0) rfl ?_
  refine hc_aload_n C dX3_becomeLike_91 rfl rfl ?_
  refine hc_getR C fl_X3_39 rfl rfl dX3_becomeLike_92 ?_
  refine hc_iconst C dX3_becomeLike_95 (v := 0) rfl ?_
  refine hc_bipush C dX3_becomeLike_96 (v := 6) rfl ?_
  refine hc_copy C ac_X3_86 ac_nat ac_sta ac_ini rfl rfl (by decide) (by decide) (by decide) (by decide) (by decide) (by decide) (Nat.le_of_ble_eq_true rfl) dX3_becomeLike_98 ?_
  refine hc_aload_n C dX3_becomeLike_101 rfl rfl ?_
  refine hc_getR C fl_X3_42 rfl rfl dX3_becomeLike_102 ?_
  refine hc_iconst C dX3_becomeLike_105 (v := 0) rfl ?_
  refine hc_aload_n C dX3_becomeLike_106 rfl rfl ?_
  refine hc_getR C fl_X3_42 rfl rfl dX3_becomeLike_107 ?_
  refine hc_iconst C dX3_becomeLike_110 (v := 0) rfl ?_
  refine hc_bipush C dX3_becomeLike_111 (v := 6) rfl ?_
  refine hc_copy C ac_X3_86 ac_nat ac_sta ac_ini rfl rfl (by decide) (by decide) (by decide) (by decide) (by decide) (by decide) (Nat.le_of_ble_eq_true rfl) dX3_becomeLike_113 ?_
  refine hc_aload_n C dX3_becomeLike_116 rfl rfl ?_
  refine hc_getR C fl_X3_45 rfl rfl dX3_becomeLike_117 ?_
  refine hc_iconst C dX3_becomeLike_120 (v := 0) rfl ?_
  refine hc_aload_n C dX3_becomeLike_121 rfl rfl ?_
  refine hc_getR C fl_X3_45 rfl rfl dX3_becomeLike_122 ?_
  refine hc_iconst C dX3_becomeLike_125 (v := 0) rfl ?_
  refine hc_bipush C dX3_becomeLike_126 (v := 6) rfl ?_
  refine hc_copy C ac_X3_86 ac_nat ac_sta ac_ini rfl rfl (by decide) (by decide) (by decide) (by decide) (by decide) (by decide) (Nat.le_of_ble_eq_true rfl) dX3_becomeLike_128 ?_
  refine hc_aload_n C dX3_becomeLike_131 rfl rfl ?_
  refine hc_getR C fl_X3_48 rfl rfl dX3_becomeLike_132 ?_
  refine hc_iconst C dX3_becomeLike_135 (v := 0) rfl ?_
  refine hc_aload_n C dX3_becomeLike_136 rfl rfl ?_
  refine hc_getR C fl_X3_48 rfl rfl dX3_becomeLike_137 ?_
  refine hc_iconst C dX3_becomeLike_140 (v := 0) rfl ?_
  refine hc_bipush C dX3_becomeLike_141 (v := 6) rfl ?_
  refine hc_copy C ac_X3_86 ac_nat ac_sta ac_ini rfl rfl (by decide) (by decide) (by decide) (by decide) (by decide) (by decide) (Nat.le_of_ble_eq_true rfl) dX3_becomeLike_143 ?_
  refine hc_aload_n C dX3_becomeLike_146 rfl rfl ?_
  refine hc_getR C fl_X3_51 rfl rfl dX3_becomeLike_147 ?_
  refine hc_iconst C dX3_becomeLike_150 (v := 0) rfl ?_
  refine hc_aload_n C dX3_becomeLike_151 rfl rfl ?_
  refine hc_getR C fl_X3_51 rfl rfl dX3_becomeLike_152 ?_
  refine hc_iconst C dX3_becomeLike_155 (v := 0) rfl ?_
  refine hc_iconst C dX3_becomeLike_156 (v := 4) rfl ?_
  refine hc_copy C ac_X3_86 ac_nat ac_sta ac_ini rfl rfl (by decide) (by decide) (by decide) (by decide) (by decide) (by decide) (Nat.le_of_ble_eq_true rfl) dX3_becomeLike_157 ?_
  refine hc_aload_n C dX3_becomeLike_160 rfl rfl ?_
  refine hc_getR C fl_X3_54 rfl rfl dX3_becomeLike_161 ?_
  refine hc_iconst C dX3_becomeLike_164 (v := 0) rfl ?_
  refine hc_aload_n C dX3_becomeLike_165 rfl rfl ?_
  refine hc_getR C fl_X3_54 rfl rfl dX3_becomeLike_166 ?_
  refine hc_iconst C dX3_becomeLike_169 (v := 0) rfl ?_
  refine hc_iconst C dX3_becomeLike_170 (v := 4) rfl ?_
  refine hc_copy C ac_X3_86 ac_nat ac_sta ac_ini rfl rfl (by decide) (by decide) (by decide) (by decide) (by decide) (by decide) (Nat.le_of_ble_eq_true rfl) dX3_becomeLike_171 ?_
  refine hc_aload_n C dX3_becomeLike_174 rfl rfl ?_
  refine hc_getR C fl_X3_57 rfl rfl dX3_becomeLike_175 ?_
  refine hc_iconst C dX3_becomeLike_178 (v := 0) rfl ?_
  refine hc_aload_n C dX3_becomeLike_179 rfl rfl ?_
  refine hc_getR C fl_X3_57 rfl rfl dX3_becomeLike_180 ?_
  refine hc_iconst C dX3_becomeLike_183 (v := 0) rfl ?_
  refine hc_iconst C dX3_becomeLike_184 (v := 4) rfl ?_
  refine hc_copy C ac_X3_86 ac_nat ac_sta ac_ini rfl rfl (by decide) (by decide) (by decide) (by decide) (by decide) (by decide) (Nat.le_of_ble_eq_true rfl) dX3_becomeLike_185 ?_
  refine hc_aload_n C dX3_becomeLike_188 rfl rfl ?_
  refine hc_getR C fl_X3_60 rfl rfl dX3_becomeLike_189 ?_
  refine hc_iconst C dX3_becomeLike_192 (v := 0) rfl ?_
  refine hc_aload_n C dX3_becomeLike_193 rfl rfl ?_
  refine hc_getR C fl_X3_60 rfl rfl dX3_becomeLike_194 ?_
  refine hc_iconst C dX3_becomeLike_197 (v := 0) rfl ?_
  refine hc_aload_n C dX3_becomeLike_198 rfl rfl ?_
  refine hc_getI C fl_X3_17 rfl rfl dX3_becomeLike_199 ?_
  refine hc_iconst C dX3_becomeLike_202 (v := 1) rfl ?_
  refine hc_iadd C dX3_becomeLike_203 ?_
  refine hc_top (v := nI (q0 + 1)) (show M 20 2 + 1 = nI (q0 + 1) by rw [hq, nI_1]) ?_
  refine hc_copy C ac_X3_86 ac_nat ac_sta ac_ini rfl rfl (by decide) (by decide) (nI_pos (by omega)) (by rw [nI_clamp (by omega)]; show 0 + (q0 + 1) ≤ 1000; omega) (by rw [nI_clamp (by omega)]; show 0 + (q0 + 1) ≤ 1000; omega) (by decide) (Nat.le_of_ble_eq_true rfl) dX3_becomeLike_204 ?_
  refine hc_vret C rfl dX3_becomeLike_207 ?_
  exact hc_cpyn (nI_clamp (show q0 + 1 < 2 ^ 31 by omega)).symm

def hLike_9_31 (M : hc_Mem) (q0 : Nat) : hc_Mem := hc_mf (hc_mf (hc_mf (hc_mf (hc_mf (hc_mf (hc_mf (hc_mf (hc_mf (hc_mf (hc_ms (hc_ms (hc_ms (hc_ms (hc_ms (hc_ms (hc_ms (M) 9 0 (M 31 0)) 9 1 (M 31 1)) 9 2 (M 31 2)) 9 3 (M 31 3)) 9 4 (M 31 4)) 9 5 (M 31 5)) 9 6 (M 31 6)) 10 (va_cpy (M 32) (M 10) 0 0 6)) 11 (va_cpy (M 33) (M 11) 0 0 6)) 12 (va_cpy (M 34) (M 12) 0 0 6)) 13 (va_cpy (M 35) (M 13) 0 0 6)) 14 (va_cpy (M 36) (M 14) 0 0 6)) 15 (va_cpy (M 37) (M 15) 0 0 6)) 16 (va_cpy (M 38) (M 16) 0 0 4)) 17 (va_cpy (M 39) (M 17) 0 0 4)) 18 (va_cpy (M 40) (M 18) 0 0 4)) 19 (va_cpy (M 41) (M 19) 0 0 (q0 + 1))

set_option maxRecDepth 100000 in
set_option maxHeartbeats 4000000 in
theorem c_X3_becomeLike_9_31 {l : Launch} {G : hc_Geo} (hG : hc_ok G) {M : hc_Mem} {q0 : Nat}  (hq : M 31 2 = nI q0) (hq9 : q0 ≤ 999) (hz : M 31 0 = 0 ∨ M 31 0 = 1) : hc_M l G yX3_becomeLike cX3_becomeLike 2 none 1 [.ref (hc_ad G 9), .ref (hc_ad G 31)] M (hc_pv (fun M' => hLike_9_31 M q0 = M')) := by
  refine hc_M.of hG (by decide) [some (.ref (hc_ad G 9)), some (.ref (hc_ad G 31))] rfl (Nat.le_of_ble_eq_true rfl) ?_
  intro p e s m args below meth c C
  refine hc_aload_n C dX3_becomeLike_0 rfl rfl ?_
  refine hc_aload_n C dX3_becomeLike_1 rfl rfl ?_
  refine hc_getI C fl_X3_7 rfl rfl dX3_becomeLike_2 ?_
  refine hc_putT C fl_X3_7 pl_2_0 (show narrow .boolean (.int (M 31 0)) = .int (M 31 0) by rcases hz with h | h <;> rw [h] <;> rfl) (show fits .boolean (.int (M 31 0)) = true by rcases hz with h | h <;> rw [h] <;> rfl) rfl rfl dX3_becomeLike_5 ?_
  refine hc_aload_n C dX3_becomeLike_8 rfl rfl ?_
  refine hc_aload_n C dX3_becomeLike_9 rfl rfl ?_
  refine hc_getI C fl_X3_13 rfl rfl dX3_becomeLike_10 ?_
  refine hc_putI C fl_X3_13 pl_2_1 rfl rfl dX3_becomeLike_13 ?_
  refine hc_aload_n C dX3_becomeLike_16 rfl rfl ?_
  refine hc_aload_n C dX3_becomeLike_17 rfl rfl ?_
  refine hc_getI C fl_X3_17 rfl rfl dX3_becomeLike_18 ?_
  refine hc_putI C fl_X3_17 pl_2_2 rfl rfl dX3_becomeLike_21 ?_
  refine hc_aload_n C dX3_becomeLike_24 rfl rfl ?_
  refine hc_aload_n C dX3_becomeLike_25 rfl rfl ?_
  refine hc_getI C fl_X3_20 rfl rfl dX3_becomeLike_26 ?_
  refine hc_putI C fl_X3_20 pl_2_3 rfl rfl dX3_becomeLike_29 ?_
  refine hc_aload_n C dX3_becomeLike_32 rfl rfl ?_
  refine hc_aload_n C dX3_becomeLike_33 rfl rfl ?_
  refine hc_getI C fl_X3_23 rfl rfl dX3_becomeLike_34 ?_
  refine hc_putI C fl_X3_23 pl_2_4 rfl rfl dX3_becomeLike_37 ?_
  refine hc_aload_n C dX3_becomeLike_40 rfl rfl ?_
  refine hc_aload_n C dX3_becomeLike_41 rfl rfl ?_
  refine hc_getI C fl_X3_26 rfl rfl dX3_becomeLike_42 ?_
  refine hc_putI C fl_X3_26 pl_2_5 rfl rfl dX3_becomeLike_45 ?_
  refine hc_aload_n C dX3_becomeLike_48 rfl rfl ?_
  refine hc_aload_n C dX3_becomeLike_49 rfl rfl ?_
  refine hc_getI C fl_X3_29 rfl rfl dX3_becomeLike_50 ?_
  refine hc_putI C fl_X3_29 pl_2_6 rfl rfl dX3_becomeLike_53 ?_
  refine hc_aload_n C dX3_becomeLike_56 rfl rfl ?_
  refine hc_getR C fl_X3_32 rfl rfl dX3_becomeLike_57 ?_
  refine hc_iconst C dX3_becomeLike_60 (v := 0) rfl ?_
  refine hc_aload_n C dX3_becomeLike_61 rfl rfl ?_
  refine hc_getR C fl_X3_32 rfl rfl dX3_becomeLike_62 ?_
  refine hc_iconst C dX3_becomeLike_65 (v := 0) rfl ?_
  refine hc_bipush C dX3_becomeLike_66 (v := 6) rfl ?_
  refine hc_copy C ac_X3_86 ac_nat ac_sta ac_ini rfl rfl (by decide) (by decide) (by decide) (by decide) (by decide) (by decide) (Nat.le_of_ble_eq_true rfl) dX3_becomeLike_68 ?_
  refine hc_aload_n C dX3_becomeLike_71 rfl rfl ?_
  refine hc_getR C fl_X3_36 rfl rfl dX3_becomeLike_72 ?_
  refine hc_iconst C dX3_becomeLike_75 (v := 0) rfl ?_
  refine hc_aload_n C dX3_becomeLike_76 rfl rfl ?_
  refine hc_getR C fl_X3_36 rfl rfl dX3_becomeLike_77 ?_
  refine hc_iconst C dX3_becomeLike_80 (v := 0) rfl ?_
  refine hc_bipush C dX3_becomeLike_81 (v := 6) rfl ?_
  refine hc_copy C ac_X3_86 ac_nat ac_sta ac_ini rfl rfl (by decide) (by decide) (by decide) (by decide) (by decide) (by decide) (Nat.le_of_ble_eq_true rfl) dX3_becomeLike_83 ?_
  refine hc_aload_n C dX3_becomeLike_86 rfl rfl ?_
  refine hc_getR C fl_X3_39 rfl rfl dX3_becomeLike_87 ?_
  refine hc_iconst C dX3_becomeLike_90 (v := 0) rfl ?_
  refine hc_aload_n C dX3_becomeLike_91 rfl rfl ?_
  refine hc_getR C fl_X3_39 rfl rfl dX3_becomeLike_92 ?_
  refine hc_iconst C dX3_becomeLike_95 (v := 0) rfl ?_
  refine hc_bipush C dX3_becomeLike_96 (v := 6) rfl ?_
  refine hc_copy C ac_X3_86 ac_nat ac_sta ac_ini rfl rfl (by decide) (by decide) (by decide) (by decide) (by decide) (by decide) (Nat.le_of_ble_eq_true rfl) dX3_becomeLike_98 ?_
  refine hc_aload_n C dX3_becomeLike_101 rfl rfl ?_
  refine hc_getR C fl_X3_42 rfl rfl dX3_becomeLike_102 ?_
  refine hc_iconst C dX3_becomeLike_105 (v := 0) rfl ?_
  refine hc_aload_n C dX3_becomeLike_106 rfl rfl ?_
  refine hc_getR C fl_X3_42 rfl rfl dX3_becomeLike_107 ?_
  refine hc_iconst C dX3_becomeLike_110 (v := 0) rfl ?_
  refine hc_bipush C dX3_becomeLike_111 (v := 6) rfl ?_
  refine hc_copy C ac_X3_86 ac_nat ac_sta ac_ini rfl rfl (by decide) (by decide) (by decide) (by decide) (by decide) (by decide) (Nat.le_of_ble_eq_true rfl) dX3_becomeLike_113 ?_
  refine hc_aload_n C dX3_becomeLike_116 rfl rfl ?_
  refine hc_getR C fl_X3_45 rfl rfl dX3_becomeLike_117 ?_
  refine hc_iconst C dX3_becomeLike_120 (v := 0) rfl ?_
  refine hc_aload_n C dX3_becomeLike_121 rfl rfl ?_
  refine hc_getR C fl_X3_45 rfl rfl dX3_becomeLike_122 ?_
  refine hc_iconst C dX3_becomeLike_125 (v := 0) rfl ?_
  refine hc_bipush C dX3_becomeLike_126 (v := 6) rfl ?_
  refine hc_copy C ac_X3_86 ac_nat ac_sta ac_ini rfl rfl (by decide) (by decide) (by decide) (by decide) (by decide) (by decide) (Nat.le_of_ble_eq_true rfl) dX3_becomeLike_128 ?_
  refine hc_aload_n C dX3_becomeLike_131 rfl rfl ?_
  refine hc_getR C fl_X3_48 rfl rfl dX3_becomeLike_132 ?_
  refine hc_iconst C dX3_becomeLike_135 (v := 0) rfl ?_
  refine hc_aload_n C dX3_becomeLike_136 rfl rfl ?_
  refine hc_getR C fl_X3_48 rfl rfl dX3_becomeLike_137 ?_
  refine hc_iconst C dX3_becomeLike_140 (v := 0) rfl ?_
  refine hc_bipush C dX3_becomeLike_141 (v := 6) rfl ?_
  refine hc_copy C ac_X3_86 ac_nat ac_sta ac_ini rfl rfl (by decide) (by decide) (by decide) (by decide) (by decide) (by decide) (Nat.le_of_ble_eq_true rfl) dX3_becomeLike_143 ?_
  refine hc_aload_n C dX3_becomeLike_146 rfl rfl ?_
  refine hc_getR C fl_X3_51 rfl rfl dX3_becomeLike_147 ?_
  refine hc_iconst C dX3_becomeLike_150 (v := 0) rfl ?_
  refine hc_aload_n C dX3_becomeLike_151 rfl rfl ?_
  refine hc_getR C fl_X3_51 rfl rfl dX3_becomeLike_152 ?_
  refine hc_iconst C dX3_becomeLike_155 (v := 0) rfl ?_
  refine hc_iconst C dX3_becomeLike_156 (v := 4) rfl ?_
  refine hc_copy C ac_X3_86 ac_nat ac_sta ac_ini rfl rfl (by decide) (by decide) (by decide) (by decide) (by decide) (by decide) (Nat.le_of_ble_eq_true rfl) dX3_becomeLike_157 ?_
  refine hc_aload_n C dX3_becomeLike_160 rfl rfl ?_
  refine hc_getR C fl_X3_54 rfl rfl dX3_becomeLike_161 ?_
  refine hc_iconst C dX3_becomeLike_164 (v := 0) rfl ?_
  refine hc_aload_n C dX3_becomeLike_165 rfl rfl ?_
  refine hc_getR C fl_X3_54 rfl rfl dX3_becomeLike_166 ?_
  refine hc_iconst C dX3_becomeLike_169 (v := 0) rfl ?_
  refine hc_iconst C dX3_becomeLike_170 (v := 4) rfl ?_
  refine hc_copy C ac_X3_86 ac_nat ac_sta ac_ini rfl rfl (by decide) (by decide) (by decide) (by decide) (by decide) (by decide) (Nat.le_of_ble_eq_true rfl) dX3_becomeLike_171 ?_
  refine hc_aload_n C dX3_becomeLike_174 rfl rfl ?_
  refine hc_getR C fl_X3_57 rfl rfl dX3_becomeLike_175 ?_
  refine hc_iconst C dX3_becomeLike_178 (v := 0) rfl ?_
  refine hc_aload_n C dX3_becomeLike_179 rfl rfl ?_
  refine hc_getR C fl_X3_57 rfl rfl dX3_becomeLike_180 ?_
  refine hc_iconst C dX3_becomeLike_183 (v := 0) rfl ?_
  refine hc_iconst C dX3_becomeLike_184 (v := 4) rfl ?_
  refine hc_copy C ac_X3_86 ac_nat ac_sta ac_ini rfl rfl (by decide) (by decide) (by decide) (by decide) (by decide) (by decide) (Nat.le_of_ble_eq_true rfl) dX3_becomeLike_185 ?_
  refine hc_aload_n C dX3_becomeLike_188 rfl rfl ?_
  refine hc_getR C fl_X3_60 rfl rfl dX3_becomeLike_189 ?_
  refine hc_iconst C dX3_becomeLike_192 (v := 0) rfl ?_
  refine hc_aload_n C dX3_becomeLike_193 rfl rfl ?_
  refine hc_getR C fl_X3_60 rfl rfl dX3_becomeLike_194 ?_
  refine hc_iconst C dX3_becomeLike_197 (v := 0) rfl ?_
  refine hc_aload_n C dX3_becomeLike_198 rfl rfl ?_
  refine hc_getI C fl_X3_17 rfl rfl dX3_becomeLike_199 ?_
  refine hc_iconst C dX3_becomeLike_202 (v := 1) rfl ?_
  refine hc_iadd C dX3_becomeLike_203 ?_
  refine hc_top (v := nI (q0 + 1)) (show M 31 2 + 1 = nI (q0 + 1) by rw [hq, nI_1]) ?_
  refine hc_copy C ac_X3_86 ac_nat ac_sta ac_ini rfl rfl (by decide) (by decide) (nI_pos (by omega)) (by rw [nI_clamp (by omega)]; show 0 + (q0 + 1) ≤ 1000; omega) (by rw [nI_clamp (by omega)]; show 0 + (q0 + 1) ≤ 1000; omega) (by decide) (Nat.le_of_ble_eq_true rfl) dX3_becomeLike_204 ?_
  refine hc_vret C rfl dX3_becomeLike_207 ?_
  exact hc_cpyn (nI_clamp (show q0 + 1 < 2 ^ 31 by omega)).symm
