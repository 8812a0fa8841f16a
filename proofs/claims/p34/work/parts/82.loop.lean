/-- the law's end -/
theorem lw_end {G : hc_Geo} {p : Program} {l : Launch} {e : Env} {s : State} {m : MethodId} {below : List Frame} {meth : Method} {c : Code} {cells slots : Nat} {b n : Nat} {xs : Nat → Int32} (C : hc_Cx G hc_lay code 4 ret R_law p s m #[Value.ref b] meth c) (hX : va_X b n xs s s.heap) (hbl : b < s.heap.size) (hbA : ¬ hc_A G b) (hn31 : n < 2 ^ 31) (hcs : cells ≤ room_1.cells ∧ slots ≤ room_1.slots) (hGb : G.2.2.2.2 = s.heap.size) {L : List (Option Value)} {M : hc_Mem} : hc_W G hc_lay p l e room_1 s m #[Value.ref b] below meth c 4 cells slots (lw_Z below #[Value.ref b] s) 1165 L [] M := by
  refine hc_iconst C dL_law_1165 (v := 1) rfl ?_
  intro H locs ls hP hS hl
  refine va_forget (fun q hq => by have h1 : G.2.2.2.2 ≤ q.base := hS.2.2 q hq; rw [hGb] at h1; exact h1) ?_
  refine W.widen (k := 600000) (n := 7302250) hcs.1 hcs.2 ?_
  exact lw_ret C.1 C.2.1 C.2.2.2.2.2.2.2.2.1 C.2.2.2.2.2.2.2.2.2 dL_law_1166
theorem lw_cmp {n i : Nat} (hn : n < 2 ^ 30) (hi : i < 2 ^ 30) : nI n - 6 < nI i ↔ n < i + 6 := by
  rw [show (6 : Int32) = nI 6 from rfl, Int32.lt_iff_toInt_lt, pk_sub_toInt hn (by decide), nI_toInt (by omega)]
  omega
set_option maxRecDepth 100000 in
set_option maxHeartbeats 4000000 in
theorem lw_exit {G : hc_Geo} {p : Program} {l : Launch} {e : Env} {s : State} {m : MethodId} {below : List Frame} {meth : Method} {c : Code} {cells slots : Nat} {b n : Nat} {xs : Nat → Int32} (C : hc_Cx G hc_lay code 4 ret R_law p s m #[Value.ref b] meth c) (hX : va_X b n xs s s.heap) (hbl : b < s.heap.size) (hbA : ¬ hc_A G b) (hn31 : n < 2 ^ 31) (hcs : cells ≤ room_1.cells ∧ slots ≤ room_1.slots) (hGb : G.2.2.2.2 = s.heap.size) {i : Nat} (hn30 : n < 2 ^ 30) (hi30 : i < 2 ^ 30) (hi : n < i + 6) {M : hc_Mem} : hc_W G hc_lay p l e room_1 s m #[Value.ref b] below meth c 4 cells slots (lw_Z below #[Value.ref b] s) 18 [some (.ref b), some (.ref (hc_ad G 0)), some (.ref (hc_ad G 48)), some (.int (nI i))] [] M := by
  refine hc_iload_n C dL_law_18 rfl rfl ?_
  refine hc_aload_n C dL_law_19 rfl rfl ?_
  refine hc_sln C hX hbl hbA dL_law_20 ?_
  refine hc_bipush C dL_law_21 (v := 6) rfl ?_
  refine hc_isub C dL_law_23 ?_
  refine hc_icmp_gt C (tgt := 1165) dL_law_24 (by decide) (fun c_1 => ?_) (fun c_1 => ?_)
  · exact lw_end C hX hbl hbA hn31 hcs hGb
  · exact absurd ((lw_cmp hn30 hi30).mpr hi) c_1

set_option maxRecDepth 100000 in
set_option maxHeartbeats 4000000 in
/-- one round of the law's loop, by the method that the script names -/
theorem lw_step {G : hc_Geo} {p : Program} {l : Launch} {e : Env} {s : State} {m : MethodId} {below : List Frame} {meth : Method} {c : Code} {cells slots : Nat} {b n : Nat} {xs : Nat → Int32} (C : hc_Cx G hc_lay code 4 ret R_law p s m #[Value.ref b] meth c) (hX : va_X b n xs s s.heap) (hbl : b < s.heap.size) (hbA : ¬ hc_A G b) (hn31 : n < 2 ^ 31) (hcs : cells ≤ room_1.cells ∧ slots ≤ room_1.slots) {i : Nat} (hn30 : n < 2 ^ 30) (hi : i + 6 ≤ n) {M : hc_Mem} (kc0 : hc_W G hc_lay p l e room_1 s m #[Value.ref b] below meth c 4 cells slots (lw_Z below #[Value.ref b] s) 180 [some (.ref b), some (.ref (hc_ad G 0)), some (.ref (hc_ad G 48)), some (.int (nI i))] [] M) (kc1 : hc_W G hc_lay p l e room_1 s m #[Value.ref b] below meth c 4 cells slots (lw_Z below #[Value.ref b] s) 223 [some (.ref b), some (.ref (hc_ad G 0)), some (.ref (hc_ad G 48)), some (.int (nI i))] [] M) (kc2 : hc_W G hc_lay p l e room_1 s m #[Value.ref b] below meth c 4 cells slots (lw_Z below #[Value.ref b] s) 266 [some (.ref b), some (.ref (hc_ad G 0)), some (.ref (hc_ad G 48)), some (.int (nI i))] [] M) (kc3 : hc_W G hc_lay p l e room_1 s m #[Value.ref b] below meth c 4 cells slots (lw_Z below #[Value.ref b] s) 329 [some (.ref b), some (.ref (hc_ad G 0)), some (.ref (hc_ad G 48)), some (.int (nI i))] [] M) (kc4 : hc_W G hc_lay p l e room_1 s m #[Value.ref b] below meth c 4 cells slots (lw_Z below #[Value.ref b] s) 352 [some (.ref b), some (.ref (hc_ad G 0)), some (.ref (hc_ad G 48)), some (.int (nI i))] [] M) (kc5 : hc_W G hc_lay p l e room_1 s m #[Value.ref b] below meth c 4 cells slots (lw_Z below #[Value.ref b] s) 375 [some (.ref b), some (.ref (hc_ad G 0)), some (.ref (hc_ad G 48)), some (.int (nI i))] [] M) (kc6 : hc_W G hc_lay p l e room_1 s m #[Value.ref b] below meth c 4 cells slots (lw_Z below #[Value.ref b] s) 388 [some (.ref b), some (.ref (hc_ad G 0)), some (.ref (hc_ad G 48)), some (.int (nI i))] [] M) (kc7 : hc_W G hc_lay p l e room_1 s m #[Value.ref b] below meth c 4 cells slots (lw_Z below #[Value.ref b] s) 401 [some (.ref b), some (.ref (hc_ad G 0)), some (.ref (hc_ad G 48)), some (.int (nI i))] [] M) (kc8 : hc_W G hc_lay p l e room_1 s m #[Value.ref b] below meth c 4 cells slots (lw_Z below #[Value.ref b] s) 424 [some (.ref b), some (.ref (hc_ad G 0)), some (.ref (hc_ad G 48)), some (.int (nI i))] [] M) (kc9 : hc_W G hc_lay p l e room_1 s m #[Value.ref b] below meth c 4 cells slots (lw_Z below #[Value.ref b] s) 457 [some (.ref b), some (.ref (hc_ad G 0)), some (.ref (hc_ad G 48)), some (.int (nI i))] [] M) (kc10 : hc_W G hc_lay p l e room_1 s m #[Value.ref b] below meth c 4 cells slots (lw_Z below #[Value.ref b] s) 490 [some (.ref b), some (.ref (hc_ad G 0)), some (.ref (hc_ad G 48)), some (.int (nI i))] [] M) (kc11 : hc_W G hc_lay p l e room_1 s m #[Value.ref b] below meth c 4 cells slots (lw_Z below #[Value.ref b] s) 513 [some (.ref b), some (.ref (hc_ad G 0)), some (.ref (hc_ad G 48)), some (.int (nI i))] [] M) (kc12 : hc_W G hc_lay p l e room_1 s m #[Value.ref b] below meth c 4 cells slots (lw_Z below #[Value.ref b] s) 526 [some (.ref b), some (.ref (hc_ad G 0)), some (.ref (hc_ad G 48)), some (.int (nI i))] [] M) (kc13 : hc_W G hc_lay p l e room_1 s m #[Value.ref b] below meth c 4 cells slots (lw_Z below #[Value.ref b] s) 559 [some (.ref b), some (.ref (hc_ad G 0)), some (.ref (hc_ad G 48)), some (.int (nI i))] [] M) (kc14 : hc_W G hc_lay p l e room_1 s m #[Value.ref b] below meth c 4 cells slots (lw_Z below #[Value.ref b] s) 582 [some (.ref b), some (.ref (hc_ad G 0)), some (.ref (hc_ad G 48)), some (.int (nI i))] [] M) (kc15 : hc_W G hc_lay p l e room_1 s m #[Value.ref b] below meth c 4 cells slots (lw_Z below #[Value.ref b] s) 605 [some (.ref b), some (.ref (hc_ad G 0)), some (.ref (hc_ad G 48)), some (.int (nI i))] [] M) (kc16 : hc_W G hc_lay p l e room_1 s m #[Value.ref b] below meth c 4 cells slots (lw_Z below #[Value.ref b] s) 628 [some (.ref b), some (.ref (hc_ad G 0)), some (.ref (hc_ad G 48)), some (.int (nI i))] [] M) (kc17 : hc_W G hc_lay p l e room_1 s m #[Value.ref b] below meth c 4 cells slots (lw_Z below #[Value.ref b] s) 651 [some (.ref b), some (.ref (hc_ad G 0)), some (.ref (hc_ad G 48)), some (.int (nI i))] [] M) (kc18 : hc_W G hc_lay p l e room_1 s m #[Value.ref b] below meth c 4 cells slots (lw_Z below #[Value.ref b] s) 664 [some (.ref b), some (.ref (hc_ad G 0)), some (.ref (hc_ad G 48)), some (.int (nI i))] [] M) (kc19 : hc_W G hc_lay p l e room_1 s m #[Value.ref b] below meth c 4 cells slots (lw_Z below #[Value.ref b] s) 687 [some (.ref b), some (.ref (hc_ad G 0)), some (.ref (hc_ad G 48)), some (.int (nI i))] [] M) (kc20 : hc_W G hc_lay p l e room_1 s m #[Value.ref b] below meth c 4 cells slots (lw_Z below #[Value.ref b] s) 730 [some (.ref b), some (.ref (hc_ad G 0)), some (.ref (hc_ad G 48)), some (.int (nI i))] [] M) (kc21 : hc_W G hc_lay p l e room_1 s m #[Value.ref b] below meth c 4 cells slots (lw_Z below #[Value.ref b] s) 773 [some (.ref b), some (.ref (hc_ad G 0)), some (.ref (hc_ad G 48)), some (.int (nI i))] [] M) (kc22 : hc_W G hc_lay p l e room_1 s m #[Value.ref b] below meth c 4 cells slots (lw_Z below #[Value.ref b] s) 826 [some (.ref b), some (.ref (hc_ad G 0)), some (.ref (hc_ad G 48)), some (.int (nI i))] [] M) (kc23 : hc_W G hc_lay p l e room_1 s m #[Value.ref b] below meth c 4 cells slots (lw_Z below #[Value.ref b] s) 879 [some (.ref b), some (.ref (hc_ad G 0)), some (.ref (hc_ad G 48)), some (.int (nI i))] [] M) (kc24 : hc_W G hc_lay p l e room_1 s m #[Value.ref b] below meth c 4 cells slots (lw_Z below #[Value.ref b] s) 922 [some (.ref b), some (.ref (hc_ad G 0)), some (.ref (hc_ad G 48)), some (.int (nI i))] [] M) (kc25 : hc_W G hc_lay p l e room_1 s m #[Value.ref b] below meth c 4 cells slots (lw_Z below #[Value.ref b] s) 965 [some (.ref b), some (.ref (hc_ad G 0)), some (.ref (hc_ad G 48)), some (.int (nI i))] [] M) (kc26 : hc_W G hc_lay p l e room_1 s m #[Value.ref b] below meth c 4 cells slots (lw_Z below #[Value.ref b] s) 988 [some (.ref b), some (.ref (hc_ad G 0)), some (.ref (hc_ad G 48)), some (.int (nI i))] [] M) (kc27 : hc_W G hc_lay p l e room_1 s m #[Value.ref b] below meth c 4 cells slots (lw_Z below #[Value.ref b] s) 1011 [some (.ref b), some (.ref (hc_ad G 0)), some (.ref (hc_ad G 48)), some (.int (nI i))] [] M) (kc28 : hc_W G hc_lay p l e room_1 s m #[Value.ref b] below meth c 4 cells slots (lw_Z below #[Value.ref b] s) 1034 [some (.ref b), some (.ref (hc_ad G 0)), some (.ref (hc_ad G 48)), some (.int (nI i))] [] M) (kc29 : hc_W G hc_lay p l e room_1 s m #[Value.ref b] below meth c 4 cells slots (lw_Z below #[Value.ref b] s) 1067 [some (.ref b), some (.ref (hc_ad G 0)), some (.ref (hc_ad G 48)), some (.int (nI i))] [] M) (kc30 : hc_W G hc_lay p l e room_1 s m #[Value.ref b] below meth c 4 cells slots (lw_Z below #[Value.ref b] s) 1100 [some (.ref b), some (.ref (hc_ad G 0)), some (.ref (hc_ad G 48)), some (.int (nI i))] [] M) (kc31 : hc_W G hc_lay p l e room_1 s m #[Value.ref b] below meth c 4 cells slots (lw_Z below #[Value.ref b] s) 1123 [some (.ref b), some (.ref (hc_ad G 0)), some (.ref (hc_ad G 48)), some (.int (nI i))] [] M) (kc32 : hc_W G hc_lay p l e room_1 s m #[Value.ref b] below meth c 4 cells slots (lw_Z below #[Value.ref b] s) 1146 [some (.ref b), some (.ref (hc_ad G 0)), some (.ref (hc_ad G 48)), some (.int (nI i))] [] M) (kd : hc_W G hc_lay p l e room_1 s m #[Value.ref b] below meth c 4 cells slots (lw_Z below #[Value.ref b] s) 1159 [some (.ref b), some (.ref (hc_ad G 0)), some (.ref (hc_ad G 48)), some (.int (nI i))] [] M) : hc_W G hc_lay p l e room_1 s m #[Value.ref b] below meth c 4 cells slots (lw_Z below #[Value.ref b] s) 18 [some (.ref b), some (.ref (hc_ad G 0)), some (.ref (hc_ad G 48)), some (.int (nI i))] [] M := by
  refine hc_iload_n C dL_law_18 rfl rfl ?_
  refine hc_aload_n C dL_law_19 rfl rfl ?_
  refine hc_sln C hX hbl hbA dL_law_20 ?_
  refine hc_bipush C dL_law_21 (v := 6) rfl ?_
  refine hc_isub C dL_law_23 ?_
  refine hc_icmp_gt C (tgt := 1165) dL_law_24 (by decide) (fun c_1 => ?_) (fun c_1 => ?_)
  · exact absurd ((lw_cmp hn30 (by omega)).mp c_1) (by omega)
  refine hc_aload_n C dL_law_27 rfl rfl ?_
  refine hc_iload_n C dL_law_28 rfl rfl ?_
  refine hc_sld C (j := i) hX hbl hbA hn31 rfl (by omega) dL_law_29 ?_
  refine hc_bipush C dL_law_30 (v := 63) rfl ?_
  refine hc_iand C dL_law_32 ?_
  obtain ⟨k, hk, ek⟩ := pk_andE (xs i) (m := 63) 6 (by decide)
  refine hc_top ek ?_
  have hk64 : k < 64 := hk
  have hc : k = 0 ∨ k = 1 ∨ k = 2 ∨ k = 3 ∨ k = 4 ∨ k = 5 ∨ k = 6 ∨ k = 7 ∨ k = 8 ∨ k = 9 ∨ k = 10 ∨ k = 11 ∨ k = 12 ∨ k = 13 ∨ k = 14 ∨ k = 15 ∨ k = 16 ∨ k = 17 ∨ k = 18 ∨ k = 19 ∨ k = 20 ∨ k = 21 ∨ k = 22 ∨ k = 23 ∨ k = 24 ∨ k = 25 ∨ k = 26 ∨ k = 27 ∨ k = 28 ∨ k = 29 ∨ k = 30 ∨ k = 31 ∨ k = 32 ∨ 33 ≤ k := by omega
  rcases hc with rfl | rfl | rfl | rfl | rfl | rfl | rfl | rfl | rfl | rfl | rfl | rfl | rfl | rfl | rfl | rfl | rfl | rfl | rfl | rfl | rfl | rfl | rfl | rfl | rfl | rfl | rfl | rfl | rfl | rfl | rfl | rfl | rfl | hk33
  · refine hc_tableIn C (off := 147) (tgt := 180) dL_law_33 (by decide) (by decide) rfl (by decide) ?_
    exact kc0
  · refine hc_tableIn C (off := 190) (tgt := 223) dL_law_33 (by decide) (by decide) rfl (by decide) ?_
    exact kc1
  · refine hc_tableIn C (off := 233) (tgt := 266) dL_law_33 (by decide) (by decide) rfl (by decide) ?_
    exact kc2
  · refine hc_tableIn C (off := 296) (tgt := 329) dL_law_33 (by decide) (by decide) rfl (by decide) ?_
    exact kc3
  · refine hc_tableIn C (off := 319) (tgt := 352) dL_law_33 (by decide) (by decide) rfl (by decide) ?_
    exact kc4
  · refine hc_tableIn C (off := 342) (tgt := 375) dL_law_33 (by decide) (by decide) rfl (by decide) ?_
    exact kc5
  · refine hc_tableIn C (off := 355) (tgt := 388) dL_law_33 (by decide) (by decide) rfl (by decide) ?_
    exact kc6
  · refine hc_tableIn C (off := 368) (tgt := 401) dL_law_33 (by decide) (by decide) rfl (by decide) ?_
    exact kc7
  · refine hc_tableIn C (off := 391) (tgt := 424) dL_law_33 (by decide) (by decide) rfl (by decide) ?_
    exact kc8
  · refine hc_tableIn C (off := 424) (tgt := 457) dL_law_33 (by decide) (by decide) rfl (by decide) ?_
    exact kc9
  · refine hc_tableIn C (off := 457) (tgt := 490) dL_law_33 (by decide) (by decide) rfl (by decide) ?_
    exact kc10
  · refine hc_tableIn C (off := 480) (tgt := 513) dL_law_33 (by decide) (by decide) rfl (by decide) ?_
    exact kc11
  · refine hc_tableIn C (off := 493) (tgt := 526) dL_law_33 (by decide) (by decide) rfl (by decide) ?_
    exact kc12
  · refine hc_tableIn C (off := 526) (tgt := 559) dL_law_33 (by decide) (by decide) rfl (by decide) ?_
    exact kc13
  · refine hc_tableIn C (off := 549) (tgt := 582) dL_law_33 (by decide) (by decide) rfl (by decide) ?_
    exact kc14
  · refine hc_tableIn C (off := 572) (tgt := 605) dL_law_33 (by decide) (by decide) rfl (by decide) ?_
    exact kc15
  · refine hc_tableIn C (off := 595) (tgt := 628) dL_law_33 (by decide) (by decide) rfl (by decide) ?_
    exact kc16
  · refine hc_tableIn C (off := 618) (tgt := 651) dL_law_33 (by decide) (by decide) rfl (by decide) ?_
    exact kc17
  · refine hc_tableIn C (off := 631) (tgt := 664) dL_law_33 (by decide) (by decide) rfl (by decide) ?_
    exact kc18
  · refine hc_tableIn C (off := 654) (tgt := 687) dL_law_33 (by decide) (by decide) rfl (by decide) ?_
    exact kc19
  · refine hc_tableIn C (off := 697) (tgt := 730) dL_law_33 (by decide) (by decide) rfl (by decide) ?_
    exact kc20
  · refine hc_tableIn C (off := 740) (tgt := 773) dL_law_33 (by decide) (by decide) rfl (by decide) ?_
    exact kc21
  · refine hc_tableIn C (off := 793) (tgt := 826) dL_law_33 (by decide) (by decide) rfl (by decide) ?_
    exact kc22
  · refine hc_tableIn C (off := 846) (tgt := 879) dL_law_33 (by decide) (by decide) rfl (by decide) ?_
    exact kc23
  · refine hc_tableIn C (off := 889) (tgt := 922) dL_law_33 (by decide) (by decide) rfl (by decide) ?_
    exact kc24
  · refine hc_tableIn C (off := 932) (tgt := 965) dL_law_33 (by decide) (by decide) rfl (by decide) ?_
    exact kc25
  · refine hc_tableIn C (off := 955) (tgt := 988) dL_law_33 (by decide) (by decide) rfl (by decide) ?_
    exact kc26
  · refine hc_tableIn C (off := 978) (tgt := 1011) dL_law_33 (by decide) (by decide) rfl (by decide) ?_
    exact kc27
  · refine hc_tableIn C (off := 1001) (tgt := 1034) dL_law_33 (by decide) (by decide) rfl (by decide) ?_
    exact kc28
  · refine hc_tableIn C (off := 1034) (tgt := 1067) dL_law_33 (by decide) (by decide) rfl (by decide) ?_
    exact kc29
  · refine hc_tableIn C (off := 1067) (tgt := 1100) dL_law_33 (by decide) (by decide) rfl (by decide) ?_
    exact kc30
  · refine hc_tableIn C (off := 1090) (tgt := 1123) dL_law_33 (by decide) (by decide) rfl (by decide) ?_
    exact kc31
  · refine hc_tableIn C (off := 1113) (tgt := 1146) dL_law_33 (by decide) (by decide) rfl (by decide) ?_
    exact kc32
  · refine hc_tableOut C (tgt := 1159) dL_law_33 (Or.inr (by rw [nI_toInt (by omega)]; omega)) (by decide) ?_
    exact kd
theorem lw_next {G : hc_Geo} {p : Program} {l : Launch} {e : Env} {s : State} {m : MethodId} {below : List Frame} {meth : Method} {c : Code} {cells slots : Nat} {b n : Nat} {xs : Nat → Int32} (C : hc_Cx G hc_lay code 4 ret R_law p s m #[Value.ref b] meth c) (hX : va_X b n xs s s.heap) (hbl : b < s.heap.size) (hbA : ¬ hc_A G b) (hn31 : n < 2 ^ 31) (hcs : cells ≤ room_1.cells ∧ slots ≤ room_1.slots) {i : Nat} (hi : i + 6 ≤ n) {M : hc_Mem} (k : hc_W G hc_lay p l e room_1 s m #[Value.ref b] below meth c 4 cells slots (lw_Z below #[Value.ref b] s) 18 [some (.ref b), some (.ref (hc_ad G 0)), some (.ref (hc_ad G 48)), some (.int (nI (i + 6)))] [] M) : hc_W G hc_lay p l e room_1 s m #[Value.ref b] below meth c 4 cells slots (lw_Z below #[Value.ref b] s) 1159 [some (.ref b), some (.ref (hc_ad G 0)), some (.ref (hc_ad G 48)), some (.int (nI i))] [] M := by
  refine hc_iinc3 C (v := nI (i + 6)) dL_law_1159 (by decide) rfl rfl (show nI i + 6 = nI (i + 6) by rw [show (6 : Int32) = nI 6 from rfl, nI_add]) ?_
  exact hc_goto C (tgt := 18) dL_law_1162 (by decide) k
set_option maxRecDepth 100000 in
set_option maxHeartbeats 4000000 in
/-- the constructors, then the loop -/
theorem lw_begin {p : Program} {e : Env} {s : State} {m : MethodId} {below : List Frame} {meth : Method} {c : Code} (l : Launch) {b L : Nat} {xs : Nat → Int32} (C0 : lw_At p s m meth c b L xs)
    (kk : ∀ G : hc_Geo, hc_Cx G hc_lay code 4 ret R_law p s m #[Value.ref b] meth c → G.2.2.2.2 = s.heap.size → hc_W G hc_lay p l e room_1 s m #[Value.ref b] below meth c 4 62 6422 (lw_Z below #[Value.ref b] s) 18 [some (.ref b), some (.ref (hc_ad G 0)), some (.ref (hc_ad G 48)), some (.int (nI 0))] [] hk_M2) :
    W p l e room_1 s m #[Value.ref b] below meth c s.heap [] 0 0 (lw_Z below #[Value.ref b] s) (entryFrame m ([Value.ref b] : List Value).toArray 4) := by
  obtain ⟨hx, hb, hr, hml, hown, hts, hX, hbl, hlocks, hgv⟩ := id C0
  obtain ⟨G, hGb, hK, hSt⟩ := hs_start hts hgv
  have hN := hs_nest hts
  have hl := lv_entry ([.ref b]) (n := 4) (Nat.le_of_ble_eq_true rfl)
  rw [lg_entry_eq]
  generalize (lg_sl ([.ref b]) ++ List.replicate (4 - (lg_sl ([.ref b])).length) Slot.unset).toArray = ls at hl ⊢
  have C : hc_Cx G (hk_at 0 []) code 4 ret R_law p s m #[Value.ref b] meth c := ⟨hx, hb, hml, hown, fun w h => hts w (List.mem_filter.mp h).1, hK, hSt, ⟨fun i j hi => absurd hi (Nat.not_lt_zero i), fun i hi => absurd hi (Nat.not_lt_zero i)⟩, hr, hlocks⟩
  have hw : hc_W G (hk_at 0 []) p l e room_1 s m #[Value.ref b] below meth c 4 0 0 (lw_Z below #[Value.ref b] s) 0 [some (.ref b), none, none, none] [] hk_M0 := by
    refine hk_new C (ci := 5) (RX7, TX7, 9) tyX7 (hk_at 1 [(0, 0)]) [some none, some none, some none, some none, some none, some none, some none, none, none] (by rw [hGb]; exact Nat.le_refl _) hin_X7 tyX7_ok kw_cl_L_7 kw_in_X7 kw_it_X7 rfl (n0 := 0) (by decide +kernel) hk_M0_z (by decide +kernel) (by decide) rfl (by decide +kernel) (by decide +kernel) ⟨Nat.le_of_ble_eq_true rfl, Nat.le_of_ble_eq_true rfl⟩ dL_law_0 (fun g1 a1 C1 => ?_)
    refine hc_dup C1 dL_law_3 rfl ?_
    refine hk_callIN C1 hN kw_mi_L_9 kw_im_X7_init rfl (k_X7_init C1.ok) (Nat.le_of_ble_eq_true rfl) ⟨by decide, by decide⟩ ⟨Nat.le_of_ble_eq_true rfl, Nat.le_of_ble_eq_true rfl⟩ dL_law_4 (n0 := 1) (by decide +kernel) (fun g2 a2 C2 => ?_)
    rw [← a2.2.2.2.2 0 (by decide)]
    refine hc_astore_n1 C2 dL_law_7 rfl (by decide) rfl ?_
    refine hk_new C2 (ci := 6) (RX8, TX8, 23) tyX8 (hk_at 49 [(48, 0)]) [some none, some none, some none, some none, none, some none, none, none, none, none, none, none, none, some none, some none, some none, none, some none, some none, some none, some none, some none, none] (by rw [a2.2.2.2.1, a1.2.2.2.1, hGb]; exact Nat.le_refl _) hin_X8 tyX8_ok kw_cl_L_10 kw_in_X8 kw_it_X8 rfl (n0 := 48) (by decide +kernel) (hk_M1_z (by decide)) (by decide +kernel) (by decide) rfl (by decide +kernel) (by decide +kernel) ⟨Nat.le_of_ble_eq_true rfl, Nat.le_of_ble_eq_true rfl⟩ dL_law_8 (fun g3 a3 C3 => ?_)
    rw [← a3.2.2.2.2 0 (by decide)]
    refine hc_dup C3 dL_law_11 rfl ?_
    refine hk_callI C3 kw_mi_L_12 kw_im_X8_init rfl (k_X8_init C3.ok) (Nat.le_of_ble_eq_true rfl) ⟨by decide, by decide⟩ ⟨Nat.le_of_ble_eq_true rfl, Nat.le_of_ble_eq_true rfl⟩ dL_law_12 (n0 := 49) (by decide +kernel) (fun g4 a4 C4 => ?_)
    rw [← a4.2.2.2.2 0 (by decide), ← a4.2.2.2.2 48 (by decide)]
    refine hc_astore_n2 C4 dL_law_15 rfl (by decide) rfl ?_
    refine hc_iconst C4 dL_law_16 (v := 0) rfl ?_
    refine hc_istore_n3 C4 dL_law_17 rfl (by decide) rfl ?_
    rw [hk_at62] at C4 ⊢
    exact kk g4 C4 (by rw [a4.2.2.2.1, a3.2.2.2.1, a2.2.2.2.1, a1.2.2.2.1, hGb])
  exact hw s.heap [] ls (fun k q h => by simp [hc_ws, hk_at] at h) va_S.rf hl
/-- the law's loop -/
theorem lw_loop {G : hc_Geo} {p : Program} {l : Launch} {e : Env} {s : State} {m : MethodId} {below : List Frame} {meth : Method} {c : Code} {cells slots : Nat} {b n : Nat} {xs : Nat → Int32} (C : hc_Cx G hc_lay code 4 ret R_law p s m #[Value.ref b] meth c) (hX : va_X b n xs s s.heap) (hbl : b < s.heap.size) (hbA : ¬ hc_A G b) (hn31 : n < 2 ^ 31) (hcs : cells ≤ room_1.cells ∧ slots ≤ room_1.slots) (hGb : G.2.2.2.2 = s.heap.size) (hn30 : n < 2 ^ 20) : ∀ (t i : Nat) (M : hc_Mem), n < i + 6 * (t + 1) → i ≤ n + 6 → Inv M → hc_W G hc_lay p l e room_1 s m #[Value.ref b] below meth c 4 cells slots (lw_Z below #[Value.ref b] s) 18 [some (.ref b), some (.ref (hc_ad G 0)), some (.ref (hc_ad G 48)), some (.int (nI i))] [] M := by
  intro t
  induction t with
  | zero => intro i M h1 h2 hI; exact lw_exit C hX hbl hbA hn31 hcs hGb (by omega) (by omega) (by omega)
  | succ t ih =>
    intro i M h1 h2 hI
    by_cases hi : i + 6 ≤ n
    · have kk : ∀ M' : hc_Mem, Inv M' → hc_W G hc_lay p l e room_1 s m #[Value.ref b] below meth c 4 cells slots (lw_Z below #[Value.ref b] s) 1159 [some (.ref b), some (.ref (hc_ad G 0)), some (.ref (hc_ad G 48)), some (.int (nI i))] [] M' := fun M' hI' => lw_next C hX hbl hbA hn31 hcs hi (ih (i + 6) M' (by omega) (by omega) hI')
      exact lw_step C hX hbl hbA hn31 hcs (by omega) hi (lc_0 C hX hbl hbA hn31 hcs hi hI kk) (lc_1 C hX hbl hbA hn31 hcs hi hI kk) (lc_2 C hX hbl hbA hn31 hcs hi hI kk) (lc_3 C hX hbl hbA hn31 hcs hi hI kk) (lc_4 C hX hbl hbA hn31 hcs hi hI kk) (lc_5 C hX hbl hbA hn31 hcs hi hI kk) (lc_6 C hX hbl hbA hn31 hcs hi hI kk) (lc_7 C hX hbl hbA hn31 hcs hi hI kk) (lc_8 C hX hbl hbA hn31 hcs hi hI kk) (lc_9 C hX hbl hbA hn31 hcs hi hI kk) (lc_10 C hX hbl hbA hn31 hcs hi hI kk) (lc_11 C hX hbl hbA hn31 hcs hi hI kk) (lc_12 C hX hbl hbA hn31 hcs hi hI kk) (lc_13 C hX hbl hbA hn31 hcs hi hI kk) (lc_14 C hX hbl hbA hn31 hcs hi hI kk) (lc_15 C hX hbl hbA hn31 hcs hi hI kk) (lc_16 C hX hbl hbA hn31 hcs hi hI kk) (lc_17 C hX hbl hbA hn31 hcs hi hI kk) (lc_18 C hX hbl hbA hn31 hcs hi hI kk) (lc_19 C hX hbl hbA hn31 hcs hi hI kk) (lc_20 C hX hbl hbA hn31 hcs hi hI kk) (lc_21 C hX hbl hbA hn31 hcs hi hI kk) (lc_22 C hX hbl hbA hn31 hcs hi hI kk) (lc_23 C hX hbl hbA hn31 hcs hi hI kk) (lc_24 C hX hbl hbA hn31 hcs hi hI kk) (lc_25 C hX hbl hbA hn31 hcs hi hI kk) (lc_26 C hX hbl hbA hn31 hcs hi hI kk) (lc_27 C hX hbl hbA hn31 hcs hi hI kk) (lc_28 C hX hbl hbA hn31 hcs hi hI kk) (lc_29 C hX hbl hbA hn31 hcs hi hI kk) (lc_30 C hX hbl hbA hn31 hcs hi hI kk) (lc_31 C hX hbl hbA hn31 hcs hi hI kk) (lc_32 C hX hbl hbA hn31 hcs hi hI kk) (kk M hI)
    · exact lw_exit C hX hbl hbA hn31 hcs hGb (by omega) (by omega) (by omega)
theorem whole_start {p : Program} {e : Env} {s : State} {m : MethodId} {below : List Frame} {meth : Method} {c : Code} (l : Launch) {b L : Nat} {xs : Nat → Int32} (hL : L ≤ 384) (C0 : lw_At p s m meth c b L xs) : W p l e room_1 s m #[Value.ref b] below meth c s.heap [] 0 0 (lw_Z below #[Value.ref b] s) (entryFrame m ([Value.ref b] : List Value).toArray 4) := by
  refine lw_begin l C0 (fun G C hGb => ?_)
  obtain ⟨hx, hb, hr, hml, hown, hts, hX, hbl, hlocks, hgv⟩ := id C0
  have hbA : ¬ hc_A G b := by unfold hc_A; rw [hGb]; exact Nat.not_le.mpr hbl
  have hcs : 62 ≤ room_1.cells ∧ 6422 ≤ room_1.slots := ⟨by decide, by decide⟩
  exact lw_loop C hX hbl hbA (by omega) hcs hGb (by omega) 64 0 hk_M2 (by omega) (by omega) inv0
