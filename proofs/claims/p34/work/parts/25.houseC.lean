/-! THE CLASS'S HOUSE, as it computes (cells 9 .. 19) -/
abbrev hIn (s e : Int32) : Prop := (s >>> (e &&& 31)) &&& 1 = 1
def hRem8 (x : Int32) : Int32 := x - x / 8 * 8
abbrev hTime (M : hc_Mem) (e : Nat) (q : Int32) : Prop := ¬ M 14 e ≤ hRem8 (q + 8 - M 13 e)
def hAtt (M : hc_Mem) (E : Nat) : Int32 := hc_icr M E &&& (M 9 4 ^^^ -1)
abbrev hLis (M : hc_Mem) (E : Nat) (e : Nat) : Prop := hIn (hAtt M E) (nI e) ∧ hTime M e (M 9 2)
def hLisM (M : hc_Mem) (E : Nat) : Nat → Int32
  | 0 => 0
  | e + 1 => if hLis M E e then hLisM M E e ||| ((1 : Int32) <<< (nI e &&& 31)) else hLisM M E e
def hLeft (M : hc_Mem) (e : Nat) : Int32 := if M 11 e ≤ M 9 1 then 0 else M 11 e - M 9 1
def hGift (M : hc_Mem) (e : Nat) : Int32 := if M 10 e = 1 then hLeft M e else if M 10 e = 2 then hLeft M e else if M 10 e = 3 then hLeft M e / 2 else if M 10 e = 4 then (if hLeft M e / 2 ≤ 3 then hLeft M e / 2 else 3) else 0
def hPW (M : hc_Mem) (s q : Int32) : Nat → Int32
  | 0 => 0
  | e + 1 => if hIn s (nI e) ∧ hTime M e q ∧ M 10 e = 2 then hPW M s q e + hGift M e else hPW M s q e
def hPO (M : hc_Mem) (s q : Int32) : Nat → Int32
  | 0 => 0
  | e + 1 => if hIn s (nI e) ∧ hTime M e q ∧ ¬ M 10 e = 2 then hPO M s q e + hGift M e else hPO M s q e
def hPar (M : hc_Mem) (E : Nat) (s q : Int32) : Int32 := if hPO M s q E < 12 then hPO M s q E + hPW M s q E else hPO M s q E
def hWid (M : hc_Mem) : Nat → Int32
  | 0 => 0
  | e + 1 => if M 10 e = 2 then hWid M e ||| ((1 : Int32) <<< (nI e &&& 31)) else hWid M e
abbrev hSil (M : hc_Mem) (E : Nat) : Prop := ¬ hPar M E (hAtt M E &&& (hWid M E ^^^ -1)) (M 9 2) < 12
def hGrow (M : hc_Mem) (E : Nat) (a b : Int32) : hc_Mem := hc_mf M 15 (fun j => if j < E then M 15 j + (if M 12 j = 0 then a else b) else M 15 j)
def hPass (M : hc_Mem) (E q : Nat) : hc_Mem := hc_ms (hc_ms (hc_ms (hGrow M E (hPar M E (hAtt M E) (M 9 2)) 12) 9 3 (M 9 3 + hPar M E (hAtt M E) (M 9 2))) 9 2 (nI (q + 1))) 19 (q + 1) (M 9 3 + hPar M E (hAtt M E) (M 9 2))
def hBack (M : hc_Mem) (E q : Nat) : hc_Mem := hc_ms (hGrow (hc_ms M 9 2 (nI q)) E (M 19 q - M 9 3) (-12)) 9 3 (M 19 q)

set_option maxRecDepth 100000 in
set_option maxHeartbeats 4000000 in
theorem c_X3_isIn {l : Launch} {G : hc_Geo} (hG : hc_ok G) {M : hc_Mem} {s0 e0 : Int32}  : hc_M l G yX3_isIn cX3_isIn 2 (some .boolean) 1 [.int s0, .int e0] M (hc_pi (fun z M' => hb (hIn s0 e0) = z ∧ M = M')) := by
  refine hc_M.of hG (by decide) [some (.int s0), some (.int e0)] rfl (Nat.le_of_ble_eq_true rfl) ?_
  intro p e s m args below meth c C
  refine hc_iload_n C dX3_isIn_0 rfl rfl ?_
  refine hc_iload_n C dX3_isIn_1 rfl rfl ?_
  refine hc_ishr C dX3_isIn_2 ?_
  refine hc_iconst C dX3_isIn_3 (v := 1) rfl ?_
  refine hc_iand C dX3_isIn_4 ?_
  refine hc_iconst C dX3_isIn_5 (v := 1) rfl ?_
  refine hc_icmp_ne C (tgt := 13) dX3_isIn_6 (by decide) (fun c_6 => ?_) (fun c_6 => ?_)
  · refine hc_iconst C dX3_isIn_13 (v := 0) rfl ?_
    refine hc_zret C rfl rfl dX3_isIn_14 ?_
    refine ⟨?_, rfl⟩
    first | exact hb_t c_6 | exact hb_f c_6
  · refine hc_iconst C dX3_isIn_9 (v := 1) rfl ?_
    refine hc_goto C (tgt := 14) dX3_isIn_10 (by decide) ?_
    refine hc_zret C rfl rfl dX3_isIn_14 ?_
    refine ⟨?_, rfl⟩
    first | exact hb_t c_6 | exact hb_f c_6

set_option maxRecDepth 100000 in
set_option maxHeartbeats 4000000 in
theorem c_X3_isHushed {l : Launch} {G : hc_Geo} (hG : hc_ok G) {M : hc_Mem} {v : Int32}  : hc_M l G yX3_isHushed cX3_isHushed 2 (some .boolean) 2 [.ref (hc_ad G 9), .int v] M (hc_pi (fun z M' => hb (hIn (M 9 4) v) = z ∧ M = M')) := by
  refine hc_M.of hG (by decide) [some (.ref (hc_ad G 9)), some (.int v)] rfl (Nat.le_of_ble_eq_true rfl) ?_
  intro p e s m args below meth c C
  refine hc_aload_n C dX3_isHushed_0 rfl rfl ?_
  refine hc_getI C fl_X3_23 rfl rfl dX3_isHushed_1 ?_
  refine hc_iload_n C dX3_isHushed_4 rfl rfl ?_
  refine hc_cS2i C ms_X3_92 (c_X3_isIn C.ok) (Nat.le_of_ble_eq_true rfl) (hc_rr_rm (by decide)) ⟨Nat.zero_le _, Nat.zero_le _⟩ dX3_isHushed_5 (fun r_5 M_5 h_5 => ?_)
  obtain ⟨rfl, rfl⟩ := h_5
  refine hc_zret C rfl hb_nar dX3_isHushed_8 ?_
  exact ⟨rfl, rfl⟩

set_option maxRecDepth 100000 in
set_option maxHeartbeats 4000000 in
theorem c_X3_setHushed_1 {l : Launch} {G : hc_Geo} (hG : hc_ok G) {M : hc_Mem} {v : Int32}  : hc_M l G yX3_setHushed cX3_setHushed 4 none 1 [.ref (hc_ad G 9), .int v, .int 1] M (hc_pv (fun M' => hc_ms M 9 4 (M 9 4 ||| ((1 : Int32) <<< (v &&& 31))) = M')) := by
  refine hc_M.of hG (by decide) [some (.ref (hc_ad G 9)), some (.int v), some (.int 1), none] rfl (Nat.le_of_ble_eq_true rfl) ?_
  intro p e s m args below meth c C
  refine hc_iconst C dX3_setHushed_0 (v := 1) rfl ?_
  refine hc_iload_n C dX3_setHushed_1 rfl rfl ?_
  refine hc_ishl C dX3_setHushed_2 ?_
  refine hc_istore_n3 C dX3_setHushed_3 rfl (by decide) rfl ?_
  refine hc_aload_n C dX3_setHushed_4 rfl rfl ?_
  refine hc_iload_n C dX3_setHushed_5 rfl rfl ?_
  refine hc_if_eq C (tgt := 18) dX3_setHushed_6 (by decide) (fun c_6 => ?_) (fun c_6 => ?_)
  · exact absurd c_6 (by decide)
  refine hc_aload_n C dX3_setHushed_9 rfl rfl ?_
  refine hc_getI C fl_X3_23 rfl rfl dX3_setHushed_10 ?_
  refine hc_iload_n C dX3_setHushed_13 rfl rfl ?_
  refine hc_ior C dX3_setHushed_14 ?_
  refine hc_goto C (tgt := 26) dX3_setHushed_15 (by decide) ?_
  refine hc_putI C fl_X3_23 pl_2_4 rfl rfl dX3_setHushed_26 ?_
  refine hc_vret C rfl dX3_setHushed_29 ?_
  rfl

set_option maxRecDepth 100000 in
set_option maxHeartbeats 4000000 in
theorem c_X3_setHushed_0 {l : Launch} {G : hc_Geo} (hG : hc_ok G) {M : hc_Mem} {v : Int32}  : hc_M l G yX3_setHushed cX3_setHushed 4 none 1 [.ref (hc_ad G 9), .int v, .int 0] M (hc_pv (fun M' => hc_ms M 9 4 (M 9 4 &&& (((1 : Int32) <<< (v &&& 31)) ^^^ -1)) = M')) := by
  refine hc_M.of hG (by decide) [some (.ref (hc_ad G 9)), some (.int v), some (.int 0), none] rfl (Nat.le_of_ble_eq_true rfl) ?_
  intro p e s m args below meth c C
  refine hc_iconst C dX3_setHushed_0 (v := 1) rfl ?_
  refine hc_iload_n C dX3_setHushed_1 rfl rfl ?_
  refine hc_ishl C dX3_setHushed_2 ?_
  refine hc_istore_n3 C dX3_setHushed_3 rfl (by decide) rfl ?_
  refine hc_aload_n C dX3_setHushed_4 rfl rfl ?_
  refine hc_iload_n C dX3_setHushed_5 rfl rfl ?_
  refine hc_if_eq C (tgt := 18) dX3_setHushed_6 (by decide) (fun c_6 => ?_) (fun c_6 => ?_)
  rotate_left
  · exact absurd rfl c_6
  refine hc_aload_n C dX3_setHushed_18 rfl rfl ?_
  refine hc_getI C fl_X3_23 rfl rfl dX3_setHushed_19 ?_
  refine hc_iload_n C dX3_setHushed_22 rfl rfl ?_
  refine hc_iconst C dX3_setHushed_23 (v := (-1)) rfl ?_
  refine hc_ixor C dX3_setHushed_24 ?_
  refine hc_iand C dX3_setHushed_25 ?_
  refine hc_putI C fl_X3_23 pl_2_4 rfl rfl dX3_setHushed_26 ?_
  refine hc_vret C rfl dX3_setHushed_29 ?_
  rfl

set_option maxRecDepth 100000 in
set_option maxHeartbeats 4000000 in
theorem c_X3_attending {l : Launch} {G : hc_Geo} (hG : hc_ok G) {M : hc_Mem} {E : Nat}  (hE : M 9 5 = nI E) (hE6 : E ≤ 6) : hc_M l G yX3_attending cX3_attending 1 (some .int) 3 [.ref (hc_ad G 9)] M (hc_pi (fun z M' => hAtt M E = z ∧ M = M')) := by
  refine hc_M.of hG (by decide) [some (.ref (hc_ad G 9))] rfl (Nat.le_of_ble_eq_true rfl) ?_
  intro p e s m args below meth c C
  refine hc_aload_n C dX3_attending_0 rfl rfl ?_
  refine hc_cV0i C mv_X3_100 (c_X3_inClockRoom C.ok hE hE6) rfl rfl rfl (Nat.le_of_ble_eq_true rfl) (hc_rr_rm (by decide)) ⟨Nat.zero_le _, Nat.zero_le _⟩ dX3_attending_1 (fun r_1 M_1 h_1 => ?_)
  obtain ⟨rfl, rfl⟩ := h_1
  refine hc_aload_n C dX3_attending_4 rfl rfl ?_
  refine hc_getI C fl_X3_23 rfl rfl dX3_attending_5 ?_
  refine hc_iconst C dX3_attending_8 (v := (-1)) rfl ?_
  refine hc_ixor C dX3_attending_9 ?_
  refine hc_iand C dX3_attending_10 ?_
  refine hc_iret C rfl dX3_attending_11 ?_
  exact ⟨rfl, rfl⟩

set_option maxRecDepth 100000 in
set_option maxHeartbeats 4000000 in
theorem c_X3_allSets {l : Launch} {G : hc_Geo} (hG : hc_ok G) {M : hc_Mem}  : hc_M l G yX3_allSets cX3_allSets 1 (some .int) 1 [.ref (hc_ad G 9)] M (hc_pi (fun z M' => (1 : Int32) <<< (M 9 5 &&& 31) = z ∧ M = M')) := by
  refine hc_M.of hG (by decide) [some (.ref (hc_ad G 9))] rfl (Nat.le_of_ble_eq_true rfl) ?_
  intro p e s m args below meth c C
  refine hc_iconst C dX3_allSets_0 (v := 1) rfl ?_
  refine hc_aload_n C dX3_allSets_1 rfl rfl ?_
  refine hc_getI C fl_X3_26 rfl rfl dX3_allSets_2 ?_
  refine hc_ishl C dX3_allSets_5 ?_
  refine hc_iret C rfl dX3_allSets_6 ?_
  exact ⟨rfl, rfl⟩

set_option maxRecDepth 100000 in
set_option maxHeartbeats 4000000 in
theorem c_X3_hasItsTime {l : Launch} {G : hc_Geo} (hG : hc_ok G) {M : hc_Mem} {e0 : Nat} {q : Int32}  (he : e0 < 6) : hc_M l G yX3_hasItsTime cX3_hasItsTime 3 (some .boolean) 1 [.ref (hc_ad G 9), .int (nI e0), .int q] M (hc_pi (fun z M' => hb (hTime M e0 q) = z ∧ M = M')) := by
  refine hc_M.of hG (by decide) [some (.ref (hc_ad G 9)), some (.int (nI e0)), some (.int q)] rfl (Nat.le_of_ble_eq_true rfl) ?_
  intro p e s m args below meth c C
  refine hc_iload_n C dX3_hasItsTime_0 rfl rfl ?_
  refine hc_bipush C dX3_hasItsTime_1 (v := 8) rfl ?_
  refine hc_iadd C dX3_hasItsTime_3 ?_
  refine hc_aload_n C dX3_hasItsTime_4 rfl rfl ?_
  refine hc_getR C fl_X3_42 rfl rfl dX3_hasItsTime_5 ?_
  refine hc_iload_n C dX3_hasItsTime_8 rfl rfl ?_
  refine hc_ialdN C (j := e0) rfl rfl (by omega) dX3_hasItsTime_9 ?_
  refine hc_isub C dX3_hasItsTime_10 ?_
  refine hc_bipush C dX3_hasItsTime_11 (v := 8) rfl ?_
  refine hc_irem C dX3_hasItsTime_13 (by decide) ?_
  refine hc_aload_n C dX3_hasItsTime_14 rfl rfl ?_
  refine hc_getR C fl_X3_45 rfl rfl dX3_hasItsTime_15 ?_
  refine hc_iload_n C dX3_hasItsTime_18 rfl rfl ?_
  refine hc_ialdN C (j := e0) rfl rfl (by omega) dX3_hasItsTime_19 ?_
  have eR : (q + 8 - M 13 e0) - (q + 8 - M 13 e0) / 8 * 8 = hRem8 (q + 8 - M 13 e0) := rfl
  refine hc_icmp_ge C (tgt := 27) dX3_hasItsTime_20 (by decide) (fun c_20 => ?_) (fun c_20 => ?_)
  · refine hc_iconst C dX3_hasItsTime_27 (v := 0) rfl ?_
    refine hc_zret C rfl rfl dX3_hasItsTime_28 ?_
    refine ⟨?_, rfl⟩
    first | exact hb_f (not_not_intro c_20) | exact hb_t c_20
  · refine hc_iconst C dX3_hasItsTime_23 (v := 1) rfl ?_
    refine hc_goto C (tgt := 28) dX3_hasItsTime_24 (by decide) ?_
    refine hc_zret C rfl rfl dX3_hasItsTime_28 ?_
    refine ⟨?_, rfl⟩
    first | exact hb_f (not_not_intro c_20) | exact hb_t c_20

set_option maxRecDepth 100000 in
set_option maxHeartbeats 4000000 in
theorem c_X3_listensNow {l : Launch} {G : hc_Geo} (hG : hc_ok G) {M : hc_Mem} {E e0 : Nat}  (hE : M 9 5 = nI E) (hE6 : E ≤ 6) (he : e0 < 6) : hc_M l G yX3_listensNow cX3_listensNow 2 (some .boolean) 4 [.ref (hc_ad G 9), .int (nI e0)] M (hc_pi (fun z M' => hb (hLis M E e0) = z ∧ M = M')) := by
  refine hc_M.of hG (by decide) [some (.ref (hc_ad G 9)), some (.int (nI e0))] rfl (Nat.le_of_ble_eq_true rfl) ?_
  intro p e s m args below meth c C
  refine hc_aload_n C dX3_listensNow_0 rfl rfl ?_
  refine hc_cV0i C mv_X3_103 (c_X3_attending C.ok hE hE6) rfl rfl rfl (Nat.le_of_ble_eq_true rfl) (hc_rr_rm (by decide)) ⟨Nat.zero_le _, Nat.zero_le _⟩ dX3_listensNow_1 (fun r_1 M_1 h_1 => ?_)
  obtain ⟨rfl, rfl⟩ := h_1
  refine hc_iload_n C dX3_listensNow_4 rfl rfl ?_
  refine hc_cS2i C ms_X3_92 (c_X3_isIn C.ok) (Nat.le_of_ble_eq_true rfl) (hc_rr_rm (by decide)) ⟨Nat.zero_le _, Nat.zero_le _⟩ dX3_listensNow_5 (fun r_5 M_5 h_5 => ?_)
  obtain ⟨rfl, rfl⟩ := h_5
  refine hc_if_eq C (tgt := 27) dX3_listensNow_8 (by decide) (fun c_8 => ?_) (fun c_8 => ?_)
  · refine hc_iconst C dX3_listensNow_27 (v := 0) rfl ?_
    refine hc_zret C rfl rfl dX3_listensNow_28 ?_
    refine ⟨?_, rfl⟩
    first | exact hb_t ⟨hb_nz.mp c_8, hb_nz.mp c_20⟩ | exact hb_f (fun q => hb_z.mp c_8 q.1) | exact hb_f (fun q => hb_z.mp c_20 q.2)
  · refine hc_aload_n C dX3_listensNow_11 rfl rfl ?_
    refine hc_iload_n C dX3_listensNow_12 rfl rfl ?_
    refine hc_aload_n C dX3_listensNow_13 rfl rfl ?_
    refine hc_getI C fl_X3_17 rfl rfl dX3_listensNow_14 ?_
    refine hc_cV2i C mv_X3_106 (c_X3_hasItsTime C.ok he) rfl rfl rfl (Nat.le_of_ble_eq_true rfl) (hc_rr_rm (by decide)) ⟨Nat.zero_le _, Nat.zero_le _⟩ dX3_listensNow_17 (fun r_17 M_17 h_17 => ?_)
    obtain ⟨rfl, rfl⟩ := h_17
    refine hc_if_eq C (tgt := 27) dX3_listensNow_20 (by decide) (fun c_20 => ?_) (fun c_20 => ?_)
    · refine hc_iconst C dX3_listensNow_27 (v := 0) rfl ?_
      refine hc_zret C rfl rfl dX3_listensNow_28 ?_
      refine ⟨?_, rfl⟩
      first | exact hb_t ⟨hb_nz.mp c_8, hb_nz.mp c_20⟩ | exact hb_f (fun q => hb_z.mp c_8 q.1) | exact hb_f (fun q => hb_z.mp c_20 q.2)
    · refine hc_iconst C dX3_listensNow_23 (v := 1) rfl ?_
      refine hc_goto C (tgt := 28) dX3_listensNow_24 (by decide) ?_
      refine hc_zret C rfl rfl dX3_listensNow_28 ?_
      refine ⟨?_, rfl⟩
      first | exact hb_t ⟨hb_nz.mp c_8, hb_nz.mp c_20⟩ | exact hb_f (fun q => hb_z.mp c_8 q.1) | exact hb_f (fun q => hb_z.mp c_20 q.2)

set_option maxRecDepth 100000 in
set_option maxHeartbeats 4000000 in
theorem lp_listeningNow {G : hc_Geo} {p : Program} {l : Launch} {e : Env} {d : Nat} {s : State} {m : MethodId} {args : Array Value} {below : List Frame} {meth : Method} {c : Code} {Q : State → Prop} (C : hc_Cx G hc_lay cX3_listeningNow 3 (some .int) yX3_listeningNow.cls p s m args meth c) {M : hc_Mem} {E : Nat} (hd : 4 < d) (hE : M 9 5 = nI E) (hE6 : E ≤ 6) 
    (kk : hc_W G hc_lay p l e (hc_rm d) s m args below meth c 3 0 0 Q 32 [some (.ref (hc_ad G 9)), some (.int (hLisM M E E)), some (.int (nI E))] [] M) :
    ∀ (t : Nat) (i : Nat), i + t = E → hc_W G hc_lay p l e (hc_rm d) s m args below meth c 3 0 0 Q 4 [some (.ref (hc_ad G 9)), some (.int (hLisM M E i)), some (.int (nI i))] [] M := by
  intro t
  induction t with
  | zero =>
    intro i hi
    refine hc_iload_n C dX3_listeningNow_4 rfl rfl ?_
    refine hc_aload_n C dX3_listeningNow_5 rfl rfl ?_
    refine hc_getI C fl_X3_26 rfl rfl dX3_listeningNow_6 ?_
    refine hc_icmp_ge C (tgt := 32) dX3_listeningNow_9 (by decide) (fun c_9 => ?_) (fun c_9 => ?_)
    rotate_left
    · exact absurd (by rw [hE]; exact nI_le (show E ≤ i by omega) (by omega)) c_9
    rw [show i = E by omega]
    exact kk
  | succ t ih =>
    intro i hi
    refine hc_iload_n C dX3_listeningNow_4 rfl rfl ?_
    refine hc_aload_n C dX3_listeningNow_5 rfl rfl ?_
    refine hc_getI C fl_X3_26 rfl rfl dX3_listeningNow_6 ?_
    refine hc_icmp_ge C (tgt := 32) dX3_listeningNow_9 (by decide) (fun c_9 => ?_) (fun c_9 => ?_)
    · exact absurd (hE ▸ c_9) (nI_ge (show i < E by omega) (by omega))
    refine hc_aload_n C dX3_listeningNow_12 rfl rfl ?_
    refine hc_iload_n C dX3_listeningNow_13 rfl rfl ?_
    refine hc_cV1i C mv_X3_109 (c_X3_listensNow C.ok hE hE6 (show i < 6 by omega)) rfl rfl rfl (Nat.le_of_ble_eq_true rfl) (hc_rr_rm hd) ⟨Nat.zero_le _, Nat.zero_le _⟩ dX3_listeningNow_14 (fun r_14 M_14 h_14 => ?_)
    obtain ⟨rfl, rfl⟩ := h_14
    refine hc_if_eq C (tgt := 26) dX3_listeningNow_17 (by decide) (fun c_17 => ?_) (fun c_17 => ?_)
    · refine hc_iinc2 C (v := nI (i + 1)) dX3_listeningNow_26 (by decide) rfl rfl (nI_1 i) ?_
      refine hc_goto C (tgt := 4) dX3_listeningNow_29 (by decide) ?_
      have e1 := ih (i + 1) (by omega)
      first | (rw [hLisM, if_neg (hb_z.mp c_17)] at e1; exact e1) | (rw [hLisM, if_pos (hb_nz.mp c_17)] at e1; exact e1)
    · refine hc_iload_n C dX3_listeningNow_20 rfl rfl ?_
      refine hc_iconst C dX3_listeningNow_21 (v := 1) rfl ?_
      refine hc_iload_n C dX3_listeningNow_22 rfl rfl ?_
      refine hc_ishl C dX3_listeningNow_23 ?_
      refine hc_ior C dX3_listeningNow_24 ?_
      refine hc_istore_n1 C dX3_listeningNow_25 rfl (by decide) rfl ?_
      refine hc_iinc2 C (v := nI (i + 1)) dX3_listeningNow_26 (by decide) rfl rfl (nI_1 i) ?_
      refine hc_goto C (tgt := 4) dX3_listeningNow_29 (by decide) ?_
      have e1 := ih (i + 1) (by omega)
      first | (rw [hLisM, if_neg (hb_z.mp c_17)] at e1; exact e1) | (rw [hLisM, if_pos (hb_nz.mp c_17)] at e1; exact e1)

set_option maxRecDepth 100000 in
set_option maxHeartbeats 4000000 in
theorem c_X3_listeningNow {l : Launch} {G : hc_Geo} (hG : hc_ok G) {M : hc_Mem} {E : Nat}  (hE : M 9 5 = nI E) (hE6 : E ≤ 6) : hc_M l G yX3_listeningNow cX3_listeningNow 3 (some .int) 5 [.ref (hc_ad G 9)] M (hc_pi (fun z M' => hLisM M E E = z ∧ M = M')) := by
  refine hc_M.of hG (by decide) [some (.ref (hc_ad G 9)), none, none] rfl (Nat.le_of_ble_eq_true rfl) ?_
  intro p e s m args below meth c C
  refine hc_iconst C dX3_listeningNow_0 (v := 0) rfl ?_
  refine hc_istore_n1 C dX3_listeningNow_1 rfl (by decide) rfl ?_
  refine hc_iconst C dX3_listeningNow_2 (v := 0) rfl ?_
  refine hc_istore_n2 C dX3_listeningNow_3 rfl (by decide) rfl ?_
  refine lp_listeningNow C (by decide) hE hE6 ?_ E 0 (by omega)
  refine hc_iload_n C dX3_listeningNow_32 rfl rfl ?_
  refine hc_iret C rfl dX3_listeningNow_33 ?_
  exact ⟨rfl, rfl⟩

set_option maxRecDepth 100000 in
set_option maxHeartbeats 4000000 in
theorem c_X3_giftOf {l : Launch} {G : hc_Geo} (hG : hc_ok G) {M : hc_Mem} {e0 : Nat}  (he : e0 < 6) : hc_M l G yX3_giftOf cX3_giftOf 4 (some .int) 1 [.ref (hc_ad G 9), .int (nI e0)] M (hc_pi (fun z M' => hGift M e0 = z ∧ M = M')) := by
  refine hc_M.of hG (by decide) [some (.ref (hc_ad G 9)), some (.int (nI e0)), none, none] rfl (Nat.le_of_ble_eq_true rfl) ?_
  intro p e s m args below meth c C
  have hJ : ∀ x : Int32, x = hLeft M e0 → hc_W G hc_lay p l e (hc_rm 1) s m args below meth c 4 0 0 (MQ below (hc_Q G hc_lay (hc_pi (fun z M' => hGift M e0 = z ∧ M = M'))) args s 0 0 (hc_A G)) 28 [some (.ref (hc_ad G 9)), some (.int (nI e0)), none, none] [.int x] M := by
    intro x hx
    refine hc_istore_n2 C dX3_giftOf_28 rfl (by decide) rfl ?_
    refine hc_iload_n C dX3_giftOf_29 rfl rfl ?_
    refine hc_iconst C dX3_giftOf_30 (v := 2) rfl ?_
    refine hc_idiv C dX3_giftOf_31 (by decide) ?_
    refine hc_istore_n3 C dX3_giftOf_32 rfl (by decide) rfl ?_
    refine hc_aload_n C dX3_giftOf_33 rfl rfl ?_
    refine hc_getR C fl_X3_32 rfl rfl dX3_giftOf_34 ?_
    refine hc_iload_n C dX3_giftOf_37 rfl rfl ?_
    refine hc_ialdN C (j := e0) rfl rfl (by omega) dX3_giftOf_38 ?_
    by_cases hk1 : M 10 e0 = 1
    · refine hc_top hk1 ?_
      refine hc_tableIn C (off := 29) (tgt := 68) dX3_giftOf_39 (by decide) (by decide) rfl (by decide) ?_
      refine hc_iload_n C dX3_giftOf_68 rfl rfl ?_
      refine hc_iret C rfl dX3_giftOf_69 ?_
      refine ⟨?_, rfl⟩
      subst hx
      unfold hGift
      first | exact if_pos hk1 | exact (if_neg hk1).trans (if_pos hk2) | exact (if_neg hk1).trans ((if_neg hk2).trans (if_pos hk3)) | exact (if_neg hk1).trans ((if_neg hk2).trans ((if_neg hk3).trans ((if_pos hk4).trans (if_pos c_74)))) | exact (if_neg hk1).trans ((if_neg hk2).trans ((if_neg hk3).trans ((if_pos hk4).trans (if_neg c_74)))) | exact (if_neg hk1).trans ((if_neg hk2).trans ((if_neg hk3).trans (if_neg hk4)))
    by_cases hk2 : M 10 e0 = 2
    · refine hc_top hk2 ?_
      refine hc_tableIn C (off := 29) (tgt := 68) dX3_giftOf_39 (by decide) (by decide) rfl (by decide) ?_
      refine hc_iload_n C dX3_giftOf_68 rfl rfl ?_
      refine hc_iret C rfl dX3_giftOf_69 ?_
      refine ⟨?_, rfl⟩
      subst hx
      unfold hGift
      first | exact if_pos hk1 | exact (if_neg hk1).trans (if_pos hk2) | exact (if_neg hk1).trans ((if_neg hk2).trans (if_pos hk3)) | exact (if_neg hk1).trans ((if_neg hk2).trans ((if_neg hk3).trans ((if_pos hk4).trans (if_pos c_74)))) | exact (if_neg hk1).trans ((if_neg hk2).trans ((if_neg hk3).trans ((if_pos hk4).trans (if_neg c_74)))) | exact (if_neg hk1).trans ((if_neg hk2).trans ((if_neg hk3).trans (if_neg hk4)))
    by_cases hk3 : M 10 e0 = 3
    · refine hc_top hk3 ?_
      refine hc_tableIn C (off := 31) (tgt := 70) dX3_giftOf_39 (by decide) (by decide) rfl (by decide) ?_
      refine hc_iload_n C dX3_giftOf_70 rfl rfl ?_
      refine hc_iret C rfl dX3_giftOf_71 ?_
      refine ⟨?_, rfl⟩
      subst hx
      unfold hGift
      first | exact if_pos hk1 | exact (if_neg hk1).trans (if_pos hk2) | exact (if_neg hk1).trans ((if_neg hk2).trans (if_pos hk3)) | exact (if_neg hk1).trans ((if_neg hk2).trans ((if_neg hk3).trans ((if_pos hk4).trans (if_pos c_74)))) | exact (if_neg hk1).trans ((if_neg hk2).trans ((if_neg hk3).trans ((if_pos hk4).trans (if_neg c_74)))) | exact (if_neg hk1).trans ((if_neg hk2).trans ((if_neg hk3).trans (if_neg hk4)))
    by_cases hk4 : M 10 e0 = 4
    · refine hc_top hk4 ?_
      refine hc_tableIn C (off := 33) (tgt := 72) dX3_giftOf_39 (by decide) (by decide) rfl (by decide) ?_
      refine hc_iload_n C dX3_giftOf_72 rfl rfl ?_
      refine hc_iconst C dX3_giftOf_73 (v := 3) rfl ?_
      refine hc_icmp_le C (tgt := 81) dX3_giftOf_74 (by decide) (fun c_74 => ?_) (fun c_74 => ?_)
      · refine hc_iload_n C dX3_giftOf_81 rfl rfl ?_
        refine hc_iret C rfl dX3_giftOf_82 ?_
        refine ⟨?_, rfl⟩
        subst hx
        unfold hGift
        first | exact if_pos hk1 | exact (if_neg hk1).trans (if_pos hk2) | exact (if_neg hk1).trans ((if_neg hk2).trans (if_pos hk3)) | exact (if_neg hk1).trans ((if_neg hk2).trans ((if_neg hk3).trans ((if_pos hk4).trans (if_pos c_74)))) | exact (if_neg hk1).trans ((if_neg hk2).trans ((if_neg hk3).trans ((if_pos hk4).trans (if_neg c_74)))) | exact (if_neg hk1).trans ((if_neg hk2).trans ((if_neg hk3).trans (if_neg hk4)))
      · refine hc_iconst C dX3_giftOf_77 (v := 3) rfl ?_
        refine hc_goto C (tgt := 82) dX3_giftOf_78 (by decide) ?_
        refine hc_iret C rfl dX3_giftOf_82 ?_
        refine ⟨?_, rfl⟩
        subst hx
        unfold hGift
        first | exact if_pos hk1 | exact (if_neg hk1).trans (if_pos hk2) | exact (if_neg hk1).trans ((if_neg hk2).trans (if_pos hk3)) | exact (if_neg hk1).trans ((if_neg hk2).trans ((if_neg hk3).trans ((if_pos hk4).trans (if_pos c_74)))) | exact (if_neg hk1).trans ((if_neg hk2).trans ((if_neg hk3).trans ((if_pos hk4).trans (if_neg c_74)))) | exact (if_neg hk1).trans ((if_neg hk2).trans ((if_neg hk3).trans (if_neg hk4)))
    refine hc_tableOut C (tgt := 83) dX3_giftOf_39 (by have n1 : (M 10 e0).toInt ≠ 1 := fun q => hk1 (Int32.toInt_inj.mp q); have n2 : (M 10 e0).toInt ≠ 2 := fun q => hk2 (Int32.toInt_inj.mp q); have n3 : (M 10 e0).toInt ≠ 3 := fun q => hk3 (Int32.toInt_inj.mp q); have n4 : (M 10 e0).toInt ≠ 4 := fun q => hk4 (Int32.toInt_inj.mp q); omega) (by decide) ?_
    refine hc_iconst C dX3_giftOf_83 (v := 0) rfl ?_
    refine hc_iret C rfl dX3_giftOf_84 ?_
    refine ⟨?_, rfl⟩
    subst hx
    unfold hGift
    first | exact if_pos hk1 | exact (if_neg hk1).trans (if_pos hk2) | exact (if_neg hk1).trans ((if_neg hk2).trans (if_pos hk3)) | exact (if_neg hk1).trans ((if_neg hk2).trans ((if_neg hk3).trans ((if_pos hk4).trans (if_pos c_74)))) | exact (if_neg hk1).trans ((if_neg hk2).trans ((if_neg hk3).trans ((if_pos hk4).trans (if_neg c_74)))) | exact (if_neg hk1).trans ((if_neg hk2).trans ((if_neg hk3).trans (if_neg hk4)))
  refine hc_aload_n C dX3_giftOf_0 rfl rfl ?_
  refine hc_getR C fl_X3_36 rfl rfl dX3_giftOf_1 ?_
  refine hc_iload_n C dX3_giftOf_4 rfl rfl ?_
  refine hc_ialdN C (j := e0) rfl rfl (by omega) dX3_giftOf_5 ?_
  refine hc_aload_n C dX3_giftOf_6 rfl rfl ?_
  refine hc_getI C fl_X3_13 rfl rfl dX3_giftOf_7 ?_
  refine hc_icmp_le C (tgt := 27) dX3_giftOf_10 (by decide) (fun c_10 => ?_) (fun c_10 => ?_)
  · refine hc_iconst C dX3_giftOf_27 (v := 0) rfl ?_
    exact hJ _ (by unfold hLeft; simp [c_10])
  · refine hc_aload_n C dX3_giftOf_13 rfl rfl ?_
    refine hc_getR C fl_X3_36 rfl rfl dX3_giftOf_14 ?_
    refine hc_iload_n C dX3_giftOf_17 rfl rfl ?_
    refine hc_ialdN C (j := e0) rfl rfl (by omega) dX3_giftOf_18 ?_
    refine hc_aload_n C dX3_giftOf_19 rfl rfl ?_
    refine hc_getI C fl_X3_13 rfl rfl dX3_giftOf_20 ?_
    refine hc_isub C dX3_giftOf_23 ?_
    refine hc_goto C (tgt := 28) dX3_giftOf_24 (by decide) ?_
    exact hJ _ (by unfold hLeft; simp [c_10])

set_option maxRecDepth 100000 in
set_option maxHeartbeats 4000000 in
theorem lp_partsOf {G : hc_Geo} {p : Program} {l : Launch} {e : Env} {d : Nat} {s : State} {m : MethodId} {args : Array Value} {below : List Frame} {meth : Method} {c : Code} {Q : State → Prop} (C : hc_Cx G hc_lay cX3_partsOf 6 (some .int) yX3_partsOf.cls p s m args meth c) {M : hc_Mem} {E : Nat} {s0 q : Int32} (hd : 1 < d) (hE : M 9 5 = nI E) (hE6 : E ≤ 6) 
    (kk : hc_W G hc_lay p l e (hc_rm d) s m args below meth c 6 0 0 Q 76 [some (.ref (hc_ad G 9)), some (.int s0), some (.int q), some (.int (hPW M s0 q E)), some (.int (hPO M s0 q E)), some (.int (nI E))] [] M) :
    ∀ (t : Nat) (i : Nat), i + t = E → hc_W G hc_lay p l e (hc_rm d) s m args below meth c 6 0 0 Q 8 [some (.ref (hc_ad G 9)), some (.int s0), some (.int q), some (.int (hPW M s0 q i)), some (.int (hPO M s0 q i)), some (.int (nI i))] [] M := by
  intro t
  induction t with
  | zero =>
    intro i hi
    refine hc_iload C dX3_partsOf_8 rfl ?_
    refine hc_aload_n C dX3_partsOf_10 rfl rfl ?_
    refine hc_getI C fl_X3_26 rfl rfl dX3_partsOf_11 ?_
    refine hc_icmp_ge C (tgt := 76) dX3_partsOf_14 (by decide) (fun c_14 => ?_) (fun c_14 => ?_)
    rotate_left
    · exact absurd (by rw [hE]; exact nI_le (show E ≤ i by omega) (by omega)) c_14
    rw [show i = E by omega]
    exact kk
  | succ t ih =>
    intro i hi
    refine hc_iload C dX3_partsOf_8 rfl ?_
    refine hc_aload_n C dX3_partsOf_10 rfl rfl ?_
    refine hc_getI C fl_X3_26 rfl rfl dX3_partsOf_11 ?_
    refine hc_icmp_ge C (tgt := 76) dX3_partsOf_14 (by decide) (fun c_14 => ?_) (fun c_14 => ?_)
    · exact absurd (hE ▸ c_14) (nI_ge (show i < E by omega) (by omega))
    refine hc_iload_n C dX3_partsOf_17 rfl rfl ?_
    refine hc_iload C dX3_partsOf_18 rfl ?_
    refine hc_cS2i C ms_X3_92 (c_X3_isIn C.ok) (Nat.le_of_ble_eq_true rfl) (hc_rr_rm hd) ⟨Nat.zero_le _, Nat.zero_le _⟩ dX3_partsOf_20 (fun r_20 M_20 h_20 => ?_)
    obtain ⟨rfl, rfl⟩ := h_20
    refine hc_if_eq C (tgt := 70) dX3_partsOf_23 (by decide) (fun c_23 => ?_) (fun c_23 => ?_)
    · refine hc_iinc5 C (v := nI (i + 1)) dX3_partsOf_70 (by decide) rfl rfl (nI_1 i) ?_
      refine hc_goto C (tgt := 8) dX3_partsOf_73 (by decide) ?_
      have e1 := ih (i + 1) (by omega)
      first
        | (rw [hPW, hPO, if_neg (fun z => hb_z.mp c_23 z.1), if_neg (fun z => hb_z.mp c_23 z.1)] at e1; exact e1)
        | (rw [hPW, hPO, if_neg (fun z => hb_z.mp c_33 z.2.1), if_neg (fun z => hb_z.mp c_33 z.2.1)] at e1; exact e1)
        | (rw [hPW, hPO, if_neg (fun z => c_44 z.2.2), if_pos ⟨hb_nz.mp c_23, hb_nz.mp c_33, c_44⟩] at e1; exact e1)
        | (rw [hPW, hPO, if_pos ⟨hb_nz.mp c_23, hb_nz.mp c_33, c_44⟩, if_neg (fun z => z.2.2 c_44)] at e1; exact e1)
    · refine hc_aload_n C dX3_partsOf_26 rfl rfl ?_
      refine hc_iload C dX3_partsOf_27 rfl ?_
      refine hc_iload_n C dX3_partsOf_29 rfl rfl ?_
      refine hc_cV2i C mv_X3_106 (c_X3_hasItsTime C.ok (show i < 6 by omega)) rfl rfl rfl (Nat.le_of_ble_eq_true rfl) (hc_rr_rm hd) ⟨Nat.zero_le _, Nat.zero_le _⟩ dX3_partsOf_30 (fun r_30 M_30 h_30 => ?_)
      obtain ⟨rfl, rfl⟩ := h_30
      refine hc_if_eq C (tgt := 70) dX3_partsOf_33 (by decide) (fun c_33 => ?_) (fun c_33 => ?_)
      · refine hc_iinc5 C (v := nI (i + 1)) dX3_partsOf_70 (by decide) rfl rfl (nI_1 i) ?_
        refine hc_goto C (tgt := 8) dX3_partsOf_73 (by decide) ?_
        have e1 := ih (i + 1) (by omega)
        first
          | (rw [hPW, hPO, if_neg (fun z => hb_z.mp c_23 z.1), if_neg (fun z => hb_z.mp c_23 z.1)] at e1; exact e1)
          | (rw [hPW, hPO, if_neg (fun z => hb_z.mp c_33 z.2.1), if_neg (fun z => hb_z.mp c_33 z.2.1)] at e1; exact e1)
          | (rw [hPW, hPO, if_neg (fun z => c_44 z.2.2), if_pos ⟨hb_nz.mp c_23, hb_nz.mp c_33, c_44⟩] at e1; exact e1)
          | (rw [hPW, hPO, if_pos ⟨hb_nz.mp c_23, hb_nz.mp c_33, c_44⟩, if_neg (fun z => z.2.2 c_44)] at e1; exact e1)
      · refine hc_aload_n C dX3_partsOf_36 rfl rfl ?_
        refine hc_getR C fl_X3_32 rfl rfl dX3_partsOf_37 ?_
        refine hc_iload C dX3_partsOf_40 rfl ?_
        refine hc_ialdN C (j := i) rfl rfl (by omega) dX3_partsOf_42 ?_
        refine hc_iconst C dX3_partsOf_43 (v := 2) rfl ?_
        refine hc_icmp_ne C (tgt := 59) dX3_partsOf_44 (by decide) (fun c_44 => ?_) (fun c_44 => ?_)
        · refine hc_iload C dX3_partsOf_59 rfl ?_
          refine hc_aload_n C dX3_partsOf_61 rfl rfl ?_
          refine hc_iload C dX3_partsOf_62 rfl ?_
          refine hc_cV1i C mv_X3_114 (c_X3_giftOf C.ok (show i < 6 by omega)) rfl rfl rfl (Nat.le_of_ble_eq_true rfl) (hc_rr_rm hd) ⟨Nat.zero_le _, Nat.zero_le _⟩ dX3_partsOf_64 (fun r_64 M_64 h_64 => ?_)
          obtain ⟨rfl, rfl⟩ := h_64
          refine hc_iadd C dX3_partsOf_67 ?_
          refine hc_istore4 C dX3_partsOf_68 (by decide) rfl ?_
          refine hc_iinc5 C (v := nI (i + 1)) dX3_partsOf_70 (by decide) rfl rfl (nI_1 i) ?_
          refine hc_goto C (tgt := 8) dX3_partsOf_73 (by decide) ?_
          have e1 := ih (i + 1) (by omega)
          first
            | (rw [hPW, hPO, if_neg (fun z => hb_z.mp c_23 z.1), if_neg (fun z => hb_z.mp c_23 z.1)] at e1; exact e1)
            | (rw [hPW, hPO, if_neg (fun z => hb_z.mp c_33 z.2.1), if_neg (fun z => hb_z.mp c_33 z.2.1)] at e1; exact e1)
            | (rw [hPW, hPO, if_neg (fun z => c_44 z.2.2), if_pos ⟨hb_nz.mp c_23, hb_nz.mp c_33, c_44⟩] at e1; exact e1)
            | (rw [hPW, hPO, if_pos ⟨hb_nz.mp c_23, hb_nz.mp c_33, c_44⟩, if_neg (fun z => z.2.2 c_44)] at e1; exact e1)
        · refine hc_iload_n C dX3_partsOf_47 rfl rfl ?_
          refine hc_aload_n C dX3_partsOf_48 rfl rfl ?_
          refine hc_iload C dX3_partsOf_49 rfl ?_
          refine hc_cV1i C mv_X3_114 (c_X3_giftOf C.ok (show i < 6 by omega)) rfl rfl rfl (Nat.le_of_ble_eq_true rfl) (hc_rr_rm hd) ⟨Nat.zero_le _, Nat.zero_le _⟩ dX3_partsOf_51 (fun r_51 M_51 h_51 => ?_)
          obtain ⟨rfl, rfl⟩ := h_51
          refine hc_iadd C dX3_partsOf_54 ?_
          refine hc_istore_n3 C dX3_partsOf_55 rfl (by decide) rfl ?_
          refine hc_goto C (tgt := 70) dX3_partsOf_56 (by decide) ?_
          refine hc_iinc5 C (v := nI (i + 1)) dX3_partsOf_70 (by decide) rfl rfl (nI_1 i) ?_
          refine hc_goto C (tgt := 8) dX3_partsOf_73 (by decide) ?_
          have e1 := ih (i + 1) (by omega)
          first
            | (rw [hPW, hPO, if_neg (fun z => hb_z.mp c_23 z.1), if_neg (fun z => hb_z.mp c_23 z.1)] at e1; exact e1)
            | (rw [hPW, hPO, if_neg (fun z => hb_z.mp c_33 z.2.1), if_neg (fun z => hb_z.mp c_33 z.2.1)] at e1; exact e1)
            | (rw [hPW, hPO, if_neg (fun z => c_44 z.2.2), if_pos ⟨hb_nz.mp c_23, hb_nz.mp c_33, c_44⟩] at e1; exact e1)
            | (rw [hPW, hPO, if_pos ⟨hb_nz.mp c_23, hb_nz.mp c_33, c_44⟩, if_neg (fun z => z.2.2 c_44)] at e1; exact e1)

set_option maxRecDepth 100000 in
set_option maxHeartbeats 4000000 in
theorem c_X3_partsOf {l : Launch} {G : hc_Geo} (hG : hc_ok G) {M : hc_Mem} {E : Nat} {s0 q : Int32}  (hE : M 9 5 = nI E) (hE6 : E ≤ 6) : hc_M l G yX3_partsOf cX3_partsOf 6 (some .int) 2 [.ref (hc_ad G 9), .int s0, .int q] M (hc_pi (fun z M' => hPar M E s0 q = z ∧ M = M')) := by
  refine hc_M.of hG (by decide) [some (.ref (hc_ad G 9)), some (.int s0), some (.int q), none, none, none] rfl (Nat.le_of_ble_eq_true rfl) ?_
  intro p e s m args below meth c C
  refine hc_iconst C dX3_partsOf_0 (v := 0) rfl ?_
  refine hc_istore_n3 C dX3_partsOf_1 rfl (by decide) rfl ?_
  refine hc_iconst C dX3_partsOf_2 (v := 0) rfl ?_
  refine hc_istore4 C dX3_partsOf_3 (by decide) rfl ?_
  refine hc_iconst C dX3_partsOf_5 (v := 0) rfl ?_
  refine hc_istore5 C dX3_partsOf_6 (by decide) rfl ?_
  refine lp_partsOf C (by decide) hE hE6 ?_ E 0 (by omega)
  refine hc_iload C dX3_partsOf_76 rfl ?_
  refine hc_bipush C dX3_partsOf_78 (v := 12) rfl ?_
  refine hc_icmp_lt C (tgt := 88) dX3_partsOf_80 (by decide) (fun c_80 => ?_) (fun c_80 => ?_)
  · refine hc_iload C dX3_partsOf_88 rfl ?_
    refine hc_iload_n C dX3_partsOf_90 rfl rfl ?_
    refine hc_iadd C dX3_partsOf_91 ?_
    refine hc_iret C rfl dX3_partsOf_92 ?_
    refine ⟨?_, rfl⟩
    unfold hPar
    first | exact if_pos c_80 | exact if_neg c_80
  · refine hc_iload C dX3_partsOf_83 rfl ?_
    refine hc_goto C (tgt := 92) dX3_partsOf_85 (by decide) ?_
    refine hc_iret C rfl dX3_partsOf_92 ?_
    refine ⟨?_, rfl⟩
    unfold hPar
    first | exact if_pos c_80 | exact if_neg c_80

set_option maxRecDepth 100000 in
set_option maxHeartbeats 4000000 in
theorem lp_widowers {G : hc_Geo} {p : Program} {l : Launch} {e : Env} {d : Nat} {s : State} {m : MethodId} {args : Array Value} {below : List Frame} {meth : Method} {c : Code} {Q : State → Prop} (C : hc_Cx G hc_lay cX3_widowers 3 (some .int) yX3_widowers.cls p s m args meth c) {M : hc_Mem} {E : Nat} (hE : M 9 5 = nI E) (hE6 : E ≤ 6) 
    (kk : hc_W G hc_lay p l e (hc_rm d) s m args below meth c 3 0 0 Q 34 [some (.ref (hc_ad G 9)), some (.int (hWid M E)), some (.int (nI E))] [] M) :
    ∀ (t : Nat) (i : Nat), i + t = E → hc_W G hc_lay p l e (hc_rm d) s m args below meth c 3 0 0 Q 4 [some (.ref (hc_ad G 9)), some (.int (hWid M i)), some (.int (nI i))] [] M := by
  intro t
  induction t with
  | zero =>
    intro i hi
    refine hc_iload_n C dX3_widowers_4 rfl rfl ?_
    refine hc_aload_n C dX3_widowers_5 rfl rfl ?_
    refine hc_getI C fl_X3_26 rfl rfl dX3_widowers_6 ?_
    refine hc_icmp_ge C (tgt := 34) dX3_widowers_9 (by decide) (fun c_9 => ?_) (fun c_9 => ?_)
    rotate_left
    · exact absurd (by rw [hE]; exact nI_le (show E ≤ i by omega) (by omega)) c_9
    rw [show i = E by omega]
    exact kk
  | succ t ih =>
    intro i hi
    refine hc_iload_n C dX3_widowers_4 rfl rfl ?_
    refine hc_aload_n C dX3_widowers_5 rfl rfl ?_
    refine hc_getI C fl_X3_26 rfl rfl dX3_widowers_6 ?_
    refine hc_icmp_ge C (tgt := 34) dX3_widowers_9 (by decide) (fun c_9 => ?_) (fun c_9 => ?_)
    · exact absurd (hE ▸ c_9) (nI_ge (show i < E by omega) (by omega))
    refine hc_aload_n C dX3_widowers_12 rfl rfl ?_
    refine hc_getR C fl_X3_32 rfl rfl dX3_widowers_13 ?_
    refine hc_iload_n C dX3_widowers_16 rfl rfl ?_
    refine hc_ialdN C (j := i) rfl rfl (by omega) dX3_widowers_17 ?_
    refine hc_iconst C dX3_widowers_18 (v := 2) rfl ?_
    refine hc_icmp_ne C (tgt := 28) dX3_widowers_19 (by decide) (fun c_19 => ?_) (fun c_19 => ?_)
    · refine hc_iinc2 C (v := nI (i + 1)) dX3_widowers_28 (by decide) rfl rfl (nI_1 i) ?_
      refine hc_goto C (tgt := 4) dX3_widowers_31 (by decide) ?_
      have e1 := ih (i + 1) (by omega)
      first | (rw [hWid, if_neg c_19] at e1; exact e1) | (rw [hWid, if_pos c_19] at e1; exact e1)
    · refine hc_iload_n C dX3_widowers_22 rfl rfl ?_
      refine hc_iconst C dX3_widowers_23 (v := 1) rfl ?_
      refine hc_iload_n C dX3_widowers_24 rfl rfl ?_
      refine hc_ishl C dX3_widowers_25 ?_
      refine hc_ior C dX3_widowers_26 ?_
      refine hc_istore_n1 C dX3_widowers_27 rfl (by decide) rfl ?_
      refine hc_iinc2 C (v := nI (i + 1)) dX3_widowers_28 (by decide) rfl rfl (nI_1 i) ?_
      refine hc_goto C (tgt := 4) dX3_widowers_31 (by decide) ?_
      have e1 := ih (i + 1) (by omega)
      first | (rw [hWid, if_neg c_19] at e1; exact e1) | (rw [hWid, if_pos c_19] at e1; exact e1)

set_option maxRecDepth 100000 in
set_option maxHeartbeats 4000000 in
theorem c_X3_widowers {l : Launch} {G : hc_Geo} (hG : hc_ok G) {M : hc_Mem} {E : Nat}  (hE : M 9 5 = nI E) (hE6 : E ≤ 6) : hc_M l G yX3_widowers cX3_widowers 3 (some .int) 1 [.ref (hc_ad G 9)] M (hc_pi (fun z M' => hWid M E = z ∧ M = M')) := by
  refine hc_M.of hG (by decide) [some (.ref (hc_ad G 9)), none, none] rfl (Nat.le_of_ble_eq_true rfl) ?_
  intro p e s m args below meth c C
  refine hc_iconst C dX3_widowers_0 (v := 0) rfl ?_
  refine hc_istore_n1 C dX3_widowers_1 rfl (by decide) rfl ?_
  refine hc_iconst C dX3_widowers_2 (v := 0) rfl ?_
  refine hc_istore_n2 C dX3_widowers_3 rfl (by decide) rfl ?_
  refine lp_widowers C hE hE6 ?_ E 0 (by omega)
  refine hc_iload_n C dX3_widowers_34 rfl rfl ?_
  refine hc_iret C rfl dX3_widowers_35 ?_
  exact ⟨rfl, rfl⟩

set_option maxRecDepth 100000 in
set_option maxHeartbeats 4000000 in
theorem c_X3_areWidowersSilenced {l : Launch} {G : hc_Geo} (hG : hc_ok G) {M : hc_Mem} {E : Nat}  (hE : M 9 5 = nI E) (hE6 : E ≤ 6) : hc_M l G yX3_areWidowersSilenced cX3_areWidowersSilenced 1 (some .boolean) 4 [.ref (hc_ad G 9)] M (hc_pi (fun z M' => hb (hSil M E) = z ∧ M = M')) := by
  refine hc_M.of hG (by decide) [some (.ref (hc_ad G 9))] rfl (Nat.le_of_ble_eq_true rfl) ?_
  intro p e s m args below meth c C
  refine hc_aload_n C dX3_areWidowersSilenced_0 rfl rfl ?_
  refine hc_aload_n C dX3_areWidowersSilenced_1 rfl rfl ?_
  refine hc_cV0i C mv_X3_103 (c_X3_attending C.ok hE hE6) rfl rfl rfl (Nat.le_of_ble_eq_true rfl) (hc_rr_rm (by decide)) ⟨Nat.zero_le _, Nat.zero_le _⟩ dX3_areWidowersSilenced_2 (fun r_2 M_2 h_2 => ?_)
  obtain ⟨rfl, rfl⟩ := h_2
  refine hc_aload_n C dX3_areWidowersSilenced_5 rfl rfl ?_
  refine hc_cV0i C mv_X3_118 (c_X3_widowers C.ok hE hE6) rfl rfl rfl (Nat.le_of_ble_eq_true rfl) (hc_rr_rm (by decide)) ⟨Nat.zero_le _, Nat.zero_le _⟩ dX3_areWidowersSilenced_6 (fun r_6 M_6 h_6 => ?_)
  obtain ⟨rfl, rfl⟩ := h_6
  refine hc_iconst C dX3_areWidowersSilenced_9 (v := (-1)) rfl ?_
  refine hc_ixor C dX3_areWidowersSilenced_10 ?_
  refine hc_iand C dX3_areWidowersSilenced_11 ?_
  refine hc_aload_n C dX3_areWidowersSilenced_12 rfl rfl ?_
  refine hc_getI C fl_X3_17 rfl rfl dX3_areWidowersSilenced_13 ?_
  refine hc_cV2i C mv_X3_121 (c_X3_partsOf C.ok hE hE6) rfl rfl rfl (Nat.le_of_ble_eq_true rfl) (hc_rr_rm (by decide)) ⟨Nat.zero_le _, Nat.zero_le _⟩ dX3_areWidowersSilenced_16 (fun r_16 M_16 h_16 => ?_)
  obtain ⟨rfl, rfl⟩ := h_16
  refine hc_bipush C dX3_areWidowersSilenced_19 (v := 12) rfl ?_
  refine hc_icmp_lt C (tgt := 28) dX3_areWidowersSilenced_21 (by decide) (fun c_21 => ?_) (fun c_21 => ?_)
  · refine hc_iconst C dX3_areWidowersSilenced_28 (v := 0) rfl ?_
    refine hc_zret C rfl rfl dX3_areWidowersSilenced_29 ?_
    refine ⟨?_, rfl⟩
    first | exact hb_t c_21 | exact hb_f (not_not_intro c_21)
  · refine hc_iconst C dX3_areWidowersSilenced_24 (v := 1) rfl ?_
    refine hc_goto C (tgt := 29) dX3_areWidowersSilenced_25 (by decide) ?_
    refine hc_zret C rfl rfl dX3_areWidowersSilenced_29 ?_
    refine ⟨?_, rfl⟩
    first | exact hb_t c_21 | exact hb_f (not_not_intro c_21)

def hGives (M : hc_Mem) (E e : Nat) : Int32 := if hLis M E e then (if M 10 e = 2 ∧ hSil M E then 0 else hGift M e) else 0

set_option maxRecDepth 100000 in
set_option maxHeartbeats 4000000 in
theorem c_X3_givesNow {l : Launch} {G : hc_Geo} (hG : hc_ok G) {M : hc_Mem} {E e0 : Nat}  (hE : M 9 5 = nI E) (hE6 : E ≤ 6) (he : e0 < 6) : hc_M l G yX3_givesNow cX3_givesNow 2 (some .int) 5 [.ref (hc_ad G 9), .int (nI e0)] M (hc_pi (fun z M' => hGives M E e0 = z ∧ M = M')) := by
  refine hc_M.of hG (by decide) [some (.ref (hc_ad G 9)), some (.int (nI e0))] rfl (Nat.le_of_ble_eq_true rfl) ?_
  intro p e s m args below meth c C
  refine hc_aload_n C dX3_givesNow_0 rfl rfl ?_
  refine hc_iload_n C dX3_givesNow_1 rfl rfl ?_
  refine hc_cV1i C mv_X3_109 (c_X3_listensNow C.ok hE hE6 he) rfl rfl rfl (Nat.le_of_ble_eq_true rfl) (hc_rr_rm (by decide)) ⟨Nat.zero_le _, Nat.zero_le _⟩ dX3_givesNow_2 (fun r_2 M_2 h_2 => ?_)
  obtain ⟨rfl, rfl⟩ := h_2
  refine hc_if_ne C (tgt := 10) dX3_givesNow_5 (by decide) (fun c_5 => ?_) (fun c_5 => ?_)
  · refine hc_aload_n C dX3_givesNow_10 rfl rfl ?_
    refine hc_getR C fl_X3_32 rfl rfl dX3_givesNow_11 ?_
    refine hc_iload_n C dX3_givesNow_14 rfl rfl ?_
    refine hc_ialdN C (j := e0) rfl rfl (by omega) dX3_givesNow_15 ?_
    refine hc_iconst C dX3_givesNow_16 (v := 2) rfl ?_
    refine hc_icmp_ne C (tgt := 29) dX3_givesNow_17 (by decide) (fun c_17 => ?_) (fun c_17 => ?_)
    · refine hc_aload_n C dX3_givesNow_29 rfl rfl ?_
      refine hc_iload_n C dX3_givesNow_30 rfl rfl ?_
      refine hc_cV1i C mv_X3_114 (c_X3_giftOf C.ok he) rfl rfl rfl (Nat.le_of_ble_eq_true rfl) (hc_rr_rm (by decide)) ⟨Nat.zero_le _, Nat.zero_le _⟩ dX3_givesNow_31 (fun r_31 M_31 h_31 => ?_)
      obtain ⟨rfl, rfl⟩ := h_31
      refine hc_iret C rfl dX3_givesNow_34 ?_
      refine ⟨(if_pos (hb_nz.mp c_5)).trans ?_, rfl⟩
      first | exact if_neg (fun z => c_17 z.1) | exact if_neg (fun z => hb_z.mp c_24 z.2)
    · refine hc_aload_n C dX3_givesNow_20 rfl rfl ?_
      refine hc_cV0i C mv_X3_124 (c_X3_areWidowersSilenced C.ok hE hE6) rfl rfl rfl (Nat.le_of_ble_eq_true rfl) (hc_rr_rm (by decide)) ⟨Nat.zero_le _, Nat.zero_le _⟩ dX3_givesNow_21 (fun r_21 M_21 h_21 => ?_)
      obtain ⟨rfl, rfl⟩ := h_21
      refine hc_if_eq C (tgt := 29) dX3_givesNow_24 (by decide) (fun c_24 => ?_) (fun c_24 => ?_)
      · refine hc_aload_n C dX3_givesNow_29 rfl rfl ?_
        refine hc_iload_n C dX3_givesNow_30 rfl rfl ?_
        refine hc_cV1i C mv_X3_114 (c_X3_giftOf C.ok he) rfl rfl rfl (Nat.le_of_ble_eq_true rfl) (hc_rr_rm (by decide)) ⟨Nat.zero_le _, Nat.zero_le _⟩ dX3_givesNow_31 (fun r_31 M_31 h_31 => ?_)
        obtain ⟨rfl, rfl⟩ := h_31
        refine hc_iret C rfl dX3_givesNow_34 ?_
        refine ⟨(if_pos (hb_nz.mp c_5)).trans ?_, rfl⟩
        first | exact if_neg (fun z => c_17 z.1) | exact if_neg (fun z => hb_z.mp c_24 z.2)
      · refine hc_iconst C dX3_givesNow_27 (v := 0) rfl ?_
        refine hc_iret C rfl dX3_givesNow_28 ?_
        exact ⟨(if_pos (hb_nz.mp c_5)).trans (if_pos ⟨c_17, hb_nz.mp c_24⟩), rfl⟩
  · refine hc_iconst C dX3_givesNow_8 (v := 0) rfl ?_
    refine hc_iret C rfl dX3_givesNow_9 ?_
    exact ⟨if_neg (hb_z.mp c_5), rfl⟩

set_option maxRecDepth 100000 in
set_option maxHeartbeats 4000000 in
theorem lp_growOlder {G : hc_Geo} {p : Program} {l : Launch} {e : Env} {d : Nat} {s : State} {m : MethodId} {args : Array Value} {below : List Frame} {meth : Method} {c : Code} {Q : State → Prop} (C : hc_Cx G hc_lay cX3_growOlder 4 none yX3_growOlder.cls p s m args meth c) {M : hc_Mem} {E : Nat} {a b0 : Int32} (hd : 1 < d) (hE : M 9 5 = nI E) (hE6 : E ≤ 6) 
    (kk : hc_W G hc_lay p l e (hc_rm d) s m args below meth c 4 0 0 Q 38 [some (.ref (hc_ad G 9)), some (.int a), some (.int b0), some (.int (nI E))] [] (hc_mf M 15 (fun j => if j < E then M 15 j + (if M 12 j = 0 then a else b0) else M 15 j))) :
    ∀ (t : Nat) (i : Nat), i + t = E → hc_W G hc_lay p l e (hc_rm d) s m args below meth c 4 0 0 Q 2 [some (.ref (hc_ad G 9)), some (.int a), some (.int b0), some (.int (nI i))] [] (hc_mf M 15 (fun j => if j < i then M 15 j + (if M 12 j = 0 then a else b0) else M 15 j)) := by
  intro t
  induction t with
  | zero =>
    intro i hi
    refine hc_iload_n C dX3_growOlder_2 rfl rfl ?_
    refine hc_aload_n C dX3_growOlder_3 rfl rfl ?_
    refine hc_getI C fl_X3_26 rfl rfl dX3_growOlder_4 ?_
    refine hc_icmp_ge C (tgt := 38) dX3_growOlder_7 (by decide) (fun c_7 => ?_) (fun c_7 => ?_)
    rotate_left
    · exact absurd (by show M 9 5 ≤ nI i; rw [hE]; exact nI_le (show E ≤ i by omega) (by omega)) c_7
    rw [show i = E by omega]
    exact kk
  | succ t ih =>
    intro i hi
    refine hc_iload_n C dX3_growOlder_2 rfl rfl ?_
    refine hc_aload_n C dX3_growOlder_3 rfl rfl ?_
    refine hc_getI C fl_X3_26 rfl rfl dX3_growOlder_4 ?_
    refine hc_icmp_ge C (tgt := 38) dX3_growOlder_7 (by decide) (fun c_7 => ?_) (fun c_7 => ?_)
    · exact absurd (show nI E ≤ nI i from hE ▸ (show M 9 5 ≤ nI i from c_7)) (nI_ge (show i < E by omega) (by omega))
    refine hc_aload_n C dX3_growOlder_10 rfl rfl ?_
    refine hc_getR C fl_X3_48 rfl rfl dX3_growOlder_11 ?_
    refine hc_iload_n C dX3_growOlder_14 rfl rfl ?_
    refine hc_dup2 C dX3_growOlder_15 rfl rfl ?_
    refine hc_ialdN C (j := i) rfl rfl (by omega) dX3_growOlder_16 ?_
    refine hc_aload_n C dX3_growOlder_17 rfl rfl ?_
    refine hc_iload_n C dX3_growOlder_18 rfl rfl ?_
    refine hc_cV1i C mv_X3_96 (c_X3_isInClockRoom C.ok (show i < 6 by omega)) rfl rfl rfl (Nat.le_of_ble_eq_true rfl) (hc_rr_rm hd) ⟨Nat.zero_le _, Nat.zero_le _⟩ dX3_growOlder_19 (fun r_19 M_19 h_19 => ?_)
    obtain ⟨rfl, rfl⟩ := h_19
    refine hc_if_eq C (tgt := 29) dX3_growOlder_22 (by decide) (fun c_22 => ?_) (fun c_22 => ?_)
    · refine hc_iload_n C dX3_growOlder_29 rfl rfl ?_
      refine hc_iadd C dX3_growOlder_30 ?_
      refine hc_iastN C (j := i) rfl rfl (by omega) dX3_growOlder_31 ?_
      refine hc_iinc3 C (v := nI (i + 1)) dX3_growOlder_32 (by decide) rfl rfl (nI_1 i) ?_
      refine hc_goto C (tgt := 2) dX3_growOlder_35 (by decide) ?_
      refine hc_mem ?_ (ih (i + 1) (by omega))
      funext q
      by_cases hq : q = 15
      · subst hq
        simp only [hc_ms_s, hc_mf_s]
        funext x
        by_cases hx : x = i
        · subst hx
          have c22 := c_22
          simp only [hc_mf_n (show (12 : Nat) ≠ 15 by decide)] at c22
          simp only [upd, if_true]
          first
            | rw [if_neg (Nat.lt_irrefl x), if_pos (Nat.lt_succ_self x), if_neg (hb_z.mp c22)]
            | rw [if_neg (Nat.lt_irrefl x), if_pos (Nat.lt_succ_self x), if_pos (hb_nz.mp c22)]
        · have e1 : (x < i + 1) ↔ (x < i) := by omega
          simp only [upd, hx, if_false, e1]
      · simp only [hc_ms_n hq, hc_mf_n hq]
    · refine hc_iload_n C dX3_growOlder_25 rfl rfl ?_
      refine hc_goto C (tgt := 30) dX3_growOlder_26 (by decide) ?_
      refine hc_iadd C dX3_growOlder_30 ?_
      refine hc_iastN C (j := i) rfl rfl (by omega) dX3_growOlder_31 ?_
      refine hc_iinc3 C (v := nI (i + 1)) dX3_growOlder_32 (by decide) rfl rfl (nI_1 i) ?_
      refine hc_goto C (tgt := 2) dX3_growOlder_35 (by decide) ?_
      refine hc_mem ?_ (ih (i + 1) (by omega))
      funext q
      by_cases hq : q = 15
      · subst hq
        simp only [hc_ms_s, hc_mf_s]
        funext x
        by_cases hx : x = i
        · subst hx
          have c22 := c_22
          simp only [hc_mf_n (show (12 : Nat) ≠ 15 by decide)] at c22
          simp only [upd, if_true]
          first
            | rw [if_neg (Nat.lt_irrefl x), if_pos (Nat.lt_succ_self x), if_neg (hb_z.mp c22)]
            | rw [if_neg (Nat.lt_irrefl x), if_pos (Nat.lt_succ_self x), if_pos (hb_nz.mp c22)]
        · have e1 : (x < i + 1) ↔ (x < i) := by omega
          simp only [upd, hx, if_false, e1]
      · simp only [hc_ms_n hq, hc_mf_n hq]

set_option maxRecDepth 100000 in
set_option maxHeartbeats 4000000 in
theorem c_X3_growOlder {l : Launch} {G : hc_Geo} (hG : hc_ok G) {M : hc_Mem} {E : Nat} {a b0 : Int32}  (hE : M 9 5 = nI E) (hE6 : E ≤ 6) : hc_M l G yX3_growOlder cX3_growOlder 4 none 2 [.ref (hc_ad G 9), .int a, .int b0] M (hc_pv (fun M' => hGrow M E a b0 = M')) := by
  refine hc_M.of hG (by decide) [some (.ref (hc_ad G 9)), some (.int a), some (.int b0), none] rfl (Nat.le_of_ble_eq_true rfl) ?_
  intro p e s m args below meth c C
  refine hc_iconst C dX3_growOlder_0 (v := 0) rfl ?_
  refine hc_istore_n3 C dX3_growOlder_1 rfl (by decide) rfl ?_
  refine hc_mem ?_ (lp_growOlder (M := M) C (by decide) hE hE6 ?_ E 0 (by omega))
  · funext q
    by_cases hq : q = 15
    · subst hq
      rw [hc_mf_s]
      funext x
      rw [if_neg (by omega)]
    · rw [hc_mf_n hq]
  exact hc_vret C rfl dX3_growOlder_38 rfl

set_option maxRecDepth 100000 in
set_option maxHeartbeats 4000000 in
theorem c_X3_isOver {l : Launch} {G : hc_Geo} (hG : hc_ok G) {M : hc_Mem} {v : Int32}  : hc_M l G yX3_isOver cX3_isOver 2 (some .boolean) 1 [.ref (hc_ad G 9), .int v] M (hc_pi (fun z M' => hb (¬ v < 0 ∧ ¬ M 9 2 ≤ v) = z ∧ M = M')) := by
  refine hc_M.of hG (by decide) [some (.ref (hc_ad G 9)), some (.int v)] rfl (Nat.le_of_ble_eq_true rfl) ?_
  intro p e s m args below meth c C
  refine hc_iload_n C dX3_isOver_0 rfl rfl ?_
  refine hc_if_lt C (tgt := 16) dX3_isOver_1 (by decide) (fun c_1 => ?_) (fun c_1 => ?_)
  · refine hc_iconst C dX3_isOver_16 (v := 0) rfl ?_
    refine hc_zret C rfl rfl dX3_isOver_17 ?_
    refine ⟨?_, rfl⟩
    first | exact hb_t (by simp_all) | exact hb_f (by simp_all)
  · refine hc_iload_n C dX3_isOver_4 rfl rfl ?_
    refine hc_aload_n C dX3_isOver_5 rfl rfl ?_
    refine hc_getI C fl_X3_17 rfl rfl dX3_isOver_6 ?_
    refine hc_icmp_ge C (tgt := 16) dX3_isOver_9 (by decide) (fun c_9 => ?_) (fun c_9 => ?_)
    · refine hc_iconst C dX3_isOver_16 (v := 0) rfl ?_
      refine hc_zret C rfl rfl dX3_isOver_17 ?_
      refine ⟨?_, rfl⟩
      first | exact hb_t (by simp_all) | exact hb_f (by simp_all)
    · refine hc_iconst C dX3_isOver_12 (v := 1) rfl ?_
      refine hc_goto C (tgt := 17) dX3_isOver_13 (by decide) ?_
      refine hc_zret C rfl rfl dX3_isOver_17 ?_
      refine ⟨?_, rfl⟩
      first | exact hb_t (by simp_all) | exact hb_f (by simp_all)

set_option maxRecDepth 100000 in
set_option maxHeartbeats 4000000 in
theorem c_X3_partsGoneIn {l : Launch} {G : hc_Geo} (hG : hc_ok G) {M : hc_Mem} {k q : Nat}  (hq : M 9 2 = nI q) (hk : k < q) (hq9 : q ≤ 999) : hc_M l G yX3_partsGoneIn cX3_partsGoneIn 2 (some .int) 2 [.ref (hc_ad G 9), .int (nI k)] M (hc_pi (fun z M' => M 19 (k + 1) - M 19 k = z ∧ M = M')) := by
  refine hc_M.of hG (by decide) [some (.ref (hc_ad G 9)), some (.int (nI k))] rfl (Nat.le_of_ble_eq_true rfl) ?_
  intro p e s m args below meth c C
  refine hc_aload_n C dX3_partsGoneIn_0 rfl rfl ?_
  refine hc_iload_n C dX3_partsGoneIn_1 rfl rfl ?_
  refine hc_cV1i C mv_X3_132 (c_X3_isOver C.ok) rfl rfl rfl (Nat.le_of_ble_eq_true rfl) (hc_rr_rm (by decide)) ⟨Nat.zero_le _, Nat.zero_le _⟩ dX3_partsGoneIn_2 (fun r_2 M_2 h_2 => ?_)
  obtain ⟨rfl, rfl⟩ := h_2
  refine hc_if_eq C (tgt := 26) dX3_partsGoneIn_5 (by decide) (fun c_5 => ?_) (fun c_5 => ?_)
  · exact absurd ⟨nI_pos (by omega), by rw [hq]; exact nI_ge hk (by omega)⟩ (hb_z.mp c_5)
  refine hc_aload_n C dX3_partsGoneIn_8 rfl rfl ?_
  refine hc_getR C fl_X3_60 rfl rfl dX3_partsGoneIn_9 ?_
  refine hc_iload_n C dX3_partsGoneIn_12 rfl rfl ?_
  refine hc_iconst C dX3_partsGoneIn_13 (v := 1) rfl ?_
  refine hc_iadd C dX3_partsGoneIn_14 ?_
  refine hc_ialdN C (j := (k + 1)) rfl (nI_1 k) (by omega) dX3_partsGoneIn_15 ?_
  refine hc_aload_n C dX3_partsGoneIn_16 rfl rfl ?_
  refine hc_getR C fl_X3_60 rfl rfl dX3_partsGoneIn_17 ?_
  refine hc_iload_n C dX3_partsGoneIn_20 rfl rfl ?_
  refine hc_ialdN C (j := k) rfl rfl (by omega) dX3_partsGoneIn_21 ?_
  refine hc_isub C dX3_partsGoneIn_22 ?_
  refine hc_goto C (tgt := 27) dX3_partsGoneIn_23 (by decide) ?_
  refine hc_iret C rfl dX3_partsGoneIn_27 ?_
  exact ⟨rfl, rfl⟩

set_option maxRecDepth 100000 in
set_option maxHeartbeats 4000000 in
theorem c_X3_passQuarter {l : Launch} {G : hc_Geo} (hG : hc_ok G) {M : hc_Mem} {E q : Nat}  (hE : M 9 5 = nI E) (hE6 : E ≤ 6) (hq : M 9 2 = nI q) (hq9 : q < 999) : hc_M l G yX3_passQuarter cX3_passQuarter 2 none 4 [.ref (hc_ad G 9)] M (hc_pv (fun M' => hPass M E q = M')) := by
  refine hc_M.of hG (by decide) [some (.ref (hc_ad G 9)), none] rfl (Nat.le_of_ble_eq_true rfl) ?_
  intro p e s m args below meth c C
  refine hc_aload_n C dX3_passQuarter_0 rfl rfl ?_
  refine hc_getI C fl_X3_17 rfl rfl dX3_passQuarter_1 ?_
  refine hc_sipush C dX3_passQuarter_4 (v := 999) rfl ?_
  refine hc_icmp_lt C (tgt := 11) dX3_passQuarter_7 (by decide) (fun c_7 => ?_) (fun c_7 => ?_)
  rotate_left
  · rw [hq] at c_7
    exact absurd (show nI q < nI 999 from nI_lt hq9 (by omega)) c_7
  refine hc_aload_n C dX3_passQuarter_11 rfl rfl ?_
  refine hc_aload_n C dX3_passQuarter_12 rfl rfl ?_
  refine hc_cV0i C mv_X3_103 (c_X3_attending C.ok hE hE6) rfl rfl rfl (Nat.le_of_ble_eq_true rfl) (hc_rr_rm (by decide)) ⟨Nat.zero_le _, Nat.zero_le _⟩ dX3_passQuarter_13 (fun r_13 M_13 h_13 => ?_)
  obtain ⟨rfl, rfl⟩ := h_13
  refine hc_aload_n C dX3_passQuarter_16 rfl rfl ?_
  refine hc_getI C fl_X3_17 rfl rfl dX3_passQuarter_17 ?_
  refine hc_cV2i C mv_X3_121 (c_X3_partsOf C.ok hE hE6) rfl rfl rfl (Nat.le_of_ble_eq_true rfl) (hc_rr_rm (by decide)) ⟨Nat.zero_le _, Nat.zero_le _⟩ dX3_passQuarter_20 (fun r_20 M_20 h_20 => ?_)
  obtain ⟨rfl, rfl⟩ := h_20
  refine hc_istore_n1 C dX3_passQuarter_23 rfl (by decide) rfl ?_
  refine hc_aload_n C dX3_passQuarter_24 rfl rfl ?_
  refine hc_iload_n C dX3_passQuarter_25 rfl rfl ?_
  refine hc_bipush C dX3_passQuarter_26 (v := 12) rfl ?_
  refine hc_cV2v C mv_X3_128 (c_X3_growOlder C.ok hE hE6) rfl rfl rfl (Nat.le_of_ble_eq_true rfl) (hc_rr_rm (by decide)) ⟨Nat.zero_le _, Nat.zero_le _⟩ dX3_passQuarter_28 (fun M_28 h_28 => ?_)
  obtain rfl := h_28
  refine hc_aload_n C dX3_passQuarter_31 rfl rfl ?_
  refine hc_dup C dX3_passQuarter_32 rfl ?_
  refine hc_getI C fl_X3_20 rfl rfl dX3_passQuarter_33 ?_
  refine hc_iload_n C dX3_passQuarter_36 rfl rfl ?_
  refine hc_iadd C dX3_passQuarter_37 ?_
  refine hc_putI C fl_X3_20 pl_2_3 rfl rfl dX3_passQuarter_38 ?_
  refine hc_aload_n C dX3_passQuarter_41 rfl rfl ?_
  refine hc_dup C dX3_passQuarter_42 rfl ?_
  refine hc_getI C fl_X3_17 rfl rfl dX3_passQuarter_43 ?_
  refine hc_iconst C dX3_passQuarter_46 (v := 1) rfl ?_
  refine hc_iadd C dX3_passQuarter_47 ?_
  refine hc_top (v := nI (q + 1)) (show M 9 2 + 1 = nI (q + 1) by rw [hq, nI_1]) ?_
  refine hc_putI C fl_X3_17 pl_2_2 rfl rfl dX3_passQuarter_48 ?_
  refine hc_aload_n C dX3_passQuarter_51 rfl rfl ?_
  refine hc_getR C fl_X3_60 rfl rfl dX3_passQuarter_52 ?_
  refine hc_aload_n C dX3_passQuarter_55 rfl rfl ?_
  refine hc_getI C fl_X3_17 rfl rfl dX3_passQuarter_56 ?_
  refine hc_aload_n C dX3_passQuarter_59 rfl rfl ?_
  refine hc_getI C fl_X3_20 rfl rfl dX3_passQuarter_60 ?_
  refine hc_top2 (v := nI (q + 1)) (by simp [hc_ms, hc_mf, upd]) ?_
  refine hc_top (v := M 9 3 + hPar M E (hAtt M E) (M 9 2)) (by simp [hc_ms, hc_mf, upd, hGrow]) ?_
  refine hc_iastN C (j := (q + 1)) rfl rfl (by omega) dX3_passQuarter_63 ?_
  refine hc_vret C rfl dX3_passQuarter_64 ?_
  rfl

set_option maxRecDepth 100000 in
set_option maxHeartbeats 4000000 in
theorem c_X3_takeQuarterBack {l : Launch} {G : hc_Geo} (hG : hc_ok G) {M : hc_Mem} {E q : Nat}  (hE : M 9 5 = nI E) (hE6 : E ≤ 6) (hq : M 9 2 = nI (q + 1)) (hq9 : q < 999) : hc_M l G yX3_takeQuarterBack cX3_takeQuarterBack 1 none 3 [.ref (hc_ad G 9)] M (hc_pv (fun M' => hBack M E q = M')) := by
  refine hc_M.of hG (by decide) [some (.ref (hc_ad G 9))] rfl (Nat.le_of_ble_eq_true rfl) ?_
  intro p e s m args below meth c C
  refine hc_aload_n C dX3_takeQuarterBack_0 rfl rfl ?_
  refine hc_getI C fl_X3_17 rfl rfl dX3_takeQuarterBack_1 ?_
  refine hc_if_gt C (tgt := 8) dX3_takeQuarterBack_4 (by decide) (fun c_4 => ?_) (fun c_4 => ?_)
  rotate_left
  · exact absurd (by rw [hq]; exact nI_lt (show 0 < q + 1 by omega) (by omega)) c_4
  refine hc_aload_n C dX3_takeQuarterBack_8 rfl rfl ?_
  refine hc_dup C dX3_takeQuarterBack_9 rfl ?_
  refine hc_getI C fl_X3_17 rfl rfl dX3_takeQuarterBack_10 ?_
  refine hc_iconst C dX3_takeQuarterBack_13 (v := 1) rfl ?_
  refine hc_isub C dX3_takeQuarterBack_14 ?_
  refine hc_top (v := nI q) (show M 9 2 - 1 = nI q by rw [hq, nI_pred]) ?_
  refine hc_putI C fl_X3_17 pl_2_2 rfl rfl dX3_takeQuarterBack_15 ?_
  refine hc_aload_n C dX3_takeQuarterBack_18 rfl rfl ?_
  refine hc_aload_n C dX3_takeQuarterBack_19 rfl rfl ?_
  refine hc_getR C fl_X3_60 rfl rfl dX3_takeQuarterBack_20 ?_
  refine hc_aload_n C dX3_takeQuarterBack_23 rfl rfl ?_
  refine hc_getI C fl_X3_17 rfl rfl dX3_takeQuarterBack_24 ?_
  refine hc_ialdN C (j := q) rfl (by simp [hc_ms, hc_mf, upd]) (by omega) dX3_takeQuarterBack_27 ?_
  refine hc_aload_n C dX3_takeQuarterBack_28 rfl rfl ?_
  refine hc_getI C fl_X3_20 rfl rfl dX3_takeQuarterBack_29 ?_
  refine hc_isub C dX3_takeQuarterBack_32 ?_
  refine hc_top (v := M 19 q - M 9 3) (by simp [hc_ms, hc_mf, upd]) ?_
  refine hc_bipush C dX3_takeQuarterBack_33 (v := (-12)) rfl ?_
  refine hc_cV2v C mv_X3_128 (c_X3_growOlder (E := E) C.ok (by simp [hc_ms, hc_mf, upd, hE]) hE6) rfl rfl rfl (Nat.le_of_ble_eq_true rfl) (hc_rr_rm (by decide)) ⟨Nat.zero_le _, Nat.zero_le _⟩ dX3_takeQuarterBack_35 (fun M_35 h_35 => ?_)
  obtain rfl := h_35
  refine hc_aload_n C dX3_takeQuarterBack_38 rfl rfl ?_
  refine hc_aload_n C dX3_takeQuarterBack_39 rfl rfl ?_
  refine hc_getR C fl_X3_60 rfl rfl dX3_takeQuarterBack_40 ?_
  refine hc_aload_n C dX3_takeQuarterBack_43 rfl rfl ?_
  refine hc_getI C fl_X3_17 rfl rfl dX3_takeQuarterBack_44 ?_
  refine hc_ialdN C (j := q) rfl (by simp [hc_ms, hc_mf, upd, hGrow]) (by omega) dX3_takeQuarterBack_47 ?_
  refine hc_top (v := M 19 q) (by simp [hc_ms, hc_mf, upd, hGrow]) ?_
  refine hc_putI C fl_X3_20 pl_2_3 rfl rfl dX3_takeQuarterBack_48 ?_
  refine hc_vret C rfl dX3_takeQuarterBack_51 ?_
  rfl
