def cOk (n : Nat) (st : cSt) : Prop := st.1 ≤ 3 ∧ st.2.1 ≤ n ∧ st.2.2.1 ≤ 6 ∧ st.2.2.2.1 ≤ 4 ∧ st.2.2.2.2.1 ≤ 37
theorem cNum_ok {B : Nat → Int32} {n : Nat} {lo hi : Int32} {st : cSt} (h : cOk n st) : cOk n (cNum B n lo hi st) := by
  obtain ⟨h1, h2, h3, h4, h5⟩ := h
  have hf := cFig_le B (n - st.2.1) st.2.1
  unfold cNum
  split
  · exact ⟨by show 1 ≤ 3; omega, h2, h3, h4, h5⟩
  · split
    · exact ⟨by show 2 ≤ 3; omega, h2, h3, h4, h5⟩
    · rename_i q
      refine ⟨h1, by show st.2.1 + _ ≤ n; omega, h3, h4, ?_⟩
      show st.2.2.2.2.1 + 1 ≤ 37
      have : ¬ 37 ≤ st.2.2.2.2.1 := fun z => q (Or.inr (Or.inr z))
      omega
theorem cSign_ok {B : Nat → Int32} {n : Nat} {sg : Int32} {st : cSt} (hs : sg ≠ -1000000) (h : cOk n st) : cOk n (cSign B n sg st) := by
  have h2 := cSign_at (B := B) hs h.2.1
  obtain ⟨h1, -, h3, h4, h5⟩ := h
  revert h2
  unfold cSign
  split
  · split
    · intro h2; exact ⟨h1, h2, h3, h4, h5⟩
    · intro h2; exact ⟨by show 1 ≤ 3; omega, h2, h3, h4, h5⟩
  · intro h2; exact ⟨h1, h2, h3, h4, h5⟩
theorem cNums_ok {B : Nat → Int32} {n : Nat} {la lb : List Int32} : ∀ (t i : Nat) (st : cSt), cOk n st → cOk n (cNums B n la lb t i st) := by
  intro t
  induction t with
  | zero => intro i st h; exact h
  | succ t ih =>
    intro i st h
    unfold cNums
    split
    · exact ih _ _ (cSign_ok (by split <;> decide) (cNum_ok h))
    · exact h
theorem cEar_ok {B : Nat → Int32} {n : Nat} {kd : Int32} {st : cSt} (h : cOk n st) (ha : st.2.1 < n) : cOk n (cEar B n kd st) := by
  obtain ⟨h1, h2, h3, h4, h5⟩ := h
  unfold cEar
  split
  · exact ⟨by show 3 ≤ 3; omega, h2, h3, h4, h5⟩
  · exact cNums_ok _ _ _ ⟨h1, ha, by show st.2.2.1 + 1 ≤ 6; omega, h4, h5⟩
theorem cDoi_ok {B : Nat → Int32} {n : Nat} {st : cSt} (h : cOk n st) (ha : st.2.1 < n) : cOk n (cDoi B n st) := by
  obtain ⟨h1, h2, h3, h4, h5⟩ := h
  unfold cDoi
  split
  · exact ⟨by show 3 ≤ 3; omega, h2, h3, h4, h5⟩
  · exact cNums_ok _ _ _ ⟨h1, ha, h3, by show st.2.2.2.1 + 1 ≤ 4; omega, h5⟩
theorem cEars_ok {B : Nat → Int32} {n : Nat} : ∀ (t : Nat) (st : cSt), cOk n st → cOk n (cEars B n t st) := by
  intro t
  induction t with
  | zero => intro st h; exact h
  | succ t ih =>
    intro st h
    unfold cEars
    split
    · exact h
    · rename_i h1
      exact ih _ (cEar_ok h (cLet_b h1).2)
theorem cDois_ok {B : Nat → Int32} {n : Nat} : ∀ (t : Nat) (st : cSt), cOk n st → cOk n (cDois B n t st) := by
  intro t
  induction t with
  | zero => intro st h; exact h
  | succ t ih =>
    intro st h
    unfold cDois
    split
    · rename_i h1
      exact ih _ (cDoi_ok h (cByte_lt (by rw [h1]; decide)).2)
    · exact h
theorem cEnd_ok {n : Nat} {st : cSt} (h : cOk n st) : cOk n (cEnd n st) := by
  unfold cEnd
  split
  · exact ⟨by show 1 ≤ 3; omega, h.2⟩
  · exact h
theorem cHouse_ok {B : Nat → Int32} {n : Nat} {st : cSt} (h : cOk n st) : cOk n (cHouse B n st) := by
  unfold cHouse
  split
  · rename_i h1
    have ha := (cByte_lt (B := B) (n := n) (st := st) (by rw [h1]; decide)).2
    exact cEnd_ok (cDois_ok _ _ (cEars_ok _ _ (cNums_ok _ _ _ ⟨h.1, ha, h.2.2⟩)))
  · exact ⟨by show 1 ≤ 3; omega, h.2⟩
theorem cOk.f {n : Nat} {st : cSt} (h : cOk n st) : st.1 < 2 ^ 31 := by have := h.1; omega
theorem cOk.t {n : Nat} {st : cSt} (h : cOk n st) : st.2.2.2.2.1 < 2 ^ 31 := by have := h.2.2.2.2; omega

set_option maxRecDepth 100000 in
set_option maxHeartbeats 4000000 in
theorem lp_readNumbers {G : hc_Geo} {p : Program} {l : Launch} {e : Env} {s : State} {m : MethodId} {args : Array Value} {below : List Frame} {meth : Method} {c : Code} (C : hc_Cx G hc_lay cX6_readNumbers 4 none yX6_readNumbers.cls p s m args meth c) {M : hc_Mem} {n N a b : Nat} {qa qb : String × String × List Int32} (hn : M 5 1 = nI n) (hn1 : n ≤ 120) (ha : hc_sta[a]? = some qa) (hb : hc_sta[b]? = some qb) (hla : qa.2.2.length = N) (hlb : qb.2.2.length = N) (hN : N ≤ 4)  :
    ∀ (t : Nat) (i : Nat) (st : cSt), i + t = N → cOk n st → hc_W G hc_lay p l e (hc_rm 3) s m args below meth c 4 0 0 (MQ below (hc_Q G hc_lay (hc_pv (fun M' => mP M (cNums (M 6) n qa.2.2 qb.2.2 t i st) = M'))) args s 0 0 (hc_A G)) 2 [some (.ref (hc_ad G 5)), some (.ref (hc_sa G a)), some (.ref (hc_sa G b)), some (.int (nI i))] [] (mP M st) := by
  intro t
  induction t with
  | zero =>
    intro i st hi ho
    refine hc_iload_n C dX6_readNumbers_2 rfl rfl ?_
    refine hc_aload_n C dX6_readNumbers_3 rfl rfl ?_
    refine hc_slen C ha (v := nI N) (by rw [hla]; rfl) dX6_readNumbers_4 ?_
    refine hc_icmp_ge C (tgt := 56) dX6_readNumbers_5 (by decide) (fun c_5 => ?_) (fun c_5 => ?_)
    rotate_left
    · exact absurd (nI_le (show N ≤ i by omega) (by omega)) c_5
    refine hc_vret C rfl dX6_readNumbers_56 ?_
    rfl
  | succ t ih =>
    intro i st hi ho
    refine hc_iload_n C dX6_readNumbers_2 rfl rfl ?_
    refine hc_aload_n C dX6_readNumbers_3 rfl rfl ?_
    refine hc_slen C ha (v := nI N) (by rw [hla]; rfl) dX6_readNumbers_4 ?_
    refine hc_icmp_ge C (tgt := 56) dX6_readNumbers_5 (by decide) (fun c_5 => ?_) (fun c_5 => ?_)
    · exact absurd c_5 (nI_ge (show i < N by omega) (by omega))
    refine hc_iload_n C dX6_readNumbers_8 rfl rfl ?_
    refine hc_aload_n C dX6_readNumbers_9 rfl rfl ?_
    refine hc_slen C hb (v := nI N) (by rw [hlb]; rfl) dX6_readNumbers_10 ?_
    refine hc_icmp_ge C (tgt := 56) dX6_readNumbers_11 (by decide) (fun c_11 => ?_) (fun c_11 => ?_)
    · exact absurd c_11 (nI_ge (show i < N by omega) (by omega))
    refine hc_aload_n C dX6_readNumbers_14 rfl rfl ?_
    refine hc_getI C fl_X6_21 rfl rfl dX6_readNumbers_15 ?_
    refine hc_if_ne C (tgt := 56) dX6_readNumbers_18 (by decide) (fun c_18 => ?_) (fun c_18 => ?_)
    · refine hc_vret C rfl dX6_readNumbers_56 ?_
      show _ = _
      rw [cNums, if_neg (fun q => c_18 (show nI st.1 = 0 by rw [q]; rfl))]
    · have hf0 : st.1 = 0 := (nI_eq ho.f (by decide)).mp c_18
      refine hc_aload_n C dX6_readNumbers_21 rfl rfl ?_
      refine hc_aload_n C dX6_readNumbers_22 rfl rfl ?_
      refine hc_iload_n C dX6_readNumbers_23 rfl rfl ?_
      refine hc_sald C (v := qa.2.2.getD i 0) ha (by rw [hla]; exact vp_in_nI (show i < N by omega) (by omega)) (by rw [nI_clamp (by omega)]) dX6_readNumbers_24 ?_
      refine hc_aload_n C dX6_readNumbers_25 rfl rfl ?_
      refine hc_iload_n C dX6_readNumbers_26 rfl rfl ?_
      refine hc_sald C (v := qb.2.2.getD i 0) hb (by rw [hlb]; exact vp_in_nI (show i < N by omega) (by omega)) (by rw [nI_clamp (by omega)]) dX6_readNumbers_27 ?_
      refine hc_cV2v C mv_X6_86 (c_X6_readNumber C.ok hn hn1 ho.2.1 ho.t) rfl rfl rfl (Nat.le_of_ble_eq_true rfl) (hc_rr_rm (by decide)) ⟨Nat.zero_le _, Nat.zero_le _⟩ dX6_readNumbers_28 (fun M_28 h_28 => ?_)
      obtain rfl := h_28
      refine hc_aload_n C dX6_readNumbers_31 rfl rfl ?_
      refine hc_iload_n C dX6_readNumbers_32 rfl rfl ?_
      refine hc_aload_n C dX6_readNumbers_33 rfl rfl ?_
      refine hc_slen C ha (v := nI N) (by rw [hla]; rfl) dX6_readNumbers_34 ?_
      refine hc_iconst C dX6_readNumbers_35 (v := 1) rfl ?_
      refine hc_isub C dX6_readNumbers_36 ?_
      refine hc_top (v := nI (N - 1)) (by rw [show (1 : Int32) = nI 1 from rfl, pk_sub (by omega)]) ?_
      refine hc_icmp_ne C (tgt := 45) dX6_readNumbers_37 (by decide) (fun c_37 => ?_) (fun c_37 => ?_)
      · have ht0 : ¬ t = 0 := fun q => c_37 (congrArg nI (by omega))
        refine hc_bipush C dX6_readNumbers_45 (v := 44) rfl ?_
        refine hc_cV1v C mv_X6_90 (c_X6_readSign C.ok hn hn1 (cNum_ok ho).2.1 (cNum_ok ho).f) rfl rfl rfl (Nat.le_of_ble_eq_true rfl) (hc_rr_rm (by decide)) ⟨Nat.zero_le _, Nat.zero_le _⟩ dX6_readNumbers_47 (fun M_47 h_47 => ?_)
        obtain rfl := h_47
        refine hc_iinc3 C (v := nI (i + 1)) dX6_readNumbers_50 (by decide) rfl rfl (nI_1 i) ?_
        refine hc_goto C (tgt := 2) dX6_readNumbers_53 (by decide) ?_
        rw [cNums, if_pos hf0]
        first
          | (rw [if_pos ht0]; exact ih (i + 1) _ (by omega) (cSign_ok (by decide) (cNum_ok ho)))
          | (rw [if_neg ht0]; exact ih (i + 1) _ (by omega) (cSign_ok (by decide) (cNum_ok ho)))
      · have ht0 : t = 0 := by
          have := (nI_eq (by omega) (by omega)).mp c_37
          omega
        refine hc_bipush C dX6_readNumbers_40 (v := 59) rfl ?_
        refine hc_goto C (tgt := 47) dX6_readNumbers_42 (by decide) ?_
        refine hc_cV1v C mv_X6_90 (c_X6_readSign C.ok hn hn1 (cNum_ok ho).2.1 (cNum_ok ho).f) rfl rfl rfl (Nat.le_of_ble_eq_true rfl) (hc_rr_rm (by decide)) ⟨Nat.zero_le _, Nat.zero_le _⟩ dX6_readNumbers_47 (fun M_47 h_47 => ?_)
        obtain rfl := h_47
        refine hc_iinc3 C (v := nI (i + 1)) dX6_readNumbers_50 (by decide) rfl rfl (nI_1 i) ?_
        refine hc_goto C (tgt := 2) dX6_readNumbers_53 (by decide) ?_
        rw [cNums, if_pos hf0]
        first
          | (rw [if_pos ht0]; exact ih (i + 1) _ (by omega) (cSign_ok (by decide) (cNum_ok ho)))
          | (rw [if_neg ht0]; exact ih (i + 1) _ (by omega) (cSign_ok (by decide) (cNum_ok ho)))

set_option maxRecDepth 100000 in
set_option maxHeartbeats 4000000 in
theorem c_X6_readNumbers {l : Launch} {G : hc_Geo} (hG : hc_ok G) {M : hc_Mem} {N a b : Nat} {qa qb : String × String × List Int32} {n : Nat} {st : cSt}  (ha : hc_sta[a]? = some qa) (hb : hc_sta[b]? = some qb) (hla : qa.2.2.length = N) (hlb : qb.2.2.length = N) (hN : N ≤ 4) (hn : M 5 1 = nI n) (hn1 : n ≤ 120) (ho : cOk n st) : hc_M l G yX6_readNumbers cX6_readNumbers 4 none 3 [.ref (hc_ad G 5), .ref (hc_sa G a), .ref (hc_sa G b)] (mP M st) (hc_pv (fun M' => mP M (cNums (M 6) n qa.2.2 qb.2.2 N 0 st) = M')) := by
  refine hc_M.of hG (by decide) [some (.ref (hc_ad G 5)), some (.ref (hc_sa G a)), some (.ref (hc_sa G b)), none] rfl (Nat.le_of_ble_eq_true rfl) ?_
  intro p e s m args below meth c C
  refine hc_iconst C dX6_readNumbers_0 (v := 0) rfl ?_
  refine hc_istore_n3 C dX6_readNumbers_1 rfl (by decide) rfl ?_
  exact lp_readNumbers C hn hn1 ha hb hla hlb hN N 0 st (by omega) ho

set_option maxRecDepth 100000 in
set_option maxHeartbeats 4000000 in
theorem c_X4_ofLetter {l : Launch} {G : hc_Geo} (hG : hc_ok G) {M : hc_Mem} {x0 : Int32}  : hc_M l G yX4_ofLetter cX4_ofLetter 1 (some .int) 1 [.int x0] M (hc_pi (fun z M' => cLet x0 = z ∧ M = M')) := by
  refine hc_M.of hG (by decide) [some (.int x0)] rfl (Nat.le_of_ble_eq_true rfl) ?_
  intro p e s m args below meth c C
  refine hc_iload_n C dX4_ofLetter_0 rfl rfl ?_
  by_cases h100 : x0 = 100
  · refine hc_top h100 ?_
    refine hc_lookup C (off := 59) (tgt := 60) dX4_ofLetter_1 (by decide) (by decide) (by decide) ?_
    refine hc_iconst C dX4_ofLetter_60 (v := 5) rfl ?_
    refine hc_iret C rfl dX4_ofLetter_61 ?_
    exact ⟨by rw [h100]; rfl, rfl⟩
  by_cases h107 : x0 = 107
  · refine hc_top h107 ?_
    refine hc_lookup C (off := 57) (tgt := 58) dX4_ofLetter_1 (by decide) (by decide) (by decide) ?_
    refine hc_iconst C dX4_ofLetter_58 (v := 4) rfl ?_
    refine hc_iret C rfl dX4_ofLetter_59 ?_
    exact ⟨by rw [h107]; rfl, rfl⟩
  by_cases h112 : x0 = 112
  · refine hc_top h112 ?_
    refine hc_lookup C (off := 51) (tgt := 52) dX4_ofLetter_1 (by decide) (by decide) (by decide) ?_
    refine hc_iconst C dX4_ofLetter_52 (v := 1) rfl ?_
    refine hc_iret C rfl dX4_ofLetter_53 ?_
    exact ⟨by rw [h112]; rfl, rfl⟩
  by_cases h116 : x0 = 116
  · refine hc_top h116 ?_
    refine hc_lookup C (off := 55) (tgt := 56) dX4_ofLetter_1 (by decide) (by decide) (by decide) ?_
    refine hc_iconst C dX4_ofLetter_56 (v := 3) rfl ?_
    refine hc_iret C rfl dX4_ofLetter_57 ?_
    exact ⟨by rw [h116]; rfl, rfl⟩
  by_cases h119 : x0 = 119
  · refine hc_top h119 ?_
    refine hc_lookup C (off := 53) (tgt := 54) dX4_ofLetter_1 (by decide) (by decide) (by decide) ?_
    refine hc_iconst C dX4_ofLetter_54 (v := 2) rfl ?_
    refine hc_iret C rfl dX4_ofLetter_55 ?_
    exact ⟨by rw [h119]; rfl, rfl⟩
  refine hc_lookup C (off := 61) (tgt := 62) dX4_ofLetter_1 (by decide) (by show Op.lookupswitch.offset [(100, 59), (107, 57), (112, 51), (116, 55), (119, 53)] 61 x0.toInt = 61; rw [lv_osw (a := 100) h100 rfl, lv_osw (a := 107) h107 rfl, lv_osw (a := 112) h112 rfl, lv_osw (a := 116) h116 rfl, lv_osw (a := 119) h119 rfl]; rfl) (by decide) ?_
  refine hc_iconst C dX4_ofLetter_62 (v := 0) rfl ?_
  refine hc_iret C rfl dX4_ofLetter_63 ?_
  exact ⟨by unfold cLet; rw [if_neg h100, if_neg h107, if_neg h112, if_neg h116, if_neg h119], rfl⟩

set_option maxRecDepth 100000 in
set_option maxHeartbeats 4000000 in
theorem c_X6_readEar {l : Launch} {G : hc_Geo} (hG : hc_ok G) {M : hc_Mem} {kd : Int32} {n : Nat} {st : cSt}  (hn : M 5 1 = nI n) (hn1 : n ≤ 120) (ho : cOk n st) (hlt : st.2.1 < n) : hc_M l G yX6_readEar cX6_readEar 2 none 4 [.ref (hc_ad G 5), .int kd] (mP M st) (hc_pv (fun M' => mP M (cEar (M 6) n kd st) = M')) := by
  refine hc_M.of hG (by decide) [some (.ref (hc_ad G 5)), some (.int kd)] rfl (Nat.le_of_ble_eq_true rfl) ?_
  intro p e s m args below meth c C
  refine hc_aload_n C dX6_readEar_0 rfl rfl ?_
  refine hc_getI C fl_X6_30 rfl rfl dX6_readEar_1 ?_
  refine hc_bipush C dX6_readEar_4 (v := 6) rfl ?_
  refine hc_icmp_lt C (tgt := 15) dX6_readEar_6 (by decide) (fun c_6 => ?_) (fun c_6 => ?_)
  · have he6 : st.2.2.1 < 6 := by
      rcases Nat.lt_or_ge st.2.2.1 6 with h | h
      · exact h
      · exact absurd (show nI st.2.2.1 < nI 6 from c_6) (nI_nlt h (by have := ho.2.2.1; omega))
    refine hc_aload_n C dX6_readEar_15 rfl rfl ?_
    refine hc_getR C fl_X6_27 rfl rfl dX6_readEar_16 ?_
    refine hc_aload_n C dX6_readEar_19 rfl rfl ?_
    refine hc_getI C fl_X6_30 rfl rfl dX6_readEar_20 ?_
    refine hc_iload_n C dX6_readEar_23 rfl rfl ?_
    refine hc_iastN C (j := st.2.2.1) rfl rfl he6 dX6_readEar_24 ?_
    refine hc_mem mP_k ?_
    refine hc_aload_n C dX6_readEar_25 rfl rfl ?_
    refine hc_dup C dX6_readEar_26 rfl ?_
    refine hc_getI C fl_X6_30 rfl rfl dX6_readEar_27 ?_
    refine hc_iconst C dX6_readEar_30 (v := 1) rfl ?_
    refine hc_iadd C dX6_readEar_31 ?_
    refine hc_top (nI_1 st.2.2.1) ?_
    refine hc_putI C fl_X6_30 pl_4_5 rfl rfl dX6_readEar_32 ?_
    refine hc_mem (mP_e _) ?_
    refine hc_aload_n C dX6_readEar_35 rfl rfl ?_
    refine hc_dup C dX6_readEar_36 rfl ?_
    refine hc_getI C fl_X6_24 rfl rfl dX6_readEar_37 ?_
    refine hc_iconst C dX6_readEar_40 (v := 1) rfl ?_
    refine hc_iadd C dX6_readEar_41 ?_
    refine hc_top (nI_1 st.2.1) ?_
    refine hc_putI C fl_X6_24 pl_4_3 rfl rfl dX6_readEar_42 ?_
    refine hc_mem (mP_a _) ?_
    refine hc_aload_n C dX6_readEar_45 rfl rfl ?_
    refine hc_gets C (i := 2) rfl sl_X6_74 dX6_readEar_46 ?_
    refine hc_gets C (i := 3) rfl sl_X6_77 dX6_readEar_49 ?_
    refine hc_cV2v C mv_X6_57 (c_X6_readNumbers (N := 4) C.ok rfl rfl rfl rfl (by decide) hn hn1 (show cOk n _ from ⟨ho.1, hlt, he6, ho.2.2.2⟩)) rfl rfl rfl (Nat.le_of_ble_eq_true rfl) (hc_rr_rm (by decide)) ⟨Nat.zero_le _, Nat.zero_le _⟩ dX6_readEar_52 (fun M_52 h_52 => ?_)
    obtain rfl := h_52
    refine hc_vret C rfl dX6_readEar_55 ?_
    show _ = _
    unfold cEar
    rw [if_neg (by omega)]
  · refine hc_aload_n C dX6_readEar_9 rfl rfl ?_
    refine hc_iconst C dX6_readEar_10 (v := 3) rfl ?_
    refine hc_putI C fl_X6_21 pl_4_2 rfl rfl dX6_readEar_11 ?_
    refine hc_mem (mP_f 3) ?_
    refine hc_vret C rfl dX6_readEar_14 ?_
    show _ = _
    unfold cEar
    rw [if_pos (by { rcases Nat.lt_or_ge st.2.2.1 6 with h | h; exact absurd (show nI st.2.2.1 < nI 6 from nI_lt h (by decide)) c_6; exact h })]

set_option maxRecDepth 100000 in
set_option maxHeartbeats 4000000 in
theorem c_X6_readDoing {l : Launch} {G : hc_Geo} (hG : hc_ok G) {M : hc_Mem} {n : Nat} {st : cSt}  (hn : M 5 1 = nI n) (hn1 : n ≤ 120) (ho : cOk n st) (hlt : st.2.1 < n) : hc_M l G yX6_readDoing cX6_readDoing 1 none 4 [.ref (hc_ad G 5)] (mP M st) (hc_pv (fun M' => mP M (cDoi (M 6) n st) = M')) := by
  refine hc_M.of hG (by decide) [some (.ref (hc_ad G 5))] rfl (Nat.le_of_ble_eq_true rfl) ?_
  intro p e s m args below meth c C
  refine hc_aload_n C dX6_readDoing_0 rfl rfl ?_
  refine hc_getI C fl_X6_33 rfl rfl dX6_readDoing_1 ?_
  refine hc_iconst C dX6_readDoing_4 (v := 4) rfl ?_
  refine hc_icmp_lt C (tgt := 14) dX6_readDoing_5 (by decide) (fun c_5 => ?_) (fun c_5 => ?_)
  · have he6 : st.2.2.2.1 < 4 := by
      rcases Nat.lt_or_ge st.2.2.2.1 4 with h | h
      · exact h
      · exact absurd (show nI st.2.2.2.1 < nI 4 from c_5) (nI_nlt h (by have := ho.2.2.2.1; omega))
    refine hc_aload_n C dX6_readDoing_14 rfl rfl ?_
    refine hc_dup C dX6_readDoing_15 rfl ?_
    refine hc_getI C fl_X6_33 rfl rfl dX6_readDoing_16 ?_
    refine hc_iconst C dX6_readDoing_19 (v := 1) rfl ?_
    refine hc_iadd C dX6_readDoing_20 ?_
    refine hc_top (nI_1 st.2.2.2.1) ?_
    refine hc_putI C fl_X6_33 pl_4_6 rfl rfl dX6_readDoing_21 ?_
    refine hc_mem (mP_d _) ?_
    refine hc_aload_n C dX6_readDoing_24 rfl rfl ?_
    refine hc_dup C dX6_readDoing_25 rfl ?_
    refine hc_getI C fl_X6_24 rfl rfl dX6_readDoing_26 ?_
    refine hc_iconst C dX6_readDoing_29 (v := 1) rfl ?_
    refine hc_iadd C dX6_readDoing_30 ?_
    refine hc_top (nI_1 st.2.1) ?_
    refine hc_putI C fl_X6_24 pl_4_3 rfl rfl dX6_readDoing_31 ?_
    refine hc_mem (mP_a _) ?_
    refine hc_aload_n C dX6_readDoing_34 rfl rfl ?_
    refine hc_gets C (i := 4) rfl sl_X6_80 dX6_readDoing_35 ?_
    refine hc_gets C (i := 5) rfl sl_X6_83 dX6_readDoing_38 ?_
    refine hc_cV2v C mv_X6_57 (c_X6_readNumbers (N := 3) C.ok rfl rfl rfl rfl (by decide) hn hn1 (show cOk n _ from ⟨ho.1, hlt, ho.2.2.1, he6, ho.2.2.2.2⟩)) rfl rfl rfl (Nat.le_of_ble_eq_true rfl) (hc_rr_rm (by decide)) ⟨Nat.zero_le _, Nat.zero_le _⟩ dX6_readDoing_41 (fun M_41 h_41 => ?_)
    obtain rfl := h_41
    refine hc_vret C rfl dX6_readDoing_44 ?_
    show _ = _
    unfold cDoi
    rw [if_neg (by omega)]
  · refine hc_aload_n C dX6_readDoing_8 rfl rfl ?_
    refine hc_iconst C dX6_readDoing_9 (v := 3) rfl ?_
    refine hc_putI C fl_X6_21 pl_4_2 rfl rfl dX6_readDoing_10 ?_
    refine hc_mem (mP_f 3) ?_
    refine hc_vret C rfl dX6_readDoing_13 ?_
    show _ = _
    unfold cDoi
    rw [if_pos (by { rcases Nat.lt_or_ge st.2.2.2.1 4 with h | h; exact absurd (show nI st.2.2.2.1 < nI 4 from nI_lt h (by decide)) c_5; exact h })]

set_option maxRecDepth 100000 in
set_option maxHeartbeats 4000000 in
theorem lp_cEars {G : hc_Geo} {p : Program} {l : Launch} {e : Env} {d : Nat} {s : State} {m : MethodId} {args : Array Value} {below : List Frame} {meth : Method} {c : Code} {Q : State → Prop} (C : hc_Cx G hc_lay cX6_readHouse 2 none yX6_readHouse.cls p s m args meth c) {M : hc_Mem} {n : Nat} {stf : cSt} (hd : 4 < d) (hn : M 5 1 = nI n) (hn1 : n ≤ 120) (kk : ∀ i : Nat, hc_W G hc_lay p l e (hc_rm d) s m args below meth c 2 0 0 Q 70 [some (.ref (hc_ad G 5)), some (.int (nI i))] [] (mP M stf))  :
    ∀ (t : Nat) (i : Nat) (st : cSt), i + t = 7 → cOk n st → cEars (M 6) n t st = stf → hc_W G hc_lay p l e (hc_rm d) s m args below meth c 2 0 0 Q 37 [some (.ref (hc_ad G 5)), some (.int (nI i))] [] (mP M st) := by
  intro t
  induction t with
  | zero =>
    intro i st hi ho hst
    refine hc_iload_n C dX6_readHouse_37 rfl rfl ?_
    refine hc_bipush C dX6_readHouse_38 (v := 6) rfl ?_
    refine hc_icmp_gt C (tgt := 70) dX6_readHouse_40 (by decide) (fun c_40 => ?_) (fun c_40 => ?_)
    rotate_left
    · exact absurd (show nI 6 < nI i from nI_lt (by omega) (by omega)) c_40
    obtain rfl : st = stf := hst
    exact kk i
  | succ t ih =>
    intro i st hi ho hst
    refine hc_iload_n C dX6_readHouse_37 rfl rfl ?_
    refine hc_bipush C dX6_readHouse_38 (v := 6) rfl ?_
    refine hc_icmp_gt C (tgt := 70) dX6_readHouse_40 (by decide) (fun c_40 => ?_) (fun c_40 => ?_)
    · exact absurd (show nI 6 < nI i from c_40) (nI_nlt (by omega) (by omega))
    refine hc_aload_n C dX6_readHouse_43 rfl rfl ?_
    refine hc_cV0i C mv_X6_47 (c_X6_byteHere C.ok hn hn1 ho.2.1 ho.f) rfl rfl rfl (Nat.le_of_ble_eq_true rfl) (hc_rr_rm (Nat.lt_trans (by decide) hd)) ⟨Nat.zero_le _, Nat.zero_le _⟩ dX6_readHouse_44 (fun r_44 M_44 h_44 => ?_)
    obtain ⟨rfl, rfl⟩ := h_44
    refine hc_cS1i C ms_X6_61 (c_X4_ofLetter C.ok) (Nat.le_of_ble_eq_true rfl) (hc_rr_rm (Nat.lt_trans (by decide) hd)) ⟨Nat.zero_le _, Nat.zero_le _⟩ dX6_readHouse_47 (fun r_47 M_47 h_47 => ?_)
    obtain ⟨rfl, rfl⟩ := h_47
    refine hc_if_eq C (tgt := 70) dX6_readHouse_50 (by decide) (fun c_50 => ?_) (fun c_50 => ?_)
    · rw [cEars, if_pos c_50] at hst
      obtain rfl : st = stf := hst
      exact kk i
    · refine hc_aload_n C dX6_readHouse_53 rfl rfl ?_
      refine hc_aload_n C dX6_readHouse_54 rfl rfl ?_
      refine hc_cV0i C mv_X6_47 (c_X6_byteHere C.ok hn hn1 ho.2.1 ho.f) rfl rfl rfl (Nat.le_of_ble_eq_true rfl) (hc_rr_rm (Nat.lt_trans (by decide) hd)) ⟨Nat.zero_le _, Nat.zero_le _⟩ dX6_readHouse_55 (fun r_55 M_55 h_55 => ?_)
      obtain ⟨rfl, rfl⟩ := h_55
      refine hc_cS1i C ms_X6_61 (c_X4_ofLetter C.ok) (Nat.le_of_ble_eq_true rfl) (hc_rr_rm (Nat.lt_trans (by decide) hd)) ⟨Nat.zero_le _, Nat.zero_le _⟩ dX6_readHouse_58 (fun r_58 M_58 h_58 => ?_)
      obtain ⟨rfl, rfl⟩ := h_58
      refine hc_cV1v C mv_X6_67 (c_X6_readEar C.ok hn hn1 ho (cLet_b c_50).2) rfl rfl rfl (Nat.le_of_ble_eq_true rfl) (hc_rr_rm hd) ⟨Nat.zero_le _, Nat.zero_le _⟩ dX6_readHouse_61 (fun M_61 h_61 => ?_)
      obtain rfl := h_61
      refine hc_iinc1 C (v := nI (i + 1)) dX6_readHouse_64 (by decide) rfl rfl (nI_1 i) ?_
      refine hc_goto C (tgt := 37) dX6_readHouse_67 (by decide) ?_
      rw [cEars, if_neg c_50] at hst
      exact ih (i + 1) _ (by omega) (cEar_ok ho (cLet_b c_50).2) hst

set_option maxRecDepth 100000 in
set_option maxHeartbeats 4000000 in
theorem lp_cDois {G : hc_Geo} {p : Program} {l : Launch} {e : Env} {d : Nat} {s : State} {m : MethodId} {args : Array Value} {below : List Frame} {meth : Method} {c : Code} {Q : State → Prop} (C : hc_Cx G hc_lay cX6_readHouse 2 none yX6_readHouse.cls p s m args meth c) {M : hc_Mem} {n : Nat} {stf : cSt} (hd : 4 < d) (hn : M 5 1 = nI n) (hn1 : n ≤ 120) (kk : ∀ i : Nat, hc_W G hc_lay p l e (hc_rm d) s m args below meth c 2 0 0 Q 96 [some (.ref (hc_ad G 5)), some (.int (nI i))] [] (mP M stf))  :
    ∀ (t : Nat) (i : Nat) (st : cSt), i + t = 5 → cOk n st → cDois (M 6) n t st = stf → hc_W G hc_lay p l e (hc_rm d) s m args below meth c 2 0 0 Q 72 [some (.ref (hc_ad G 5)), some (.int (nI i))] [] (mP M st) := by
  intro t
  induction t with
  | zero =>
    intro i st hi ho hst
    refine hc_iload_n C dX6_readHouse_72 rfl rfl ?_
    refine hc_iconst C dX6_readHouse_73 (v := 4) rfl ?_
    refine hc_icmp_gt C (tgt := 96) dX6_readHouse_74 (by decide) (fun c_74 => ?_) (fun c_74 => ?_)
    rotate_left
    · exact absurd (show nI 4 < nI i from nI_lt (by omega) (by omega)) c_74
    obtain rfl : st = stf := hst
    exact kk i
  | succ t ih =>
    intro i st hi ho hst
    refine hc_iload_n C dX6_readHouse_72 rfl rfl ?_
    refine hc_iconst C dX6_readHouse_73 (v := 4) rfl ?_
    refine hc_icmp_gt C (tgt := 96) dX6_readHouse_74 (by decide) (fun c_74 => ?_) (fun c_74 => ?_)
    · exact absurd (show nI 4 < nI i from c_74) (nI_nlt (by omega) (by omega))
    refine hc_aload_n C dX6_readHouse_77 rfl rfl ?_
    refine hc_cV0i C mv_X6_47 (c_X6_byteHere C.ok hn hn1 ho.2.1 ho.f) rfl rfl rfl (Nat.le_of_ble_eq_true rfl) (hc_rr_rm (Nat.lt_trans (by decide) hd)) ⟨Nat.zero_le _, Nat.zero_le _⟩ dX6_readHouse_78 (fun r_78 M_78 h_78 => ?_)
    obtain ⟨rfl, rfl⟩ := h_78
    refine hc_bipush C dX6_readHouse_81 (v := 120) rfl ?_
    refine hc_icmp_ne C (tgt := 96) dX6_readHouse_83 (by decide) (fun c_83 => ?_) (fun c_83 => ?_)
    · rw [cDois, if_neg c_83] at hst
      obtain rfl : st = stf := hst
      exact kk i
    · refine hc_aload_n C dX6_readHouse_86 rfl rfl ?_
      refine hc_cV0v C mv_X6_71 (c_X6_readDoing C.ok hn hn1 ho (cByte_lt (by rw [c_83]; decide)).2) rfl rfl rfl (Nat.le_of_ble_eq_true rfl) (hc_rr_rm hd) ⟨Nat.zero_le _, Nat.zero_le _⟩ dX6_readHouse_87 (fun M_87 h_87 => ?_)
      obtain rfl := h_87
      refine hc_iinc1 C (v := nI (i + 1)) dX6_readHouse_90 (by decide) rfl rfl (nI_1 i) ?_
      refine hc_goto C (tgt := 72) dX6_readHouse_93 (by decide) ?_
      rw [cDois, if_pos c_83] at hst
      exact ih (i + 1) _ (by omega) (cDoi_ok ho (cByte_lt (by rw [c_83]; decide)).2) hst

set_option maxRecDepth 100000 in
set_option maxHeartbeats 4000000 in
theorem lp_cEnd {G : hc_Geo} {p : Program} {l : Launch} {e : Env} {s : State} {m : MethodId} {args : Array Value} {below : List Frame} {meth : Method} {c : Code} (C : hc_Cx G hc_lay cX6_readHouse 2 none yX6_readHouse.cls p s m args meth c) {M : hc_Mem} {n : Nat} {st stf : cSt} {i : Int32} (hn : M 5 1 = nI n) (hn1 : n ≤ 120) (ho2 : cOk n st) (hstf : cEnd n st = stf) : hc_W G hc_lay p l e (hc_rm 5) s m args below meth c 2 0 0 (MQ below (hc_Q G hc_lay (hc_pv (fun M' => mP M stf = M'))) args s 0 0 (hc_A G)) 96 [some (.ref (hc_ad G 5)), some (.int i)] [] (mP M st) := by
  refine hc_aload_n C dX6_readHouse_96 rfl rfl ?_
  refine hc_getI C fl_X6_21 rfl rfl dX6_readHouse_97 ?_
  refine hc_if_ne C (tgt := 119) dX6_readHouse_100 (by decide) (fun c_100 => ?_) (fun c_100 => ?_)
  · refine hc_vret C rfl dX6_readHouse_119 ?_
    show _ = _
    rw [← hstf]
    unfold cEnd
    first
      | rw [if_neg (fun q => c_100 (show nI st.1 = 0 by rw [q.1]; rfl))]
      | (have h2 : M 5 1 ≤ nI st.2.1 := c_111; rw [hn] at h2; rw [if_neg (fun q => absurd h2 (nI_ge q.2 (by omega)))])
      | (have h2 : ¬ M 5 1 ≤ nI st.2.1 := c_111; rw [hn] at h2; rw [if_pos ⟨(nI_eq ho2.f (by decide)).mp c_100, by { rcases Nat.lt_or_ge st.2.1 n with h | h; exact h; exact absurd (nI_le h (by have := ho2.2.1; omega)) h2 }⟩])
  · refine hc_aload_n C dX6_readHouse_103 rfl rfl ?_
    refine hc_getI C fl_X6_24 rfl rfl dX6_readHouse_104 ?_
    refine hc_aload_n C dX6_readHouse_107 rfl rfl ?_
    refine hc_getI C fl_X6_17 rfl rfl dX6_readHouse_108 ?_
    refine hc_icmp_ge C (tgt := 119) dX6_readHouse_111 (by decide) (fun c_111 => ?_) (fun c_111 => ?_)
    · refine hc_vret C rfl dX6_readHouse_119 ?_
      show _ = _
      rw [← hstf]
      unfold cEnd
      first
        | rw [if_neg (fun q => c_100 (show nI st.1 = 0 by rw [q.1]; rfl))]
        | (have h2 : M 5 1 ≤ nI st.2.1 := c_111; rw [hn] at h2; rw [if_neg (fun q => absurd h2 (nI_ge q.2 (by omega)))])
        | (have h2 : ¬ M 5 1 ≤ nI st.2.1 := c_111; rw [hn] at h2; rw [if_pos ⟨(nI_eq ho2.f (by decide)).mp c_100, by { rcases Nat.lt_or_ge st.2.1 n with h | h; exact h; exact absurd (nI_le h (by have := ho2.2.1; omega)) h2 }⟩])
    · refine hc_aload_n C dX6_readHouse_114 rfl rfl ?_
      refine hc_iconst C dX6_readHouse_115 (v := 1) rfl ?_
      refine hc_putI C fl_X6_21 pl_4_2 rfl rfl dX6_readHouse_116 ?_
      refine hc_mem (mP_f 1) ?_
      refine hc_vret C rfl dX6_readHouse_119 ?_
      show _ = _
      rw [← hstf]
      unfold cEnd
      first
        | rw [if_neg (fun q => c_100 (show nI st.1 = 0 by rw [q.1]; rfl))]
        | (have h2 : M 5 1 ≤ nI st.2.1 := c_111; rw [hn] at h2; rw [if_neg (fun q => absurd h2 (nI_ge q.2 (by omega)))])
        | (have h2 : ¬ M 5 1 ≤ nI st.2.1 := c_111; rw [hn] at h2; rw [if_pos ⟨(nI_eq ho2.f (by decide)).mp c_100, by { rcases Nat.lt_or_ge st.2.1 n with h | h; exact h; exact absurd (nI_le h (by have := ho2.2.1; omega)) h2 }⟩])

set_option maxRecDepth 100000 in
set_option maxHeartbeats 4000000 in
theorem c_X6_readHouse {l : Launch} {G : hc_Geo} (hG : hc_ok G) {M : hc_Mem} {n : Nat} {st : cSt}  (hn : M 5 1 = nI n) (hn1 : n ≤ 120) (ho : cOk n st) : hc_M l G yX6_readHouse cX6_readHouse 2 none 5 [.ref (hc_ad G 5)] (mP M st) (hc_pv (fun M' => mP M (cHouse (M 6) n st) = M')) := by
  refine hc_M.of hG (by decide) [some (.ref (hc_ad G 5)), none] rfl (Nat.le_of_ble_eq_true rfl) ?_
  intro p e s m args below meth c C
  refine hc_aload_n C dX6_readHouse_0 rfl rfl ?_
  refine hc_cV0i C mv_X6_47 (c_X6_byteHere C.ok hn hn1 ho.2.1 ho.f) rfl rfl rfl (Nat.le_of_ble_eq_true rfl) (hc_rr_rm (by decide)) ⟨Nat.zero_le _, Nat.zero_le _⟩ dX6_readHouse_1 (fun r_1 M_1 h_1 => ?_)
  obtain ⟨rfl, rfl⟩ := h_1
  refine hc_bipush C dX6_readHouse_4 (v := 99) rfl ?_
  refine hc_icmp_eq C (tgt := 15) dX6_readHouse_6 (by decide) (fun c_6 => ?_) (fun c_6 => ?_)
  · have hlt := (cByte_lt (B := M 6) (n := n) (st := st) (by rw [c_6]; decide)).2
    refine hc_aload_n C dX6_readHouse_15 rfl rfl ?_
    refine hc_dup C dX6_readHouse_16 rfl ?_
    refine hc_getI C fl_X6_24 rfl rfl dX6_readHouse_17 ?_
    refine hc_iconst C dX6_readHouse_20 (v := 1) rfl ?_
    refine hc_iadd C dX6_readHouse_21 ?_
    refine hc_top (nI_1 st.2.1) ?_
    refine hc_putI C fl_X6_24 pl_4_3 rfl rfl dX6_readHouse_22 ?_
    refine hc_mem (mP_a _) ?_
    refine hc_aload_n C dX6_readHouse_25 rfl rfl ?_
    refine hc_gets C (i := 0) rfl sl_X6_51 dX6_readHouse_26 ?_
    refine hc_gets C (i := 1) rfl sl_X6_54 dX6_readHouse_29 ?_
    refine hc_cV2v C mv_X6_57 (c_X6_readNumbers (N := 1) C.ok rfl rfl rfl rfl (by decide) hn hn1 (show cOk n _ from ⟨ho.1, hlt, ho.2.2⟩)) rfl rfl rfl (Nat.le_of_ble_eq_true rfl) (hc_rr_rm (by decide)) ⟨Nat.zero_le _, Nat.zero_le _⟩ dX6_readHouse_32 (fun M_32 h_32 => ?_)
    obtain rfl := h_32
    have ho1 := cNums_ok (B := M 6) (la := [0]) (lb := [12]) 1 0 (st.1, st.2.1 + 1, st.2.2) (show cOk n _ from ⟨ho.1, hlt, ho.2.2⟩)
    refine hc_iconst C dX6_readHouse_35 (v := 0) rfl ?_
    refine hc_istore_n1 C dX6_readHouse_36 rfl (by decide) rfl ?_
    refine lp_cEars C (by decide) hn hn1 (fun i => ?_) 7 0 _ rfl ho1 rfl
    refine hc_iconst C dX6_readHouse_70 (v := 0) rfl ?_
    refine hc_istore_n1 C dX6_readHouse_71 rfl (by decide) rfl ?_
    refine lp_cDois C (by decide) hn hn1 (fun i => ?_) 5 0 _ rfl (cEars_ok _ _ ho1) rfl
    exact lp_cEnd C hn hn1 (cDois_ok _ _ (cEars_ok _ _ ho1)) (by unfold cHouse; rw [if_pos c_6])
  · refine hc_aload_n C dX6_readHouse_9 rfl rfl ?_
    refine hc_iconst C dX6_readHouse_10 (v := 1) rfl ?_
    refine hc_putI C fl_X6_21 pl_4_2 rfl rfl dX6_readHouse_11 ?_
    refine hc_mem (mP_f 1) ?_
    refine hc_vret C rfl dX6_readHouse_14 ?_
    show _ = _
    unfold cHouse
    rw [if_neg c_6]

def cSt0 (M : hc_Mem) : cSt := (0, 0, 0, 0, 0, M 7, M 8)
theorem mP_0 {M : hc_Mem} : hc_ms (hc_ms (hc_ms (hc_ms (hc_ms M 5 3 0) 5 2 0) 5 5 0) 5 6 0) 5 8 0 = mP M (cSt0 M) := by
  funext k
  by_cases h5 : k = 5
  · subst h5
    funext j
    simp only [hc_ms, hc_mf, upd, mP, cSt0, if_true]
    by_cases a2 : j = 2
    · subst a2; rfl
    by_cases a3 : j = 3
    · subst a3; rfl
    by_cases a5 : j = 5
    · subst a5; rfl
    by_cases a6 : j = 6
    · subst a6; rfl
    by_cases a8 : j = 8
    · subst a8; rfl
    simp only [a2, a3, a5, a6, a8, if_false]
  · simp only [hc_ms_n h5]
    unfold mP cSt0
    simp only [h5, if_false]
    by_cases h7 : k = 7
    · subst h7; rfl
    by_cases h8 : k = 8
    · subst h8; rfl
    simp only [h7, h8, if_false]
/-- the tape's state behind a reading of n bytes -/
def cRead (M : hc_Mem) (n : Nat) : cSt := cHouse (M 6) n (cSt0 M)
theorem cRead_ok (M : hc_Mem) (n : Nat) : cOk n (cRead M n) := cHouse_ok ⟨Nat.zero_le _, Nat.zero_le _, Nat.zero_le _, Nat.zero_le _, Nat.zero_le _⟩

set_option maxRecDepth 100000 in
set_option maxHeartbeats 4000000 in
theorem c_X6_read {l : Launch} {G : hc_Geo} (hG : hc_ok G) {M : hc_Mem} {n : Nat}  (hn : M 5 1 = nI n) (hn1 : n ≤ 120) : hc_M l G yX6_read cX6_read 1 (some .int) 6 [.ref (hc_ad G 5)] M (hc_pi (fun z M' => (if (cRead M n).1 = 0 then -1000000 else nI (cRead M n).2.1) = z ∧ hc_ms (mP M (cRead M n)) 5 1 0 = M')) := by
  refine hc_M.of hG (by decide) [some (.ref (hc_ad G 5))] rfl (Nat.le_of_ble_eq_true rfl) ?_
  intro p e s m args below meth c C
  refine hc_aload_n C dX6_read_0 rfl rfl ?_
  refine hc_iconst C dX6_read_1 (v := 0) rfl ?_
  refine hc_putI C fl_X6_24 pl_4_3 rfl rfl dX6_read_2 ?_
  refine hc_aload_n C dX6_read_5 rfl rfl ?_
  refine hc_iconst C dX6_read_6 (v := 0) rfl ?_
  refine hc_putI C fl_X6_21 pl_4_2 rfl rfl dX6_read_7 ?_
  refine hc_aload_n C dX6_read_10 rfl rfl ?_
  refine hc_iconst C dX6_read_11 (v := 0) rfl ?_
  refine hc_putI C fl_X6_30 pl_4_5 rfl rfl dX6_read_12 ?_
  refine hc_aload_n C dX6_read_15 rfl rfl ?_
  refine hc_iconst C dX6_read_16 (v := 0) rfl ?_
  refine hc_putI C fl_X6_33 pl_4_6 rfl rfl dX6_read_17 ?_
  refine hc_aload_n C dX6_read_20 rfl rfl ?_
  refine hc_iconst C dX6_read_21 (v := 0) rfl ?_
  refine hc_putI C fl_X6_39 pl_4_8 rfl rfl dX6_read_22 ?_
  refine hc_mem mP_0 ?_
  refine hc_aload_n C dX6_read_25 rfl rfl ?_
  refine hc_cV0v C mv_X6_43 (c_X6_readHouse C.ok hn hn1 (show cOk n (cSt0 M) from ⟨Nat.zero_le _, Nat.zero_le _, Nat.zero_le _, Nat.zero_le _, Nat.zero_le _⟩)) rfl rfl rfl (Nat.le_of_ble_eq_true rfl) (hc_rr_rm (by decide)) ⟨Nat.zero_le _, Nat.zero_le _⟩ dX6_read_26 (fun M_26 h_26 => ?_)
  obtain rfl := h_26
  refine hc_aload_n C dX6_read_29 rfl rfl ?_
  refine hc_iconst C dX6_read_30 (v := 0) rfl ?_
  refine hc_putI C fl_X6_17 pl_4_1 rfl rfl dX6_read_31 ?_
  refine hc_aload_n C dX6_read_34 rfl rfl ?_
  refine hc_getI C fl_X6_21 rfl rfl dX6_read_35 ?_
  refine hc_if_ne C (tgt := 46) dX6_read_38 (by decide) (fun c_38 => ?_) (fun c_38 => ?_)
  · refine hc_aload_n C dX6_read_46 rfl rfl ?_
    refine hc_getI C fl_X6_24 rfl rfl dX6_read_47 ?_
    refine hc_iret C rfl dX6_read_50 ?_
    refine ⟨?_, rfl⟩
    have hk := (cRead_ok M n).f
    first
      | exact if_neg (fun q => c_38 (show nI (cRead M n).1 = 0 by rw [q]; rfl))
      | exact if_pos ((nI_eq hk (by decide)).mp (show nI (cRead M n).1 = nI 0 from c_38))
  · refine hc_ldc C kc_X6_46 dX6_read_41 ?_
    refine hc_goto C (tgt := 50) dX6_read_43 (by decide) ?_
    refine hc_iret C rfl dX6_read_50 ?_
    refine ⟨?_, rfl⟩
    have hk := (cRead_ok M n).f
    first
      | exact if_neg (fun q => c_38 (show nI (cRead M n).1 = 0 by rw [q]; rfl))
      | exact if_pos ((nI_eq hk (by decide)).mp (show nI (cRead M n).1 = nI 0 from c_38))
