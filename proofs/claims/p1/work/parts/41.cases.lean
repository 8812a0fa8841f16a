set_option maxRecDepth 100000 in
set_option maxHeartbeats 4000000 in
theorem lc_0 {G : hc_Geo} {p : Program} {l : Launch} {e : Env} {s : State} {m : MethodId} {below : List Frame} {meth : Method} {c : Code} {cells slots : Nat} {Q : State → Prop} {b n : Nat} {xs : Nat → Int32} (C : hc_Cx G hc_lay code 4 ret R_law p s m #[Value.ref b] meth c) (hX : va_X b n xs s s.heap) (hbl : b < s.heap.size) (hbA : ¬ hc_A G b) (hn31 : n < 2 ^ 31) (hcs : cells ≤ room_1.cells ∧ slots ≤ room_1.slots) {i : Nat} (hi : i + 6 ≤ n) (kk : ∀ M' : hc_Mem, hc_W G hc_lay p l e room_1 s m #[Value.ref b] below meth c 4 cells slots Q 1159 [some (.ref b), some (.ref (hc_ad G 0)), some (.ref (hc_ad G 48)), some (.int (nI i))] [] M') : hc_W G hc_lay p l e room_1 s m #[Value.ref b] below meth c 4 cells slots Q 180 [some (.ref b), some (.ref (hc_ad G 0)), some (.ref (hc_ad G 48)), some (.int (nI i))] [] hk_M2 := by
  by_cases h0 : (¬ (xs (i + 1)) < 0 ∧ ¬ 8 ≤ (xs (i + 1))) ∧ (¬ (xs (i + 2)) < 0 ∧ ¬ 2 < (xs (i + 2))) ∧ (xs (i + 3)) ≤ 40
  · by_cases h1 : 0 ≤ (xs (i + 3))
    · obtain ⟨j1, hj1, e1⟩ : ∃ j : Nat, j < 8 ∧ (xs (i + 1)) = nI j := hx_ix 8 rfl h0.1.1 h0.1.2 (by decide)
      obtain ⟨j3, hj3, e3⟩ : ∃ j : Nat, j ≤ 40 ∧ (xs (i + 3)) = nI j := nI_of2 (M := 40) rfl (Int32.not_lt.mpr h1) h0.2.2
      refine hc_aload_n C dL_law_180 rfl rfl ?_
      refine hc_aload_n C dL_law_181 rfl rfl ?_
      refine hc_iload_n C dL_law_182 rfl rfl ?_
      refine hc_iconst C dL_law_183 (v := 1) rfl ?_
      refine hc_iadd C dL_law_184 ?_
      refine hc_sld C (j := i + 1) hX hbl hbA hn31 (show nI i + 1 = nI (i + 1) by rw [show (1 : Int32) = nI 1 from rfl, nI_add]) (by omega) dL_law_185 ?_
      refine hc_top e1 ?_
      refine hc_aload_n C dL_law_186 rfl rfl ?_
      refine hc_iload_n C dL_law_187 rfl rfl ?_
      refine hc_iconst C dL_law_188 (v := 2) rfl ?_
      refine hc_iadd C dL_law_189 ?_
      refine hc_sld C (j := i + 2) hX hbl hbA hn31 (show nI i + 2 = nI (i + 2) by rw [show (2 : Int32) = nI 2 from rfl, nI_add]) (by omega) dL_law_190 ?_
      refine hc_aload_n C dL_law_191 rfl rfl ?_
      refine hc_iload_n C dL_law_192 rfl rfl ?_
      refine hc_iconst C dL_law_193 (v := 3) rfl ?_
      refine hc_iadd C dL_law_194 ?_
      refine hc_sld C (j := i + 3) hX hbl hbA hn31 (show nI i + 3 = nI (i + 3) by rw [show (3 : Int32) = nI 3 from rfl, nI_add]) (by omega) dL_law_195 ?_
      refine hc_top e3 ?_
      refine hc_cV3i C mv_L_13 (c_X7_row_o C.ok hj1 h0.2.1 hj3) rfl rfl rfl (Nat.le_of_ble_eq_true rfl) ⟨by decide, by decide⟩ hcs dL_law_196 (fun rx Mx hx1 => ?_)
      obtain ⟨rfl, rfl⟩ := hx1
      refine hc_aload_n C dL_law_199 rfl rfl ?_
      refine hc_aload_n C dL_law_200 rfl rfl ?_
      refine hc_iload_n C dL_law_201 rfl rfl ?_
      refine hc_iconst C dL_law_202 (v := 1) rfl ?_
      refine hc_iadd C dL_law_203 ?_
      refine hc_sld C (j := i + 1) hX hbl hbA hn31 (show nI i + 1 = nI (i + 1) by rw [show (1 : Int32) = nI 1 from rfl, nI_add]) (by omega) dL_law_204 ?_
      refine hc_top e1 ?_
      refine hc_aload_n C dL_law_205 rfl rfl ?_
      refine hc_iload_n C dL_law_206 rfl rfl ?_
      refine hc_iconst C dL_law_207 (v := 2) rfl ?_
      refine hc_iadd C dL_law_208 ?_
      refine hc_sld C (j := i + 2) hX hbl hbA hn31 (show nI i + 2 = nI (i + 2) by rw [show (2 : Int32) = nI 2 from rfl, nI_add]) (by omega) dL_law_209 ?_
      refine hc_aload_n C dL_law_210 rfl rfl ?_
      refine hc_iload_n C dL_law_211 rfl rfl ?_
      refine hc_iconst C dL_law_212 (v := 3) rfl ?_
      refine hc_iadd C dL_law_213 ?_
      refine hc_sld C (j := i + 3) hX hbl hbA hn31 (show nI i + 3 = nI (i + 3) by rw [show (3 : Int32) = nI 3 from rfl, nI_add]) (by omega) dL_law_214 ?_
      refine hc_top e3 ?_
      refine hc_cV3i C mv_L_17 (c_X8_row_o C.ok hj1 h0.2.1 hj3) rfl rfl rfl (Nat.le_of_ble_eq_true rfl) ⟨by decide, by decide⟩ hcs dL_law_215 (fun rm Mm hm1 => ?_)
      obtain ⟨rfl, rfl⟩ := hm1
      refine hc_icmp_eq C (tgt := 1159) dL_law_218 (by decide) (fun c_218 => ?_) (fun c_218 => ?_)
      rotate_left
      · exact absurd (rfl) c_218
      exact kk _
    · refine hc_aload_n C dL_law_180 rfl rfl ?_
      refine hc_aload_n C dL_law_181 rfl rfl ?_
      refine hc_iload_n C dL_law_182 rfl rfl ?_
      refine hc_iconst C dL_law_183 (v := 1) rfl ?_
      refine hc_iadd C dL_law_184 ?_
      refine hc_sld C (j := i + 1) hX hbl hbA hn31 (show nI i + 1 = nI (i + 1) by rw [show (1 : Int32) = nI 1 from rfl, nI_add]) (by omega) dL_law_185 ?_
      refine hc_aload_n C dL_law_186 rfl rfl ?_
      refine hc_iload_n C dL_law_187 rfl rfl ?_
      refine hc_iconst C dL_law_188 (v := 2) rfl ?_
      refine hc_iadd C dL_law_189 ?_
      refine hc_sld C (j := i + 2) hX hbl hbA hn31 (show nI i + 2 = nI (i + 2) by rw [show (2 : Int32) = nI 2 from rfl, nI_add]) (by omega) dL_law_190 ?_
      refine hc_aload_n C dL_law_191 rfl rfl ?_
      refine hc_iload_n C dL_law_192 rfl rfl ?_
      refine hc_iconst C dL_law_193 (v := 3) rfl ?_
      refine hc_iadd C dL_law_194 ?_
      refine hc_sld C (j := i + 3) hX hbl hbA hn31 (show nI i + 3 = nI (i + 3) by rw [show (3 : Int32) = nI 3 from rfl, nI_add]) (by omega) dL_law_195 ?_
      refine hc_cV3i C mv_L_13 (c_X7_row_s C.ok h0.1 h0.2.1 h0.2.2 h1) rfl rfl rfl (Nat.le_of_ble_eq_true rfl) ⟨by decide, by decide⟩ hcs dL_law_196 (fun rx Mx hx1 => ?_)
      obtain ⟨rfl, rfl⟩ := hx1
      refine hc_aload_n C dL_law_199 rfl rfl ?_
      refine hc_aload_n C dL_law_200 rfl rfl ?_
      refine hc_iload_n C dL_law_201 rfl rfl ?_
      refine hc_iconst C dL_law_202 (v := 1) rfl ?_
      refine hc_iadd C dL_law_203 ?_
      refine hc_sld C (j := i + 1) hX hbl hbA hn31 (show nI i + 1 = nI (i + 1) by rw [show (1 : Int32) = nI 1 from rfl, nI_add]) (by omega) dL_law_204 ?_
      refine hc_aload_n C dL_law_205 rfl rfl ?_
      refine hc_iload_n C dL_law_206 rfl rfl ?_
      refine hc_iconst C dL_law_207 (v := 2) rfl ?_
      refine hc_iadd C dL_law_208 ?_
      refine hc_sld C (j := i + 2) hX hbl hbA hn31 (show nI i + 2 = nI (i + 2) by rw [show (2 : Int32) = nI 2 from rfl, nI_add]) (by omega) dL_law_209 ?_
      refine hc_aload_n C dL_law_210 rfl rfl ?_
      refine hc_iload_n C dL_law_211 rfl rfl ?_
      refine hc_iconst C dL_law_212 (v := 3) rfl ?_
      refine hc_iadd C dL_law_213 ?_
      refine hc_sld C (j := i + 3) hX hbl hbA hn31 (show nI i + 3 = nI (i + 3) by rw [show (3 : Int32) = nI 3 from rfl, nI_add]) (by omega) dL_law_214 ?_
      refine hc_cV3i C mv_L_17 (c_X8_row_s C.ok h0.1 h0.2.1 h0.2.2 h1) rfl rfl rfl (Nat.le_of_ble_eq_true rfl) ⟨by decide, by decide⟩ hcs dL_law_215 (fun rm Mm hm1 => ?_)
      obtain ⟨rfl, rfl⟩ := hm1
      refine hc_icmp_eq C (tgt := 1159) dL_law_218 (by decide) (fun c_218 => ?_) (fun c_218 => ?_)
      rotate_left
      · exact absurd (rfl) c_218
      exact kk _
  · refine hc_aload_n C dL_law_180 rfl rfl ?_
    refine hc_aload_n C dL_law_181 rfl rfl ?_
    refine hc_iload_n C dL_law_182 rfl rfl ?_
    refine hc_iconst C dL_law_183 (v := 1) rfl ?_
    refine hc_iadd C dL_law_184 ?_
    refine hc_sld C (j := i + 1) hX hbl hbA hn31 (show nI i + 1 = nI (i + 1) by rw [show (1 : Int32) = nI 1 from rfl, nI_add]) (by omega) dL_law_185 ?_
    refine hc_aload_n C dL_law_186 rfl rfl ?_
    refine hc_iload_n C dL_law_187 rfl rfl ?_
    refine hc_iconst C dL_law_188 (v := 2) rfl ?_
    refine hc_iadd C dL_law_189 ?_
    refine hc_sld C (j := i + 2) hX hbl hbA hn31 (show nI i + 2 = nI (i + 2) by rw [show (2 : Int32) = nI 2 from rfl, nI_add]) (by omega) dL_law_190 ?_
    refine hc_aload_n C dL_law_191 rfl rfl ?_
    refine hc_iload_n C dL_law_192 rfl rfl ?_
    refine hc_iconst C dL_law_193 (v := 3) rfl ?_
    refine hc_iadd C dL_law_194 ?_
    refine hc_sld C (j := i + 3) hX hbl hbA hn31 (show nI i + 3 = nI (i + 3) by rw [show (3 : Int32) = nI 3 from rfl, nI_add]) (by omega) dL_law_195 ?_
    refine hc_cV3i C mv_L_13 (c_X7_row_b C.ok h0) rfl rfl rfl (Nat.le_of_ble_eq_true rfl) ⟨by decide, by decide⟩ hcs dL_law_196 (fun rx Mx hx1 => ?_)
    obtain ⟨rfl, rfl⟩ := hx1
    refine hc_aload_n C dL_law_199 rfl rfl ?_
    refine hc_aload_n C dL_law_200 rfl rfl ?_
    refine hc_iload_n C dL_law_201 rfl rfl ?_
    refine hc_iconst C dL_law_202 (v := 1) rfl ?_
    refine hc_iadd C dL_law_203 ?_
    refine hc_sld C (j := i + 1) hX hbl hbA hn31 (show nI i + 1 = nI (i + 1) by rw [show (1 : Int32) = nI 1 from rfl, nI_add]) (by omega) dL_law_204 ?_
    refine hc_aload_n C dL_law_205 rfl rfl ?_
    refine hc_iload_n C dL_law_206 rfl rfl ?_
    refine hc_iconst C dL_law_207 (v := 2) rfl ?_
    refine hc_iadd C dL_law_208 ?_
    refine hc_sld C (j := i + 2) hX hbl hbA hn31 (show nI i + 2 = nI (i + 2) by rw [show (2 : Int32) = nI 2 from rfl, nI_add]) (by omega) dL_law_209 ?_
    refine hc_aload_n C dL_law_210 rfl rfl ?_
    refine hc_iload_n C dL_law_211 rfl rfl ?_
    refine hc_iconst C dL_law_212 (v := 3) rfl ?_
    refine hc_iadd C dL_law_213 ?_
    refine hc_sld C (j := i + 3) hX hbl hbA hn31 (show nI i + 3 = nI (i + 3) by rw [show (3 : Int32) = nI 3 from rfl, nI_add]) (by omega) dL_law_214 ?_
    refine hc_cV3i C mv_L_17 (c_X8_row_b C.ok h0) rfl rfl rfl (Nat.le_of_ble_eq_true rfl) ⟨by decide, by decide⟩ hcs dL_law_215 (fun rm Mm hm1 => ?_)
    obtain ⟨rfl, rfl⟩ := hm1
    refine hc_icmp_eq C (tgt := 1159) dL_law_218 (by decide) (fun c_218 => ?_) (fun c_218 => ?_)
    rotate_left
    · exact absurd (rfl) c_218
    exact kk _

set_option maxRecDepth 100000 in
set_option maxHeartbeats 4000000 in
theorem lc_1 {G : hc_Geo} {p : Program} {l : Launch} {e : Env} {s : State} {m : MethodId} {below : List Frame} {meth : Method} {c : Code} {cells slots : Nat} {Q : State → Prop} {b n : Nat} {xs : Nat → Int32} (C : hc_Cx G hc_lay code 4 ret R_law p s m #[Value.ref b] meth c) (hX : va_X b n xs s s.heap) (hbl : b < s.heap.size) (hbA : ¬ hc_A G b) (hn31 : n < 2 ^ 31) (hcs : cells ≤ room_1.cells ∧ slots ≤ room_1.slots) {i : Nat} (hi : i + 6 ≤ n) (kk : ∀ M' : hc_Mem, hc_W G hc_lay p l e room_1 s m #[Value.ref b] below meth c 4 cells slots Q 1159 [some (.ref b), some (.ref (hc_ad G 0)), some (.ref (hc_ad G 48)), some (.int (nI i))] [] M') : hc_W G hc_lay p l e room_1 s m #[Value.ref b] below meth c 4 cells slots Q 223 [some (.ref b), some (.ref (hc_ad G 0)), some (.ref (hc_ad G 48)), some (.int (nI i))] [] hk_M2 := by
  by_cases hr1 : ¬ (xs (i + 1)) < 0 ∧ ¬ 8 ≤ (xs (i + 1))
  · obtain ⟨j1, hj1, e1⟩ : ∃ j : Nat, j < 8 ∧ (xs (i + 1)) = nI j := hx_ix 8 rfl hr1.1 hr1.2 (by decide)
    refine hc_aload_n C dL_law_223 rfl rfl ?_
    refine hc_aload_n C dL_law_224 rfl rfl ?_
    refine hc_iload_n C dL_law_225 rfl rfl ?_
    refine hc_iconst C dL_law_226 (v := 1) rfl ?_
    refine hc_iadd C dL_law_227 ?_
    refine hc_sld C (j := i + 1) hX hbl hbA hn31 (show nI i + 1 = nI (i + 1) by rw [show (1 : Int32) = nI 1 from rfl, nI_add]) (by omega) dL_law_228 ?_
    refine hc_top e1 ?_
    refine hc_aload_n C dL_law_229 rfl rfl ?_
    refine hc_iload_n C dL_law_230 rfl rfl ?_
    refine hc_iconst C dL_law_231 (v := 2) rfl ?_
    refine hc_iadd C dL_law_232 ?_
    refine hc_sld C (j := i + 2) hX hbl hbA hn31 (show nI i + 2 = nI (i + 2) by rw [show (2 : Int32) = nI 2 from rfl, nI_add]) (by omega) dL_law_233 ?_
    refine hc_aload_n C dL_law_234 rfl rfl ?_
    refine hc_iload_n C dL_law_235 rfl rfl ?_
    refine hc_iconst C dL_law_236 (v := 3) rfl ?_
    refine hc_iadd C dL_law_237 ?_
    refine hc_sld C (j := i + 3) hX hbl hbA hn31 (show nI i + 3 = nI (i + 3) by rw [show (3 : Int32) = nI 3 from rfl, nI_add]) (by omega) dL_law_238 ?_
    refine hc_cV3i C mv_L_18 (c_X7_set_n C.ok hj1 (by simp [hk_M2, hk_M1, hc_mf, hj1])) rfl rfl rfl (Nat.le_of_ble_eq_true rfl) ⟨by decide, by decide⟩ hcs dL_law_239 (fun rx Mx hx1 => ?_)
    obtain ⟨rfl, rfl⟩ := hx1
    refine hc_aload_n C dL_law_242 rfl rfl ?_
    refine hc_aload_n C dL_law_243 rfl rfl ?_
    refine hc_iload_n C dL_law_244 rfl rfl ?_
    refine hc_iconst C dL_law_245 (v := 1) rfl ?_
    refine hc_iadd C dL_law_246 ?_
    refine hc_sld C (j := i + 1) hX hbl hbA hn31 (show nI i + 1 = nI (i + 1) by rw [show (1 : Int32) = nI 1 from rfl, nI_add]) (by omega) dL_law_247 ?_
    refine hc_top e1 ?_
    refine hc_aload_n C dL_law_248 rfl rfl ?_
    refine hc_iload_n C dL_law_249 rfl rfl ?_
    refine hc_iconst C dL_law_250 (v := 2) rfl ?_
    refine hc_iadd C dL_law_251 ?_
    refine hc_sld C (j := i + 2) hX hbl hbA hn31 (show nI i + 2 = nI (i + 2) by rw [show (2 : Int32) = nI 2 from rfl, nI_add]) (by omega) dL_law_252 ?_
    refine hc_aload_n C dL_law_253 rfl rfl ?_
    refine hc_iload_n C dL_law_254 rfl rfl ?_
    refine hc_iconst C dL_law_255 (v := 3) rfl ?_
    refine hc_iadd C dL_law_256 ?_
    refine hc_sld C (j := i + 3) hX hbl hbA hn31 (show nI i + 3 = nI (i + 3) by rw [show (3 : Int32) = nI 3 from rfl, nI_add]) (by omega) dL_law_257 ?_
    refine hc_cV3i C mv_L_21 (c_X8_set_n C.ok hj1 (by simp [hk_M2, hk_M1, hc_mf, hc_ms, hj1])) rfl rfl rfl (Nat.le_of_ble_eq_true rfl) ⟨by decide, by decide⟩ hcs dL_law_258 (fun rm Mm hm1 => ?_)
    obtain ⟨rfl, rfl⟩ := hm1
    refine hc_icmp_eq C (tgt := 1159) dL_law_261 (by decide) (fun c_261 => ?_) (fun c_261 => ?_)
    rotate_left
    · exact absurd (rfl) c_261
    exact kk _
  · refine hc_aload_n C dL_law_223 rfl rfl ?_
    refine hc_aload_n C dL_law_224 rfl rfl ?_
    refine hc_iload_n C dL_law_225 rfl rfl ?_
    refine hc_iconst C dL_law_226 (v := 1) rfl ?_
    refine hc_iadd C dL_law_227 ?_
    refine hc_sld C (j := i + 1) hX hbl hbA hn31 (show nI i + 1 = nI (i + 1) by rw [show (1 : Int32) = nI 1 from rfl, nI_add]) (by omega) dL_law_228 ?_
    refine hc_aload_n C dL_law_229 rfl rfl ?_
    refine hc_iload_n C dL_law_230 rfl rfl ?_
    refine hc_iconst C dL_law_231 (v := 2) rfl ?_
    refine hc_iadd C dL_law_232 ?_
    refine hc_sld C (j := i + 2) hX hbl hbA hn31 (show nI i + 2 = nI (i + 2) by rw [show (2 : Int32) = nI 2 from rfl, nI_add]) (by omega) dL_law_233 ?_
    refine hc_aload_n C dL_law_234 rfl rfl ?_
    refine hc_iload_n C dL_law_235 rfl rfl ?_
    refine hc_iconst C dL_law_236 (v := 3) rfl ?_
    refine hc_iadd C dL_law_237 ?_
    refine hc_sld C (j := i + 3) hX hbl hbA hn31 (show nI i + 3 = nI (i + 3) by rw [show (3 : Int32) = nI 3 from rfl, nI_add]) (by omega) dL_law_238 ?_
    refine hc_cV3i C mv_L_18 (c_X7_set_b C.ok hr1) rfl rfl rfl (Nat.le_of_ble_eq_true rfl) ⟨by decide, by decide⟩ hcs dL_law_239 (fun rx Mx hx1 => ?_)
    obtain ⟨rfl, rfl⟩ := hx1
    refine hc_aload_n C dL_law_242 rfl rfl ?_
    refine hc_aload_n C dL_law_243 rfl rfl ?_
    refine hc_iload_n C dL_law_244 rfl rfl ?_
    refine hc_iconst C dL_law_245 (v := 1) rfl ?_
    refine hc_iadd C dL_law_246 ?_
    refine hc_sld C (j := i + 1) hX hbl hbA hn31 (show nI i + 1 = nI (i + 1) by rw [show (1 : Int32) = nI 1 from rfl, nI_add]) (by omega) dL_law_247 ?_
    refine hc_aload_n C dL_law_248 rfl rfl ?_
    refine hc_iload_n C dL_law_249 rfl rfl ?_
    refine hc_iconst C dL_law_250 (v := 2) rfl ?_
    refine hc_iadd C dL_law_251 ?_
    refine hc_sld C (j := i + 2) hX hbl hbA hn31 (show nI i + 2 = nI (i + 2) by rw [show (2 : Int32) = nI 2 from rfl, nI_add]) (by omega) dL_law_252 ?_
    refine hc_aload_n C dL_law_253 rfl rfl ?_
    refine hc_iload_n C dL_law_254 rfl rfl ?_
    refine hc_iconst C dL_law_255 (v := 3) rfl ?_
    refine hc_iadd C dL_law_256 ?_
    refine hc_sld C (j := i + 3) hX hbl hbA hn31 (show nI i + 3 = nI (i + 3) by rw [show (3 : Int32) = nI 3 from rfl, nI_add]) (by omega) dL_law_257 ?_
    refine hc_cV3i C mv_L_21 (c_X8_set_b C.ok hr1) rfl rfl rfl (Nat.le_of_ble_eq_true rfl) ⟨by decide, by decide⟩ hcs dL_law_258 (fun rm Mm hm1 => ?_)
    obtain ⟨rfl, rfl⟩ := hm1
    refine hc_icmp_eq C (tgt := 1159) dL_law_261 (by decide) (fun c_261 => ?_) (fun c_261 => ?_)
    rotate_left
    · exact absurd (rfl) c_261
    exact kk _

set_option maxRecDepth 100000 in
set_option maxHeartbeats 4000000 in
theorem lc_2 {G : hc_Geo} {p : Program} {l : Launch} {e : Env} {s : State} {m : MethodId} {below : List Frame} {meth : Method} {c : Code} {cells slots : Nat} {Q : State → Prop} {b n : Nat} {xs : Nat → Int32} (C : hc_Cx G hc_lay code 4 ret R_law p s m #[Value.ref b] meth c) (hX : va_X b n xs s s.heap) (hbl : b < s.heap.size) (hbA : ¬ hc_A G b) (hn31 : n < 2 ^ 31) (hcs : cells ≤ room_1.cells ∧ slots ≤ room_1.slots) {i : Nat} (hi : i + 6 ≤ n) (kk : ∀ M' : hc_Mem, hc_W G hc_lay p l e room_1 s m #[Value.ref b] below meth c 4 cells slots Q 1159 [some (.ref b), some (.ref (hc_ad G 0)), some (.ref (hc_ad G 48)), some (.int (nI i))] [] M') : hc_W G hc_lay p l e room_1 s m #[Value.ref b] below meth c 4 cells slots Q 266 [some (.ref b), some (.ref (hc_ad G 0)), some (.ref (hc_ad G 48)), some (.int (nI i))] [] hk_M2 := by
  by_cases hr : (¬ (xs (i + 1)) < 0 ∧ ¬ 8 ≤ (xs (i + 1))) ∧ (¬ (xs (i + 3)) < 0 ∧ ¬ 8 ≤ (xs (i + 3)))
  · have hr1 := hr.1
    have hr3 := hr.2
    obtain ⟨j1, hj1, e1⟩ : ∃ j : Nat, j < 8 ∧ (xs (i + 1)) = nI j := hx_ix 8 rfl hr1.1 hr1.2 (by decide)
    obtain ⟨j3, hj3, e3⟩ : ∃ j : Nat, j < 8 ∧ (xs (i + 3)) = nI j := hx_ix 8 rfl hr3.1 hr3.2 (by decide)
    refine hc_aload_n C dL_law_266 rfl rfl ?_
    refine hc_aload_n C dL_law_267 rfl rfl ?_
    refine hc_iload_n C dL_law_268 rfl rfl ?_
    refine hc_iconst C dL_law_269 (v := 1) rfl ?_
    refine hc_iadd C dL_law_270 ?_
    refine hc_sld C (j := i + 1) hX hbl hbA hn31 (show nI i + 1 = nI (i + 1) by rw [show (1 : Int32) = nI 1 from rfl, nI_add]) (by omega) dL_law_271 ?_
    refine hc_top e1 ?_
    refine hc_aload_n C dL_law_272 rfl rfl ?_
    refine hc_iload_n C dL_law_273 rfl rfl ?_
    refine hc_iconst C dL_law_274 (v := 2) rfl ?_
    refine hc_iadd C dL_law_275 ?_
    refine hc_sld C (j := i + 2) hX hbl hbA hn31 (show nI i + 2 = nI (i + 2) by rw [show (2 : Int32) = nI 2 from rfl, nI_add]) (by omega) dL_law_276 ?_
    refine hc_aload_n C dL_law_277 rfl rfl ?_
    refine hc_iload_n C dL_law_278 rfl rfl ?_
    refine hc_iconst C dL_law_279 (v := 3) rfl ?_
    refine hc_iadd C dL_law_280 ?_
    refine hc_sld C (j := i + 3) hX hbl hbA hn31 (show nI i + 3 = nI (i + 3) by rw [show (3 : Int32) = nI 3 from rfl, nI_add]) (by omega) dL_law_281 ?_
    refine hc_top e3 ?_
    refine hc_aload_n C dL_law_282 rfl rfl ?_
    refine hc_iload_n C dL_law_283 rfl rfl ?_
    refine hc_iconst C dL_law_284 (v := 4) rfl ?_
    refine hc_iadd C dL_law_285 ?_
    refine hc_sld C (j := i + 4) hX hbl hbA hn31 (show nI i + 4 = nI (i + 4) by rw [show (4 : Int32) = nI 4 from rfl, nI_add]) (by omega) dL_law_286 ?_
    refine hc_aload_n C dL_law_287 rfl rfl ?_
    refine hc_iload_n C dL_law_288 rfl rfl ?_
    refine hc_iconst C dL_law_289 (v := 5) rfl ?_
    refine hc_iadd C dL_law_290 ?_
    refine hc_sld C (j := i + 5) hX hbl hbA hn31 (show nI i + 5 = nI (i + 5) by rw [show (5 : Int32) = nI 5 from rfl, nI_add]) (by omega) dL_law_291 ?_
    refine hc_cV5i C mv_L_22 (c_X7_copy_n C.ok hj1 hj3 (Or.inl (by simp [hk_M2, hk_M1, hc_mf, hj1]))) rfl rfl rfl (Nat.le_of_ble_eq_true rfl) ⟨by decide, by decide⟩ hcs dL_law_292 (fun rx Mx hx1 => ?_)
    obtain ⟨rfl, rfl⟩ := hx1
    refine hc_aload_n C dL_law_295 rfl rfl ?_
    refine hc_aload_n C dL_law_296 rfl rfl ?_
    refine hc_iload_n C dL_law_297 rfl rfl ?_
    refine hc_iconst C dL_law_298 (v := 1) rfl ?_
    refine hc_iadd C dL_law_299 ?_
    refine hc_sld C (j := i + 1) hX hbl hbA hn31 (show nI i + 1 = nI (i + 1) by rw [show (1 : Int32) = nI 1 from rfl, nI_add]) (by omega) dL_law_300 ?_
    refine hc_top e1 ?_
    refine hc_aload_n C dL_law_301 rfl rfl ?_
    refine hc_iload_n C dL_law_302 rfl rfl ?_
    refine hc_iconst C dL_law_303 (v := 2) rfl ?_
    refine hc_iadd C dL_law_304 ?_
    refine hc_sld C (j := i + 2) hX hbl hbA hn31 (show nI i + 2 = nI (i + 2) by rw [show (2 : Int32) = nI 2 from rfl, nI_add]) (by omega) dL_law_305 ?_
    refine hc_aload_n C dL_law_306 rfl rfl ?_
    refine hc_iload_n C dL_law_307 rfl rfl ?_
    refine hc_iconst C dL_law_308 (v := 3) rfl ?_
    refine hc_iadd C dL_law_309 ?_
    refine hc_sld C (j := i + 3) hX hbl hbA hn31 (show nI i + 3 = nI (i + 3) by rw [show (3 : Int32) = nI 3 from rfl, nI_add]) (by omega) dL_law_310 ?_
    refine hc_top e3 ?_
    refine hc_aload_n C dL_law_311 rfl rfl ?_
    refine hc_iload_n C dL_law_312 rfl rfl ?_
    refine hc_iconst C dL_law_313 (v := 4) rfl ?_
    refine hc_iadd C dL_law_314 ?_
    refine hc_sld C (j := i + 4) hX hbl hbA hn31 (show nI i + 4 = nI (i + 4) by rw [show (4 : Int32) = nI 4 from rfl, nI_add]) (by omega) dL_law_315 ?_
    refine hc_aload_n C dL_law_316 rfl rfl ?_
    refine hc_iload_n C dL_law_317 rfl rfl ?_
    refine hc_iconst C dL_law_318 (v := 5) rfl ?_
    refine hc_iadd C dL_law_319 ?_
    refine hc_sld C (j := i + 5) hX hbl hbA hn31 (show nI i + 5 = nI (i + 5) by rw [show (5 : Int32) = nI 5 from rfl, nI_add]) (by omega) dL_law_320 ?_
    refine hc_cV5i C mv_L_26 (c_X8_copy_n C.ok hj1 hj3 (Or.inl (by simp [hk_M2, hk_M1, hc_mf, hc_ms, hj1]))) rfl rfl rfl (Nat.le_of_ble_eq_true rfl) ⟨by decide, by decide⟩ hcs dL_law_321 (fun rm Mm hm1 => ?_)
    obtain ⟨rfl, rfl⟩ := hm1
    refine hc_icmp_eq C (tgt := 1159) dL_law_324 (by decide) (fun c_324 => ?_) (fun c_324 => ?_)
    rotate_left
    · exact absurd (rfl) c_324
    exact kk _
  · refine hc_aload_n C dL_law_266 rfl rfl ?_
    refine hc_aload_n C dL_law_267 rfl rfl ?_
    refine hc_iload_n C dL_law_268 rfl rfl ?_
    refine hc_iconst C dL_law_269 (v := 1) rfl ?_
    refine hc_iadd C dL_law_270 ?_
    refine hc_sld C (j := i + 1) hX hbl hbA hn31 (show nI i + 1 = nI (i + 1) by rw [show (1 : Int32) = nI 1 from rfl, nI_add]) (by omega) dL_law_271 ?_
    refine hc_aload_n C dL_law_272 rfl rfl ?_
    refine hc_iload_n C dL_law_273 rfl rfl ?_
    refine hc_iconst C dL_law_274 (v := 2) rfl ?_
    refine hc_iadd C dL_law_275 ?_
    refine hc_sld C (j := i + 2) hX hbl hbA hn31 (show nI i + 2 = nI (i + 2) by rw [show (2 : Int32) = nI 2 from rfl, nI_add]) (by omega) dL_law_276 ?_
    refine hc_aload_n C dL_law_277 rfl rfl ?_
    refine hc_iload_n C dL_law_278 rfl rfl ?_
    refine hc_iconst C dL_law_279 (v := 3) rfl ?_
    refine hc_iadd C dL_law_280 ?_
    refine hc_sld C (j := i + 3) hX hbl hbA hn31 (show nI i + 3 = nI (i + 3) by rw [show (3 : Int32) = nI 3 from rfl, nI_add]) (by omega) dL_law_281 ?_
    refine hc_aload_n C dL_law_282 rfl rfl ?_
    refine hc_iload_n C dL_law_283 rfl rfl ?_
    refine hc_iconst C dL_law_284 (v := 4) rfl ?_
    refine hc_iadd C dL_law_285 ?_
    refine hc_sld C (j := i + 4) hX hbl hbA hn31 (show nI i + 4 = nI (i + 4) by rw [show (4 : Int32) = nI 4 from rfl, nI_add]) (by omega) dL_law_286 ?_
    refine hc_aload_n C dL_law_287 rfl rfl ?_
    refine hc_iload_n C dL_law_288 rfl rfl ?_
    refine hc_iconst C dL_law_289 (v := 5) rfl ?_
    refine hc_iadd C dL_law_290 ?_
    refine hc_sld C (j := i + 5) hX hbl hbA hn31 (show nI i + 5 = nI (i + 5) by rw [show (5 : Int32) = nI 5 from rfl, nI_add]) (by omega) dL_law_291 ?_
    refine hc_cV5i C mv_L_22 (c_X7_copy_b C.ok hr) rfl rfl rfl (Nat.le_of_ble_eq_true rfl) ⟨by decide, by decide⟩ hcs dL_law_292 (fun rx Mx hx1 => ?_)
    obtain ⟨rfl, rfl⟩ := hx1
    refine hc_aload_n C dL_law_295 rfl rfl ?_
    refine hc_aload_n C dL_law_296 rfl rfl ?_
    refine hc_iload_n C dL_law_297 rfl rfl ?_
    refine hc_iconst C dL_law_298 (v := 1) rfl ?_
    refine hc_iadd C dL_law_299 ?_
    refine hc_sld C (j := i + 1) hX hbl hbA hn31 (show nI i + 1 = nI (i + 1) by rw [show (1 : Int32) = nI 1 from rfl, nI_add]) (by omega) dL_law_300 ?_
    refine hc_aload_n C dL_law_301 rfl rfl ?_
    refine hc_iload_n C dL_law_302 rfl rfl ?_
    refine hc_iconst C dL_law_303 (v := 2) rfl ?_
    refine hc_iadd C dL_law_304 ?_
    refine hc_sld C (j := i + 2) hX hbl hbA hn31 (show nI i + 2 = nI (i + 2) by rw [show (2 : Int32) = nI 2 from rfl, nI_add]) (by omega) dL_law_305 ?_
    refine hc_aload_n C dL_law_306 rfl rfl ?_
    refine hc_iload_n C dL_law_307 rfl rfl ?_
    refine hc_iconst C dL_law_308 (v := 3) rfl ?_
    refine hc_iadd C dL_law_309 ?_
    refine hc_sld C (j := i + 3) hX hbl hbA hn31 (show nI i + 3 = nI (i + 3) by rw [show (3 : Int32) = nI 3 from rfl, nI_add]) (by omega) dL_law_310 ?_
    refine hc_aload_n C dL_law_311 rfl rfl ?_
    refine hc_iload_n C dL_law_312 rfl rfl ?_
    refine hc_iconst C dL_law_313 (v := 4) rfl ?_
    refine hc_iadd C dL_law_314 ?_
    refine hc_sld C (j := i + 4) hX hbl hbA hn31 (show nI i + 4 = nI (i + 4) by rw [show (4 : Int32) = nI 4 from rfl, nI_add]) (by omega) dL_law_315 ?_
    refine hc_aload_n C dL_law_316 rfl rfl ?_
    refine hc_iload_n C dL_law_317 rfl rfl ?_
    refine hc_iconst C dL_law_318 (v := 5) rfl ?_
    refine hc_iadd C dL_law_319 ?_
    refine hc_sld C (j := i + 5) hX hbl hbA hn31 (show nI i + 5 = nI (i + 5) by rw [show (5 : Int32) = nI 5 from rfl, nI_add]) (by omega) dL_law_320 ?_
    refine hc_cV5i C mv_L_26 (c_X8_copy_b C.ok hr) rfl rfl rfl (Nat.le_of_ble_eq_true rfl) ⟨by decide, by decide⟩ hcs dL_law_321 (fun rm Mm hm1 => ?_)
    obtain ⟨rfl, rfl⟩ := hm1
    refine hc_icmp_eq C (tgt := 1159) dL_law_324 (by decide) (fun c_324 => ?_) (fun c_324 => ?_)
    rotate_left
    · exact absurd (rfl) c_324
    exact kk _

set_option maxRecDepth 100000 in
set_option maxHeartbeats 4000000 in
theorem lc_3 {G : hc_Geo} {p : Program} {l : Launch} {e : Env} {s : State} {m : MethodId} {below : List Frame} {meth : Method} {c : Code} {cells slots : Nat} {Q : State → Prop} {b n : Nat} {xs : Nat → Int32} (C : hc_Cx G hc_lay code 4 ret R_law p s m #[Value.ref b] meth c) (hX : va_X b n xs s s.heap) (hbl : b < s.heap.size) (hbA : ¬ hc_A G b) (hn31 : n < 2 ^ 31) (hcs : cells ≤ room_1.cells ∧ slots ≤ room_1.slots) {i : Nat} (hi : i + 6 ≤ n) (kk : ∀ M' : hc_Mem, hc_W G hc_lay p l e room_1 s m #[Value.ref b] below meth c 4 cells slots Q 1159 [some (.ref b), some (.ref (hc_ad G 0)), some (.ref (hc_ad G 48)), some (.int (nI i))] [] M') : hc_W G hc_lay p l e room_1 s m #[Value.ref b] below meth c 4 cells slots Q 329 [some (.ref b), some (.ref (hc_ad G 0)), some (.ref (hc_ad G 48)), some (.int (nI i))] [] hk_M2 := by
  by_cases hr1 : ¬ (xs (i + 1)) < 0 ∧ ¬ 8 ≤ (xs (i + 1))
  · obtain ⟨j1, hj1, e1⟩ : ∃ j : Nat, j < 8 ∧ (xs (i + 1)) = nI j := hx_ix 8 rfl hr1.1 hr1.2 (by decide)
    refine hc_aload_n C dL_law_329 rfl rfl ?_
    refine hc_aload_n C dL_law_330 rfl rfl ?_
    refine hc_iload_n C dL_law_331 rfl rfl ?_
    refine hc_iconst C dL_law_332 (v := 1) rfl ?_
    refine hc_iadd C dL_law_333 ?_
    refine hc_sld C (j := i + 1) hX hbl hbA hn31 (show nI i + 1 = nI (i + 1) by rw [show (1 : Int32) = nI 1 from rfl, nI_add]) (by omega) dL_law_334 ?_
    refine hc_top e1 ?_
    refine hc_cV1i C mv_L_27 (c_X7_drop_n C.ok hj1 (by simp [hk_M2, hk_M1, hc_mf, hj1])) rfl rfl rfl (Nat.le_of_ble_eq_true rfl) ⟨by decide, by decide⟩ hcs dL_law_335 (fun rx Mx hx1 => ?_)
    obtain ⟨rfl, rfl⟩ := hx1
    refine hc_aload_n C dL_law_338 rfl rfl ?_
    refine hc_aload_n C dL_law_339 rfl rfl ?_
    refine hc_iload_n C dL_law_340 rfl rfl ?_
    refine hc_iconst C dL_law_341 (v := 1) rfl ?_
    refine hc_iadd C dL_law_342 ?_
    refine hc_sld C (j := i + 1) hX hbl hbA hn31 (show nI i + 1 = nI (i + 1) by rw [show (1 : Int32) = nI 1 from rfl, nI_add]) (by omega) dL_law_343 ?_
    refine hc_top e1 ?_
    refine hc_cV1i C mv_L_31 (c_X8_drop_n C.ok hj1 (by simp [hk_M2, hk_M1, hc_mf, hc_ms, hj1])) rfl rfl rfl (Nat.le_of_ble_eq_true rfl) ⟨by decide, by decide⟩ hcs dL_law_344 (fun rm Mm hm1 => ?_)
    obtain ⟨rfl, rfl⟩ := hm1
    refine hc_icmp_eq C (tgt := 1159) dL_law_347 (by decide) (fun c_347 => ?_) (fun c_347 => ?_)
    rotate_left
    · exact absurd (rfl) c_347
    exact kk _
  · refine hc_aload_n C dL_law_329 rfl rfl ?_
    refine hc_aload_n C dL_law_330 rfl rfl ?_
    refine hc_iload_n C dL_law_331 rfl rfl ?_
    refine hc_iconst C dL_law_332 (v := 1) rfl ?_
    refine hc_iadd C dL_law_333 ?_
    refine hc_sld C (j := i + 1) hX hbl hbA hn31 (show nI i + 1 = nI (i + 1) by rw [show (1 : Int32) = nI 1 from rfl, nI_add]) (by omega) dL_law_334 ?_
    refine hc_cV1i C mv_L_27 (c_X7_drop_b C.ok hr1) rfl rfl rfl (Nat.le_of_ble_eq_true rfl) ⟨by decide, by decide⟩ hcs dL_law_335 (fun rx Mx hx1 => ?_)
    obtain ⟨rfl, rfl⟩ := hx1
    refine hc_aload_n C dL_law_338 rfl rfl ?_
    refine hc_aload_n C dL_law_339 rfl rfl ?_
    refine hc_iload_n C dL_law_340 rfl rfl ?_
    refine hc_iconst C dL_law_341 (v := 1) rfl ?_
    refine hc_iadd C dL_law_342 ?_
    refine hc_sld C (j := i + 1) hX hbl hbA hn31 (show nI i + 1 = nI (i + 1) by rw [show (1 : Int32) = nI 1 from rfl, nI_add]) (by omega) dL_law_343 ?_
    refine hc_cV1i C mv_L_31 (c_X8_drop_b C.ok hr1) rfl rfl rfl (Nat.le_of_ble_eq_true rfl) ⟨by decide, by decide⟩ hcs dL_law_344 (fun rm Mm hm1 => ?_)
    obtain ⟨rfl, rfl⟩ := hm1
    refine hc_icmp_eq C (tgt := 1159) dL_law_347 (by decide) (fun c_347 => ?_) (fun c_347 => ?_)
    rotate_left
    · exact absurd (rfl) c_347
    exact kk _

set_option maxRecDepth 100000 in
set_option maxHeartbeats 4000000 in
theorem lc_4 {G : hc_Geo} {p : Program} {l : Launch} {e : Env} {s : State} {m : MethodId} {below : List Frame} {meth : Method} {c : Code} {cells slots : Nat} {Q : State → Prop} {b n : Nat} {xs : Nat → Int32} (C : hc_Cx G hc_lay code 4 ret R_law p s m #[Value.ref b] meth c) (hX : va_X b n xs s s.heap) (hbl : b < s.heap.size) (hbA : ¬ hc_A G b) (hn31 : n < 2 ^ 31) (hcs : cells ≤ room_1.cells ∧ slots ≤ room_1.slots) {i : Nat} (hi : i + 6 ≤ n) (kk : ∀ M' : hc_Mem, hc_W G hc_lay p l e room_1 s m #[Value.ref b] below meth c 4 cells slots Q 1159 [some (.ref b), some (.ref (hc_ad G 0)), some (.ref (hc_ad G 48)), some (.int (nI i))] [] M') : hc_W G hc_lay p l e room_1 s m #[Value.ref b] below meth c 4 cells slots Q 352 [some (.ref b), some (.ref (hc_ad G 0)), some (.ref (hc_ad G 48)), some (.int (nI i))] [] hk_M2 := by
  by_cases h0 : ¬ (xs (i + 1)) < 0 ∧ ¬ 255 < (xs (i + 1))
  · refine hc_aload_n C dL_law_352 rfl rfl ?_
    refine hc_aload_n C dL_law_353 rfl rfl ?_
    refine hc_iload_n C dL_law_354 rfl rfl ?_
    refine hc_iconst C dL_law_355 (v := 1) rfl ?_
    refine hc_iadd C dL_law_356 ?_
    refine hc_sld C (j := i + 1) hX hbl hbA hn31 (show nI i + 1 = nI (i + 1) by rw [show (1 : Int32) = nI 1 from rfl, nI_add]) (by omega) dL_law_357 ?_
    refine hc_cV1i C mv_L_32 (c_X7_feed_o (n := 0) C.ok h0 rfl (by decide)) rfl rfl rfl (Nat.le_of_ble_eq_true rfl) ⟨by decide, by decide⟩ hcs dL_law_358 (fun rx Mx hx1 => ?_)
    obtain ⟨rfl, rfl⟩ := hx1
    refine hc_aload_n C dL_law_361 rfl rfl ?_
    refine hc_aload_n C dL_law_362 rfl rfl ?_
    refine hc_iload_n C dL_law_363 rfl rfl ?_
    refine hc_iconst C dL_law_364 (v := 1) rfl ?_
    refine hc_iadd C dL_law_365 ?_
    refine hc_sld C (j := i + 1) hX hbl hbA hn31 (show nI i + 1 = nI (i + 1) by rw [show (1 : Int32) = nI 1 from rfl, nI_add]) (by omega) dL_law_366 ?_
    refine hc_cV1i C mv_L_35 (c_X8_feed_o (n := 0) C.ok h0 rfl (by decide)) rfl rfl rfl (Nat.le_of_ble_eq_true rfl) ⟨by decide, by decide⟩ hcs dL_law_367 (fun rm Mm hm1 => ?_)
    obtain ⟨rfl, rfl⟩ := hm1
    refine hc_icmp_eq C (tgt := 1159) dL_law_370 (by decide) (fun c_370 => ?_) (fun c_370 => ?_)
    rotate_left
    · exact absurd (rfl) c_370
    exact kk _
  · refine hc_aload_n C dL_law_352 rfl rfl ?_
    refine hc_aload_n C dL_law_353 rfl rfl ?_
    refine hc_iload_n C dL_law_354 rfl rfl ?_
    refine hc_iconst C dL_law_355 (v := 1) rfl ?_
    refine hc_iadd C dL_law_356 ?_
    refine hc_sld C (j := i + 1) hX hbl hbA hn31 (show nI i + 1 = nI (i + 1) by rw [show (1 : Int32) = nI 1 from rfl, nI_add]) (by omega) dL_law_357 ?_
    refine hc_cV1i C mv_L_32 (c_X7_feed_b C.ok h0) rfl rfl rfl (Nat.le_of_ble_eq_true rfl) ⟨by decide, by decide⟩ hcs dL_law_358 (fun rx Mx hx1 => ?_)
    obtain ⟨rfl, rfl⟩ := hx1
    refine hc_aload_n C dL_law_361 rfl rfl ?_
    refine hc_aload_n C dL_law_362 rfl rfl ?_
    refine hc_iload_n C dL_law_363 rfl rfl ?_
    refine hc_iconst C dL_law_364 (v := 1) rfl ?_
    refine hc_iadd C dL_law_365 ?_
    refine hc_sld C (j := i + 1) hX hbl hbA hn31 (show nI i + 1 = nI (i + 1) by rw [show (1 : Int32) = nI 1 from rfl, nI_add]) (by omega) dL_law_366 ?_
    refine hc_cV1i C mv_L_35 (c_X8_feed_b C.ok h0) rfl rfl rfl (Nat.le_of_ble_eq_true rfl) ⟨by decide, by decide⟩ hcs dL_law_367 (fun rm Mm hm1 => ?_)
    obtain ⟨rfl, rfl⟩ := hm1
    refine hc_icmp_eq C (tgt := 1159) dL_law_370 (by decide) (fun c_370 => ?_) (fun c_370 => ?_)
    rotate_left
    · exact absurd (rfl) c_370
    exact kk _

set_option maxRecDepth 100000 in
set_option maxHeartbeats 4000000 in
theorem lc_5 {G : hc_Geo} {p : Program} {l : Launch} {e : Env} {s : State} {m : MethodId} {below : List Frame} {meth : Method} {c : Code} {cells slots : Nat} {Q : State → Prop} {b n : Nat} {xs : Nat → Int32} (C : hc_Cx G hc_lay code 4 ret R_law p s m #[Value.ref b] meth c) (hX : va_X b n xs s s.heap) (hbl : b < s.heap.size) (hbA : ¬ hc_A G b) (hn31 : n < 2 ^ 31) (hcs : cells ≤ room_1.cells ∧ slots ≤ room_1.slots) {i : Nat} (hi : i + 6 ≤ n) (kk : ∀ M' : hc_Mem, hc_W G hc_lay p l e room_1 s m #[Value.ref b] below meth c 4 cells slots Q 1159 [some (.ref b), some (.ref (hc_ad G 0)), some (.ref (hc_ad G 48)), some (.int (nI i))] [] M') : hc_W G hc_lay p l e room_1 s m #[Value.ref b] below meth c 4 cells slots Q 375 [some (.ref b), some (.ref (hc_ad G 0)), some (.ref (hc_ad G 48)), some (.int (nI i))] [] hk_M2 := by
  refine hc_aload_n C dL_law_375 rfl rfl ?_
  refine hc_cV0i C mv_L_36 (c_X7_house_0 C.ok rfl) rfl rfl rfl (Nat.le_of_ble_eq_true rfl) ⟨by decide, by decide⟩ hcs dL_law_376 (fun rx Mx hx1 => ?_)
  obtain ⟨rfl, rfl⟩ := hx1
  refine hc_aload_n C dL_law_379 rfl rfl ?_
  refine hc_cV0i C mv_L_40 (c_X8_house_0 C.ok (by simp [hk_M2, hk_M1, hk_M0, hc_mf, hc_ms])) rfl rfl rfl (Nat.le_of_ble_eq_true rfl) ⟨by decide, by decide⟩ hcs dL_law_380 (fun rm Mm hm1 => ?_)
  subst hm1
  refine hc_icmp_eq C (tgt := 1159) dL_law_383 (by decide) (fun c_383 => ?_) (fun c_383 => ?_)
  rotate_left
  · exact absurd (rfl) c_383
  exact kk _

set_option maxRecDepth 100000 in
set_option maxHeartbeats 4000000 in
theorem lc_6 {G : hc_Geo} {p : Program} {l : Launch} {e : Env} {s : State} {m : MethodId} {below : List Frame} {meth : Method} {c : Code} {cells slots : Nat} {Q : State → Prop} {b n : Nat} {xs : Nat → Int32} (C : hc_Cx G hc_lay code 4 ret R_law p s m #[Value.ref b] meth c) (hX : va_X b n xs s s.heap) (hbl : b < s.heap.size) (hbA : ¬ hc_A G b) (hn31 : n < 2 ^ 31) (hcs : cells ≤ room_1.cells ∧ slots ≤ room_1.slots) {i : Nat} (hi : i + 6 ≤ n) (kk : ∀ M' : hc_Mem, hc_W G hc_lay p l e room_1 s m #[Value.ref b] below meth c 4 cells slots Q 1159 [some (.ref b), some (.ref (hc_ad G 0)), some (.ref (hc_ad G 48)), some (.int (nI i))] [] M') : hc_W G hc_lay p l e room_1 s m #[Value.ref b] below meth c 4 cells slots Q 388 [some (.ref b), some (.ref (hc_ad G 0)), some (.ref (hc_ad G 48)), some (.int (nI i))] [] hk_M2 := by
  refine hc_aload_n C dL_law_388 rfl rfl ?_
  refine hc_cV0i C mv_L_41 (c_X7_fault C.ok) rfl rfl rfl (Nat.le_of_ble_eq_true rfl) ⟨by decide, by decide⟩ hcs dL_law_389 (fun rx Mx hx1 => ?_)
  obtain ⟨rfl, rfl⟩ := hx1
  refine hc_aload_n C dL_law_392 rfl rfl ?_
  refine hc_cV0i C mv_L_44 (c_X8_fault C.ok) rfl rfl rfl (Nat.le_of_ble_eq_true rfl) ⟨by decide, by decide⟩ hcs dL_law_393 (fun rm Mm hm1 => ?_)
  obtain ⟨rfl, rfl⟩ := hm1
  refine hc_icmp_eq C (tgt := 1159) dL_law_396 (by decide) (fun c_396 => ?_) (fun c_396 => ?_)
  rotate_left
  · exact absurd (rfl) c_396
  exact kk _

set_option maxRecDepth 100000 in
set_option maxHeartbeats 4000000 in
theorem lc_7 {G : hc_Geo} {p : Program} {l : Launch} {e : Env} {s : State} {m : MethodId} {below : List Frame} {meth : Method} {c : Code} {cells slots : Nat} {Q : State → Prop} {b n : Nat} {xs : Nat → Int32} (C : hc_Cx G hc_lay code 4 ret R_law p s m #[Value.ref b] meth c) (hX : va_X b n xs s s.heap) (hbl : b < s.heap.size) (hbA : ¬ hc_A G b) (hn31 : n < 2 ^ 31) (hcs : cells ≤ room_1.cells ∧ slots ≤ room_1.slots) {i : Nat} (hi : i + 6 ≤ n) (kk : ∀ M' : hc_Mem, hc_W G hc_lay p l e room_1 s m #[Value.ref b] below meth c 4 cells slots Q 1159 [some (.ref b), some (.ref (hc_ad G 0)), some (.ref (hc_ad G 48)), some (.int (nI i))] [] M') : hc_W G hc_lay p l e room_1 s m #[Value.ref b] below meth c 4 cells slots Q 401 [some (.ref b), some (.ref (hc_ad G 0)), some (.ref (hc_ad G 48)), some (.int (nI i))] [] hk_M2 := by
  refine hc_aload_n C dL_law_401 rfl rfl ?_
  refine hc_aload_n C dL_law_402 rfl rfl ?_
  refine hc_iload_n C dL_law_403 rfl rfl ?_
  refine hc_iconst C dL_law_404 (v := 1) rfl ?_
  refine hc_iadd C dL_law_405 ?_
  refine hc_sld C (j := i + 1) hX hbl hbA hn31 (show nI i + 1 = nI (i + 1) by rw [show (1 : Int32) = nI 1 from rfl, nI_add]) (by omega) dL_law_406 ?_
  refine hc_cV1i C mv_L_45 (c_X7_quarters_n C.ok rfl) rfl rfl rfl (Nat.le_of_ble_eq_true rfl) ⟨by decide, by decide⟩ hcs dL_law_407 (fun rx Mx hx1 => ?_)
  obtain ⟨rfl, rfl⟩ := hx1
  refine hc_aload_n C dL_law_410 rfl rfl ?_
  refine hc_aload_n C dL_law_411 rfl rfl ?_
  refine hc_iload_n C dL_law_412 rfl rfl ?_
  refine hc_iconst C dL_law_413 (v := 1) rfl ?_
  refine hc_iadd C dL_law_414 ?_
  refine hc_sld C (j := i + 1) hX hbl hbA hn31 (show nI i + 1 = nI (i + 1) by rw [show (1 : Int32) = nI 1 from rfl, nI_add]) (by omega) dL_law_415 ?_
  refine hc_cV1i C mv_L_48 (c_X8_quarters_n C.ok (by decide)) rfl rfl rfl (Nat.le_of_ble_eq_true rfl) ⟨by decide, by decide⟩ hcs dL_law_416 (fun rm Mm hm1 => ?_)
  obtain ⟨rfl, rfl⟩ := hm1
  refine hc_icmp_eq C (tgt := 1159) dL_law_419 (by decide) (fun c_419 => ?_) (fun c_419 => ?_)
  rotate_left
  · exact absurd (rfl) c_419
  exact kk _

set_option maxRecDepth 100000 in
set_option maxHeartbeats 4000000 in
theorem lc_8 {G : hc_Geo} {p : Program} {l : Launch} {e : Env} {s : State} {m : MethodId} {below : List Frame} {meth : Method} {c : Code} {cells slots : Nat} {Q : State → Prop} {b n : Nat} {xs : Nat → Int32} (C : hc_Cx G hc_lay code 4 ret R_law p s m #[Value.ref b] meth c) (hX : va_X b n xs s s.heap) (hbl : b < s.heap.size) (hbA : ¬ hc_A G b) (hn31 : n < 2 ^ 31) (hcs : cells ≤ room_1.cells ∧ slots ≤ room_1.slots) {i : Nat} (hi : i + 6 ≤ n) (kk : ∀ M' : hc_Mem, hc_W G hc_lay p l e room_1 s m #[Value.ref b] below meth c 4 cells slots Q 1159 [some (.ref b), some (.ref (hc_ad G 0)), some (.ref (hc_ad G 48)), some (.int (nI i))] [] M') : hc_W G hc_lay p l e room_1 s m #[Value.ref b] below meth c 4 cells slots Q 424 [some (.ref b), some (.ref (hc_ad G 0)), some (.ref (hc_ad G 48)), some (.int (nI i))] [] hk_M2 := by
  refine hc_aload_n C dL_law_424 rfl rfl ?_
  refine hc_aload_n C dL_law_425 rfl rfl ?_
  refine hc_iload_n C dL_law_426 rfl rfl ?_
  refine hc_iconst C dL_law_427 (v := 1) rfl ?_
  refine hc_iadd C dL_law_428 ?_
  refine hc_sld C (j := i + 1) hX hbl hbA hn31 (show nI i + 1 = nI (i + 1) by rw [show (1 : Int32) = nI 1 from rfl, nI_add]) (by omega) dL_law_429 ?_
  refine hc_aload_n C dL_law_430 rfl rfl ?_
  refine hc_iload_n C dL_law_431 rfl rfl ?_
  refine hc_iconst C dL_law_432 (v := 2) rfl ?_
  refine hc_iadd C dL_law_433 ?_
  refine hc_sld C (j := i + 2) hX hbl hbA hn31 (show nI i + 2 = nI (i + 2) by rw [show (2 : Int32) = nI 2 from rfl, nI_add]) (by omega) dL_law_434 ?_
  refine hc_cV2i C mv_L_49 (c_X7_go_b C.ok (fun q => q.2 (show (0 : Int32) ≤ _ from Int32.not_lt.mp q.1))) rfl rfl rfl (Nat.le_of_ble_eq_true rfl) ⟨by decide, by decide⟩ hcs dL_law_435 (fun rx Mx hx1 => ?_)
  obtain ⟨rfl, rfl⟩ := hx1
  refine hc_aload_n C dL_law_438 rfl rfl ?_
  refine hc_aload_n C dL_law_439 rfl rfl ?_
  refine hc_iload_n C dL_law_440 rfl rfl ?_
  refine hc_iconst C dL_law_441 (v := 1) rfl ?_
  refine hc_iadd C dL_law_442 ?_
  refine hc_sld C (j := i + 1) hX hbl hbA hn31 (show nI i + 1 = nI (i + 1) by rw [show (1 : Int32) = nI 1 from rfl, nI_add]) (by omega) dL_law_443 ?_
  refine hc_aload_n C dL_law_444 rfl rfl ?_
  refine hc_iload_n C dL_law_445 rfl rfl ?_
  refine hc_iconst C dL_law_446 (v := 2) rfl ?_
  refine hc_iadd C dL_law_447 ?_
  refine hc_sld C (j := i + 2) hX hbl hbA hn31 (show nI i + 2 = nI (i + 2) by rw [show (2 : Int32) = nI 2 from rfl, nI_add]) (by omega) dL_law_448 ?_
  refine hc_cV2i C mv_L_53 (c_X8_go_b (E := 0) C.ok rfl (by decide) (fun q => q.2 (show (0 : Int32) ≤ _ from Int32.not_lt.mp q.1))) rfl rfl rfl (Nat.le_of_ble_eq_true rfl) ⟨by decide, by decide⟩ hcs dL_law_449 (fun rm Mm hm1 => ?_)
  obtain ⟨rfl, rfl⟩ := hm1
  refine hc_icmp_eq C (tgt := 1159) dL_law_452 (by decide) (fun c_452 => ?_) (fun c_452 => ?_)
  rotate_left
  · exact absurd (rfl) c_452
  exact kk _

set_option maxRecDepth 100000 in
set_option maxHeartbeats 4000000 in
theorem lc_9 {G : hc_Geo} {p : Program} {l : Launch} {e : Env} {s : State} {m : MethodId} {below : List Frame} {meth : Method} {c : Code} {cells slots : Nat} {Q : State → Prop} {b n : Nat} {xs : Nat → Int32} (C : hc_Cx G hc_lay code 4 ret R_law p s m #[Value.ref b] meth c) (hX : va_X b n xs s s.heap) (hbl : b < s.heap.size) (hbA : ¬ hc_A G b) (hn31 : n < 2 ^ 31) (hcs : cells ≤ room_1.cells ∧ slots ≤ room_1.slots) {i : Nat} (hi : i + 6 ≤ n) (kk : ∀ M' : hc_Mem, hc_W G hc_lay p l e room_1 s m #[Value.ref b] below meth c 4 cells slots Q 1159 [some (.ref b), some (.ref (hc_ad G 0)), some (.ref (hc_ad G 48)), some (.int (nI i))] [] M') : hc_W G hc_lay p l e room_1 s m #[Value.ref b] below meth c 4 cells slots Q 457 [some (.ref b), some (.ref (hc_ad G 0)), some (.ref (hc_ad G 48)), some (.int (nI i))] [] hk_M2 := by
  refine hc_aload_n C dL_law_457 rfl rfl ?_
  refine hc_aload_n C dL_law_458 rfl rfl ?_
  refine hc_iload_n C dL_law_459 rfl rfl ?_
  refine hc_iconst C dL_law_460 (v := 1) rfl ?_
  refine hc_iadd C dL_law_461 ?_
  refine hc_sld C (j := i + 1) hX hbl hbA hn31 (show nI i + 1 = nI (i + 1) by rw [show (1 : Int32) = nI 1 from rfl, nI_add]) (by omega) dL_law_462 ?_
  refine hc_aload_n C dL_law_463 rfl rfl ?_
  refine hc_iload_n C dL_law_464 rfl rfl ?_
  refine hc_iconst C dL_law_465 (v := 2) rfl ?_
  refine hc_iadd C dL_law_466 ?_
  refine hc_sld C (j := i + 2) hX hbl hbA hn31 (show nI i + 2 = nI (i + 2) by rw [show (2 : Int32) = nI 2 from rfl, nI_add]) (by omega) dL_law_467 ?_
  refine hc_cV2i C mv_L_54 (c_X7_hush_b C.ok (fun q => q.2 (show (0 : Int32) ≤ _ from Int32.not_lt.mp q.1))) rfl rfl rfl (Nat.le_of_ble_eq_true rfl) ⟨by decide, by decide⟩ hcs dL_law_468 (fun rx Mx hx1 => ?_)
  obtain ⟨rfl, rfl⟩ := hx1
  refine hc_aload_n C dL_law_471 rfl rfl ?_
  refine hc_aload_n C dL_law_472 rfl rfl ?_
  refine hc_iload_n C dL_law_473 rfl rfl ?_
  refine hc_iconst C dL_law_474 (v := 1) rfl ?_
  refine hc_iadd C dL_law_475 ?_
  refine hc_sld C (j := i + 1) hX hbl hbA hn31 (show nI i + 1 = nI (i + 1) by rw [show (1 : Int32) = nI 1 from rfl, nI_add]) (by omega) dL_law_476 ?_
  refine hc_aload_n C dL_law_477 rfl rfl ?_
  refine hc_iload_n C dL_law_478 rfl rfl ?_
  refine hc_iconst C dL_law_479 (v := 2) rfl ?_
  refine hc_iadd C dL_law_480 ?_
  refine hc_sld C (j := i + 2) hX hbl hbA hn31 (show nI i + 2 = nI (i + 2) by rw [show (2 : Int32) = nI 2 from rfl, nI_add]) (by omega) dL_law_481 ?_
  refine hc_cV2i C mv_L_57 (c_X8_hush_b (E := 0) C.ok rfl (by decide) (fun q => q.2 (show (0 : Int32) ≤ _ from Int32.not_lt.mp q.1))) rfl rfl rfl (Nat.le_of_ble_eq_true rfl) ⟨by decide, by decide⟩ hcs dL_law_482 (fun rm Mm hm1 => ?_)
  obtain ⟨rfl, rfl⟩ := hm1
  refine hc_icmp_eq C (tgt := 1159) dL_law_485 (by decide) (fun c_485 => ?_) (fun c_485 => ?_)
  rotate_left
  · exact absurd (rfl) c_485
  exact kk _

set_option maxRecDepth 100000 in
set_option maxHeartbeats 4000000 in
theorem lc_10 {G : hc_Geo} {p : Program} {l : Launch} {e : Env} {s : State} {m : MethodId} {below : List Frame} {meth : Method} {c : Code} {cells slots : Nat} {Q : State → Prop} {b n : Nat} {xs : Nat → Int32} (C : hc_Cx G hc_lay code 4 ret R_law p s m #[Value.ref b] meth c) (hX : va_X b n xs s s.heap) (hbl : b < s.heap.size) (hbA : ¬ hc_A G b) (hn31 : n < 2 ^ 31) (hcs : cells ≤ room_1.cells ∧ slots ≤ room_1.slots) {i : Nat} (hi : i + 6 ≤ n) (kk : ∀ M' : hc_Mem, hc_W G hc_lay p l e room_1 s m #[Value.ref b] below meth c 4 cells slots Q 1159 [some (.ref b), some (.ref (hc_ad G 0)), some (.ref (hc_ad G 48)), some (.int (nI i))] [] M') : hc_W G hc_lay p l e room_1 s m #[Value.ref b] below meth c 4 cells slots Q 490 [some (.ref b), some (.ref (hc_ad G 0)), some (.ref (hc_ad G 48)), some (.int (nI i))] [] hk_M2 := by
  refine hc_aload_n C dL_law_490 rfl rfl ?_
  refine hc_aload_n C dL_law_491 rfl rfl ?_
  refine hc_iload_n C dL_law_492 rfl rfl ?_
  refine hc_iconst C dL_law_493 (v := 1) rfl ?_
  refine hc_iadd C dL_law_494 ?_
  refine hc_sld C (j := i + 1) hX hbl hbA hn31 (show nI i + 1 = nI (i + 1) by rw [show (1 : Int32) = nI 1 from rfl, nI_add]) (by omega) dL_law_495 ?_
  refine hc_cV1i C mv_L_58 (c_X7_wool_n C.ok rfl) rfl rfl rfl (Nat.le_of_ble_eq_true rfl) ⟨by decide, by decide⟩ hcs dL_law_496 (fun rx Mx hx1 => ?_)
  obtain ⟨rfl, rfl⟩ := hx1
  refine hc_aload_n C dL_law_499 rfl rfl ?_
  refine hc_aload_n C dL_law_500 rfl rfl ?_
  refine hc_iload_n C dL_law_501 rfl rfl ?_
  refine hc_iconst C dL_law_502 (v := 1) rfl ?_
  refine hc_iadd C dL_law_503 ?_
  refine hc_sld C (j := i + 1) hX hbl hbA hn31 (show nI i + 1 = nI (i + 1) by rw [show (1 : Int32) = nI 1 from rfl, nI_add]) (by omega) dL_law_504 ?_
  refine hc_cV1i C mv_L_61 (c_X8_wool_n C.ok (by decide)) rfl rfl rfl (Nat.le_of_ble_eq_true rfl) ⟨by decide, by decide⟩ hcs dL_law_505 (fun rm Mm hm1 => ?_)
  obtain ⟨rfl, rfl⟩ := hm1
  refine hc_icmp_eq C (tgt := 1159) dL_law_508 (by decide) (fun c_508 => ?_) (fun c_508 => ?_)
  rotate_left
  · exact absurd (rfl) c_508
  exact kk _

set_option maxRecDepth 100000 in
set_option maxHeartbeats 4000000 in
theorem lc_11 {G : hc_Geo} {p : Program} {l : Launch} {e : Env} {s : State} {m : MethodId} {below : List Frame} {meth : Method} {c : Code} {cells slots : Nat} {Q : State → Prop} {b n : Nat} {xs : Nat → Int32} (C : hc_Cx G hc_lay code 4 ret R_law p s m #[Value.ref b] meth c) (hX : va_X b n xs s s.heap) (hbl : b < s.heap.size) (hbA : ¬ hc_A G b) (hn31 : n < 2 ^ 31) (hcs : cells ≤ room_1.cells ∧ slots ≤ room_1.slots) {i : Nat} (hi : i + 6 ≤ n) (kk : ∀ M' : hc_Mem, hc_W G hc_lay p l e room_1 s m #[Value.ref b] below meth c 4 cells slots Q 1159 [some (.ref b), some (.ref (hc_ad G 0)), some (.ref (hc_ad G 48)), some (.int (nI i))] [] M') : hc_W G hc_lay p l e room_1 s m #[Value.ref b] below meth c 4 cells slots Q 513 [some (.ref b), some (.ref (hc_ad G 0)), some (.ref (hc_ad G 48)), some (.int (nI i))] [] hk_M2 := by
  refine hc_aload_n C dL_law_513 rfl rfl ?_
  refine hc_cV0i C mv_L_62 (c_X7_undo_0 C.ok rfl) rfl rfl rfl (Nat.le_of_ble_eq_true rfl) ⟨by decide, by decide⟩ hcs dL_law_514 (fun rx Mx hx1 => ?_)
  obtain ⟨rfl, rfl⟩ := hx1
  refine hc_aload_n C dL_law_517 rfl rfl ?_
  refine hc_cV0i C mv_L_65 (c_X8_undo_0 C.ok rfl) rfl rfl rfl (Nat.le_of_ble_eq_true rfl) ⟨by decide, by decide⟩ hcs dL_law_518 (fun rm Mm hm1 => ?_)
  obtain ⟨rfl, rfl⟩ := hm1
  refine hc_icmp_eq C (tgt := 1159) dL_law_521 (by decide) (fun c_521 => ?_) (fun c_521 => ?_)
  rotate_left
  · exact absurd (rfl) c_521
  exact kk _

set_option maxRecDepth 100000 in
set_option maxHeartbeats 4000000 in
theorem lc_12 {G : hc_Geo} {p : Program} {l : Launch} {e : Env} {s : State} {m : MethodId} {below : List Frame} {meth : Method} {c : Code} {cells slots : Nat} {Q : State → Prop} {b n : Nat} {xs : Nat → Int32} (C : hc_Cx G hc_lay code 4 ret R_law p s m #[Value.ref b] meth c) (hX : va_X b n xs s s.heap) (hbl : b < s.heap.size) (hbA : ¬ hc_A G b) (hn31 : n < 2 ^ 31) (hcs : cells ≤ room_1.cells ∧ slots ≤ room_1.slots) {i : Nat} (hi : i + 6 ≤ n) (kk : ∀ M' : hc_Mem, hc_W G hc_lay p l e room_1 s m #[Value.ref b] below meth c 4 cells slots Q 1159 [some (.ref b), some (.ref (hc_ad G 0)), some (.ref (hc_ad G 48)), some (.int (nI i))] [] M') : hc_W G hc_lay p l e room_1 s m #[Value.ref b] below meth c 4 cells slots Q 526 [some (.ref b), some (.ref (hc_ad G 0)), some (.ref (hc_ad G 48)), some (.int (nI i))] [] hk_M2 := by
  refine hc_aload_n C dL_law_526 rfl rfl ?_
  refine hc_aload_n C dL_law_527 rfl rfl ?_
  refine hc_iload_n C dL_law_528 rfl rfl ?_
  refine hc_iconst C dL_law_529 (v := 1) rfl ?_
  refine hc_iadd C dL_law_530 ?_
  refine hc_sld C (j := i + 1) hX hbl hbA hn31 (show nI i + 1 = nI (i + 1) by rw [show (1 : Int32) = nI 1 from rfl, nI_add]) (by omega) dL_law_531 ?_
  refine hc_aload_n C dL_law_532 rfl rfl ?_
  refine hc_iload_n C dL_law_533 rfl rfl ?_
  refine hc_iconst C dL_law_534 (v := 2) rfl ?_
  refine hc_iadd C dL_law_535 ?_
  refine hc_sld C (j := i + 2) hX hbl hbA hn31 (show nI i + 2 = nI (i + 2) by rw [show (2 : Int32) = nI 2 from rfl, nI_add]) (by omega) dL_law_536 ?_
  refine hc_cV2i C mv_L_66 (c_X7_ear_b C.ok (fun q => q.2 (show (0 : Int32) ≤ _ from Int32.not_lt.mp q.1))) rfl rfl rfl (Nat.le_of_ble_eq_true rfl) ⟨by decide, by decide⟩ hcs dL_law_537 (fun rx Mx hx1 => ?_)
  obtain ⟨rfl, rfl⟩ := hx1
  refine hc_aload_n C dL_law_540 rfl rfl ?_
  refine hc_aload_n C dL_law_541 rfl rfl ?_
  refine hc_iload_n C dL_law_542 rfl rfl ?_
  refine hc_iconst C dL_law_543 (v := 1) rfl ?_
  refine hc_iadd C dL_law_544 ?_
  refine hc_sld C (j := i + 1) hX hbl hbA hn31 (show nI i + 1 = nI (i + 1) by rw [show (1 : Int32) = nI 1 from rfl, nI_add]) (by omega) dL_law_545 ?_
  refine hc_aload_n C dL_law_546 rfl rfl ?_
  refine hc_iload_n C dL_law_547 rfl rfl ?_
  refine hc_iconst C dL_law_548 (v := 2) rfl ?_
  refine hc_iadd C dL_law_549 ?_
  refine hc_sld C (j := i + 2) hX hbl hbA hn31 (show nI i + 2 = nI (i + 2) by rw [show (2 : Int32) = nI 2 from rfl, nI_add]) (by omega) dL_law_550 ?_
  refine hc_cV2i C mv_L_69 (c_X8_ear_b (E := 0) C.ok rfl (by decide) (fun q => q.2 (show (0 : Int32) ≤ _ from Int32.not_lt.mp q.1))) rfl rfl rfl (Nat.le_of_ble_eq_true rfl) ⟨by decide, by decide⟩ hcs dL_law_551 (fun rm Mm hm1 => ?_)
  obtain ⟨rfl, rfl⟩ := hm1
  refine hc_icmp_eq C (tgt := 1159) dL_law_554 (by decide) (fun c_554 => ?_) (fun c_554 => ?_)
  rotate_left
  · exact absurd (rfl) c_554
  exact kk _

set_option maxRecDepth 100000 in
set_option maxHeartbeats 4000000 in
theorem lc_13 {G : hc_Geo} {p : Program} {l : Launch} {e : Env} {s : State} {m : MethodId} {below : List Frame} {meth : Method} {c : Code} {cells slots : Nat} {Q : State → Prop} {b n : Nat} {xs : Nat → Int32} (C : hc_Cx G hc_lay code 4 ret R_law p s m #[Value.ref b] meth c) (hX : va_X b n xs s s.heap) (hbl : b < s.heap.size) (hbA : ¬ hc_A G b) (hn31 : n < 2 ^ 31) (hcs : cells ≤ room_1.cells ∧ slots ≤ room_1.slots) {i : Nat} (hi : i + 6 ≤ n) (kk : ∀ M' : hc_Mem, hc_W G hc_lay p l e room_1 s m #[Value.ref b] below meth c 4 cells slots Q 1159 [some (.ref b), some (.ref (hc_ad G 0)), some (.ref (hc_ad G 48)), some (.int (nI i))] [] M') : hc_W G hc_lay p l e room_1 s m #[Value.ref b] below meth c 4 cells slots Q 559 [some (.ref b), some (.ref (hc_ad G 0)), some (.ref (hc_ad G 48)), some (.int (nI i))] [] hk_M2 := by
  refine hc_aload_n C dL_law_559 rfl rfl ?_
  refine hc_aload_n C dL_law_560 rfl rfl ?_
  refine hc_iload_n C dL_law_561 rfl rfl ?_
  refine hc_iconst C dL_law_562 (v := 1) rfl ?_
  refine hc_iadd C dL_law_563 ?_
  refine hc_sld C (j := i + 1) hX hbl hbA hn31 (show nI i + 1 = nI (i + 1) by rw [show (1 : Int32) = nI 1 from rfl, nI_add]) (by omega) dL_law_564 ?_
  refine hc_cV1i C mv_L_70 (c_X7_clock_n C.ok rfl) rfl rfl rfl (Nat.le_of_ble_eq_true rfl) ⟨by decide, by decide⟩ hcs dL_law_565 (fun rx Mx hx1 => ?_)
  obtain ⟨rfl, rfl⟩ := hx1
  refine hc_aload_n C dL_law_568 rfl rfl ?_
  refine hc_aload_n C dL_law_569 rfl rfl ?_
  refine hc_iload_n C dL_law_570 rfl rfl ?_
  refine hc_iconst C dL_law_571 (v := 1) rfl ?_
  refine hc_iadd C dL_law_572 ?_
  refine hc_sld C (j := i + 1) hX hbl hbA hn31 (show nI i + 1 = nI (i + 1) by rw [show (1 : Int32) = nI 1 from rfl, nI_add]) (by omega) dL_law_573 ?_
  refine hc_cV1i C mv_L_73 (c_X8_clock_n C.ok (by decide)) rfl rfl rfl (Nat.le_of_ble_eq_true rfl) ⟨by decide, by decide⟩ hcs dL_law_574 (fun rm Mm hm1 => ?_)
  obtain ⟨rfl, rfl⟩ := hm1
  refine hc_icmp_eq C (tgt := 1159) dL_law_577 (by decide) (fun c_577 => ?_) (fun c_577 => ?_)
  rotate_left
  · exact absurd (rfl) c_577
  exact kk _

set_option maxRecDepth 100000 in
set_option maxHeartbeats 4000000 in
theorem lc_14 {G : hc_Geo} {p : Program} {l : Launch} {e : Env} {s : State} {m : MethodId} {below : List Frame} {meth : Method} {c : Code} {cells slots : Nat} {Q : State → Prop} {b n : Nat} {xs : Nat → Int32} (C : hc_Cx G hc_lay code 4 ret R_law p s m #[Value.ref b] meth c) (hX : va_X b n xs s s.heap) (hbl : b < s.heap.size) (hbA : ¬ hc_A G b) (hn31 : n < 2 ^ 31) (hcs : cells ≤ room_1.cells ∧ slots ≤ room_1.slots) {i : Nat} (hi : i + 6 ≤ n) (kk : ∀ M' : hc_Mem, hc_W G hc_lay p l e room_1 s m #[Value.ref b] below meth c 4 cells slots Q 1159 [some (.ref b), some (.ref (hc_ad G 0)), some (.ref (hc_ad G 48)), some (.int (nI i))] [] M') : hc_W G hc_lay p l e room_1 s m #[Value.ref b] below meth c 4 cells slots Q 582 [some (.ref b), some (.ref (hc_ad G 0)), some (.ref (hc_ad G 48)), some (.int (nI i))] [] hk_M2 := by
  refine hc_aload_n C dL_law_582 rfl rfl ?_
  refine hc_aload_n C dL_law_583 rfl rfl ?_
  refine hc_iload_n C dL_law_584 rfl rfl ?_
  refine hc_iconst C dL_law_585 (v := 1) rfl ?_
  refine hc_iadd C dL_law_586 ?_
  refine hc_sld C (j := i + 1) hX hbl hbA hn31 (show nI i + 1 = nI (i + 1) by rw [show (1 : Int32) = nI 1 from rfl, nI_add]) (by omega) dL_law_587 ?_
  refine hc_cV1i C mv_L_74 (c_X7_ahead_n C.ok rfl) rfl rfl rfl (Nat.le_of_ble_eq_true rfl) ⟨by decide, by decide⟩ hcs dL_law_588 (fun rx Mx hx1 => ?_)
  obtain ⟨rfl, rfl⟩ := hx1
  refine hc_aload_n C dL_law_591 rfl rfl ?_
  refine hc_aload_n C dL_law_592 rfl rfl ?_
  refine hc_iload_n C dL_law_593 rfl rfl ?_
  refine hc_iconst C dL_law_594 (v := 1) rfl ?_
  refine hc_iadd C dL_law_595 ?_
  refine hc_sld C (j := i + 1) hX hbl hbA hn31 (show nI i + 1 = nI (i + 1) by rw [show (1 : Int32) = nI 1 from rfl, nI_add]) (by omega) dL_law_596 ?_
  refine hc_cV1i C mv_L_77 (c_X8_ahead_n C.ok (by decide)) rfl rfl rfl (Nat.le_of_ble_eq_true rfl) ⟨by decide, by decide⟩ hcs dL_law_597 (fun rm Mm hm1 => ?_)
  obtain ⟨rfl, rfl⟩ := hm1
  refine hc_icmp_eq C (tgt := 1159) dL_law_600 (by decide) (fun c_600 => ?_) (fun c_600 => ?_)
  rotate_left
  · exact absurd (rfl) c_600
  exact kk _

set_option maxRecDepth 100000 in
set_option maxHeartbeats 4000000 in
theorem lc_15 {G : hc_Geo} {p : Program} {l : Launch} {e : Env} {s : State} {m : MethodId} {below : List Frame} {meth : Method} {c : Code} {cells slots : Nat} {Q : State → Prop} {b n : Nat} {xs : Nat → Int32} (C : hc_Cx G hc_lay code 4 ret R_law p s m #[Value.ref b] meth c) (hX : va_X b n xs s s.heap) (hbl : b < s.heap.size) (hbA : ¬ hc_A G b) (hn31 : n < 2 ^ 31) (hcs : cells ≤ room_1.cells ∧ slots ≤ room_1.slots) {i : Nat} (hi : i + 6 ≤ n) (kk : ∀ M' : hc_Mem, hc_W G hc_lay p l e room_1 s m #[Value.ref b] below meth c 4 cells slots Q 1159 [some (.ref b), some (.ref (hc_ad G 0)), some (.ref (hc_ad G 48)), some (.int (nI i))] [] M') : hc_W G hc_lay p l e room_1 s m #[Value.ref b] below meth c 4 cells slots Q 605 [some (.ref b), some (.ref (hc_ad G 0)), some (.ref (hc_ad G 48)), some (.int (nI i))] [] hk_M2 := by
  refine hc_aload_n C dL_law_605 rfl rfl ?_
  refine hc_aload_n C dL_law_606 rfl rfl ?_
  refine hc_iload_n C dL_law_607 rfl rfl ?_
  refine hc_iconst C dL_law_608 (v := 1) rfl ?_
  refine hc_iadd C dL_law_609 ?_
  refine hc_sld C (j := i + 1) hX hbl hbA hn31 (show nI i + 1 = nI (i + 1) by rw [show (1 : Int32) = nI 1 from rfl, nI_add]) (by omega) dL_law_610 ?_
  refine hc_cV1i C mv_L_78 (c_X7_whenShows_n C.ok rfl) rfl rfl rfl (Nat.le_of_ble_eq_true rfl) ⟨by decide, by decide⟩ hcs dL_law_611 (fun rx Mx hx1 => ?_)
  obtain ⟨rfl, rfl⟩ := hx1
  refine hc_aload_n C dL_law_614 rfl rfl ?_
  refine hc_aload_n C dL_law_615 rfl rfl ?_
  refine hc_iload_n C dL_law_616 rfl rfl ?_
  refine hc_iconst C dL_law_617 (v := 1) rfl ?_
  refine hc_iadd C dL_law_618 ?_
  refine hc_sld C (j := i + 1) hX hbl hbA hn31 (show nI i + 1 = nI (i + 1) by rw [show (1 : Int32) = nI 1 from rfl, nI_add]) (by omega) dL_law_619 ?_
  refine hc_cV1i C mv_L_81 (c_X8_whenShows_n C.ok (by decide)) rfl rfl rfl (Nat.le_of_ble_eq_true rfl) ⟨by decide, by decide⟩ hcs dL_law_620 (fun rm Mm hm1 => ?_)
  obtain ⟨rfl, rfl⟩ := hm1
  refine hc_icmp_eq C (tgt := 1159) dL_law_623 (by decide) (fun c_623 => ?_) (fun c_623 => ?_)
  rotate_left
  · exact absurd (rfl) c_623
  exact kk _

set_option maxRecDepth 100000 in
set_option maxHeartbeats 4000000 in
theorem lc_16 {G : hc_Geo} {p : Program} {l : Launch} {e : Env} {s : State} {m : MethodId} {below : List Frame} {meth : Method} {c : Code} {cells slots : Nat} {Q : State → Prop} {b n : Nat} {xs : Nat → Int32} (C : hc_Cx G hc_lay code 4 ret R_law p s m #[Value.ref b] meth c) (hX : va_X b n xs s s.heap) (hbl : b < s.heap.size) (hbA : ¬ hc_A G b) (hn31 : n < 2 ^ 31) (hcs : cells ≤ room_1.cells ∧ slots ≤ room_1.slots) {i : Nat} (hi : i + 6 ≤ n) (kk : ∀ M' : hc_Mem, hc_W G hc_lay p l e room_1 s m #[Value.ref b] below meth c 4 cells slots Q 1159 [some (.ref b), some (.ref (hc_ad G 0)), some (.ref (hc_ad G 48)), some (.int (nI i))] [] M') : hc_W G hc_lay p l e room_1 s m #[Value.ref b] below meth c 4 cells slots Q 628 [some (.ref b), some (.ref (hc_ad G 0)), some (.ref (hc_ad G 48)), some (.int (nI i))] [] hk_M2 := by
  refine hc_aload_n C dL_law_628 rfl rfl ?_
  refine hc_aload_n C dL_law_629 rfl rfl ?_
  refine hc_iload_n C dL_law_630 rfl rfl ?_
  refine hc_iconst C dL_law_631 (v := 1) rfl ?_
  refine hc_iadd C dL_law_632 ?_
  refine hc_sld C (j := i + 1) hX hbl hbA hn31 (show nI i + 1 = nI (i + 1) by rw [show (1 : Int32) = nI 1 from rfl, nI_add]) (by omega) dL_law_633 ?_
  refine hc_cV1i C mv_L_82 (c_X7_done_b C.ok (fun q => q.2 (show (0 : Int32) ≤ _ from Int32.not_lt.mp q.1))) rfl rfl rfl (Nat.le_of_ble_eq_true rfl) ⟨by decide, by decide⟩ hcs dL_law_634 (fun rx Mx hx1 => ?_)
  obtain ⟨rfl, rfl⟩ := hx1
  refine hc_aload_n C dL_law_637 rfl rfl ?_
  refine hc_aload_n C dL_law_638 rfl rfl ?_
  refine hc_iload_n C dL_law_639 rfl rfl ?_
  refine hc_iconst C dL_law_640 (v := 1) rfl ?_
  refine hc_iadd C dL_law_641 ?_
  refine hc_sld C (j := i + 1) hX hbl hbA hn31 (show nI i + 1 = nI (i + 1) by rw [show (1 : Int32) = nI 1 from rfl, nI_add]) (by omega) dL_law_642 ?_
  refine hc_cV1i C mv_L_85 (c_X8_done_b (E := 0) C.ok rfl (by decide) (fun q => q.2 (show (0 : Int32) ≤ _ from Int32.not_lt.mp q.1))) rfl rfl rfl (Nat.le_of_ble_eq_true rfl) ⟨by decide, by decide⟩ hcs dL_law_643 (fun rm Mm hm1 => ?_)
  obtain ⟨rfl, rfl⟩ := hm1
  refine hc_icmp_eq C (tgt := 1159) dL_law_646 (by decide) (fun c_646 => ?_) (fun c_646 => ?_)
  rotate_left
  · exact absurd (rfl) c_646
  exact kk _

set_option maxRecDepth 100000 in
set_option maxHeartbeats 4000000 in
theorem lc_17 {G : hc_Geo} {p : Program} {l : Launch} {e : Env} {s : State} {m : MethodId} {below : List Frame} {meth : Method} {c : Code} {cells slots : Nat} {Q : State → Prop} {b n : Nat} {xs : Nat → Int32} (C : hc_Cx G hc_lay code 4 ret R_law p s m #[Value.ref b] meth c) (hX : va_X b n xs s s.heap) (hbl : b < s.heap.size) (hbA : ¬ hc_A G b) (hn31 : n < 2 ^ 31) (hcs : cells ≤ room_1.cells ∧ slots ≤ room_1.slots) {i : Nat} (hi : i + 6 ≤ n) (kk : ∀ M' : hc_Mem, hc_W G hc_lay p l e room_1 s m #[Value.ref b] below meth c 4 cells slots Q 1159 [some (.ref b), some (.ref (hc_ad G 0)), some (.ref (hc_ad G 48)), some (.int (nI i))] [] M') : hc_W G hc_lay p l e room_1 s m #[Value.ref b] below meth c 4 cells slots Q 651 [some (.ref b), some (.ref (hc_ad G 0)), some (.ref (hc_ad G 48)), some (.int (nI i))] [] hk_M2 := by
  refine hc_aload_n C dL_law_651 rfl rfl ?_
  refine hc_cV0i C mv_L_86 (c_X7_late_n C.ok rfl) rfl rfl rfl (Nat.le_of_ble_eq_true rfl) ⟨by decide, by decide⟩ hcs dL_law_652 (fun rx Mx hx1 => ?_)
  obtain ⟨rfl, rfl⟩ := hx1
  refine hc_aload_n C dL_law_655 rfl rfl ?_
  refine hc_cV0i C mv_L_89 (c_X8_late_n C.ok (by decide)) rfl rfl rfl (Nat.le_of_ble_eq_true rfl) ⟨by decide, by decide⟩ hcs dL_law_656 (fun rm Mm hm1 => ?_)
  obtain ⟨rfl, rfl⟩ := hm1
  refine hc_icmp_eq C (tgt := 1159) dL_law_659 (by decide) (fun c_659 => ?_) (fun c_659 => ?_)
  rotate_left
  · exact absurd (rfl) c_659
  exact kk _

set_option maxRecDepth 100000 in
set_option maxHeartbeats 4000000 in
theorem lc_18 {G : hc_Geo} {p : Program} {l : Launch} {e : Env} {s : State} {m : MethodId} {below : List Frame} {meth : Method} {c : Code} {cells slots : Nat} {Q : State → Prop} {b n : Nat} {xs : Nat → Int32} (C : hc_Cx G hc_lay code 4 ret R_law p s m #[Value.ref b] meth c) (hX : va_X b n xs s s.heap) (hbl : b < s.heap.size) (hbA : ¬ hc_A G b) (hn31 : n < 2 ^ 31) (hcs : cells ≤ room_1.cells ∧ slots ≤ room_1.slots) {i : Nat} (hi : i + 6 ≤ n) (kk : ∀ M' : hc_Mem, hc_W G hc_lay p l e room_1 s m #[Value.ref b] below meth c 4 cells slots Q 1159 [some (.ref b), some (.ref (hc_ad G 0)), some (.ref (hc_ad G 48)), some (.int (nI i))] [] M') : hc_W G hc_lay p l e room_1 s m #[Value.ref b] below meth c 4 cells slots Q 664 [some (.ref b), some (.ref (hc_ad G 0)), some (.ref (hc_ad G 48)), some (.int (nI i))] [] hk_M2 := by
  refine hc_aload_n C dL_law_664 rfl rfl ?_
  refine hc_aload_n C dL_law_665 rfl rfl ?_
  refine hc_iload_n C dL_law_666 rfl rfl ?_
  refine hc_iconst C dL_law_667 (v := 1) rfl ?_
  refine hc_iadd C dL_law_668 ?_
  refine hc_sld C (j := i + 1) hX hbl hbA hn31 (show nI i + 1 = nI (i + 1) by rw [show (1 : Int32) = nI 1 from rfl, nI_add]) (by omega) dL_law_669 ?_
  refine hc_cV1i C mv_L_90 (c_X7_latest_b C.ok (fun q => q.2 (show (0 : Int32) ≤ _ from Int32.not_lt.mp q.1))) rfl rfl rfl (Nat.le_of_ble_eq_true rfl) ⟨by decide, by decide⟩ hcs dL_law_670 (fun rx Mx hx1 => ?_)
  obtain ⟨rfl, rfl⟩ := hx1
  refine hc_aload_n C dL_law_673 rfl rfl ?_
  refine hc_aload_n C dL_law_674 rfl rfl ?_
  refine hc_iload_n C dL_law_675 rfl rfl ?_
  refine hc_iconst C dL_law_676 (v := 1) rfl ?_
  refine hc_iadd C dL_law_677 ?_
  refine hc_sld C (j := i + 1) hX hbl hbA hn31 (show nI i + 1 = nI (i + 1) by rw [show (1 : Int32) = nI 1 from rfl, nI_add]) (by omega) dL_law_678 ?_
  refine hc_cV1i C mv_L_93 (c_X8_latest_b (E := 0) C.ok rfl (by decide) (fun q => q.2 (show (0 : Int32) ≤ _ from Int32.not_lt.mp q.1))) rfl rfl rfl (Nat.le_of_ble_eq_true rfl) ⟨by decide, by decide⟩ hcs dL_law_679 (fun rm Mm hm1 => ?_)
  obtain ⟨rfl, rfl⟩ := hm1
  refine hc_icmp_eq C (tgt := 1159) dL_law_682 (by decide) (fun c_682 => ?_) (fun c_682 => ?_)
  rotate_left
  · exact absurd (rfl) c_682
  exact kk _

set_option maxRecDepth 100000 in
set_option maxHeartbeats 4000000 in
theorem lc_19 {G : hc_Geo} {p : Program} {l : Launch} {e : Env} {s : State} {m : MethodId} {below : List Frame} {meth : Method} {c : Code} {cells slots : Nat} {Q : State → Prop} {b n : Nat} {xs : Nat → Int32} (C : hc_Cx G hc_lay code 4 ret R_law p s m #[Value.ref b] meth c) (hX : va_X b n xs s s.heap) (hbl : b < s.heap.size) (hbA : ¬ hc_A G b) (hn31 : n < 2 ^ 31) (hcs : cells ≤ room_1.cells ∧ slots ≤ room_1.slots) {i : Nat} (hi : i + 6 ≤ n) (kk : ∀ M' : hc_Mem, hc_W G hc_lay p l e room_1 s m #[Value.ref b] below meth c 4 cells slots Q 1159 [some (.ref b), some (.ref (hc_ad G 0)), some (.ref (hc_ad G 48)), some (.int (nI i))] [] M') : hc_W G hc_lay p l e room_1 s m #[Value.ref b] below meth c 4 cells slots Q 687 [some (.ref b), some (.ref (hc_ad G 0)), some (.ref (hc_ad G 48)), some (.int (nI i))] [] hk_M2 := by
  refine hc_aload_n C dL_law_687 rfl rfl ?_
  refine hc_aload_n C dL_law_688 rfl rfl ?_
  refine hc_iload_n C dL_law_689 rfl rfl ?_
  refine hc_iconst C dL_law_690 (v := 1) rfl ?_
  refine hc_iadd C dL_law_691 ?_
  refine hc_sld C (j := i + 1) hX hbl hbA hn31 (show nI i + 1 = nI (i + 1) by rw [show (1 : Int32) = nI 1 from rfl, nI_add]) (by omega) dL_law_692 ?_
  refine hc_aload_n C dL_law_693 rfl rfl ?_
  refine hc_iload_n C dL_law_694 rfl rfl ?_
  refine hc_iconst C dL_law_695 (v := 2) rfl ?_
  refine hc_iadd C dL_law_696 ?_
  refine hc_sld C (j := i + 2) hX hbl hbA hn31 (show nI i + 2 = nI (i + 2) by rw [show (2 : Int32) = nI 2 from rfl, nI_add]) (by omega) dL_law_697 ?_
  refine hc_aload_n C dL_law_698 rfl rfl ?_
  refine hc_iload_n C dL_law_699 rfl rfl ?_
  refine hc_iconst C dL_law_700 (v := 3) rfl ?_
  refine hc_iadd C dL_law_701 ?_
  refine hc_sld C (j := i + 3) hX hbl hbA hn31 (show nI i + 3 = nI (i + 3) by rw [show (3 : Int32) = nI 3 from rfl, nI_add]) (by omega) dL_law_702 ?_
  refine hc_cV3i C mv_L_94 (c_X7_toHush_n C.ok rfl) rfl rfl rfl (Nat.le_of_ble_eq_true rfl) ⟨by decide, by decide⟩ hcs dL_law_703 (fun rx Mx hx1 => ?_)
  obtain ⟨rfl, rfl⟩ := hx1
  refine hc_aload_n C dL_law_706 rfl rfl ?_
  refine hc_aload_n C dL_law_707 rfl rfl ?_
  refine hc_iload_n C dL_law_708 rfl rfl ?_
  refine hc_iconst C dL_law_709 (v := 1) rfl ?_
  refine hc_iadd C dL_law_710 ?_
  refine hc_sld C (j := i + 1) hX hbl hbA hn31 (show nI i + 1 = nI (i + 1) by rw [show (1 : Int32) = nI 1 from rfl, nI_add]) (by omega) dL_law_711 ?_
  refine hc_aload_n C dL_law_712 rfl rfl ?_
  refine hc_iload_n C dL_law_713 rfl rfl ?_
  refine hc_iconst C dL_law_714 (v := 2) rfl ?_
  refine hc_iadd C dL_law_715 ?_
  refine hc_sld C (j := i + 2) hX hbl hbA hn31 (show nI i + 2 = nI (i + 2) by rw [show (2 : Int32) = nI 2 from rfl, nI_add]) (by omega) dL_law_716 ?_
  refine hc_aload_n C dL_law_717 rfl rfl ?_
  refine hc_iload_n C dL_law_718 rfl rfl ?_
  refine hc_iconst C dL_law_719 (v := 3) rfl ?_
  refine hc_iadd C dL_law_720 ?_
  refine hc_sld C (j := i + 3) hX hbl hbA hn31 (show nI i + 3 = nI (i + 3) by rw [show (3 : Int32) = nI 3 from rfl, nI_add]) (by omega) dL_law_721 ?_
  refine hc_cV3i C mv_L_97 (c_X8_toHush_n C.ok (by decide)) rfl rfl rfl (Nat.le_of_ble_eq_true rfl) ⟨by decide, by decide⟩ hcs dL_law_722 (fun rm Mm hm1 => ?_)
  obtain ⟨rfl, rfl⟩ := hm1
  refine hc_icmp_eq C (tgt := 1159) dL_law_725 (by decide) (fun c_725 => ?_) (fun c_725 => ?_)
  rotate_left
  · exact absurd (rfl) c_725
  exact kk _

set_option maxRecDepth 100000 in
set_option maxHeartbeats 4000000 in
theorem lc_20 {G : hc_Geo} {p : Program} {l : Launch} {e : Env} {s : State} {m : MethodId} {below : List Frame} {meth : Method} {c : Code} {cells slots : Nat} {Q : State → Prop} {b n : Nat} {xs : Nat → Int32} (C : hc_Cx G hc_lay code 4 ret R_law p s m #[Value.ref b] meth c) (hX : va_X b n xs s s.heap) (hbl : b < s.heap.size) (hbA : ¬ hc_A G b) (hn31 : n < 2 ^ 31) (hcs : cells ≤ room_1.cells ∧ slots ≤ room_1.slots) {i : Nat} (hi : i + 6 ≤ n) (kk : ∀ M' : hc_Mem, hc_W G hc_lay p l e room_1 s m #[Value.ref b] below meth c 4 cells slots Q 1159 [some (.ref b), some (.ref (hc_ad G 0)), some (.ref (hc_ad G 48)), some (.int (nI i))] [] M') : hc_W G hc_lay p l e room_1 s m #[Value.ref b] below meth c 4 cells slots Q 730 [some (.ref b), some (.ref (hc_ad G 0)), some (.ref (hc_ad G 48)), some (.int (nI i))] [] hk_M2 := by
  refine hc_aload_n C dL_law_730 rfl rfl ?_
  refine hc_aload_n C dL_law_731 rfl rfl ?_
  refine hc_iload_n C dL_law_732 rfl rfl ?_
  refine hc_iconst C dL_law_733 (v := 1) rfl ?_
  refine hc_iadd C dL_law_734 ?_
  refine hc_sld C (j := i + 1) hX hbl hbA hn31 (show nI i + 1 = nI (i + 1) by rw [show (1 : Int32) = nI 1 from rfl, nI_add]) (by omega) dL_law_735 ?_
  refine hc_aload_n C dL_law_736 rfl rfl ?_
  refine hc_iload_n C dL_law_737 rfl rfl ?_
  refine hc_iconst C dL_law_738 (v := 2) rfl ?_
  refine hc_iadd C dL_law_739 ?_
  refine hc_sld C (j := i + 2) hX hbl hbA hn31 (show nI i + 2 = nI (i + 2) by rw [show (2 : Int32) = nI 2 from rfl, nI_add]) (by omega) dL_law_740 ?_
  refine hc_aload_n C dL_law_741 rfl rfl ?_
  refine hc_iload_n C dL_law_742 rfl rfl ?_
  refine hc_iconst C dL_law_743 (v := 3) rfl ?_
  refine hc_iadd C dL_law_744 ?_
  refine hc_sld C (j := i + 3) hX hbl hbA hn31 (show nI i + 3 = nI (i + 3) by rw [show (3 : Int32) = nI 3 from rfl, nI_add]) (by omega) dL_law_745 ?_
  refine hc_cV3i C mv_L_98 (c_X7_toCall_n C.ok rfl) rfl rfl rfl (Nat.le_of_ble_eq_true rfl) ⟨by decide, by decide⟩ hcs dL_law_746 (fun rx Mx hx1 => ?_)
  obtain ⟨rfl, rfl⟩ := hx1
  refine hc_aload_n C dL_law_749 rfl rfl ?_
  refine hc_aload_n C dL_law_750 rfl rfl ?_
  refine hc_iload_n C dL_law_751 rfl rfl ?_
  refine hc_iconst C dL_law_752 (v := 1) rfl ?_
  refine hc_iadd C dL_law_753 ?_
  refine hc_sld C (j := i + 1) hX hbl hbA hn31 (show nI i + 1 = nI (i + 1) by rw [show (1 : Int32) = nI 1 from rfl, nI_add]) (by omega) dL_law_754 ?_
  refine hc_aload_n C dL_law_755 rfl rfl ?_
  refine hc_iload_n C dL_law_756 rfl rfl ?_
  refine hc_iconst C dL_law_757 (v := 2) rfl ?_
  refine hc_iadd C dL_law_758 ?_
  refine hc_sld C (j := i + 2) hX hbl hbA hn31 (show nI i + 2 = nI (i + 2) by rw [show (2 : Int32) = nI 2 from rfl, nI_add]) (by omega) dL_law_759 ?_
  refine hc_aload_n C dL_law_760 rfl rfl ?_
  refine hc_iload_n C dL_law_761 rfl rfl ?_
  refine hc_iconst C dL_law_762 (v := 3) rfl ?_
  refine hc_iadd C dL_law_763 ?_
  refine hc_sld C (j := i + 3) hX hbl hbA hn31 (show nI i + 3 = nI (i + 3) by rw [show (3 : Int32) = nI 3 from rfl, nI_add]) (by omega) dL_law_764 ?_
  refine hc_cV3i C mv_L_101 (c_X8_toCall_n C.ok (by decide)) rfl rfl rfl (Nat.le_of_ble_eq_true rfl) ⟨by decide, by decide⟩ hcs dL_law_765 (fun rm Mm hm1 => ?_)
  obtain ⟨rfl, rfl⟩ := hm1
  refine hc_icmp_eq C (tgt := 1159) dL_law_768 (by decide) (fun c_768 => ?_) (fun c_768 => ?_)
  rotate_left
  · exact absurd (rfl) c_768
  exact kk _

set_option maxRecDepth 100000 in
set_option maxHeartbeats 4000000 in
theorem lc_21 {G : hc_Geo} {p : Program} {l : Launch} {e : Env} {s : State} {m : MethodId} {below : List Frame} {meth : Method} {c : Code} {cells slots : Nat} {Q : State → Prop} {b n : Nat} {xs : Nat → Int32} (C : hc_Cx G hc_lay code 4 ret R_law p s m #[Value.ref b] meth c) (hX : va_X b n xs s s.heap) (hbl : b < s.heap.size) (hbA : ¬ hc_A G b) (hn31 : n < 2 ^ 31) (hcs : cells ≤ room_1.cells ∧ slots ≤ room_1.slots) {i : Nat} (hi : i + 6 ≤ n) (kk : ∀ M' : hc_Mem, hc_W G hc_lay p l e room_1 s m #[Value.ref b] below meth c 4 cells slots Q 1159 [some (.ref b), some (.ref (hc_ad G 0)), some (.ref (hc_ad G 48)), some (.int (nI i))] [] M') : hc_W G hc_lay p l e room_1 s m #[Value.ref b] below meth c 4 cells slots Q 773 [some (.ref b), some (.ref (hc_ad G 0)), some (.ref (hc_ad G 48)), some (.int (nI i))] [] hk_M2 := by
  refine hc_aload_n C dL_law_773 rfl rfl ?_
  refine hc_aload_n C dL_law_774 rfl rfl ?_
  refine hc_iload_n C dL_law_775 rfl rfl ?_
  refine hc_iconst C dL_law_776 (v := 1) rfl ?_
  refine hc_iadd C dL_law_777 ?_
  refine hc_sld C (j := i + 1) hX hbl hbA hn31 (show nI i + 1 = nI (i + 1) by rw [show (1 : Int32) = nI 1 from rfl, nI_add]) (by omega) dL_law_778 ?_
  refine hc_aload_n C dL_law_779 rfl rfl ?_
  refine hc_iload_n C dL_law_780 rfl rfl ?_
  refine hc_iconst C dL_law_781 (v := 2) rfl ?_
  refine hc_iadd C dL_law_782 ?_
  refine hc_sld C (j := i + 2) hX hbl hbA hn31 (show nI i + 2 = nI (i + 2) by rw [show (2 : Int32) = nI 2 from rfl, nI_add]) (by omega) dL_law_783 ?_
  refine hc_aload_n C dL_law_784 rfl rfl ?_
  refine hc_iload_n C dL_law_785 rfl rfl ?_
  refine hc_iconst C dL_law_786 (v := 3) rfl ?_
  refine hc_iadd C dL_law_787 ?_
  refine hc_sld C (j := i + 3) hX hbl hbA hn31 (show nI i + 3 = nI (i + 3) by rw [show (3 : Int32) = nI 3 from rfl, nI_add]) (by omega) dL_law_788 ?_
  refine hc_aload_n C dL_law_789 rfl rfl ?_
  refine hc_iload_n C dL_law_790 rfl rfl ?_
  refine hc_iconst C dL_law_791 (v := 4) rfl ?_
  refine hc_iadd C dL_law_792 ?_
  refine hc_sld C (j := i + 4) hX hbl hbA hn31 (show nI i + 4 = nI (i + 4) by rw [show (4 : Int32) = nI 4 from rfl, nI_add]) (by omega) dL_law_793 ?_
  refine hc_cV4i C mv_L_102 (c_X7_who_n C.ok rfl) rfl rfl rfl (Nat.le_of_ble_eq_true rfl) ⟨by decide, by decide⟩ hcs dL_law_794 (fun rx Mx hx1 => ?_)
  obtain ⟨rfl, rfl⟩ := hx1
  refine hc_aload_n C dL_law_797 rfl rfl ?_
  refine hc_aload_n C dL_law_798 rfl rfl ?_
  refine hc_iload_n C dL_law_799 rfl rfl ?_
  refine hc_iconst C dL_law_800 (v := 1) rfl ?_
  refine hc_iadd C dL_law_801 ?_
  refine hc_sld C (j := i + 1) hX hbl hbA hn31 (show nI i + 1 = nI (i + 1) by rw [show (1 : Int32) = nI 1 from rfl, nI_add]) (by omega) dL_law_802 ?_
  refine hc_aload_n C dL_law_803 rfl rfl ?_
  refine hc_iload_n C dL_law_804 rfl rfl ?_
  refine hc_iconst C dL_law_805 (v := 2) rfl ?_
  refine hc_iadd C dL_law_806 ?_
  refine hc_sld C (j := i + 2) hX hbl hbA hn31 (show nI i + 2 = nI (i + 2) by rw [show (2 : Int32) = nI 2 from rfl, nI_add]) (by omega) dL_law_807 ?_
  refine hc_aload_n C dL_law_808 rfl rfl ?_
  refine hc_iload_n C dL_law_809 rfl rfl ?_
  refine hc_iconst C dL_law_810 (v := 3) rfl ?_
  refine hc_iadd C dL_law_811 ?_
  refine hc_sld C (j := i + 3) hX hbl hbA hn31 (show nI i + 3 = nI (i + 3) by rw [show (3 : Int32) = nI 3 from rfl, nI_add]) (by omega) dL_law_812 ?_
  refine hc_aload_n C dL_law_813 rfl rfl ?_
  refine hc_iload_n C dL_law_814 rfl rfl ?_
  refine hc_iconst C dL_law_815 (v := 4) rfl ?_
  refine hc_iadd C dL_law_816 ?_
  refine hc_sld C (j := i + 4) hX hbl hbA hn31 (show nI i + 4 = nI (i + 4) by rw [show (4 : Int32) = nI 4 from rfl, nI_add]) (by omega) dL_law_817 ?_
  refine hc_cV4i C mv_L_106 (c_X8_who_n C.ok (by decide)) rfl rfl rfl (Nat.le_of_ble_eq_true rfl) ⟨by decide, by decide⟩ hcs dL_law_818 (fun rm Mm hm1 => ?_)
  obtain ⟨rfl, rfl⟩ := hm1
  refine hc_icmp_eq C (tgt := 1159) dL_law_821 (by decide) (fun c_821 => ?_) (fun c_821 => ?_)
  rotate_left
  · exact absurd (rfl) c_821
  exact kk _

set_option maxRecDepth 100000 in
set_option maxHeartbeats 4000000 in
theorem lc_22 {G : hc_Geo} {p : Program} {l : Launch} {e : Env} {s : State} {m : MethodId} {below : List Frame} {meth : Method} {c : Code} {cells slots : Nat} {Q : State → Prop} {b n : Nat} {xs : Nat → Int32} (C : hc_Cx G hc_lay code 4 ret R_law p s m #[Value.ref b] meth c) (hX : va_X b n xs s s.heap) (hbl : b < s.heap.size) (hbA : ¬ hc_A G b) (hn31 : n < 2 ^ 31) (hcs : cells ≤ room_1.cells ∧ slots ≤ room_1.slots) {i : Nat} (hi : i + 6 ≤ n) (kk : ∀ M' : hc_Mem, hc_W G hc_lay p l e room_1 s m #[Value.ref b] below meth c 4 cells slots Q 1159 [some (.ref b), some (.ref (hc_ad G 0)), some (.ref (hc_ad G 48)), some (.int (nI i))] [] M') : hc_W G hc_lay p l e room_1 s m #[Value.ref b] below meth c 4 cells slots Q 826 [some (.ref b), some (.ref (hc_ad G 0)), some (.ref (hc_ad G 48)), some (.int (nI i))] [] hk_M2 := by
  refine hc_aload_n C dL_law_826 rfl rfl ?_
  refine hc_aload_n C dL_law_827 rfl rfl ?_
  refine hc_iload_n C dL_law_828 rfl rfl ?_
  refine hc_iconst C dL_law_829 (v := 1) rfl ?_
  refine hc_iadd C dL_law_830 ?_
  refine hc_sld C (j := i + 1) hX hbl hbA hn31 (show nI i + 1 = nI (i + 1) by rw [show (1 : Int32) = nI 1 from rfl, nI_add]) (by omega) dL_law_831 ?_
  refine hc_aload_n C dL_law_832 rfl rfl ?_
  refine hc_iload_n C dL_law_833 rfl rfl ?_
  refine hc_iconst C dL_law_834 (v := 2) rfl ?_
  refine hc_iadd C dL_law_835 ?_
  refine hc_sld C (j := i + 2) hX hbl hbA hn31 (show nI i + 2 = nI (i + 2) by rw [show (2 : Int32) = nI 2 from rfl, nI_add]) (by omega) dL_law_836 ?_
  refine hc_aload_n C dL_law_837 rfl rfl ?_
  refine hc_iload_n C dL_law_838 rfl rfl ?_
  refine hc_iconst C dL_law_839 (v := 3) rfl ?_
  refine hc_iadd C dL_law_840 ?_
  refine hc_sld C (j := i + 3) hX hbl hbA hn31 (show nI i + 3 = nI (i + 3) by rw [show (3 : Int32) = nI 3 from rfl, nI_add]) (by omega) dL_law_841 ?_
  refine hc_aload_n C dL_law_842 rfl rfl ?_
  refine hc_iload_n C dL_law_843 rfl rfl ?_
  refine hc_iconst C dL_law_844 (v := 4) rfl ?_
  refine hc_iadd C dL_law_845 ?_
  refine hc_sld C (j := i + 4) hX hbl hbA hn31 (show nI i + 4 = nI (i + 4) by rw [show (4 : Int32) = nI 4 from rfl, nI_add]) (by omega) dL_law_846 ?_
  refine hc_cV4i C mv_L_107 (c_X7_heed_b C.ok (fun q => q.2 (show (0 : Int32) ≤ _ from Int32.not_lt.mp q.1))) rfl rfl rfl (Nat.le_of_ble_eq_true rfl) ⟨by decide, by decide⟩ hcs dL_law_847 (fun rx Mx hx1 => ?_)
  obtain ⟨rfl, rfl⟩ := hx1
  refine hc_aload_n C dL_law_850 rfl rfl ?_
  refine hc_aload_n C dL_law_851 rfl rfl ?_
  refine hc_iload_n C dL_law_852 rfl rfl ?_
  refine hc_iconst C dL_law_853 (v := 1) rfl ?_
  refine hc_iadd C dL_law_854 ?_
  refine hc_sld C (j := i + 1) hX hbl hbA hn31 (show nI i + 1 = nI (i + 1) by rw [show (1 : Int32) = nI 1 from rfl, nI_add]) (by omega) dL_law_855 ?_
  refine hc_aload_n C dL_law_856 rfl rfl ?_
  refine hc_iload_n C dL_law_857 rfl rfl ?_
  refine hc_iconst C dL_law_858 (v := 2) rfl ?_
  refine hc_iadd C dL_law_859 ?_
  refine hc_sld C (j := i + 2) hX hbl hbA hn31 (show nI i + 2 = nI (i + 2) by rw [show (2 : Int32) = nI 2 from rfl, nI_add]) (by omega) dL_law_860 ?_
  refine hc_aload_n C dL_law_861 rfl rfl ?_
  refine hc_iload_n C dL_law_862 rfl rfl ?_
  refine hc_iconst C dL_law_863 (v := 3) rfl ?_
  refine hc_iadd C dL_law_864 ?_
  refine hc_sld C (j := i + 3) hX hbl hbA hn31 (show nI i + 3 = nI (i + 3) by rw [show (3 : Int32) = nI 3 from rfl, nI_add]) (by omega) dL_law_865 ?_
  refine hc_aload_n C dL_law_866 rfl rfl ?_
  refine hc_iload_n C dL_law_867 rfl rfl ?_
  refine hc_iconst C dL_law_868 (v := 4) rfl ?_
  refine hc_iadd C dL_law_869 ?_
  refine hc_sld C (j := i + 4) hX hbl hbA hn31 (show nI i + 4 = nI (i + 4) by rw [show (4 : Int32) = nI 4 from rfl, nI_add]) (by omega) dL_law_870 ?_
  refine hc_cV4i C mv_L_110 (c_X8_heed_b (E := 0) C.ok rfl (by decide) (fun q => q.2 (show (0 : Int32) ≤ _ from Int32.not_lt.mp q.1))) rfl rfl rfl (Nat.le_of_ble_eq_true rfl) ⟨by decide, by decide⟩ hcs dL_law_871 (fun rm Mm hm1 => ?_)
  obtain ⟨rfl, rfl⟩ := hm1
  refine hc_icmp_eq C (tgt := 1159) dL_law_874 (by decide) (fun c_874 => ?_) (fun c_874 => ?_)
  rotate_left
  · exact absurd (rfl) c_874
  exact kk _

set_option maxRecDepth 100000 in
set_option maxHeartbeats 4000000 in
theorem lc_23 {G : hc_Geo} {p : Program} {l : Launch} {e : Env} {s : State} {m : MethodId} {below : List Frame} {meth : Method} {c : Code} {cells slots : Nat} {Q : State → Prop} {b n : Nat} {xs : Nat → Int32} (C : hc_Cx G hc_lay code 4 ret R_law p s m #[Value.ref b] meth c) (hX : va_X b n xs s s.heap) (hbl : b < s.heap.size) (hbA : ¬ hc_A G b) (hn31 : n < 2 ^ 31) (hcs : cells ≤ room_1.cells ∧ slots ≤ room_1.slots) {i : Nat} (hi : i + 6 ≤ n) (kk : ∀ M' : hc_Mem, hc_W G hc_lay p l e room_1 s m #[Value.ref b] below meth c 4 cells slots Q 1159 [some (.ref b), some (.ref (hc_ad G 0)), some (.ref (hc_ad G 48)), some (.int (nI i))] [] M') : hc_W G hc_lay p l e room_1 s m #[Value.ref b] below meth c 4 cells slots Q 879 [some (.ref b), some (.ref (hc_ad G 0)), some (.ref (hc_ad G 48)), some (.int (nI i))] [] hk_M2 := by
  refine hc_aload_n C dL_law_879 rfl rfl ?_
  refine hc_aload_n C dL_law_880 rfl rfl ?_
  refine hc_iload_n C dL_law_881 rfl rfl ?_
  refine hc_iconst C dL_law_882 (v := 1) rfl ?_
  refine hc_iadd C dL_law_883 ?_
  refine hc_sld C (j := i + 1) hX hbl hbA hn31 (show nI i + 1 = nI (i + 1) by rw [show (1 : Int32) = nI 1 from rfl, nI_add]) (by omega) dL_law_884 ?_
  refine hc_aload_n C dL_law_885 rfl rfl ?_
  refine hc_iload_n C dL_law_886 rfl rfl ?_
  refine hc_iconst C dL_law_887 (v := 2) rfl ?_
  refine hc_iadd C dL_law_888 ?_
  refine hc_sld C (j := i + 2) hX hbl hbA hn31 (show nI i + 2 = nI (i + 2) by rw [show (2 : Int32) = nI 2 from rfl, nI_add]) (by omega) dL_law_889 ?_
  refine hc_aload_n C dL_law_890 rfl rfl ?_
  refine hc_iload_n C dL_law_891 rfl rfl ?_
  refine hc_iconst C dL_law_892 (v := 3) rfl ?_
  refine hc_iadd C dL_law_893 ?_
  refine hc_sld C (j := i + 3) hX hbl hbA hn31 (show nI i + 3 = nI (i + 3) by rw [show (3 : Int32) = nI 3 from rfl, nI_add]) (by omega) dL_law_894 ?_
  refine hc_cV3i C mv_L_111 (c_X7_older_b C.ok (fun q => q.2 (show (0 : Int32) ≤ _ from Int32.not_lt.mp q.1))) rfl rfl rfl (Nat.le_of_ble_eq_true rfl) ⟨by decide, by decide⟩ hcs dL_law_895 (fun rx Mx hx1 => ?_)
  obtain ⟨rfl, rfl⟩ := hx1
  refine hc_aload_n C dL_law_898 rfl rfl ?_
  refine hc_aload_n C dL_law_899 rfl rfl ?_
  refine hc_iload_n C dL_law_900 rfl rfl ?_
  refine hc_iconst C dL_law_901 (v := 1) rfl ?_
  refine hc_iadd C dL_law_902 ?_
  refine hc_sld C (j := i + 1) hX hbl hbA hn31 (show nI i + 1 = nI (i + 1) by rw [show (1 : Int32) = nI 1 from rfl, nI_add]) (by omega) dL_law_903 ?_
  refine hc_aload_n C dL_law_904 rfl rfl ?_
  refine hc_iload_n C dL_law_905 rfl rfl ?_
  refine hc_iconst C dL_law_906 (v := 2) rfl ?_
  refine hc_iadd C dL_law_907 ?_
  refine hc_sld C (j := i + 2) hX hbl hbA hn31 (show nI i + 2 = nI (i + 2) by rw [show (2 : Int32) = nI 2 from rfl, nI_add]) (by omega) dL_law_908 ?_
  refine hc_aload_n C dL_law_909 rfl rfl ?_
  refine hc_iload_n C dL_law_910 rfl rfl ?_
  refine hc_iconst C dL_law_911 (v := 3) rfl ?_
  refine hc_iadd C dL_law_912 ?_
  refine hc_sld C (j := i + 3) hX hbl hbA hn31 (show nI i + 3 = nI (i + 3) by rw [show (3 : Int32) = nI 3 from rfl, nI_add]) (by omega) dL_law_913 ?_
  refine hc_cV3i C mv_L_114 (c_X8_older_b (E := 0) C.ok rfl (by decide) (fun q => q.2 (show (0 : Int32) ≤ _ from Int32.not_lt.mp q.1))) rfl rfl rfl (Nat.le_of_ble_eq_true rfl) ⟨by decide, by decide⟩ hcs dL_law_914 (fun rm Mm hm1 => ?_)
  obtain ⟨rfl, rfl⟩ := hm1
  refine hc_icmp_eq C (tgt := 1159) dL_law_917 (by decide) (fun c_917 => ?_) (fun c_917 => ?_)
  rotate_left
  · exact absurd (rfl) c_917
  exact kk _

set_option maxRecDepth 100000 in
set_option maxHeartbeats 4000000 in
theorem lc_24 {G : hc_Geo} {p : Program} {l : Launch} {e : Env} {s : State} {m : MethodId} {below : List Frame} {meth : Method} {c : Code} {cells slots : Nat} {Q : State → Prop} {b n : Nat} {xs : Nat → Int32} (C : hc_Cx G hc_lay code 4 ret R_law p s m #[Value.ref b] meth c) (hX : va_X b n xs s s.heap) (hbl : b < s.heap.size) (hbA : ¬ hc_A G b) (hn31 : n < 2 ^ 31) (hcs : cells ≤ room_1.cells ∧ slots ≤ room_1.slots) {i : Nat} (hi : i + 6 ≤ n) (kk : ∀ M' : hc_Mem, hc_W G hc_lay p l e room_1 s m #[Value.ref b] below meth c 4 cells slots Q 1159 [some (.ref b), some (.ref (hc_ad G 0)), some (.ref (hc_ad G 48)), some (.int (nI i))] [] M') : hc_W G hc_lay p l e room_1 s m #[Value.ref b] below meth c 4 cells slots Q 922 [some (.ref b), some (.ref (hc_ad G 0)), some (.ref (hc_ad G 48)), some (.int (nI i))] [] hk_M2 := by
  refine hc_aload_n C dL_law_922 rfl rfl ?_
  refine hc_aload_n C dL_law_923 rfl rfl ?_
  refine hc_iload_n C dL_law_924 rfl rfl ?_
  refine hc_iconst C dL_law_925 (v := 1) rfl ?_
  refine hc_iadd C dL_law_926 ?_
  refine hc_sld C (j := i + 1) hX hbl hbA hn31 (show nI i + 1 = nI (i + 1) by rw [show (1 : Int32) = nI 1 from rfl, nI_add]) (by omega) dL_law_927 ?_
  refine hc_aload_n C dL_law_928 rfl rfl ?_
  refine hc_iload_n C dL_law_929 rfl rfl ?_
  refine hc_iconst C dL_law_930 (v := 2) rfl ?_
  refine hc_iadd C dL_law_931 ?_
  refine hc_sld C (j := i + 2) hX hbl hbA hn31 (show nI i + 2 = nI (i + 2) by rw [show (2 : Int32) = nI 2 from rfl, nI_add]) (by omega) dL_law_932 ?_
  refine hc_aload_n C dL_law_933 rfl rfl ?_
  refine hc_iload_n C dL_law_934 rfl rfl ?_
  refine hc_iconst C dL_law_935 (v := 3) rfl ?_
  refine hc_iadd C dL_law_936 ?_
  refine hc_sld C (j := i + 3) hX hbl hbA hn31 (show nI i + 3 = nI (i + 3) by rw [show (3 : Int32) = nI 3 from rfl, nI_add]) (by omega) dL_law_937 ?_
  refine hc_cV3i C mv_L_115 (c_X7_odds_n C.ok rfl) rfl rfl rfl (Nat.le_of_ble_eq_true rfl) ⟨by decide, by decide⟩ hcs dL_law_938 (fun rx Mx hx1 => ?_)
  obtain ⟨rfl, rfl⟩ := hx1
  refine hc_aload_n C dL_law_941 rfl rfl ?_
  refine hc_aload_n C dL_law_942 rfl rfl ?_
  refine hc_iload_n C dL_law_943 rfl rfl ?_
  refine hc_iconst C dL_law_944 (v := 1) rfl ?_
  refine hc_iadd C dL_law_945 ?_
  refine hc_sld C (j := i + 1) hX hbl hbA hn31 (show nI i + 1 = nI (i + 1) by rw [show (1 : Int32) = nI 1 from rfl, nI_add]) (by omega) dL_law_946 ?_
  refine hc_aload_n C dL_law_947 rfl rfl ?_
  refine hc_iload_n C dL_law_948 rfl rfl ?_
  refine hc_iconst C dL_law_949 (v := 2) rfl ?_
  refine hc_iadd C dL_law_950 ?_
  refine hc_sld C (j := i + 2) hX hbl hbA hn31 (show nI i + 2 = nI (i + 2) by rw [show (2 : Int32) = nI 2 from rfl, nI_add]) (by omega) dL_law_951 ?_
  refine hc_aload_n C dL_law_952 rfl rfl ?_
  refine hc_iload_n C dL_law_953 rfl rfl ?_
  refine hc_iconst C dL_law_954 (v := 3) rfl ?_
  refine hc_iadd C dL_law_955 ?_
  refine hc_sld C (j := i + 3) hX hbl hbA hn31 (show nI i + 3 = nI (i + 3) by rw [show (3 : Int32) = nI 3 from rfl, nI_add]) (by omega) dL_law_956 ?_
  refine hc_cV3i C mv_L_118 (c_X8_odds_n C.ok (by decide)) rfl rfl rfl (Nat.le_of_ble_eq_true rfl) ⟨by decide, by decide⟩ hcs dL_law_957 (fun rm Mm hm1 => ?_)
  obtain ⟨rfl, rfl⟩ := hm1
  refine hc_icmp_eq C (tgt := 1159) dL_law_960 (by decide) (fun c_960 => ?_) (fun c_960 => ?_)
  rotate_left
  · exact absurd (rfl) c_960
  exact kk _

set_option maxRecDepth 100000 in
set_option maxHeartbeats 4000000 in
theorem lc_25 {G : hc_Geo} {p : Program} {l : Launch} {e : Env} {s : State} {m : MethodId} {below : List Frame} {meth : Method} {c : Code} {cells slots : Nat} {Q : State → Prop} {b n : Nat} {xs : Nat → Int32} (C : hc_Cx G hc_lay code 4 ret R_law p s m #[Value.ref b] meth c) (hX : va_X b n xs s s.heap) (hbl : b < s.heap.size) (hbA : ¬ hc_A G b) (hn31 : n < 2 ^ 31) (hcs : cells ≤ room_1.cells ∧ slots ≤ room_1.slots) {i : Nat} (hi : i + 6 ≤ n) (kk : ∀ M' : hc_Mem, hc_W G hc_lay p l e room_1 s m #[Value.ref b] below meth c 4 cells slots Q 1159 [some (.ref b), some (.ref (hc_ad G 0)), some (.ref (hc_ad G 48)), some (.int (nI i))] [] M') : hc_W G hc_lay p l e room_1 s m #[Value.ref b] below meth c 4 cells slots Q 965 [some (.ref b), some (.ref (hc_ad G 0)), some (.ref (hc_ad G 48)), some (.int (nI i))] [] hk_M2 := by
  by_cases h0 : ¬ (xs (i + 1)) < 0 ∧ ¬ 1 < (xs (i + 1))
  · refine hc_aload_n C dL_law_965 rfl rfl ?_
    refine hc_aload_n C dL_law_966 rfl rfl ?_
    refine hc_iload_n C dL_law_967 rfl rfl ?_
    refine hc_iconst C dL_law_968 (v := 1) rfl ?_
    refine hc_iadd C dL_law_969 ?_
    refine hc_sld C (j := i + 1) hX hbl hbA hn31 (show nI i + 1 = nI (i + 1) by rw [show (1 : Int32) = nI 1 from rfl, nI_add]) (by omega) dL_law_970 ?_
    refine hc_cV1i C mv_L_119 (c_X7_image_n C.ok h0 rfl) rfl rfl rfl (Nat.le_of_ble_eq_true rfl) ⟨by decide, by decide⟩ hcs dL_law_971 (fun rx Mx hx1 => ?_)
    obtain ⟨rfl, rfl⟩ := hx1
    refine hc_aload_n C dL_law_974 rfl rfl ?_
    refine hc_aload_n C dL_law_975 rfl rfl ?_
    refine hc_iload_n C dL_law_976 rfl rfl ?_
    refine hc_iconst C dL_law_977 (v := 1) rfl ?_
    refine hc_iadd C dL_law_978 ?_
    refine hc_sld C (j := i + 1) hX hbl hbA hn31 (show nI i + 1 = nI (i + 1) by rw [show (1 : Int32) = nI 1 from rfl, nI_add]) (by omega) dL_law_979 ?_
    refine hc_cV1i C mv_L_122 (c_X8_image_n C.ok h0 (by decide)) rfl rfl rfl (Nat.le_of_ble_eq_true rfl) ⟨by decide, by decide⟩ hcs dL_law_980 (fun rm Mm hm1 => ?_)
    obtain ⟨rfl, rfl⟩ := hm1
    refine hc_icmp_eq C (tgt := 1159) dL_law_983 (by decide) (fun c_983 => ?_) (fun c_983 => ?_)
    rotate_left
    · exact absurd (rfl) c_983
    exact kk _
  · refine hc_aload_n C dL_law_965 rfl rfl ?_
    refine hc_aload_n C dL_law_966 rfl rfl ?_
    refine hc_iload_n C dL_law_967 rfl rfl ?_
    refine hc_iconst C dL_law_968 (v := 1) rfl ?_
    refine hc_iadd C dL_law_969 ?_
    refine hc_sld C (j := i + 1) hX hbl hbA hn31 (show nI i + 1 = nI (i + 1) by rw [show (1 : Int32) = nI 1 from rfl, nI_add]) (by omega) dL_law_970 ?_
    refine hc_cV1i C mv_L_119 (c_X7_image_b C.ok h0) rfl rfl rfl (Nat.le_of_ble_eq_true rfl) ⟨by decide, by decide⟩ hcs dL_law_971 (fun rx Mx hx1 => ?_)
    obtain ⟨rfl, rfl⟩ := hx1
    refine hc_aload_n C dL_law_974 rfl rfl ?_
    refine hc_aload_n C dL_law_975 rfl rfl ?_
    refine hc_iload_n C dL_law_976 rfl rfl ?_
    refine hc_iconst C dL_law_977 (v := 1) rfl ?_
    refine hc_iadd C dL_law_978 ?_
    refine hc_sld C (j := i + 1) hX hbl hbA hn31 (show nI i + 1 = nI (i + 1) by rw [show (1 : Int32) = nI 1 from rfl, nI_add]) (by omega) dL_law_979 ?_
    refine hc_cV1i C mv_L_122 (c_X8_image_b C.ok h0) rfl rfl rfl (Nat.le_of_ble_eq_true rfl) ⟨by decide, by decide⟩ hcs dL_law_980 (fun rm Mm hm1 => ?_)
    obtain ⟨rfl, rfl⟩ := hm1
    refine hc_icmp_eq C (tgt := 1159) dL_law_983 (by decide) (fun c_983 => ?_) (fun c_983 => ?_)
    rotate_left
    · exact absurd (rfl) c_983
    exact kk _

set_option maxRecDepth 100000 in
set_option maxHeartbeats 4000000 in
theorem lc_26 {G : hc_Geo} {p : Program} {l : Launch} {e : Env} {s : State} {m : MethodId} {below : List Frame} {meth : Method} {c : Code} {cells slots : Nat} {Q : State → Prop} {b n : Nat} {xs : Nat → Int32} (C : hc_Cx G hc_lay code 4 ret R_law p s m #[Value.ref b] meth c) (hX : va_X b n xs s s.heap) (hbl : b < s.heap.size) (hbA : ¬ hc_A G b) (hn31 : n < 2 ^ 31) (hcs : cells ≤ room_1.cells ∧ slots ≤ room_1.slots) {i : Nat} (hi : i + 6 ≤ n) (kk : ∀ M' : hc_Mem, hc_W G hc_lay p l e room_1 s m #[Value.ref b] below meth c 4 cells slots Q 1159 [some (.ref b), some (.ref (hc_ad G 0)), some (.ref (hc_ad G 48)), some (.int (nI i))] [] M') : hc_W G hc_lay p l e room_1 s m #[Value.ref b] below meth c 4 cells slots Q 988 [some (.ref b), some (.ref (hc_ad G 0)), some (.ref (hc_ad G 48)), some (.int (nI i))] [] hk_M2 := by
  by_cases h0 : ¬ (xs (i + 1)) < 0 ∧ ¬ 1 < (xs (i + 1))
  · obtain ⟨j1, hj1, e1⟩ : ∃ j : Nat, j ≤ 1 ∧ (xs (i + 1)) = nI j := nI_of2 (M := 1) rfl h0.1 (Int32.not_lt.mp h0.2)
    by_cases h2 : j1 = 0
    · subst h2
      refine hc_aload_n C dL_law_988 rfl rfl ?_
      refine hc_aload_n C dL_law_989 rfl rfl ?_
      refine hc_iload_n C dL_law_990 rfl rfl ?_
      refine hc_iconst C dL_law_991 (v := 1) rfl ?_
      refine hc_iadd C dL_law_992 ?_
      refine hc_sld C (j := i + 1) hX hbl hbA hn31 (show nI i + 1 = nI (i + 1) by rw [show (1 : Int32) = nI 1 from rfl, nI_add]) (by omega) dL_law_993 ?_
      refine hc_top e1 ?_
      refine hc_cV1i C mv_L_123 (c_X7_restore_n0 C.ok rfl) rfl rfl rfl (Nat.le_of_ble_eq_true rfl) ⟨by decide, by decide⟩ hcs dL_law_994 (fun rx Mx hx1 => ?_)
      obtain ⟨rfl, rfl⟩ := hx1
      refine hc_aload_n C dL_law_997 rfl rfl ?_
      refine hc_aload_n C dL_law_998 rfl rfl ?_
      refine hc_iload_n C dL_law_999 rfl rfl ?_
      refine hc_iconst C dL_law_1000 (v := 1) rfl ?_
      refine hc_iadd C dL_law_1001 ?_
      refine hc_sld C (j := i + 1) hX hbl hbA hn31 (show nI i + 1 = nI (i + 1) by rw [show (1 : Int32) = nI 1 from rfl, nI_add]) (by omega) dL_law_1002 ?_
      refine hc_top e1 ?_
      refine hc_cV1i C mv_L_126 (c_X8_restore_n (k := 0) C.ok (by decide) rfl) rfl rfl rfl (Nat.le_of_ble_eq_true rfl) ⟨by decide, by decide⟩ hcs dL_law_1003 (fun rm Mm hm1 => ?_)
      obtain ⟨rfl, rfl⟩ := hm1
      refine hc_icmp_eq C (tgt := 1159) dL_law_1006 (by decide) (fun c_1006 => ?_) (fun c_1006 => ?_)
      rotate_left
      · exact absurd (rfl) c_1006
      exact kk _
    · have h3 : j1 = 1 := by omega
      subst h3
      refine hc_aload_n C dL_law_988 rfl rfl ?_
      refine hc_aload_n C dL_law_989 rfl rfl ?_
      refine hc_iload_n C dL_law_990 rfl rfl ?_
      refine hc_iconst C dL_law_991 (v := 1) rfl ?_
      refine hc_iadd C dL_law_992 ?_
      refine hc_sld C (j := i + 1) hX hbl hbA hn31 (show nI i + 1 = nI (i + 1) by rw [show (1 : Int32) = nI 1 from rfl, nI_add]) (by omega) dL_law_993 ?_
      refine hc_top e1 ?_
      refine hc_cV1i C mv_L_123 (c_X7_restore_n1 C.ok rfl) rfl rfl rfl (Nat.le_of_ble_eq_true rfl) ⟨by decide, by decide⟩ hcs dL_law_994 (fun rx Mx hx1 => ?_)
      obtain ⟨rfl, rfl⟩ := hx1
      refine hc_aload_n C dL_law_997 rfl rfl ?_
      refine hc_aload_n C dL_law_998 rfl rfl ?_
      refine hc_iload_n C dL_law_999 rfl rfl ?_
      refine hc_iconst C dL_law_1000 (v := 1) rfl ?_
      refine hc_iadd C dL_law_1001 ?_
      refine hc_sld C (j := i + 1) hX hbl hbA hn31 (show nI i + 1 = nI (i + 1) by rw [show (1 : Int32) = nI 1 from rfl, nI_add]) (by omega) dL_law_1002 ?_
      refine hc_top e1 ?_
      refine hc_cV1i C mv_L_126 (c_X8_restore_n (k := 1) C.ok (by decide) rfl) rfl rfl rfl (Nat.le_of_ble_eq_true rfl) ⟨by decide, by decide⟩ hcs dL_law_1003 (fun rm Mm hm1 => ?_)
      obtain ⟨rfl, rfl⟩ := hm1
      refine hc_icmp_eq C (tgt := 1159) dL_law_1006 (by decide) (fun c_1006 => ?_) (fun c_1006 => ?_)
      rotate_left
      · exact absurd (rfl) c_1006
      exact kk _
  · refine hc_aload_n C dL_law_988 rfl rfl ?_
    refine hc_aload_n C dL_law_989 rfl rfl ?_
    refine hc_iload_n C dL_law_990 rfl rfl ?_
    refine hc_iconst C dL_law_991 (v := 1) rfl ?_
    refine hc_iadd C dL_law_992 ?_
    refine hc_sld C (j := i + 1) hX hbl hbA hn31 (show nI i + 1 = nI (i + 1) by rw [show (1 : Int32) = nI 1 from rfl, nI_add]) (by omega) dL_law_993 ?_
    refine hc_cV1i C mv_L_123 (c_X7_restore_b C.ok h0) rfl rfl rfl (Nat.le_of_ble_eq_true rfl) ⟨by decide, by decide⟩ hcs dL_law_994 (fun rx Mx hx1 => ?_)
    obtain ⟨rfl, rfl⟩ := hx1
    refine hc_aload_n C dL_law_997 rfl rfl ?_
    refine hc_aload_n C dL_law_998 rfl rfl ?_
    refine hc_iload_n C dL_law_999 rfl rfl ?_
    refine hc_iconst C dL_law_1000 (v := 1) rfl ?_
    refine hc_iadd C dL_law_1001 ?_
    refine hc_sld C (j := i + 1) hX hbl hbA hn31 (show nI i + 1 = nI (i + 1) by rw [show (1 : Int32) = nI 1 from rfl, nI_add]) (by omega) dL_law_1002 ?_
    refine hc_cV1i C mv_L_126 (c_X8_restore_b C.ok h0) rfl rfl rfl (Nat.le_of_ble_eq_true rfl) ⟨by decide, by decide⟩ hcs dL_law_1003 (fun rm Mm hm1 => ?_)
    obtain ⟨rfl, rfl⟩ := hm1
    refine hc_icmp_eq C (tgt := 1159) dL_law_1006 (by decide) (fun c_1006 => ?_) (fun c_1006 => ?_)
    rotate_left
    · exact absurd (rfl) c_1006
    exact kk _

set_option maxRecDepth 100000 in
set_option maxHeartbeats 4000000 in
theorem lc_27 {G : hc_Geo} {p : Program} {l : Launch} {e : Env} {s : State} {m : MethodId} {below : List Frame} {meth : Method} {c : Code} {cells slots : Nat} {Q : State → Prop} {b n : Nat} {xs : Nat → Int32} (C : hc_Cx G hc_lay code 4 ret R_law p s m #[Value.ref b] meth c) (hX : va_X b n xs s s.heap) (hbl : b < s.heap.size) (hbA : ¬ hc_A G b) (hn31 : n < 2 ^ 31) (hcs : cells ≤ room_1.cells ∧ slots ≤ room_1.slots) {i : Nat} (hi : i + 6 ≤ n) (kk : ∀ M' : hc_Mem, hc_W G hc_lay p l e room_1 s m #[Value.ref b] below meth c 4 cells slots Q 1159 [some (.ref b), some (.ref (hc_ad G 0)), some (.ref (hc_ad G 48)), some (.int (nI i))] [] M') : hc_W G hc_lay p l e room_1 s m #[Value.ref b] below meth c 4 cells slots Q 1011 [some (.ref b), some (.ref (hc_ad G 0)), some (.ref (hc_ad G 48)), some (.int (nI i))] [] hk_M2 := by
  refine hc_aload_n C dL_law_1011 rfl rfl ?_
  refine hc_aload_n C dL_law_1012 rfl rfl ?_
  refine hc_iload_n C dL_law_1013 rfl rfl ?_
  refine hc_iconst C dL_law_1014 (v := 1) rfl ?_
  refine hc_iadd C dL_law_1015 ?_
  refine hc_sld C (j := i + 1) hX hbl hbA hn31 (show nI i + 1 = nI (i + 1) by rw [show (1 : Int32) = nI 1 from rfl, nI_add]) (by omega) dL_law_1016 ?_
  refine hc_cV1i C mv_L_127 (c_X7_kind_b C.ok (fun q => q.2 (show (0 : Int32) ≤ _ from Int32.not_lt.mp q.1))) rfl rfl rfl (Nat.le_of_ble_eq_true rfl) ⟨by decide, by decide⟩ hcs dL_law_1017 (fun rx Mx hx1 => ?_)
  obtain ⟨rfl, rfl⟩ := hx1
  refine hc_aload_n C dL_law_1020 rfl rfl ?_
  refine hc_aload_n C dL_law_1021 rfl rfl ?_
  refine hc_iload_n C dL_law_1022 rfl rfl ?_
  refine hc_iconst C dL_law_1023 (v := 1) rfl ?_
  refine hc_iadd C dL_law_1024 ?_
  refine hc_sld C (j := i + 1) hX hbl hbA hn31 (show nI i + 1 = nI (i + 1) by rw [show (1 : Int32) = nI 1 from rfl, nI_add]) (by omega) dL_law_1025 ?_
  refine hc_cV1i C mv_L_130 (c_X8_kind_b (E := 0) C.ok rfl (by decide) (fun q => q.2 (show (0 : Int32) ≤ _ from Int32.not_lt.mp q.1))) rfl rfl rfl (Nat.le_of_ble_eq_true rfl) ⟨by decide, by decide⟩ hcs dL_law_1026 (fun rm Mm hm1 => ?_)
  obtain ⟨rfl, rfl⟩ := hm1
  refine hc_icmp_eq C (tgt := 1159) dL_law_1029 (by decide) (fun c_1029 => ?_) (fun c_1029 => ?_)
  rotate_left
  · exact absurd (rfl) c_1029
  exact kk _

set_option maxRecDepth 100000 in
set_option maxHeartbeats 4000000 in
theorem lc_28 {G : hc_Geo} {p : Program} {l : Launch} {e : Env} {s : State} {m : MethodId} {below : List Frame} {meth : Method} {c : Code} {cells slots : Nat} {Q : State → Prop} {b n : Nat} {xs : Nat → Int32} (C : hc_Cx G hc_lay code 4 ret R_law p s m #[Value.ref b] meth c) (hX : va_X b n xs s s.heap) (hbl : b < s.heap.size) (hbA : ¬ hc_A G b) (hn31 : n < 2 ^ 31) (hcs : cells ≤ room_1.cells ∧ slots ≤ room_1.slots) {i : Nat} (hi : i + 6 ≤ n) (kk : ∀ M' : hc_Mem, hc_W G hc_lay p l e room_1 s m #[Value.ref b] below meth c 4 cells slots Q 1159 [some (.ref b), some (.ref (hc_ad G 0)), some (.ref (hc_ad G 48)), some (.int (nI i))] [] M') : hc_W G hc_lay p l e room_1 s m #[Value.ref b] below meth c 4 cells slots Q 1034 [some (.ref b), some (.ref (hc_ad G 0)), some (.ref (hc_ad G 48)), some (.int (nI i))] [] hk_M2 := by
  refine hc_aload_n C dL_law_1034 rfl rfl ?_
  refine hc_aload_n C dL_law_1035 rfl rfl ?_
  refine hc_iload_n C dL_law_1036 rfl rfl ?_
  refine hc_iconst C dL_law_1037 (v := 1) rfl ?_
  refine hc_iadd C dL_law_1038 ?_
  refine hc_sld C (j := i + 1) hX hbl hbA hn31 (show nI i + 1 = nI (i + 1) by rw [show (1 : Int32) = nI 1 from rfl, nI_add]) (by omega) dL_law_1039 ?_
  refine hc_aload_n C dL_law_1040 rfl rfl ?_
  refine hc_iload_n C dL_law_1041 rfl rfl ?_
  refine hc_iconst C dL_law_1042 (v := 2) rfl ?_
  refine hc_iadd C dL_law_1043 ?_
  refine hc_sld C (j := i + 2) hX hbl hbA hn31 (show nI i + 2 = nI (i + 2) by rw [show (2 : Int32) = nI 2 from rfl, nI_add]) (by omega) dL_law_1044 ?_
  refine hc_cV2i C mv_L_131 (c_X7_as_b C.ok (fun q => q.2 (show (0 : Int32) ≤ _ from Int32.not_lt.mp q.1))) rfl rfl rfl (Nat.le_of_ble_eq_true rfl) ⟨by decide, by decide⟩ hcs dL_law_1045 (fun rx Mx hx1 => ?_)
  obtain ⟨rfl, rfl⟩ := hx1
  refine hc_aload_n C dL_law_1048 rfl rfl ?_
  refine hc_aload_n C dL_law_1049 rfl rfl ?_
  refine hc_iload_n C dL_law_1050 rfl rfl ?_
  refine hc_iconst C dL_law_1051 (v := 1) rfl ?_
  refine hc_iadd C dL_law_1052 ?_
  refine hc_sld C (j := i + 1) hX hbl hbA hn31 (show nI i + 1 = nI (i + 1) by rw [show (1 : Int32) = nI 1 from rfl, nI_add]) (by omega) dL_law_1053 ?_
  refine hc_aload_n C dL_law_1054 rfl rfl ?_
  refine hc_iload_n C dL_law_1055 rfl rfl ?_
  refine hc_iconst C dL_law_1056 (v := 2) rfl ?_
  refine hc_iadd C dL_law_1057 ?_
  refine hc_sld C (j := i + 2) hX hbl hbA hn31 (show nI i + 2 = nI (i + 2) by rw [show (2 : Int32) = nI 2 from rfl, nI_add]) (by omega) dL_law_1058 ?_
  refine hc_cV2i C mv_L_134 (c_X8_as_b (E := 0) C.ok rfl (by decide) (fun q => q.2 (show (0 : Int32) ≤ _ from Int32.not_lt.mp q.1))) rfl rfl rfl (Nat.le_of_ble_eq_true rfl) ⟨by decide, by decide⟩ hcs dL_law_1059 (fun rm Mm hm1 => ?_)
  obtain ⟨rfl, rfl⟩ := hm1
  refine hc_icmp_eq C (tgt := 1159) dL_law_1062 (by decide) (fun c_1062 => ?_) (fun c_1062 => ?_)
  rotate_left
  · exact absurd (rfl) c_1062
  exact kk _

set_option maxRecDepth 100000 in
set_option maxHeartbeats 4000000 in
theorem lc_29 {G : hc_Geo} {p : Program} {l : Launch} {e : Env} {s : State} {m : MethodId} {below : List Frame} {meth : Method} {c : Code} {cells slots : Nat} {Q : State → Prop} {b n : Nat} {xs : Nat → Int32} (C : hc_Cx G hc_lay code 4 ret R_law p s m #[Value.ref b] meth c) (hX : va_X b n xs s s.heap) (hbl : b < s.heap.size) (hbA : ¬ hc_A G b) (hn31 : n < 2 ^ 31) (hcs : cells ≤ room_1.cells ∧ slots ≤ room_1.slots) {i : Nat} (hi : i + 6 ≤ n) (kk : ∀ M' : hc_Mem, hc_W G hc_lay p l e room_1 s m #[Value.ref b] below meth c 4 cells slots Q 1159 [some (.ref b), some (.ref (hc_ad G 0)), some (.ref (hc_ad G 48)), some (.int (nI i))] [] M') : hc_W G hc_lay p l e room_1 s m #[Value.ref b] below meth c 4 cells slots Q 1067 [some (.ref b), some (.ref (hc_ad G 0)), some (.ref (hc_ad G 48)), some (.int (nI i))] [] hk_M2 := by
  refine hc_aload_n C dL_law_1067 rfl rfl ?_
  refine hc_aload_n C dL_law_1068 rfl rfl ?_
  refine hc_iload_n C dL_law_1069 rfl rfl ?_
  refine hc_iconst C dL_law_1070 (v := 1) rfl ?_
  refine hc_iadd C dL_law_1071 ?_
  refine hc_sld C (j := i + 1) hX hbl hbA hn31 (show nI i + 1 = nI (i + 1) by rw [show (1 : Int32) = nI 1 from rfl, nI_add]) (by omega) dL_law_1072 ?_
  refine hc_aload_n C dL_law_1073 rfl rfl ?_
  refine hc_iload_n C dL_law_1074 rfl rfl ?_
  refine hc_iconst C dL_law_1075 (v := 2) rfl ?_
  refine hc_iadd C dL_law_1076 ?_
  refine hc_sld C (j := i + 2) hX hbl hbA hn31 (show nI i + 2 = nI (i + 2) by rw [show (2 : Int32) = nI 2 from rfl, nI_add]) (by omega) dL_law_1077 ?_
  refine hc_cV2i C mv_L_135 (c_X7_ask_b C.ok (fun q => q.2 (show (0 : Int32) ≤ _ from Int32.not_lt.mp q.1))) rfl rfl rfl (Nat.le_of_ble_eq_true rfl) ⟨by decide, by decide⟩ hcs dL_law_1078 (fun rx Mx hx1 => ?_)
  obtain ⟨rfl, rfl⟩ := hx1
  refine hc_aload_n C dL_law_1081 rfl rfl ?_
  refine hc_aload_n C dL_law_1082 rfl rfl ?_
  refine hc_iload_n C dL_law_1083 rfl rfl ?_
  refine hc_iconst C dL_law_1084 (v := 1) rfl ?_
  refine hc_iadd C dL_law_1085 ?_
  refine hc_sld C (j := i + 1) hX hbl hbA hn31 (show nI i + 1 = nI (i + 1) by rw [show (1 : Int32) = nI 1 from rfl, nI_add]) (by omega) dL_law_1086 ?_
  refine hc_aload_n C dL_law_1087 rfl rfl ?_
  refine hc_iload_n C dL_law_1088 rfl rfl ?_
  refine hc_iconst C dL_law_1089 (v := 2) rfl ?_
  refine hc_iadd C dL_law_1090 ?_
  refine hc_sld C (j := i + 2) hX hbl hbA hn31 (show nI i + 2 = nI (i + 2) by rw [show (2 : Int32) = nI 2 from rfl, nI_add]) (by omega) dL_law_1091 ?_
  refine hc_cV2i C mv_L_138 (c_X8_ask_b (E := 0) C.ok rfl (by decide) (fun q => q.2 (show (0 : Int32) ≤ _ from Int32.not_lt.mp q.1))) rfl rfl rfl (Nat.le_of_ble_eq_true rfl) ⟨by decide, by decide⟩ hcs dL_law_1092 (fun rm Mm hm1 => ?_)
  obtain ⟨rfl, rfl⟩ := hm1
  refine hc_icmp_eq C (tgt := 1159) dL_law_1095 (by decide) (fun c_1095 => ?_) (fun c_1095 => ?_)
  rotate_left
  · exact absurd (rfl) c_1095
  exact kk _

set_option maxRecDepth 100000 in
set_option maxHeartbeats 4000000 in
theorem lc_30 {G : hc_Geo} {p : Program} {l : Launch} {e : Env} {s : State} {m : MethodId} {below : List Frame} {meth : Method} {c : Code} {cells slots : Nat} {Q : State → Prop} {b n : Nat} {xs : Nat → Int32} (C : hc_Cx G hc_lay code 4 ret R_law p s m #[Value.ref b] meth c) (hX : va_X b n xs s s.heap) (hbl : b < s.heap.size) (hbA : ¬ hc_A G b) (hn31 : n < 2 ^ 31) (hcs : cells ≤ room_1.cells ∧ slots ≤ room_1.slots) {i : Nat} (hi : i + 6 ≤ n) (kk : ∀ M' : hc_Mem, hc_W G hc_lay p l e room_1 s m #[Value.ref b] below meth c 4 cells slots Q 1159 [some (.ref b), some (.ref (hc_ad G 0)), some (.ref (hc_ad G 48)), some (.int (nI i))] [] M') : hc_W G hc_lay p l e room_1 s m #[Value.ref b] below meth c 4 cells slots Q 1100 [some (.ref b), some (.ref (hc_ad G 0)), some (.ref (hc_ad G 48)), some (.int (nI i))] [] hk_M2 := by
  refine hc_aload_n C dL_law_1100 rfl rfl ?_
  refine hc_aload_n C dL_law_1101 rfl rfl ?_
  refine hc_iload_n C dL_law_1102 rfl rfl ?_
  refine hc_iconst C dL_law_1103 (v := 1) rfl ?_
  refine hc_iadd C dL_law_1104 ?_
  refine hc_sld C (j := i + 1) hX hbl hbA hn31 (show nI i + 1 = nI (i + 1) by rw [show (1 : Int32) = nI 1 from rfl, nI_add]) (by omega) dL_law_1105 ?_
  refine hc_cV1i C mv_L_139 (c_X7_trace_n C.ok (fun q => q.2 (show (0 : Int32) ≤ _ from Int32.not_lt.mp q.1))) rfl rfl rfl (Nat.le_of_ble_eq_true rfl) ⟨by decide, by decide⟩ hcs dL_law_1106 (fun rx Mx hx1 => ?_)
  obtain ⟨rfl, rfl⟩ := hx1
  refine hc_aload_n C dL_law_1109 rfl rfl ?_
  refine hc_aload_n C dL_law_1110 rfl rfl ?_
  refine hc_iload_n C dL_law_1111 rfl rfl ?_
  refine hc_iconst C dL_law_1112 (v := 1) rfl ?_
  refine hc_iadd C dL_law_1113 ?_
  refine hc_sld C (j := i + 1) hX hbl hbA hn31 (show nI i + 1 = nI (i + 1) by rw [show (1 : Int32) = nI 1 from rfl, nI_add]) (by omega) dL_law_1114 ?_
  refine hc_cV1i C mv_L_142 (c_X8_trace_n (n := 0) C.ok rfl (by decide) (fun q => q.2 (show (0 : Int32) ≤ _ from Int32.not_lt.mp q.1))) rfl rfl rfl (Nat.le_of_ble_eq_true rfl) ⟨by decide, by decide⟩ hcs dL_law_1115 (fun rm Mm hm1 => ?_)
  obtain ⟨rfl, rfl⟩ := hm1
  refine hc_icmp_eq C (tgt := 1159) dL_law_1118 (by decide) (fun c_1118 => ?_) (fun c_1118 => ?_)
  rotate_left
  · exact absurd (rfl) c_1118
  exact kk _

set_option maxRecDepth 100000 in
set_option maxHeartbeats 4000000 in
theorem lc_31 {G : hc_Geo} {p : Program} {l : Launch} {e : Env} {s : State} {m : MethodId} {below : List Frame} {meth : Method} {c : Code} {cells slots : Nat} {Q : State → Prop} {b n : Nat} {xs : Nat → Int32} (C : hc_Cx G hc_lay code 4 ret R_law p s m #[Value.ref b] meth c) (hX : va_X b n xs s s.heap) (hbl : b < s.heap.size) (hbA : ¬ hc_A G b) (hn31 : n < 2 ^ 31) (hcs : cells ≤ room_1.cells ∧ slots ≤ room_1.slots) {i : Nat} (hi : i + 6 ≤ n) (kk : ∀ M' : hc_Mem, hc_W G hc_lay p l e room_1 s m #[Value.ref b] below meth c 4 cells slots Q 1159 [some (.ref b), some (.ref (hc_ad G 0)), some (.ref (hc_ad G 48)), some (.int (nI i))] [] M') : hc_W G hc_lay p l e room_1 s m #[Value.ref b] below meth c 4 cells slots Q 1123 [some (.ref b), some (.ref (hc_ad G 0)), some (.ref (hc_ad G 48)), some (.int (nI i))] [] hk_M2 := by
  by_cases h0 : ((xs (i + 1))).toInt < 0 ∨ 7 < ((xs (i + 1))).toInt
  · refine hc_aload_n C dL_law_1123 rfl rfl ?_
    refine hc_aload_n C dL_law_1124 rfl rfl ?_
    refine hc_iload_n C dL_law_1125 rfl rfl ?_
    refine hc_iconst C dL_law_1126 (v := 1) rfl ?_
    refine hc_iadd C dL_law_1127 ?_
    refine hc_sld C (j := i + 1) hX hbl hbA hn31 (show nI i + 1 = nI (i + 1) by rw [show (1 : Int32) = nI 1 from rfl, nI_add]) (by omega) dL_law_1128 ?_
    refine hc_cV1i C mv_L_143 (c_X7_count_d C.ok h0) rfl rfl rfl (Nat.le_of_ble_eq_true rfl) ⟨by decide, by decide⟩ hcs dL_law_1129 (fun rx Mx hx1 => ?_)
    obtain ⟨rfl, rfl⟩ := hx1
    refine hc_aload_n C dL_law_1132 rfl rfl ?_
    refine hc_aload_n C dL_law_1133 rfl rfl ?_
    refine hc_iload_n C dL_law_1134 rfl rfl ?_
    refine hc_iconst C dL_law_1135 (v := 1) rfl ?_
    refine hc_iadd C dL_law_1136 ?_
    refine hc_sld C (j := i + 1) hX hbl hbA hn31 (show nI i + 1 = nI (i + 1) by rw [show (1 : Int32) = nI 1 from rfl, nI_add]) (by omega) dL_law_1137 ?_
    refine hc_cV1i C mv_L_146 (c_X8_count_d C.ok h0) rfl rfl rfl (Nat.le_of_ble_eq_true rfl) ⟨by decide, by decide⟩ hcs dL_law_1138 (fun rm Mm hm1 => ?_)
    obtain ⟨rfl, rfl⟩ := hm1
    refine hc_icmp_eq C (tgt := 1159) dL_law_1141 (by decide) (fun c_1141 => ?_) (fun c_1141 => ?_)
    rotate_left
    · exact absurd (rfl) c_1141
    exact kk _
  · obtain ⟨j1, hj1, e1⟩ : ∃ j : Nat, j ≤ 7 ∧ (xs (i + 1)) = nI j := nI_of2 (M := 7) rfl (fun q => h0 (Or.inl (Int32.lt_iff_toInt_lt.mp q))) (Int32.not_lt.mp (fun q => h0 (Or.inr (Int32.lt_iff_toInt_lt.mp q))))
    by_cases h1 : j1 = 0
    · subst h1
      refine hc_aload_n C dL_law_1123 rfl rfl ?_
      refine hc_aload_n C dL_law_1124 rfl rfl ?_
      refine hc_iload_n C dL_law_1125 rfl rfl ?_
      refine hc_iconst C dL_law_1126 (v := 1) rfl ?_
      refine hc_iadd C dL_law_1127 ?_
      refine hc_sld C (j := i + 1) hX hbl hbA hn31 (show nI i + 1 = nI (i + 1) by rw [show (1 : Int32) = nI 1 from rfl, nI_add]) (by omega) dL_law_1128 ?_
      refine hc_top e1 ?_
      refine hc_cV1i C mv_L_143 (c_X7_count_0 C.ok) rfl rfl rfl (Nat.le_of_ble_eq_true rfl) ⟨by decide, by decide⟩ hcs dL_law_1129 (fun rx Mx hx1 => ?_)
      obtain ⟨rfl, rfl⟩ := hx1
      refine hc_aload_n C dL_law_1132 rfl rfl ?_
      refine hc_aload_n C dL_law_1133 rfl rfl ?_
      refine hc_iload_n C dL_law_1134 rfl rfl ?_
      refine hc_iconst C dL_law_1135 (v := 1) rfl ?_
      refine hc_iadd C dL_law_1136 ?_
      refine hc_sld C (j := i + 1) hX hbl hbA hn31 (show nI i + 1 = nI (i + 1) by rw [show (1 : Int32) = nI 1 from rfl, nI_add]) (by omega) dL_law_1137 ?_
      refine hc_top e1 ?_
      refine hc_cV1i C mv_L_146 (c_X8_count_0 C.ok) rfl rfl rfl (Nat.le_of_ble_eq_true rfl) ⟨by decide, by decide⟩ hcs dL_law_1138 (fun rm Mm hm1 => ?_)
      obtain ⟨rfl, rfl⟩ := hm1
      refine hc_icmp_eq C (tgt := 1159) dL_law_1141 (by decide) (fun c_1141 => ?_) (fun c_1141 => ?_)
      rotate_left
      · exact absurd (by decide +kernel) c_1141
      exact kk _
    · by_cases h2 : j1 = 1
      · subst h2
        refine hc_aload_n C dL_law_1123 rfl rfl ?_
        refine hc_aload_n C dL_law_1124 rfl rfl ?_
        refine hc_iload_n C dL_law_1125 rfl rfl ?_
        refine hc_iconst C dL_law_1126 (v := 1) rfl ?_
        refine hc_iadd C dL_law_1127 ?_
        refine hc_sld C (j := i + 1) hX hbl hbA hn31 (show nI i + 1 = nI (i + 1) by rw [show (1 : Int32) = nI 1 from rfl, nI_add]) (by omega) dL_law_1128 ?_
        refine hc_top e1 ?_
        refine hc_cV1i C mv_L_143 (c_X7_count_1 C.ok) rfl rfl rfl (Nat.le_of_ble_eq_true rfl) ⟨by decide, by decide⟩ hcs dL_law_1129 (fun rx Mx hx1 => ?_)
        obtain ⟨rfl, rfl⟩ := hx1
        refine hc_aload_n C dL_law_1132 rfl rfl ?_
        refine hc_aload_n C dL_law_1133 rfl rfl ?_
        refine hc_iload_n C dL_law_1134 rfl rfl ?_
        refine hc_iconst C dL_law_1135 (v := 1) rfl ?_
        refine hc_iadd C dL_law_1136 ?_
        refine hc_sld C (j := i + 1) hX hbl hbA hn31 (show nI i + 1 = nI (i + 1) by rw [show (1 : Int32) = nI 1 from rfl, nI_add]) (by omega) dL_law_1137 ?_
        refine hc_top e1 ?_
        refine hc_cV1i C mv_L_146 (c_X8_count_1 C.ok) rfl rfl rfl (Nat.le_of_ble_eq_true rfl) ⟨by decide, by decide⟩ hcs dL_law_1138 (fun rm Mm hm1 => ?_)
        obtain ⟨rfl, rfl⟩ := hm1
        refine hc_icmp_eq C (tgt := 1159) dL_law_1141 (by decide) (fun c_1141 => ?_) (fun c_1141 => ?_)
        rotate_left
        · exact absurd (by decide +kernel) c_1141
        exact kk _
      · by_cases h3 : j1 = 2
        · subst h3
          refine hc_aload_n C dL_law_1123 rfl rfl ?_
          refine hc_aload_n C dL_law_1124 rfl rfl ?_
          refine hc_iload_n C dL_law_1125 rfl rfl ?_
          refine hc_iconst C dL_law_1126 (v := 1) rfl ?_
          refine hc_iadd C dL_law_1127 ?_
          refine hc_sld C (j := i + 1) hX hbl hbA hn31 (show nI i + 1 = nI (i + 1) by rw [show (1 : Int32) = nI 1 from rfl, nI_add]) (by omega) dL_law_1128 ?_
          refine hc_top e1 ?_
          refine hc_cV1i C mv_L_143 (c_X7_count_2 C.ok) rfl rfl rfl (Nat.le_of_ble_eq_true rfl) ⟨by decide, by decide⟩ hcs dL_law_1129 (fun rx Mx hx1 => ?_)
          obtain ⟨rfl, rfl⟩ := hx1
          refine hc_aload_n C dL_law_1132 rfl rfl ?_
          refine hc_aload_n C dL_law_1133 rfl rfl ?_
          refine hc_iload_n C dL_law_1134 rfl rfl ?_
          refine hc_iconst C dL_law_1135 (v := 1) rfl ?_
          refine hc_iadd C dL_law_1136 ?_
          refine hc_sld C (j := i + 1) hX hbl hbA hn31 (show nI i + 1 = nI (i + 1) by rw [show (1 : Int32) = nI 1 from rfl, nI_add]) (by omega) dL_law_1137 ?_
          refine hc_top e1 ?_
          refine hc_cV1i C mv_L_146 (c_X8_count_2 C.ok) rfl rfl rfl (Nat.le_of_ble_eq_true rfl) ⟨by decide, by decide⟩ hcs dL_law_1138 (fun rm Mm hm1 => ?_)
          obtain ⟨rfl, rfl⟩ := hm1
          refine hc_icmp_eq C (tgt := 1159) dL_law_1141 (by decide) (fun c_1141 => ?_) (fun c_1141 => ?_)
          rotate_left
          · exact absurd (by decide +kernel) c_1141
          exact kk _
        · by_cases h4 : j1 = 3
          · subst h4
            refine hc_aload_n C dL_law_1123 rfl rfl ?_
            refine hc_aload_n C dL_law_1124 rfl rfl ?_
            refine hc_iload_n C dL_law_1125 rfl rfl ?_
            refine hc_iconst C dL_law_1126 (v := 1) rfl ?_
            refine hc_iadd C dL_law_1127 ?_
            refine hc_sld C (j := i + 1) hX hbl hbA hn31 (show nI i + 1 = nI (i + 1) by rw [show (1 : Int32) = nI 1 from rfl, nI_add]) (by omega) dL_law_1128 ?_
            refine hc_top e1 ?_
            refine hc_cV1i C mv_L_143 (c_X7_count_3 C.ok) rfl rfl rfl (Nat.le_of_ble_eq_true rfl) ⟨by decide, by decide⟩ hcs dL_law_1129 (fun rx Mx hx1 => ?_)
            obtain ⟨rfl, rfl⟩ := hx1
            refine hc_aload_n C dL_law_1132 rfl rfl ?_
            refine hc_aload_n C dL_law_1133 rfl rfl ?_
            refine hc_iload_n C dL_law_1134 rfl rfl ?_
            refine hc_iconst C dL_law_1135 (v := 1) rfl ?_
            refine hc_iadd C dL_law_1136 ?_
            refine hc_sld C (j := i + 1) hX hbl hbA hn31 (show nI i + 1 = nI (i + 1) by rw [show (1 : Int32) = nI 1 from rfl, nI_add]) (by omega) dL_law_1137 ?_
            refine hc_top e1 ?_
            refine hc_cV1i C mv_L_146 (c_X8_count_3 C.ok) rfl rfl rfl (Nat.le_of_ble_eq_true rfl) ⟨by decide, by decide⟩ hcs dL_law_1138 (fun rm Mm hm1 => ?_)
            obtain ⟨rfl, rfl⟩ := hm1
            refine hc_icmp_eq C (tgt := 1159) dL_law_1141 (by decide) (fun c_1141 => ?_) (fun c_1141 => ?_)
            rotate_left
            · exact absurd (by decide +kernel) c_1141
            exact kk _
          · by_cases h5 : j1 = 4
            · subst h5
              refine hc_aload_n C dL_law_1123 rfl rfl ?_
              refine hc_aload_n C dL_law_1124 rfl rfl ?_
              refine hc_iload_n C dL_law_1125 rfl rfl ?_
              refine hc_iconst C dL_law_1126 (v := 1) rfl ?_
              refine hc_iadd C dL_law_1127 ?_
              refine hc_sld C (j := i + 1) hX hbl hbA hn31 (show nI i + 1 = nI (i + 1) by rw [show (1 : Int32) = nI 1 from rfl, nI_add]) (by omega) dL_law_1128 ?_
              refine hc_top e1 ?_
              refine hc_cV1i C mv_L_143 (c_X7_count_4 C.ok) rfl rfl rfl (Nat.le_of_ble_eq_true rfl) ⟨by decide, by decide⟩ hcs dL_law_1129 (fun rx Mx hx1 => ?_)
              obtain ⟨rfl, rfl⟩ := hx1
              refine hc_aload_n C dL_law_1132 rfl rfl ?_
              refine hc_aload_n C dL_law_1133 rfl rfl ?_
              refine hc_iload_n C dL_law_1134 rfl rfl ?_
              refine hc_iconst C dL_law_1135 (v := 1) rfl ?_
              refine hc_iadd C dL_law_1136 ?_
              refine hc_sld C (j := i + 1) hX hbl hbA hn31 (show nI i + 1 = nI (i + 1) by rw [show (1 : Int32) = nI 1 from rfl, nI_add]) (by omega) dL_law_1137 ?_
              refine hc_top e1 ?_
              refine hc_cV1i C mv_L_146 (c_X8_count_4 (E := 0) C.ok rfl (by decide)) rfl rfl rfl (Nat.le_of_ble_eq_true rfl) ⟨by decide, by decide⟩ hcs dL_law_1138 (fun rm Mm hm1 => ?_)
              obtain ⟨rfl, rfl⟩ := hm1
              refine hc_icmp_eq C (tgt := 1159) dL_law_1141 (by decide) (fun c_1141 => ?_) (fun c_1141 => ?_)
              rotate_left
              · exact absurd (by decide +kernel) c_1141
              exact kk _
            · by_cases h6 : j1 = 5
              · subst h6
                refine hc_aload_n C dL_law_1123 rfl rfl ?_
                refine hc_aload_n C dL_law_1124 rfl rfl ?_
                refine hc_iload_n C dL_law_1125 rfl rfl ?_
                refine hc_iconst C dL_law_1126 (v := 1) rfl ?_
                refine hc_iadd C dL_law_1127 ?_
                refine hc_sld C (j := i + 1) hX hbl hbA hn31 (show nI i + 1 = nI (i + 1) by rw [show (1 : Int32) = nI 1 from rfl, nI_add]) (by omega) dL_law_1128 ?_
                refine hc_top e1 ?_
                refine hc_cV1i C mv_L_143 (c_X7_count_5 (E := 0) C.ok rfl (by decide)) rfl rfl rfl (Nat.le_of_ble_eq_true rfl) ⟨by decide, by decide⟩ hcs dL_law_1129 (fun rx Mx hx1 => ?_)
                obtain ⟨rfl, rfl⟩ := hx1
                refine hc_aload_n C dL_law_1132 rfl rfl ?_
                refine hc_aload_n C dL_law_1133 rfl rfl ?_
                refine hc_iload_n C dL_law_1134 rfl rfl ?_
                refine hc_iconst C dL_law_1135 (v := 1) rfl ?_
                refine hc_iadd C dL_law_1136 ?_
                refine hc_sld C (j := i + 1) hX hbl hbA hn31 (show nI i + 1 = nI (i + 1) by rw [show (1 : Int32) = nI 1 from rfl, nI_add]) (by omega) dL_law_1137 ?_
                refine hc_top e1 ?_
                refine hc_cV1i C mv_L_146 (c_X8_count_5 (E := 0) C.ok rfl (by decide)) rfl rfl rfl (Nat.le_of_ble_eq_true rfl) ⟨by decide, by decide⟩ hcs dL_law_1138 (fun rm Mm hm1 => ?_)
                obtain ⟨rfl, rfl⟩ := hm1
                refine hc_icmp_eq C (tgt := 1159) dL_law_1141 (by decide) (fun c_1141 => ?_) (fun c_1141 => ?_)
                rotate_left
                · exact absurd (by decide +kernel) c_1141
                exact kk _
              · by_cases h7 : j1 = 6
                · subst h7
                  refine hc_aload_n C dL_law_1123 rfl rfl ?_
                  refine hc_aload_n C dL_law_1124 rfl rfl ?_
                  refine hc_iload_n C dL_law_1125 rfl rfl ?_
                  refine hc_iconst C dL_law_1126 (v := 1) rfl ?_
                  refine hc_iadd C dL_law_1127 ?_
                  refine hc_sld C (j := i + 1) hX hbl hbA hn31 (show nI i + 1 = nI (i + 1) by rw [show (1 : Int32) = nI 1 from rfl, nI_add]) (by omega) dL_law_1128 ?_
                  refine hc_top e1 ?_
                  refine hc_cV1i C mv_L_143 (c_X7_count_6 C.ok) rfl rfl rfl (Nat.le_of_ble_eq_true rfl) ⟨by decide, by decide⟩ hcs dL_law_1129 (fun rx Mx hx1 => ?_)
                  obtain ⟨rfl, rfl⟩ := hx1
                  refine hc_aload_n C dL_law_1132 rfl rfl ?_
                  refine hc_aload_n C dL_law_1133 rfl rfl ?_
                  refine hc_iload_n C dL_law_1134 rfl rfl ?_
                  refine hc_iconst C dL_law_1135 (v := 1) rfl ?_
                  refine hc_iadd C dL_law_1136 ?_
                  refine hc_sld C (j := i + 1) hX hbl hbA hn31 (show nI i + 1 = nI (i + 1) by rw [show (1 : Int32) = nI 1 from rfl, nI_add]) (by omega) dL_law_1137 ?_
                  refine hc_top e1 ?_
                  refine hc_cV1i C mv_L_146 (c_X8_count_6 C.ok) rfl rfl rfl (Nat.le_of_ble_eq_true rfl) ⟨by decide, by decide⟩ hcs dL_law_1138 (fun rm Mm hm1 => ?_)
                  obtain ⟨rfl, rfl⟩ := hm1
                  refine hc_icmp_eq C (tgt := 1159) dL_law_1141 (by decide) (fun c_1141 => ?_) (fun c_1141 => ?_)
                  rotate_left
                  · exact absurd (by decide +kernel) c_1141
                  exact kk _
                · have h9 : j1 = 7 := by omega
                  subst h9
                  refine hc_aload_n C dL_law_1123 rfl rfl ?_
                  refine hc_aload_n C dL_law_1124 rfl rfl ?_
                  refine hc_iload_n C dL_law_1125 rfl rfl ?_
                  refine hc_iconst C dL_law_1126 (v := 1) rfl ?_
                  refine hc_iadd C dL_law_1127 ?_
                  refine hc_sld C (j := i + 1) hX hbl hbA hn31 (show nI i + 1 = nI (i + 1) by rw [show (1 : Int32) = nI 1 from rfl, nI_add]) (by omega) dL_law_1128 ?_
                  refine hc_top e1 ?_
                  refine hc_cV1i C mv_L_143 (c_X7_count_7 C.ok) rfl rfl rfl (Nat.le_of_ble_eq_true rfl) ⟨by decide, by decide⟩ hcs dL_law_1129 (fun rx Mx hx1 => ?_)
                  obtain ⟨rfl, rfl⟩ := hx1
                  refine hc_aload_n C dL_law_1132 rfl rfl ?_
                  refine hc_aload_n C dL_law_1133 rfl rfl ?_
                  refine hc_iload_n C dL_law_1134 rfl rfl ?_
                  refine hc_iconst C dL_law_1135 (v := 1) rfl ?_
                  refine hc_iadd C dL_law_1136 ?_
                  refine hc_sld C (j := i + 1) hX hbl hbA hn31 (show nI i + 1 = nI (i + 1) by rw [show (1 : Int32) = nI 1 from rfl, nI_add]) (by omega) dL_law_1137 ?_
                  refine hc_top e1 ?_
                  refine hc_cV1i C mv_L_146 (c_X8_count_7 C.ok) rfl rfl rfl (Nat.le_of_ble_eq_true rfl) ⟨by decide, by decide⟩ hcs dL_law_1138 (fun rm Mm hm1 => ?_)
                  obtain ⟨rfl, rfl⟩ := hm1
                  refine hc_icmp_eq C (tgt := 1159) dL_law_1141 (by decide) (fun c_1141 => ?_) (fun c_1141 => ?_)
                  rotate_left
                  · exact absurd (by decide +kernel) c_1141
                  exact kk _

set_option maxRecDepth 100000 in
set_option maxHeartbeats 4000000 in
theorem lc_32 {G : hc_Geo} {p : Program} {l : Launch} {e : Env} {s : State} {m : MethodId} {below : List Frame} {meth : Method} {c : Code} {cells slots : Nat} {Q : State → Prop} {b n : Nat} {xs : Nat → Int32} (C : hc_Cx G hc_lay code 4 ret R_law p s m #[Value.ref b] meth c) (hX : va_X b n xs s s.heap) (hbl : b < s.heap.size) (hbA : ¬ hc_A G b) (hn31 : n < 2 ^ 31) (hcs : cells ≤ room_1.cells ∧ slots ≤ room_1.slots) {i : Nat} (hi : i + 6 ≤ n) (kk : ∀ M' : hc_Mem, hc_W G hc_lay p l e room_1 s m #[Value.ref b] below meth c 4 cells slots Q 1159 [some (.ref b), some (.ref (hc_ad G 0)), some (.ref (hc_ad G 48)), some (.int (nI i))] [] M') : hc_W G hc_lay p l e room_1 s m #[Value.ref b] below meth c 4 cells slots Q 1146 [some (.ref b), some (.ref (hc_ad G 0)), some (.ref (hc_ad G 48)), some (.int (nI i))] [] hk_M2 := by
  refine hc_aload_n C dL_law_1146 rfl rfl ?_
  refine hc_cV0i C mv_L_147 (c_X7_status C.ok) rfl rfl rfl (Nat.le_of_ble_eq_true rfl) ⟨by decide, by decide⟩ hcs dL_law_1147 (fun rx Mx hx1 => ?_)
  obtain ⟨rfl, rfl⟩ := hx1
  refine hc_aload_n C dL_law_1150 rfl rfl ?_
  refine hc_cV0i C mv_L_150 (c_X8_status C.ok) rfl rfl rfl (Nat.le_of_ble_eq_true rfl) ⟨by decide, by decide⟩ hcs dL_law_1151 (fun rm Mm hm1 => ?_)
  obtain ⟨rfl, rfl⟩ := hm1
  refine hc_icmp_eq C (tgt := 1159) dL_law_1154 (by decide) (fun c_1154 => ?_) (fun c_1154 => ?_)
  rotate_left
  · exact absurd (rfl) c_1154
  exact kk _

