theorem rr_1 {d : Nat} (h : d ≤ 20) : hc_rr d room_1 := ⟨by show d + 1 ≤ 2048; omega, by show 40 * (d + 1) ≤ 84000; omega⟩
theorem inv0 : Inv hk_M2 := by
  refine ⟨⟨fun r hr => Or.inl ⟨?_, ?_⟩, fun j _ => rfl⟩, rfl, ⟨0, rfl, rfl, tOk_0⟩, rfl, ⟨0, by decide, rfl, rfl, Or.inl ⟨rfl, rfl, rfl, rfl, rfl, rfl, rfl, rfl, rfl, rfl⟩⟩, ⟨Or.inl ⟨rfl, rfl⟩, Or.inl ⟨rfl, rfl⟩⟩, ⟨0, by decide, rfl, rfl, fun i hi => absurd hi (by omega)⟩⟩
  · show (if r < 8 then (-1 : Int32) else 0) = -1
    rw [if_pos hr]
  · show (if r < 8 then (-1000000 : Int32) else 0) = -1000000
    rw [if_pos hr]

set_option maxRecDepth 100000 in
set_option maxHeartbeats 4000000 in
theorem lc_0 {G : hc_Geo} {p : Program} {l : Launch} {e : Env} {s : State} {m : MethodId} {below : List Frame} {meth : Method} {c : Code} {cells slots : Nat} {Q : State → Prop} {b n : Nat} {xs : Nat → Int32} (C : hc_Cx G hc_lay code 4 ret R_law p s m #[Value.ref b] meth c) (hX : va_X b n xs s s.heap) (hbl : b < s.heap.size) (hbA : ¬ hc_A G b) (hn31 : n < 2 ^ 31) (hcs : cells ≤ room_1.cells ∧ slots ≤ room_1.slots) {i : Nat} (hi : i + 6 ≤ n) {M : hc_Mem} (hI : Inv M) (kk : ∀ M' : hc_Mem, Inv M' → hc_W G hc_lay p l e room_1 s m #[Value.ref b] below meth c 4 cells slots Q 1159 [some (.ref b), some (.ref (hc_ad G 0)), some (.ref (hc_ad G 48)), some (.int (nI i))] [] M') : hc_W G hc_lay p l e room_1 s m #[Value.ref b] below meth c 4 cells slots Q 180 [some (.ref b), some (.ref (hc_ad G 0)), some (.ref (hc_ad G 48)), some (.int (nI i))] [] M := by
  obtain ⟨d1, P1, hd1, h1, k1⟩ := st_row (l := l) C.ok hI (xs (i + 1)) (xs (i + 2)) (xs (i + 3))
  refine hc_aload_n C dL_law_180 rfl rfl ?_
  refine hc_aload_n C dL_law_181 rfl rfl ?_
  refine hc_iload_n C dL_law_182 rfl rfl ?_
  refine hc_iconst C dL_law_183 (v := 1) rfl ?_
  refine hc_iadd C dL_law_184 ?_
  refine hc_sld C (j := i + 1) hX hbl hbA hn31 (show nI i + 1 = nI (i + 1) by rw [show (1 : Int32) = nI 1 from rfl, nI_add]) (by omega) dL_law_185 ?_
  refine hc_aload_n C dL_law_186 rfl rfl ?_
  refine hc_iload_n C dL_law_187 rfl rfl ?_
  refine hc_iconst C dL_law_188 (v := 2) rfl ?_
  refine hc_iadd C dL_law_189 ?_
  refine hc_sld C (j := i + 2) hX hbl hbA hn31 (show nI i + 2 = nI (i + 2) by rw [show (2 : Int32) = nI 2 from rfl, nI_add]) (by omega) dL_law_190 ?_
  refine hc_aload_n C dL_law_191 rfl rfl ?_
  refine hc_iload_n C dL_law_192 rfl rfl ?_
  refine hc_iconst C dL_law_193 (v := 3) rfl ?_
  refine hc_iadd C dL_law_194 ?_
  refine hc_sld C (j := i + 3) hX hbl hbA hn31 (show nI i + 3 = nI (i + 3) by rw [show (3 : Int32) = nI 3 from rfl, nI_add]) (by omega) dL_law_195 ?_
  refine hc_cV3i C mv_L_13 h1 rfl rfl rfl (Nat.le_of_ble_eq_true rfl) (rr_1 hd1) hcs dL_law_196 (fun rx Mx hx1 => ?_)
  obtain ⟨d2, P2, hd2, h2, k2⟩ := k1 rx Mx hx1
  refine hc_pop C dL_law_199 rfl ?_
  refine hc_aload_n C dL_law_200 rfl rfl ?_
  refine hc_aload_n C dL_law_201 rfl rfl ?_
  refine hc_iload_n C dL_law_202 rfl rfl ?_
  refine hc_iconst C dL_law_203 (v := 1) rfl ?_
  refine hc_iadd C dL_law_204 ?_
  refine hc_sld C (j := i + 1) hX hbl hbA hn31 (show nI i + 1 = nI (i + 1) by rw [show (1 : Int32) = nI 1 from rfl, nI_add]) (by omega) dL_law_205 ?_
  refine hc_aload_n C dL_law_206 rfl rfl ?_
  refine hc_iload_n C dL_law_207 rfl rfl ?_
  refine hc_iconst C dL_law_208 (v := 2) rfl ?_
  refine hc_iadd C dL_law_209 ?_
  refine hc_sld C (j := i + 2) hX hbl hbA hn31 (show nI i + 2 = nI (i + 2) by rw [show (2 : Int32) = nI 2 from rfl, nI_add]) (by omega) dL_law_210 ?_
  refine hc_aload_n C dL_law_211 rfl rfl ?_
  refine hc_iload_n C dL_law_212 rfl rfl ?_
  refine hc_iconst C dL_law_213 (v := 3) rfl ?_
  refine hc_iadd C dL_law_214 ?_
  refine hc_sld C (j := i + 3) hX hbl hbA hn31 (show nI i + 3 = nI (i + 3) by rw [show (3 : Int32) = nI 3 from rfl, nI_add]) (by omega) dL_law_215 ?_
  refine hc_cV3i C mv_L_17 h2 rfl rfl rfl (Nat.le_of_ble_eq_true rfl) (rr_1 hd2) hcs dL_law_216 (fun rm Mm hm1 => ?_)
  obtain ⟨he, hI2⟩ := k2 rm Mm hm1
  refine hc_pop C dL_law_219 rfl ?_
  refine hc_goto C (tgt := 1159) dL_law_220 (by decide) ?_
  exact kk _ hI2

set_option maxRecDepth 100000 in
set_option maxHeartbeats 4000000 in
theorem lc_1 {G : hc_Geo} {p : Program} {l : Launch} {e : Env} {s : State} {m : MethodId} {below : List Frame} {meth : Method} {c : Code} {cells slots : Nat} {Q : State → Prop} {b n : Nat} {xs : Nat → Int32} (C : hc_Cx G hc_lay code 4 ret R_law p s m #[Value.ref b] meth c) (hX : va_X b n xs s s.heap) (hbl : b < s.heap.size) (hbA : ¬ hc_A G b) (hn31 : n < 2 ^ 31) (hcs : cells ≤ room_1.cells ∧ slots ≤ room_1.slots) {i : Nat} (hi : i + 6 ≤ n) {M : hc_Mem} (hI : Inv M) (kk : ∀ M' : hc_Mem, Inv M' → hc_W G hc_lay p l e room_1 s m #[Value.ref b] below meth c 4 cells slots Q 1159 [some (.ref b), some (.ref (hc_ad G 0)), some (.ref (hc_ad G 48)), some (.int (nI i))] [] M') : hc_W G hc_lay p l e room_1 s m #[Value.ref b] below meth c 4 cells slots Q 223 [some (.ref b), some (.ref (hc_ad G 0)), some (.ref (hc_ad G 48)), some (.int (nI i))] [] M := by
  obtain ⟨d1, P1, hd1, h1, k1⟩ := st_set (l := l) C.ok hI (xs (i + 1)) (xs (i + 2)) (xs (i + 3))
  refine hc_aload_n C dL_law_223 rfl rfl ?_
  refine hc_aload_n C dL_law_224 rfl rfl ?_
  refine hc_iload_n C dL_law_225 rfl rfl ?_
  refine hc_iconst C dL_law_226 (v := 1) rfl ?_
  refine hc_iadd C dL_law_227 ?_
  refine hc_sld C (j := i + 1) hX hbl hbA hn31 (show nI i + 1 = nI (i + 1) by rw [show (1 : Int32) = nI 1 from rfl, nI_add]) (by omega) dL_law_228 ?_
  refine hc_aload_n C dL_law_229 rfl rfl ?_
  refine hc_iload_n C dL_law_230 rfl rfl ?_
  refine hc_iconst C dL_law_231 (v := 2) rfl ?_
  refine hc_iadd C dL_law_232 ?_
  refine hc_sld C (j := i + 2) hX hbl hbA hn31 (show nI i + 2 = nI (i + 2) by rw [show (2 : Int32) = nI 2 from rfl, nI_add]) (by omega) dL_law_233 ?_
  refine hc_aload_n C dL_law_234 rfl rfl ?_
  refine hc_iload_n C dL_law_235 rfl rfl ?_
  refine hc_iconst C dL_law_236 (v := 3) rfl ?_
  refine hc_iadd C dL_law_237 ?_
  refine hc_sld C (j := i + 3) hX hbl hbA hn31 (show nI i + 3 = nI (i + 3) by rw [show (3 : Int32) = nI 3 from rfl, nI_add]) (by omega) dL_law_238 ?_
  refine hc_cV3i C mv_L_18 h1 rfl rfl rfl (Nat.le_of_ble_eq_true rfl) (rr_1 hd1) hcs dL_law_239 (fun rx Mx hx1 => ?_)
  obtain ⟨d2, P2, hd2, h2, k2⟩ := k1 rx Mx hx1
  refine hc_pop C dL_law_242 rfl ?_
  refine hc_aload_n C dL_law_243 rfl rfl ?_
  refine hc_aload_n C dL_law_244 rfl rfl ?_
  refine hc_iload_n C dL_law_245 rfl rfl ?_
  refine hc_iconst C dL_law_246 (v := 1) rfl ?_
  refine hc_iadd C dL_law_247 ?_
  refine hc_sld C (j := i + 1) hX hbl hbA hn31 (show nI i + 1 = nI (i + 1) by rw [show (1 : Int32) = nI 1 from rfl, nI_add]) (by omega) dL_law_248 ?_
  refine hc_aload_n C dL_law_249 rfl rfl ?_
  refine hc_iload_n C dL_law_250 rfl rfl ?_
  refine hc_iconst C dL_law_251 (v := 2) rfl ?_
  refine hc_iadd C dL_law_252 ?_
  refine hc_sld C (j := i + 2) hX hbl hbA hn31 (show nI i + 2 = nI (i + 2) by rw [show (2 : Int32) = nI 2 from rfl, nI_add]) (by omega) dL_law_253 ?_
  refine hc_aload_n C dL_law_254 rfl rfl ?_
  refine hc_iload_n C dL_law_255 rfl rfl ?_
  refine hc_iconst C dL_law_256 (v := 3) rfl ?_
  refine hc_iadd C dL_law_257 ?_
  refine hc_sld C (j := i + 3) hX hbl hbA hn31 (show nI i + 3 = nI (i + 3) by rw [show (3 : Int32) = nI 3 from rfl, nI_add]) (by omega) dL_law_258 ?_
  refine hc_cV3i C mv_L_21 h2 rfl rfl rfl (Nat.le_of_ble_eq_true rfl) (rr_1 hd2) hcs dL_law_259 (fun rm Mm hm1 => ?_)
  obtain ⟨he, hI2⟩ := k2 rm Mm hm1
  refine hc_pop C dL_law_262 rfl ?_
  refine hc_goto C (tgt := 1159) dL_law_263 (by decide) ?_
  exact kk _ hI2

set_option maxRecDepth 100000 in
set_option maxHeartbeats 4000000 in
theorem lc_2 {G : hc_Geo} {p : Program} {l : Launch} {e : Env} {s : State} {m : MethodId} {below : List Frame} {meth : Method} {c : Code} {cells slots : Nat} {Q : State → Prop} {b n : Nat} {xs : Nat → Int32} (C : hc_Cx G hc_lay code 4 ret R_law p s m #[Value.ref b] meth c) (hX : va_X b n xs s s.heap) (hbl : b < s.heap.size) (hbA : ¬ hc_A G b) (hn31 : n < 2 ^ 31) (hcs : cells ≤ room_1.cells ∧ slots ≤ room_1.slots) {i : Nat} (hi : i + 6 ≤ n) {M : hc_Mem} (hI : Inv M) (kk : ∀ M' : hc_Mem, Inv M' → hc_W G hc_lay p l e room_1 s m #[Value.ref b] below meth c 4 cells slots Q 1159 [some (.ref b), some (.ref (hc_ad G 0)), some (.ref (hc_ad G 48)), some (.int (nI i))] [] M') : hc_W G hc_lay p l e room_1 s m #[Value.ref b] below meth c 4 cells slots Q 266 [some (.ref b), some (.ref (hc_ad G 0)), some (.ref (hc_ad G 48)), some (.int (nI i))] [] M := by
  obtain ⟨d1, P1, hd1, h1, k1⟩ := st_copy (l := l) C.ok hI (xs (i + 1)) (xs (i + 2)) (xs (i + 3)) (xs (i + 4)) (xs (i + 5))
  refine hc_aload_n C dL_law_266 rfl rfl ?_
  refine hc_aload_n C dL_law_267 rfl rfl ?_
  refine hc_iload_n C dL_law_268 rfl rfl ?_
  refine hc_iconst C dL_law_269 (v := 1) rfl ?_
  refine hc_iadd C dL_law_270 ?_
  refine hc_sld C (j := i + 1) hX hbl hbA hn31 (show nI i + 1 = nI (i + 1) by rw [show (1 : Int32) = nI 1 from rfl, nI_add]) (by omega) dL_law_271 ?_
  refine hc_aload_n C dL_law_272 rfl rfl ?_
  refine hc_iload_n C dL_law_273 rfl rfl ?_
  refine hc_iconst C dL_law_274 (v := 2) rfl ?_
  refine hc_iadd C dL_law_275 ?_
  refine hc_sld C (j := i + 2) hX hbl hbA hn31 (show nI i + 2 = nI (i + 2) by rw [show (2 : Int32) = nI 2 from rfl, nI_add]) (by omega) dL_law_276 ?_
  refine hc_aload_n C dL_law_277 rfl rfl ?_
  refine hc_iload_n C dL_law_278 rfl rfl ?_
  refine hc_iconst C dL_law_279 (v := 3) rfl ?_
  refine hc_iadd C dL_law_280 ?_
  refine hc_sld C (j := i + 3) hX hbl hbA hn31 (show nI i + 3 = nI (i + 3) by rw [show (3 : Int32) = nI 3 from rfl, nI_add]) (by omega) dL_law_281 ?_
  refine hc_aload_n C dL_law_282 rfl rfl ?_
  refine hc_iload_n C dL_law_283 rfl rfl ?_
  refine hc_iconst C dL_law_284 (v := 4) rfl ?_
  refine hc_iadd C dL_law_285 ?_
  refine hc_sld C (j := i + 4) hX hbl hbA hn31 (show nI i + 4 = nI (i + 4) by rw [show (4 : Int32) = nI 4 from rfl, nI_add]) (by omega) dL_law_286 ?_
  refine hc_aload_n C dL_law_287 rfl rfl ?_
  refine hc_iload_n C dL_law_288 rfl rfl ?_
  refine hc_iconst C dL_law_289 (v := 5) rfl ?_
  refine hc_iadd C dL_law_290 ?_
  refine hc_sld C (j := i + 5) hX hbl hbA hn31 (show nI i + 5 = nI (i + 5) by rw [show (5 : Int32) = nI 5 from rfl, nI_add]) (by omega) dL_law_291 ?_
  refine hc_cV5i C mv_L_22 h1 rfl rfl rfl (Nat.le_of_ble_eq_true rfl) (rr_1 hd1) hcs dL_law_292 (fun rx Mx hx1 => ?_)
  obtain ⟨d2, P2, hd2, h2, k2⟩ := k1 rx Mx hx1
  refine hc_pop C dL_law_295 rfl ?_
  refine hc_aload_n C dL_law_296 rfl rfl ?_
  refine hc_aload_n C dL_law_297 rfl rfl ?_
  refine hc_iload_n C dL_law_298 rfl rfl ?_
  refine hc_iconst C dL_law_299 (v := 1) rfl ?_
  refine hc_iadd C dL_law_300 ?_
  refine hc_sld C (j := i + 1) hX hbl hbA hn31 (show nI i + 1 = nI (i + 1) by rw [show (1 : Int32) = nI 1 from rfl, nI_add]) (by omega) dL_law_301 ?_
  refine hc_aload_n C dL_law_302 rfl rfl ?_
  refine hc_iload_n C dL_law_303 rfl rfl ?_
  refine hc_iconst C dL_law_304 (v := 2) rfl ?_
  refine hc_iadd C dL_law_305 ?_
  refine hc_sld C (j := i + 2) hX hbl hbA hn31 (show nI i + 2 = nI (i + 2) by rw [show (2 : Int32) = nI 2 from rfl, nI_add]) (by omega) dL_law_306 ?_
  refine hc_aload_n C dL_law_307 rfl rfl ?_
  refine hc_iload_n C dL_law_308 rfl rfl ?_
  refine hc_iconst C dL_law_309 (v := 3) rfl ?_
  refine hc_iadd C dL_law_310 ?_
  refine hc_sld C (j := i + 3) hX hbl hbA hn31 (show nI i + 3 = nI (i + 3) by rw [show (3 : Int32) = nI 3 from rfl, nI_add]) (by omega) dL_law_311 ?_
  refine hc_aload_n C dL_law_312 rfl rfl ?_
  refine hc_iload_n C dL_law_313 rfl rfl ?_
  refine hc_iconst C dL_law_314 (v := 4) rfl ?_
  refine hc_iadd C dL_law_315 ?_
  refine hc_sld C (j := i + 4) hX hbl hbA hn31 (show nI i + 4 = nI (i + 4) by rw [show (4 : Int32) = nI 4 from rfl, nI_add]) (by omega) dL_law_316 ?_
  refine hc_aload_n C dL_law_317 rfl rfl ?_
  refine hc_iload_n C dL_law_318 rfl rfl ?_
  refine hc_iconst C dL_law_319 (v := 5) rfl ?_
  refine hc_iadd C dL_law_320 ?_
  refine hc_sld C (j := i + 5) hX hbl hbA hn31 (show nI i + 5 = nI (i + 5) by rw [show (5 : Int32) = nI 5 from rfl, nI_add]) (by omega) dL_law_321 ?_
  refine hc_cV5i C mv_L_26 h2 rfl rfl rfl (Nat.le_of_ble_eq_true rfl) (rr_1 hd2) hcs dL_law_322 (fun rm Mm hm1 => ?_)
  obtain ⟨he, hI2⟩ := k2 rm Mm hm1
  refine hc_pop C dL_law_325 rfl ?_
  refine hc_goto C (tgt := 1159) dL_law_326 (by decide) ?_
  exact kk _ hI2

set_option maxRecDepth 100000 in
set_option maxHeartbeats 4000000 in
theorem lc_3 {G : hc_Geo} {p : Program} {l : Launch} {e : Env} {s : State} {m : MethodId} {below : List Frame} {meth : Method} {c : Code} {cells slots : Nat} {Q : State → Prop} {b n : Nat} {xs : Nat → Int32} (C : hc_Cx G hc_lay code 4 ret R_law p s m #[Value.ref b] meth c) (hX : va_X b n xs s s.heap) (hbl : b < s.heap.size) (hbA : ¬ hc_A G b) (hn31 : n < 2 ^ 31) (hcs : cells ≤ room_1.cells ∧ slots ≤ room_1.slots) {i : Nat} (hi : i + 6 ≤ n) {M : hc_Mem} (hI : Inv M) (kk : ∀ M' : hc_Mem, Inv M' → hc_W G hc_lay p l e room_1 s m #[Value.ref b] below meth c 4 cells slots Q 1159 [some (.ref b), some (.ref (hc_ad G 0)), some (.ref (hc_ad G 48)), some (.int (nI i))] [] M') : hc_W G hc_lay p l e room_1 s m #[Value.ref b] below meth c 4 cells slots Q 329 [some (.ref b), some (.ref (hc_ad G 0)), some (.ref (hc_ad G 48)), some (.int (nI i))] [] M := by
  obtain ⟨d1, P1, hd1, h1, k1⟩ := st_drop (l := l) C.ok hI (xs (i + 1))
  refine hc_aload_n C dL_law_329 rfl rfl ?_
  refine hc_aload_n C dL_law_330 rfl rfl ?_
  refine hc_iload_n C dL_law_331 rfl rfl ?_
  refine hc_iconst C dL_law_332 (v := 1) rfl ?_
  refine hc_iadd C dL_law_333 ?_
  refine hc_sld C (j := i + 1) hX hbl hbA hn31 (show nI i + 1 = nI (i + 1) by rw [show (1 : Int32) = nI 1 from rfl, nI_add]) (by omega) dL_law_334 ?_
  refine hc_cV1i C mv_L_27 h1 rfl rfl rfl (Nat.le_of_ble_eq_true rfl) (rr_1 hd1) hcs dL_law_335 (fun rx Mx hx1 => ?_)
  obtain ⟨d2, P2, hd2, h2, k2⟩ := k1 rx Mx hx1
  refine hc_pop C dL_law_338 rfl ?_
  refine hc_aload_n C dL_law_339 rfl rfl ?_
  refine hc_aload_n C dL_law_340 rfl rfl ?_
  refine hc_iload_n C dL_law_341 rfl rfl ?_
  refine hc_iconst C dL_law_342 (v := 1) rfl ?_
  refine hc_iadd C dL_law_343 ?_
  refine hc_sld C (j := i + 1) hX hbl hbA hn31 (show nI i + 1 = nI (i + 1) by rw [show (1 : Int32) = nI 1 from rfl, nI_add]) (by omega) dL_law_344 ?_
  refine hc_cV1i C mv_L_31 h2 rfl rfl rfl (Nat.le_of_ble_eq_true rfl) (rr_1 hd2) hcs dL_law_345 (fun rm Mm hm1 => ?_)
  obtain ⟨he, hI2⟩ := k2 rm Mm hm1
  refine hc_pop C dL_law_348 rfl ?_
  refine hc_goto C (tgt := 1159) dL_law_349 (by decide) ?_
  exact kk _ hI2

set_option maxRecDepth 100000 in
set_option maxHeartbeats 4000000 in
theorem lc_4 {G : hc_Geo} {p : Program} {l : Launch} {e : Env} {s : State} {m : MethodId} {below : List Frame} {meth : Method} {c : Code} {cells slots : Nat} {Q : State → Prop} {b n : Nat} {xs : Nat → Int32} (C : hc_Cx G hc_lay code 4 ret R_law p s m #[Value.ref b] meth c) (hX : va_X b n xs s s.heap) (hbl : b < s.heap.size) (hbA : ¬ hc_A G b) (hn31 : n < 2 ^ 31) (hcs : cells ≤ room_1.cells ∧ slots ≤ room_1.slots) {i : Nat} (hi : i + 6 ≤ n) {M : hc_Mem} (hI : Inv M) (kk : ∀ M' : hc_Mem, Inv M' → hc_W G hc_lay p l e room_1 s m #[Value.ref b] below meth c 4 cells slots Q 1159 [some (.ref b), some (.ref (hc_ad G 0)), some (.ref (hc_ad G 48)), some (.int (nI i))] [] M') : hc_W G hc_lay p l e room_1 s m #[Value.ref b] below meth c 4 cells slots Q 352 [some (.ref b), some (.ref (hc_ad G 0)), some (.ref (hc_ad G 48)), some (.int (nI i))] [] M := by
  obtain ⟨d1, P1, hd1, h1, k1⟩ := st_feed (l := l) C.ok hI (xs (i + 1))
  refine hc_aload_n C dL_law_352 rfl rfl ?_
  refine hc_aload_n C dL_law_353 rfl rfl ?_
  refine hc_iload_n C dL_law_354 rfl rfl ?_
  refine hc_iconst C dL_law_355 (v := 1) rfl ?_
  refine hc_iadd C dL_law_356 ?_
  refine hc_sld C (j := i + 1) hX hbl hbA hn31 (show nI i + 1 = nI (i + 1) by rw [show (1 : Int32) = nI 1 from rfl, nI_add]) (by omega) dL_law_357 ?_
  refine hc_cV1i C mv_L_32 h1 rfl rfl rfl (Nat.le_of_ble_eq_true rfl) (rr_1 hd1) hcs dL_law_358 (fun rx Mx hx1 => ?_)
  obtain ⟨d2, P2, hd2, h2, k2⟩ := k1 rx Mx hx1
  refine hc_pop C dL_law_361 rfl ?_
  refine hc_aload_n C dL_law_362 rfl rfl ?_
  refine hc_aload_n C dL_law_363 rfl rfl ?_
  refine hc_iload_n C dL_law_364 rfl rfl ?_
  refine hc_iconst C dL_law_365 (v := 1) rfl ?_
  refine hc_iadd C dL_law_366 ?_
  refine hc_sld C (j := i + 1) hX hbl hbA hn31 (show nI i + 1 = nI (i + 1) by rw [show (1 : Int32) = nI 1 from rfl, nI_add]) (by omega) dL_law_367 ?_
  refine hc_cV1i C mv_L_35 h2 rfl rfl rfl (Nat.le_of_ble_eq_true rfl) (rr_1 hd2) hcs dL_law_368 (fun rm Mm hm1 => ?_)
  obtain ⟨he, hI2⟩ := k2 rm Mm hm1
  refine hc_pop C dL_law_371 rfl ?_
  refine hc_goto C (tgt := 1159) dL_law_372 (by decide) ?_
  exact kk _ hI2

set_option maxRecDepth 100000 in
set_option maxHeartbeats 4000000 in
theorem lc_5 {G : hc_Geo} {p : Program} {l : Launch} {e : Env} {s : State} {m : MethodId} {below : List Frame} {meth : Method} {c : Code} {cells slots : Nat} {Q : State → Prop} {b n : Nat} {xs : Nat → Int32} (C : hc_Cx G hc_lay code 4 ret R_law p s m #[Value.ref b] meth c) (hX : va_X b n xs s s.heap) (hbl : b < s.heap.size) (hbA : ¬ hc_A G b) (hn31 : n < 2 ^ 31) (hcs : cells ≤ room_1.cells ∧ slots ≤ room_1.slots) {i : Nat} (hi : i + 6 ≤ n) {M : hc_Mem} (hI : Inv M) (kk : ∀ M' : hc_Mem, Inv M' → hc_W G hc_lay p l e room_1 s m #[Value.ref b] below meth c 4 cells slots Q 1159 [some (.ref b), some (.ref (hc_ad G 0)), some (.ref (hc_ad G 48)), some (.int (nI i))] [] M') : hc_W G hc_lay p l e room_1 s m #[Value.ref b] below meth c 4 cells slots Q 375 [some (.ref b), some (.ref (hc_ad G 0)), some (.ref (hc_ad G 48)), some (.int (nI i))] [] M := by
  obtain ⟨d1, P1, hd1, h1, k1⟩ := st_house (l := l) C.ok hI
  refine hc_aload_n C dL_law_375 rfl rfl ?_
  refine hc_cV0i C mv_L_36 h1 rfl rfl rfl (Nat.le_of_ble_eq_true rfl) (rr_1 hd1) hcs dL_law_376 (fun rx Mx hx1 => ?_)
  obtain ⟨d2, P2, hd2, h2, k2⟩ := k1 rx Mx hx1
  refine hc_pop C dL_law_379 rfl ?_
  refine hc_aload_n C dL_law_380 rfl rfl ?_
  refine hc_cV0i C mv_L_40 h2 rfl rfl rfl (Nat.le_of_ble_eq_true rfl) (rr_1 hd2) hcs dL_law_381 (fun rm Mm hm1 => ?_)
  obtain ⟨he, hI2⟩ := k2 rm Mm hm1
  refine hc_pop C dL_law_384 rfl ?_
  refine hc_goto C (tgt := 1159) dL_law_385 (by decide) ?_
  exact kk _ hI2

set_option maxRecDepth 100000 in
set_option maxHeartbeats 4000000 in
theorem lc_6 {G : hc_Geo} {p : Program} {l : Launch} {e : Env} {s : State} {m : MethodId} {below : List Frame} {meth : Method} {c : Code} {cells slots : Nat} {Q : State → Prop} {b n : Nat} {xs : Nat → Int32} (C : hc_Cx G hc_lay code 4 ret R_law p s m #[Value.ref b] meth c) (hX : va_X b n xs s s.heap) (hbl : b < s.heap.size) (hbA : ¬ hc_A G b) (hn31 : n < 2 ^ 31) (hcs : cells ≤ room_1.cells ∧ slots ≤ room_1.slots) {i : Nat} (hi : i + 6 ≤ n) {M : hc_Mem} (hI : Inv M) (kk : ∀ M' : hc_Mem, Inv M' → hc_W G hc_lay p l e room_1 s m #[Value.ref b] below meth c 4 cells slots Q 1159 [some (.ref b), some (.ref (hc_ad G 0)), some (.ref (hc_ad G 48)), some (.int (nI i))] [] M') : hc_W G hc_lay p l e room_1 s m #[Value.ref b] below meth c 4 cells slots Q 388 [some (.ref b), some (.ref (hc_ad G 0)), some (.ref (hc_ad G 48)), some (.int (nI i))] [] M := by
  obtain ⟨d1, P1, hd1, h1, k1⟩ := st_fault (l := l) C.ok hI
  refine hc_aload_n C dL_law_388 rfl rfl ?_
  refine hc_cV0i C mv_L_41 h1 rfl rfl rfl (Nat.le_of_ble_eq_true rfl) (rr_1 hd1) hcs dL_law_389 (fun rx Mx hx1 => ?_)
  obtain ⟨d2, P2, hd2, h2, k2⟩ := k1 rx Mx hx1
  refine hc_pop C dL_law_392 rfl ?_
  refine hc_aload_n C dL_law_393 rfl rfl ?_
  refine hc_cV0i C mv_L_44 h2 rfl rfl rfl (Nat.le_of_ble_eq_true rfl) (rr_1 hd2) hcs dL_law_394 (fun rm Mm hm1 => ?_)
  obtain ⟨he, hI2⟩ := k2 rm Mm hm1
  refine hc_pop C dL_law_397 rfl ?_
  refine hc_goto C (tgt := 1159) dL_law_398 (by decide) ?_
  exact kk _ hI2

set_option maxRecDepth 100000 in
set_option maxHeartbeats 4000000 in
theorem lc_7 {G : hc_Geo} {p : Program} {l : Launch} {e : Env} {s : State} {m : MethodId} {below : List Frame} {meth : Method} {c : Code} {cells slots : Nat} {Q : State → Prop} {b n : Nat} {xs : Nat → Int32} (C : hc_Cx G hc_lay code 4 ret R_law p s m #[Value.ref b] meth c) (hX : va_X b n xs s s.heap) (hbl : b < s.heap.size) (hbA : ¬ hc_A G b) (hn31 : n < 2 ^ 31) (hcs : cells ≤ room_1.cells ∧ slots ≤ room_1.slots) {i : Nat} (hi : i + 6 ≤ n) {M : hc_Mem} (hI : Inv M) (kk : ∀ M' : hc_Mem, Inv M' → hc_W G hc_lay p l e room_1 s m #[Value.ref b] below meth c 4 cells slots Q 1159 [some (.ref b), some (.ref (hc_ad G 0)), some (.ref (hc_ad G 48)), some (.int (nI i))] [] M') : hc_W G hc_lay p l e room_1 s m #[Value.ref b] below meth c 4 cells slots Q 401 [some (.ref b), some (.ref (hc_ad G 0)), some (.ref (hc_ad G 48)), some (.int (nI i))] [] M := by
  obtain ⟨d1, P1, hd1, h1, k1⟩ := st_quarters (l := l) C.ok hI (xs (i + 1))
  refine hc_aload_n C dL_law_401 rfl rfl ?_
  refine hc_aload_n C dL_law_402 rfl rfl ?_
  refine hc_iload_n C dL_law_403 rfl rfl ?_
  refine hc_iconst C dL_law_404 (v := 1) rfl ?_
  refine hc_iadd C dL_law_405 ?_
  refine hc_sld C (j := i + 1) hX hbl hbA hn31 (show nI i + 1 = nI (i + 1) by rw [show (1 : Int32) = nI 1 from rfl, nI_add]) (by omega) dL_law_406 ?_
  refine hc_cV1i C mv_L_45 h1 rfl rfl rfl (Nat.le_of_ble_eq_true rfl) (rr_1 hd1) hcs dL_law_407 (fun rx Mx hx1 => ?_)
  obtain ⟨d2, P2, hd2, h2, k2⟩ := k1 rx Mx hx1
  refine hc_pop C dL_law_410 rfl ?_
  refine hc_aload_n C dL_law_411 rfl rfl ?_
  refine hc_aload_n C dL_law_412 rfl rfl ?_
  refine hc_iload_n C dL_law_413 rfl rfl ?_
  refine hc_iconst C dL_law_414 (v := 1) rfl ?_
  refine hc_iadd C dL_law_415 ?_
  refine hc_sld C (j := i + 1) hX hbl hbA hn31 (show nI i + 1 = nI (i + 1) by rw [show (1 : Int32) = nI 1 from rfl, nI_add]) (by omega) dL_law_416 ?_
  refine hc_cV1i C mv_L_48 h2 rfl rfl rfl (Nat.le_of_ble_eq_true rfl) (rr_1 hd2) hcs dL_law_417 (fun rm Mm hm1 => ?_)
  obtain ⟨he, hI2⟩ := k2 rm Mm hm1
  refine hc_pop C dL_law_420 rfl ?_
  refine hc_goto C (tgt := 1159) dL_law_421 (by decide) ?_
  exact kk _ hI2

set_option maxRecDepth 100000 in
set_option maxHeartbeats 4000000 in
theorem lc_8 {G : hc_Geo} {p : Program} {l : Launch} {e : Env} {s : State} {m : MethodId} {below : List Frame} {meth : Method} {c : Code} {cells slots : Nat} {Q : State → Prop} {b n : Nat} {xs : Nat → Int32} (C : hc_Cx G hc_lay code 4 ret R_law p s m #[Value.ref b] meth c) (hX : va_X b n xs s s.heap) (hbl : b < s.heap.size) (hbA : ¬ hc_A G b) (hn31 : n < 2 ^ 31) (hcs : cells ≤ room_1.cells ∧ slots ≤ room_1.slots) {i : Nat} (hi : i + 6 ≤ n) {M : hc_Mem} (hI : Inv M) (kk : ∀ M' : hc_Mem, Inv M' → hc_W G hc_lay p l e room_1 s m #[Value.ref b] below meth c 4 cells slots Q 1159 [some (.ref b), some (.ref (hc_ad G 0)), some (.ref (hc_ad G 48)), some (.int (nI i))] [] M') : hc_W G hc_lay p l e room_1 s m #[Value.ref b] below meth c 4 cells slots Q 424 [some (.ref b), some (.ref (hc_ad G 0)), some (.ref (hc_ad G 48)), some (.int (nI i))] [] M := by
  obtain ⟨d1, P1, hd1, h1, k1⟩ := st_go (l := l) C.ok hI (xs (i + 1)) (xs (i + 2))
  refine hc_aload_n C dL_law_424 rfl rfl ?_
  refine hc_aload_n C dL_law_425 rfl rfl ?_
  refine hc_iload_n C dL_law_426 rfl rfl ?_
  refine hc_iconst C dL_law_427 (v := 1) rfl ?_
  refine hc_iadd C dL_law_428 ?_
  refine hc_sld C (j := i + 1) hX hbl hbA hn31 (show nI i + 1 = nI (i + 1) by rw [show (1 : Int32) = nI 1 from rfl, nI_add]) (by omega) dL_law_429 ?_
  refine hc_aload_n C dL_law_430 rfl rfl ?_
  refine hc_iload_n C dL_law_431 rfl rfl ?_
  refine hc_iconst C dL_law_432 (v := 2) rfl ?_
  refine hc_iadd C dL_law_433 ?_
  refine hc_sld C (j := i + 2) hX hbl hbA hn31 (show nI i + 2 = nI (i + 2) by rw [show (2 : Int32) = nI 2 from rfl, nI_add]) (by omega) dL_law_434 ?_
  refine hc_cV2i C mv_L_49 h1 rfl rfl rfl (Nat.le_of_ble_eq_true rfl) (rr_1 hd1) hcs dL_law_435 (fun rx Mx hx1 => ?_)
  obtain ⟨d2, P2, hd2, h2, k2⟩ := k1 rx Mx hx1
  refine hc_pop C dL_law_438 rfl ?_
  refine hc_aload_n C dL_law_439 rfl rfl ?_
  refine hc_aload_n C dL_law_440 rfl rfl ?_
  refine hc_iload_n C dL_law_441 rfl rfl ?_
  refine hc_iconst C dL_law_442 (v := 1) rfl ?_
  refine hc_iadd C dL_law_443 ?_
  refine hc_sld C (j := i + 1) hX hbl hbA hn31 (show nI i + 1 = nI (i + 1) by rw [show (1 : Int32) = nI 1 from rfl, nI_add]) (by omega) dL_law_444 ?_
  refine hc_aload_n C dL_law_445 rfl rfl ?_
  refine hc_iload_n C dL_law_446 rfl rfl ?_
  refine hc_iconst C dL_law_447 (v := 2) rfl ?_
  refine hc_iadd C dL_law_448 ?_
  refine hc_sld C (j := i + 2) hX hbl hbA hn31 (show nI i + 2 = nI (i + 2) by rw [show (2 : Int32) = nI 2 from rfl, nI_add]) (by omega) dL_law_449 ?_
  refine hc_cV2i C mv_L_53 h2 rfl rfl rfl (Nat.le_of_ble_eq_true rfl) (rr_1 hd2) hcs dL_law_450 (fun rm Mm hm1 => ?_)
  obtain ⟨he, hI2⟩ := k2 rm Mm hm1
  refine hc_pop C dL_law_453 rfl ?_
  refine hc_goto C (tgt := 1159) dL_law_454 (by decide) ?_
  exact kk _ hI2

set_option maxRecDepth 100000 in
set_option maxHeartbeats 4000000 in
theorem lc_9 {G : hc_Geo} {p : Program} {l : Launch} {e : Env} {s : State} {m : MethodId} {below : List Frame} {meth : Method} {c : Code} {cells slots : Nat} {Q : State → Prop} {b n : Nat} {xs : Nat → Int32} (C : hc_Cx G hc_lay code 4 ret R_law p s m #[Value.ref b] meth c) (hX : va_X b n xs s s.heap) (hbl : b < s.heap.size) (hbA : ¬ hc_A G b) (hn31 : n < 2 ^ 31) (hcs : cells ≤ room_1.cells ∧ slots ≤ room_1.slots) {i : Nat} (hi : i + 6 ≤ n) {M : hc_Mem} (hI : Inv M) (kk : ∀ M' : hc_Mem, Inv M' → hc_W G hc_lay p l e room_1 s m #[Value.ref b] below meth c 4 cells slots Q 1159 [some (.ref b), some (.ref (hc_ad G 0)), some (.ref (hc_ad G 48)), some (.int (nI i))] [] M') : hc_W G hc_lay p l e room_1 s m #[Value.ref b] below meth c 4 cells slots Q 457 [some (.ref b), some (.ref (hc_ad G 0)), some (.ref (hc_ad G 48)), some (.int (nI i))] [] M := by
  obtain ⟨d1, P1, hd1, h1, k1⟩ := st_hush (l := l) C.ok hI (xs (i + 1)) (xs (i + 2))
  refine hc_aload_n C dL_law_457 rfl rfl ?_
  refine hc_aload_n C dL_law_458 rfl rfl ?_
  refine hc_iload_n C dL_law_459 rfl rfl ?_
  refine hc_iconst C dL_law_460 (v := 1) rfl ?_
  refine hc_iadd C dL_law_461 ?_
  refine hc_sld C (j := i + 1) hX hbl hbA hn31 (show nI i + 1 = nI (i + 1) by rw [show (1 : Int32) = nI 1 from rfl, nI_add]) (by omega) dL_law_462 ?_
  refine hc_aload_n C dL_law_463 rfl rfl ?_
  refine hc_iload_n C dL_law_464 rfl rfl ?_
  refine hc_iconst C dL_law_465 (v := 2) rfl ?_
  refine hc_iadd C dL_law_466 ?_
  refine hc_sld C (j := i + 2) hX hbl hbA hn31 (show nI i + 2 = nI (i + 2) by rw [show (2 : Int32) = nI 2 from rfl, nI_add]) (by omega) dL_law_467 ?_
  refine hc_cV2i C mv_L_54 h1 rfl rfl rfl (Nat.le_of_ble_eq_true rfl) (rr_1 hd1) hcs dL_law_468 (fun rx Mx hx1 => ?_)
  obtain ⟨d2, P2, hd2, h2, k2⟩ := k1 rx Mx hx1
  refine hc_pop C dL_law_471 rfl ?_
  refine hc_aload_n C dL_law_472 rfl rfl ?_
  refine hc_aload_n C dL_law_473 rfl rfl ?_
  refine hc_iload_n C dL_law_474 rfl rfl ?_
  refine hc_iconst C dL_law_475 (v := 1) rfl ?_
  refine hc_iadd C dL_law_476 ?_
  refine hc_sld C (j := i + 1) hX hbl hbA hn31 (show nI i + 1 = nI (i + 1) by rw [show (1 : Int32) = nI 1 from rfl, nI_add]) (by omega) dL_law_477 ?_
  refine hc_aload_n C dL_law_478 rfl rfl ?_
  refine hc_iload_n C dL_law_479 rfl rfl ?_
  refine hc_iconst C dL_law_480 (v := 2) rfl ?_
  refine hc_iadd C dL_law_481 ?_
  refine hc_sld C (j := i + 2) hX hbl hbA hn31 (show nI i + 2 = nI (i + 2) by rw [show (2 : Int32) = nI 2 from rfl, nI_add]) (by omega) dL_law_482 ?_
  refine hc_cV2i C mv_L_57 h2 rfl rfl rfl (Nat.le_of_ble_eq_true rfl) (rr_1 hd2) hcs dL_law_483 (fun rm Mm hm1 => ?_)
  obtain ⟨he, hI2⟩ := k2 rm Mm hm1
  refine hc_pop C dL_law_486 rfl ?_
  refine hc_goto C (tgt := 1159) dL_law_487 (by decide) ?_
  exact kk _ hI2

set_option maxRecDepth 100000 in
set_option maxHeartbeats 4000000 in
theorem lc_10 {G : hc_Geo} {p : Program} {l : Launch} {e : Env} {s : State} {m : MethodId} {below : List Frame} {meth : Method} {c : Code} {cells slots : Nat} {Q : State → Prop} {b n : Nat} {xs : Nat → Int32} (C : hc_Cx G hc_lay code 4 ret R_law p s m #[Value.ref b] meth c) (hX : va_X b n xs s s.heap) (hbl : b < s.heap.size) (hbA : ¬ hc_A G b) (hn31 : n < 2 ^ 31) (hcs : cells ≤ room_1.cells ∧ slots ≤ room_1.slots) {i : Nat} (hi : i + 6 ≤ n) {M : hc_Mem} (hI : Inv M) (kk : ∀ M' : hc_Mem, Inv M' → hc_W G hc_lay p l e room_1 s m #[Value.ref b] below meth c 4 cells slots Q 1159 [some (.ref b), some (.ref (hc_ad G 0)), some (.ref (hc_ad G 48)), some (.int (nI i))] [] M') : hc_W G hc_lay p l e room_1 s m #[Value.ref b] below meth c 4 cells slots Q 490 [some (.ref b), some (.ref (hc_ad G 0)), some (.ref (hc_ad G 48)), some (.int (nI i))] [] M := by
  obtain ⟨d1, P1, hd1, h1, k1⟩ := st_wool (l := l) C.ok hI (xs (i + 1))
  refine hc_aload_n C dL_law_490 rfl rfl ?_
  refine hc_aload_n C dL_law_491 rfl rfl ?_
  refine hc_iload_n C dL_law_492 rfl rfl ?_
  refine hc_iconst C dL_law_493 (v := 1) rfl ?_
  refine hc_iadd C dL_law_494 ?_
  refine hc_sld C (j := i + 1) hX hbl hbA hn31 (show nI i + 1 = nI (i + 1) by rw [show (1 : Int32) = nI 1 from rfl, nI_add]) (by omega) dL_law_495 ?_
  refine hc_cV1i C mv_L_58 h1 rfl rfl rfl (Nat.le_of_ble_eq_true rfl) (rr_1 hd1) hcs dL_law_496 (fun rx Mx hx1 => ?_)
  obtain ⟨d2, P2, hd2, h2, k2⟩ := k1 rx Mx hx1
  refine hc_pop C dL_law_499 rfl ?_
  refine hc_aload_n C dL_law_500 rfl rfl ?_
  refine hc_aload_n C dL_law_501 rfl rfl ?_
  refine hc_iload_n C dL_law_502 rfl rfl ?_
  refine hc_iconst C dL_law_503 (v := 1) rfl ?_
  refine hc_iadd C dL_law_504 ?_
  refine hc_sld C (j := i + 1) hX hbl hbA hn31 (show nI i + 1 = nI (i + 1) by rw [show (1 : Int32) = nI 1 from rfl, nI_add]) (by omega) dL_law_505 ?_
  refine hc_cV1i C mv_L_61 h2 rfl rfl rfl (Nat.le_of_ble_eq_true rfl) (rr_1 hd2) hcs dL_law_506 (fun rm Mm hm1 => ?_)
  obtain ⟨he, hI2⟩ := k2 rm Mm hm1
  refine hc_pop C dL_law_509 rfl ?_
  refine hc_goto C (tgt := 1159) dL_law_510 (by decide) ?_
  exact kk _ hI2

set_option maxRecDepth 100000 in
set_option maxHeartbeats 4000000 in
theorem lc_11 {G : hc_Geo} {p : Program} {l : Launch} {e : Env} {s : State} {m : MethodId} {below : List Frame} {meth : Method} {c : Code} {cells slots : Nat} {Q : State → Prop} {b n : Nat} {xs : Nat → Int32} (C : hc_Cx G hc_lay code 4 ret R_law p s m #[Value.ref b] meth c) (hX : va_X b n xs s s.heap) (hbl : b < s.heap.size) (hbA : ¬ hc_A G b) (hn31 : n < 2 ^ 31) (hcs : cells ≤ room_1.cells ∧ slots ≤ room_1.slots) {i : Nat} (hi : i + 6 ≤ n) {M : hc_Mem} (hI : Inv M) (kk : ∀ M' : hc_Mem, Inv M' → hc_W G hc_lay p l e room_1 s m #[Value.ref b] below meth c 4 cells slots Q 1159 [some (.ref b), some (.ref (hc_ad G 0)), some (.ref (hc_ad G 48)), some (.int (nI i))] [] M') : hc_W G hc_lay p l e room_1 s m #[Value.ref b] below meth c 4 cells slots Q 513 [some (.ref b), some (.ref (hc_ad G 0)), some (.ref (hc_ad G 48)), some (.int (nI i))] [] M := by
  obtain ⟨d1, P1, hd1, h1, k1⟩ := st_undo (l := l) C.ok hI
  refine hc_aload_n C dL_law_513 rfl rfl ?_
  refine hc_cV0i C mv_L_62 h1 rfl rfl rfl (Nat.le_of_ble_eq_true rfl) (rr_1 hd1) hcs dL_law_514 (fun rx Mx hx1 => ?_)
  obtain ⟨d2, P2, hd2, h2, k2⟩ := k1 rx Mx hx1
  refine hc_pop C dL_law_517 rfl ?_
  refine hc_aload_n C dL_law_518 rfl rfl ?_
  refine hc_cV0i C mv_L_65 h2 rfl rfl rfl (Nat.le_of_ble_eq_true rfl) (rr_1 hd2) hcs dL_law_519 (fun rm Mm hm1 => ?_)
  obtain ⟨he, hI2⟩ := k2 rm Mm hm1
  refine hc_pop C dL_law_522 rfl ?_
  refine hc_goto C (tgt := 1159) dL_law_523 (by decide) ?_
  exact kk _ hI2

set_option maxRecDepth 100000 in
set_option maxHeartbeats 4000000 in
theorem lc_12 {G : hc_Geo} {p : Program} {l : Launch} {e : Env} {s : State} {m : MethodId} {below : List Frame} {meth : Method} {c : Code} {cells slots : Nat} {Q : State → Prop} {b n : Nat} {xs : Nat → Int32} (C : hc_Cx G hc_lay code 4 ret R_law p s m #[Value.ref b] meth c) (hX : va_X b n xs s s.heap) (hbl : b < s.heap.size) (hbA : ¬ hc_A G b) (hn31 : n < 2 ^ 31) (hcs : cells ≤ room_1.cells ∧ slots ≤ room_1.slots) {i : Nat} (hi : i + 6 ≤ n) {M : hc_Mem} (hI : Inv M) (kk : ∀ M' : hc_Mem, Inv M' → hc_W G hc_lay p l e room_1 s m #[Value.ref b] below meth c 4 cells slots Q 1159 [some (.ref b), some (.ref (hc_ad G 0)), some (.ref (hc_ad G 48)), some (.int (nI i))] [] M') : hc_W G hc_lay p l e room_1 s m #[Value.ref b] below meth c 4 cells slots Q 526 [some (.ref b), some (.ref (hc_ad G 0)), some (.ref (hc_ad G 48)), some (.int (nI i))] [] M := by
  obtain ⟨d1, P1, hd1, h1, k1⟩ := st_ear (l := l) C.ok hI (xs (i + 1)) (xs (i + 2))
  refine hc_aload_n C dL_law_526 rfl rfl ?_
  refine hc_aload_n C dL_law_527 rfl rfl ?_
  refine hc_iload_n C dL_law_528 rfl rfl ?_
  refine hc_iconst C dL_law_529 (v := 1) rfl ?_
  refine hc_iadd C dL_law_530 ?_
  refine hc_sld C (j := i + 1) hX hbl hbA hn31 (show nI i + 1 = nI (i + 1) by rw [show (1 : Int32) = nI 1 from rfl, nI_add]) (by omega) dL_law_531 ?_
  refine hc_aload_n C dL_law_532 rfl rfl ?_
  refine hc_iload_n C dL_law_533 rfl rfl ?_
  refine hc_iconst C dL_law_534 (v := 2) rfl ?_
  refine hc_iadd C dL_law_535 ?_
  refine hc_sld C (j := i + 2) hX hbl hbA hn31 (show nI i + 2 = nI (i + 2) by rw [show (2 : Int32) = nI 2 from rfl, nI_add]) (by omega) dL_law_536 ?_
  refine hc_cV2i C mv_L_66 h1 rfl rfl rfl (Nat.le_of_ble_eq_true rfl) (rr_1 hd1) hcs dL_law_537 (fun rx Mx hx1 => ?_)
  obtain ⟨d2, P2, hd2, h2, k2⟩ := k1 rx Mx hx1
  refine hc_pop C dL_law_540 rfl ?_
  refine hc_aload_n C dL_law_541 rfl rfl ?_
  refine hc_aload_n C dL_law_542 rfl rfl ?_
  refine hc_iload_n C dL_law_543 rfl rfl ?_
  refine hc_iconst C dL_law_544 (v := 1) rfl ?_
  refine hc_iadd C dL_law_545 ?_
  refine hc_sld C (j := i + 1) hX hbl hbA hn31 (show nI i + 1 = nI (i + 1) by rw [show (1 : Int32) = nI 1 from rfl, nI_add]) (by omega) dL_law_546 ?_
  refine hc_aload_n C dL_law_547 rfl rfl ?_
  refine hc_iload_n C dL_law_548 rfl rfl ?_
  refine hc_iconst C dL_law_549 (v := 2) rfl ?_
  refine hc_iadd C dL_law_550 ?_
  refine hc_sld C (j := i + 2) hX hbl hbA hn31 (show nI i + 2 = nI (i + 2) by rw [show (2 : Int32) = nI 2 from rfl, nI_add]) (by omega) dL_law_551 ?_
  refine hc_cV2i C mv_L_69 h2 rfl rfl rfl (Nat.le_of_ble_eq_true rfl) (rr_1 hd2) hcs dL_law_552 (fun rm Mm hm1 => ?_)
  obtain ⟨he, hI2⟩ := k2 rm Mm hm1
  refine hc_pop C dL_law_555 rfl ?_
  refine hc_goto C (tgt := 1159) dL_law_556 (by decide) ?_
  exact kk _ hI2

set_option maxRecDepth 100000 in
set_option maxHeartbeats 4000000 in
theorem lc_13 {G : hc_Geo} {p : Program} {l : Launch} {e : Env} {s : State} {m : MethodId} {below : List Frame} {meth : Method} {c : Code} {cells slots : Nat} {Q : State → Prop} {b n : Nat} {xs : Nat → Int32} (C : hc_Cx G hc_lay code 4 ret R_law p s m #[Value.ref b] meth c) (hX : va_X b n xs s s.heap) (hbl : b < s.heap.size) (hbA : ¬ hc_A G b) (hn31 : n < 2 ^ 31) (hcs : cells ≤ room_1.cells ∧ slots ≤ room_1.slots) {i : Nat} (hi : i + 6 ≤ n) {M : hc_Mem} (hI : Inv M) (kk : ∀ M' : hc_Mem, Inv M' → hc_W G hc_lay p l e room_1 s m #[Value.ref b] below meth c 4 cells slots Q 1159 [some (.ref b), some (.ref (hc_ad G 0)), some (.ref (hc_ad G 48)), some (.int (nI i))] [] M') : hc_W G hc_lay p l e room_1 s m #[Value.ref b] below meth c 4 cells slots Q 559 [some (.ref b), some (.ref (hc_ad G 0)), some (.ref (hc_ad G 48)), some (.int (nI i))] [] M := by
  obtain ⟨d1, P1, hd1, h1, k1⟩ := st_clock (l := l) C.ok hI (xs (i + 1))
  refine hc_aload_n C dL_law_559 rfl rfl ?_
  refine hc_aload_n C dL_law_560 rfl rfl ?_
  refine hc_iload_n C dL_law_561 rfl rfl ?_
  refine hc_iconst C dL_law_562 (v := 1) rfl ?_
  refine hc_iadd C dL_law_563 ?_
  refine hc_sld C (j := i + 1) hX hbl hbA hn31 (show nI i + 1 = nI (i + 1) by rw [show (1 : Int32) = nI 1 from rfl, nI_add]) (by omega) dL_law_564 ?_
  refine hc_cV1i C mv_L_70 h1 rfl rfl rfl (Nat.le_of_ble_eq_true rfl) (rr_1 hd1) hcs dL_law_565 (fun rx Mx hx1 => ?_)
  obtain ⟨d2, P2, hd2, h2, k2⟩ := k1 rx Mx hx1
  refine hc_pop C dL_law_568 rfl ?_
  refine hc_aload_n C dL_law_569 rfl rfl ?_
  refine hc_aload_n C dL_law_570 rfl rfl ?_
  refine hc_iload_n C dL_law_571 rfl rfl ?_
  refine hc_iconst C dL_law_572 (v := 1) rfl ?_
  refine hc_iadd C dL_law_573 ?_
  refine hc_sld C (j := i + 1) hX hbl hbA hn31 (show nI i + 1 = nI (i + 1) by rw [show (1 : Int32) = nI 1 from rfl, nI_add]) (by omega) dL_law_574 ?_
  refine hc_cV1i C mv_L_73 h2 rfl rfl rfl (Nat.le_of_ble_eq_true rfl) (rr_1 hd2) hcs dL_law_575 (fun rm Mm hm1 => ?_)
  obtain ⟨he, hI2⟩ := k2 rm Mm hm1
  refine hc_pop C dL_law_578 rfl ?_
  refine hc_goto C (tgt := 1159) dL_law_579 (by decide) ?_
  exact kk _ hI2

set_option maxRecDepth 100000 in
set_option maxHeartbeats 4000000 in
theorem lc_14 {G : hc_Geo} {p : Program} {l : Launch} {e : Env} {s : State} {m : MethodId} {below : List Frame} {meth : Method} {c : Code} {cells slots : Nat} {Q : State → Prop} {b n : Nat} {xs : Nat → Int32} (C : hc_Cx G hc_lay code 4 ret R_law p s m #[Value.ref b] meth c) (hX : va_X b n xs s s.heap) (hbl : b < s.heap.size) (hbA : ¬ hc_A G b) (hn31 : n < 2 ^ 31) (hcs : cells ≤ room_1.cells ∧ slots ≤ room_1.slots) {i : Nat} (hi : i + 6 ≤ n) {M : hc_Mem} (hI : Inv M) (kk : ∀ M' : hc_Mem, Inv M' → hc_W G hc_lay p l e room_1 s m #[Value.ref b] below meth c 4 cells slots Q 1159 [some (.ref b), some (.ref (hc_ad G 0)), some (.ref (hc_ad G 48)), some (.int (nI i))] [] M') : hc_W G hc_lay p l e room_1 s m #[Value.ref b] below meth c 4 cells slots Q 582 [some (.ref b), some (.ref (hc_ad G 0)), some (.ref (hc_ad G 48)), some (.int (nI i))] [] M := by
  obtain ⟨d1, P1, hd1, h1, k1⟩ := st_ahead (l := l) C.ok hI (xs (i + 1))
  refine hc_aload_n C dL_law_582 rfl rfl ?_
  refine hc_aload_n C dL_law_583 rfl rfl ?_
  refine hc_iload_n C dL_law_584 rfl rfl ?_
  refine hc_iconst C dL_law_585 (v := 1) rfl ?_
  refine hc_iadd C dL_law_586 ?_
  refine hc_sld C (j := i + 1) hX hbl hbA hn31 (show nI i + 1 = nI (i + 1) by rw [show (1 : Int32) = nI 1 from rfl, nI_add]) (by omega) dL_law_587 ?_
  refine hc_cV1i C mv_L_74 h1 rfl rfl rfl (Nat.le_of_ble_eq_true rfl) (rr_1 hd1) hcs dL_law_588 (fun rx Mx hx1 => ?_)
  obtain ⟨d2, P2, hd2, h2, k2⟩ := k1 rx Mx hx1
  refine hc_pop C dL_law_591 rfl ?_
  refine hc_aload_n C dL_law_592 rfl rfl ?_
  refine hc_aload_n C dL_law_593 rfl rfl ?_
  refine hc_iload_n C dL_law_594 rfl rfl ?_
  refine hc_iconst C dL_law_595 (v := 1) rfl ?_
  refine hc_iadd C dL_law_596 ?_
  refine hc_sld C (j := i + 1) hX hbl hbA hn31 (show nI i + 1 = nI (i + 1) by rw [show (1 : Int32) = nI 1 from rfl, nI_add]) (by omega) dL_law_597 ?_
  refine hc_cV1i C mv_L_77 h2 rfl rfl rfl (Nat.le_of_ble_eq_true rfl) (rr_1 hd2) hcs dL_law_598 (fun rm Mm hm1 => ?_)
  obtain ⟨he, hI2⟩ := k2 rm Mm hm1
  refine hc_pop C dL_law_601 rfl ?_
  refine hc_goto C (tgt := 1159) dL_law_602 (by decide) ?_
  exact kk _ hI2

set_option maxRecDepth 100000 in
set_option maxHeartbeats 4000000 in
theorem lc_15 {G : hc_Geo} {p : Program} {l : Launch} {e : Env} {s : State} {m : MethodId} {below : List Frame} {meth : Method} {c : Code} {cells slots : Nat} {Q : State → Prop} {b n : Nat} {xs : Nat → Int32} (C : hc_Cx G hc_lay code 4 ret R_law p s m #[Value.ref b] meth c) (hX : va_X b n xs s s.heap) (hbl : b < s.heap.size) (hbA : ¬ hc_A G b) (hn31 : n < 2 ^ 31) (hcs : cells ≤ room_1.cells ∧ slots ≤ room_1.slots) {i : Nat} (hi : i + 6 ≤ n) {M : hc_Mem} (hI : Inv M) (kk : ∀ M' : hc_Mem, Inv M' → hc_W G hc_lay p l e room_1 s m #[Value.ref b] below meth c 4 cells slots Q 1159 [some (.ref b), some (.ref (hc_ad G 0)), some (.ref (hc_ad G 48)), some (.int (nI i))] [] M') : hc_W G hc_lay p l e room_1 s m #[Value.ref b] below meth c 4 cells slots Q 605 [some (.ref b), some (.ref (hc_ad G 0)), some (.ref (hc_ad G 48)), some (.int (nI i))] [] M := by
  obtain ⟨d1, P1, hd1, h1, k1⟩ := st_whenShows (l := l) C.ok hI (xs (i + 1))
  refine hc_aload_n C dL_law_605 rfl rfl ?_
  refine hc_aload_n C dL_law_606 rfl rfl ?_
  refine hc_iload_n C dL_law_607 rfl rfl ?_
  refine hc_iconst C dL_law_608 (v := 1) rfl ?_
  refine hc_iadd C dL_law_609 ?_
  refine hc_sld C (j := i + 1) hX hbl hbA hn31 (show nI i + 1 = nI (i + 1) by rw [show (1 : Int32) = nI 1 from rfl, nI_add]) (by omega) dL_law_610 ?_
  refine hc_cV1i C mv_L_78 h1 rfl rfl rfl (Nat.le_of_ble_eq_true rfl) (rr_1 hd1) hcs dL_law_611 (fun rx Mx hx1 => ?_)
  obtain ⟨d2, P2, hd2, h2, k2⟩ := k1 rx Mx hx1
  refine hc_pop C dL_law_614 rfl ?_
  refine hc_aload_n C dL_law_615 rfl rfl ?_
  refine hc_aload_n C dL_law_616 rfl rfl ?_
  refine hc_iload_n C dL_law_617 rfl rfl ?_
  refine hc_iconst C dL_law_618 (v := 1) rfl ?_
  refine hc_iadd C dL_law_619 ?_
  refine hc_sld C (j := i + 1) hX hbl hbA hn31 (show nI i + 1 = nI (i + 1) by rw [show (1 : Int32) = nI 1 from rfl, nI_add]) (by omega) dL_law_620 ?_
  refine hc_cV1i C mv_L_81 h2 rfl rfl rfl (Nat.le_of_ble_eq_true rfl) (rr_1 hd2) hcs dL_law_621 (fun rm Mm hm1 => ?_)
  obtain ⟨he, hI2⟩ := k2 rm Mm hm1
  refine hc_pop C dL_law_624 rfl ?_
  refine hc_goto C (tgt := 1159) dL_law_625 (by decide) ?_
  exact kk _ hI2

set_option maxRecDepth 100000 in
set_option maxHeartbeats 4000000 in
theorem lc_16 {G : hc_Geo} {p : Program} {l : Launch} {e : Env} {s : State} {m : MethodId} {below : List Frame} {meth : Method} {c : Code} {cells slots : Nat} {Q : State → Prop} {b n : Nat} {xs : Nat → Int32} (C : hc_Cx G hc_lay code 4 ret R_law p s m #[Value.ref b] meth c) (hX : va_X b n xs s s.heap) (hbl : b < s.heap.size) (hbA : ¬ hc_A G b) (hn31 : n < 2 ^ 31) (hcs : cells ≤ room_1.cells ∧ slots ≤ room_1.slots) {i : Nat} (hi : i + 6 ≤ n) {M : hc_Mem} (hI : Inv M) (kk : ∀ M' : hc_Mem, Inv M' → hc_W G hc_lay p l e room_1 s m #[Value.ref b] below meth c 4 cells slots Q 1159 [some (.ref b), some (.ref (hc_ad G 0)), some (.ref (hc_ad G 48)), some (.int (nI i))] [] M') : hc_W G hc_lay p l e room_1 s m #[Value.ref b] below meth c 4 cells slots Q 628 [some (.ref b), some (.ref (hc_ad G 0)), some (.ref (hc_ad G 48)), some (.int (nI i))] [] M := by
  obtain ⟨d1, P1, hd1, h1, k1⟩ := st_done (l := l) C.ok hI (xs (i + 1))
  refine hc_aload_n C dL_law_628 rfl rfl ?_
  refine hc_aload_n C dL_law_629 rfl rfl ?_
  refine hc_iload_n C dL_law_630 rfl rfl ?_
  refine hc_iconst C dL_law_631 (v := 1) rfl ?_
  refine hc_iadd C dL_law_632 ?_
  refine hc_sld C (j := i + 1) hX hbl hbA hn31 (show nI i + 1 = nI (i + 1) by rw [show (1 : Int32) = nI 1 from rfl, nI_add]) (by omega) dL_law_633 ?_
  refine hc_cV1i C mv_L_82 h1 rfl rfl rfl (Nat.le_of_ble_eq_true rfl) (rr_1 hd1) hcs dL_law_634 (fun rx Mx hx1 => ?_)
  obtain ⟨d2, P2, hd2, h2, k2⟩ := k1 rx Mx hx1
  refine hc_pop C dL_law_637 rfl ?_
  refine hc_aload_n C dL_law_638 rfl rfl ?_
  refine hc_aload_n C dL_law_639 rfl rfl ?_
  refine hc_iload_n C dL_law_640 rfl rfl ?_
  refine hc_iconst C dL_law_641 (v := 1) rfl ?_
  refine hc_iadd C dL_law_642 ?_
  refine hc_sld C (j := i + 1) hX hbl hbA hn31 (show nI i + 1 = nI (i + 1) by rw [show (1 : Int32) = nI 1 from rfl, nI_add]) (by omega) dL_law_643 ?_
  refine hc_cV1i C mv_L_85 h2 rfl rfl rfl (Nat.le_of_ble_eq_true rfl) (rr_1 hd2) hcs dL_law_644 (fun rm Mm hm1 => ?_)
  obtain ⟨he, hI2⟩ := k2 rm Mm hm1
  refine hc_pop C dL_law_647 rfl ?_
  refine hc_goto C (tgt := 1159) dL_law_648 (by decide) ?_
  exact kk _ hI2

set_option maxRecDepth 100000 in
set_option maxHeartbeats 4000000 in
theorem lc_17 {G : hc_Geo} {p : Program} {l : Launch} {e : Env} {s : State} {m : MethodId} {below : List Frame} {meth : Method} {c : Code} {cells slots : Nat} {Q : State → Prop} {b n : Nat} {xs : Nat → Int32} (C : hc_Cx G hc_lay code 4 ret R_law p s m #[Value.ref b] meth c) (hX : va_X b n xs s s.heap) (hbl : b < s.heap.size) (hbA : ¬ hc_A G b) (hn31 : n < 2 ^ 31) (hcs : cells ≤ room_1.cells ∧ slots ≤ room_1.slots) {i : Nat} (hi : i + 6 ≤ n) {M : hc_Mem} (hI : Inv M) (kk : ∀ M' : hc_Mem, Inv M' → hc_W G hc_lay p l e room_1 s m #[Value.ref b] below meth c 4 cells slots Q 1159 [some (.ref b), some (.ref (hc_ad G 0)), some (.ref (hc_ad G 48)), some (.int (nI i))] [] M') : hc_W G hc_lay p l e room_1 s m #[Value.ref b] below meth c 4 cells slots Q 651 [some (.ref b), some (.ref (hc_ad G 0)), some (.ref (hc_ad G 48)), some (.int (nI i))] [] M := by
  obtain ⟨d1, P1, hd1, h1, k1⟩ := st_late (l := l) C.ok hI
  refine hc_aload_n C dL_law_651 rfl rfl ?_
  refine hc_cV0i C mv_L_86 h1 rfl rfl rfl (Nat.le_of_ble_eq_true rfl) (rr_1 hd1) hcs dL_law_652 (fun rx Mx hx1 => ?_)
  obtain ⟨d2, P2, hd2, h2, k2⟩ := k1 rx Mx hx1
  refine hc_pop C dL_law_655 rfl ?_
  refine hc_aload_n C dL_law_656 rfl rfl ?_
  refine hc_cV0i C mv_L_89 h2 rfl rfl rfl (Nat.le_of_ble_eq_true rfl) (rr_1 hd2) hcs dL_law_657 (fun rm Mm hm1 => ?_)
  obtain ⟨he, hI2⟩ := k2 rm Mm hm1
  refine hc_pop C dL_law_660 rfl ?_
  refine hc_goto C (tgt := 1159) dL_law_661 (by decide) ?_
  exact kk _ hI2

set_option maxRecDepth 100000 in
set_option maxHeartbeats 4000000 in
theorem lc_18 {G : hc_Geo} {p : Program} {l : Launch} {e : Env} {s : State} {m : MethodId} {below : List Frame} {meth : Method} {c : Code} {cells slots : Nat} {Q : State → Prop} {b n : Nat} {xs : Nat → Int32} (C : hc_Cx G hc_lay code 4 ret R_law p s m #[Value.ref b] meth c) (hX : va_X b n xs s s.heap) (hbl : b < s.heap.size) (hbA : ¬ hc_A G b) (hn31 : n < 2 ^ 31) (hcs : cells ≤ room_1.cells ∧ slots ≤ room_1.slots) {i : Nat} (hi : i + 6 ≤ n) {M : hc_Mem} (hI : Inv M) (kk : ∀ M' : hc_Mem, Inv M' → hc_W G hc_lay p l e room_1 s m #[Value.ref b] below meth c 4 cells slots Q 1159 [some (.ref b), some (.ref (hc_ad G 0)), some (.ref (hc_ad G 48)), some (.int (nI i))] [] M') : hc_W G hc_lay p l e room_1 s m #[Value.ref b] below meth c 4 cells slots Q 664 [some (.ref b), some (.ref (hc_ad G 0)), some (.ref (hc_ad G 48)), some (.int (nI i))] [] M := by
  obtain ⟨d1, P1, hd1, h1, k1⟩ := st_latest (l := l) C.ok hI (xs (i + 1))
  refine hc_aload_n C dL_law_664 rfl rfl ?_
  refine hc_aload_n C dL_law_665 rfl rfl ?_
  refine hc_iload_n C dL_law_666 rfl rfl ?_
  refine hc_iconst C dL_law_667 (v := 1) rfl ?_
  refine hc_iadd C dL_law_668 ?_
  refine hc_sld C (j := i + 1) hX hbl hbA hn31 (show nI i + 1 = nI (i + 1) by rw [show (1 : Int32) = nI 1 from rfl, nI_add]) (by omega) dL_law_669 ?_
  refine hc_cV1i C mv_L_90 h1 rfl rfl rfl (Nat.le_of_ble_eq_true rfl) (rr_1 hd1) hcs dL_law_670 (fun rx Mx hx1 => ?_)
  obtain ⟨d2, P2, hd2, h2, k2⟩ := k1 rx Mx hx1
  refine hc_pop C dL_law_673 rfl ?_
  refine hc_aload_n C dL_law_674 rfl rfl ?_
  refine hc_aload_n C dL_law_675 rfl rfl ?_
  refine hc_iload_n C dL_law_676 rfl rfl ?_
  refine hc_iconst C dL_law_677 (v := 1) rfl ?_
  refine hc_iadd C dL_law_678 ?_
  refine hc_sld C (j := i + 1) hX hbl hbA hn31 (show nI i + 1 = nI (i + 1) by rw [show (1 : Int32) = nI 1 from rfl, nI_add]) (by omega) dL_law_679 ?_
  refine hc_cV1i C mv_L_93 h2 rfl rfl rfl (Nat.le_of_ble_eq_true rfl) (rr_1 hd2) hcs dL_law_680 (fun rm Mm hm1 => ?_)
  obtain ⟨he, hI2⟩ := k2 rm Mm hm1
  refine hc_pop C dL_law_683 rfl ?_
  refine hc_goto C (tgt := 1159) dL_law_684 (by decide) ?_
  exact kk _ hI2

set_option maxRecDepth 100000 in
set_option maxHeartbeats 4000000 in
theorem lc_19 {G : hc_Geo} {p : Program} {l : Launch} {e : Env} {s : State} {m : MethodId} {below : List Frame} {meth : Method} {c : Code} {cells slots : Nat} {Q : State → Prop} {b n : Nat} {xs : Nat → Int32} (C : hc_Cx G hc_lay code 4 ret R_law p s m #[Value.ref b] meth c) (hX : va_X b n xs s s.heap) (hbl : b < s.heap.size) (hbA : ¬ hc_A G b) (hn31 : n < 2 ^ 31) (hcs : cells ≤ room_1.cells ∧ slots ≤ room_1.slots) {i : Nat} (hi : i + 6 ≤ n) {M : hc_Mem} (hI : Inv M) (kk : ∀ M' : hc_Mem, Inv M' → hc_W G hc_lay p l e room_1 s m #[Value.ref b] below meth c 4 cells slots Q 1159 [some (.ref b), some (.ref (hc_ad G 0)), some (.ref (hc_ad G 48)), some (.int (nI i))] [] M') : hc_W G hc_lay p l e room_1 s m #[Value.ref b] below meth c 4 cells slots Q 687 [some (.ref b), some (.ref (hc_ad G 0)), some (.ref (hc_ad G 48)), some (.int (nI i))] [] M := by
  obtain ⟨d1, P1, hd1, h1, k1⟩ := st_toHush (l := l) C.ok hI (xs (i + 1)) (xs (i + 2)) (xs (i + 3))
  refine hc_aload_n C dL_law_687 rfl rfl ?_
  refine hc_aload_n C dL_law_688 rfl rfl ?_
  refine hc_iload_n C dL_law_689 rfl rfl ?_
  refine hc_iconst C dL_law_690 (v := 1) rfl ?_
  refine hc_iadd C dL_law_691 ?_
  refine hc_sld C (j := i + 1) hX hbl hbA hn31 (show nI i + 1 = nI (i + 1) by rw [show (1 : Int32) = nI 1 from rfl, nI_add]) (by omega) dL_law_692 ?_
  refine hc_aload_n C dL_law_693 rfl rfl ?_
  refine hc_iload_n C dL_law_694 rfl rfl ?_
  refine hc_iconst C dL_law_695 (v := 2) rfl ?_
  refine hc_iadd C dL_law_696 ?_
  refine hc_sld C (j := i + 2) hX hbl hbA hn31 (show nI i + 2 = nI (i + 2) by rw [show (2 : Int32) = nI 2 from rfl, nI_add]) (by omega) dL_law_697 ?_
  refine hc_aload_n C dL_law_698 rfl rfl ?_
  refine hc_iload_n C dL_law_699 rfl rfl ?_
  refine hc_iconst C dL_law_700 (v := 3) rfl ?_
  refine hc_iadd C dL_law_701 ?_
  refine hc_sld C (j := i + 3) hX hbl hbA hn31 (show nI i + 3 = nI (i + 3) by rw [show (3 : Int32) = nI 3 from rfl, nI_add]) (by omega) dL_law_702 ?_
  refine hc_cV3i C mv_L_94 h1 rfl rfl rfl (Nat.le_of_ble_eq_true rfl) (rr_1 hd1) hcs dL_law_703 (fun rx Mx hx1 => ?_)
  obtain ⟨d2, P2, hd2, h2, k2⟩ := k1 rx Mx hx1
  refine hc_pop C dL_law_706 rfl ?_
  refine hc_aload_n C dL_law_707 rfl rfl ?_
  refine hc_aload_n C dL_law_708 rfl rfl ?_
  refine hc_iload_n C dL_law_709 rfl rfl ?_
  refine hc_iconst C dL_law_710 (v := 1) rfl ?_
  refine hc_iadd C dL_law_711 ?_
  refine hc_sld C (j := i + 1) hX hbl hbA hn31 (show nI i + 1 = nI (i + 1) by rw [show (1 : Int32) = nI 1 from rfl, nI_add]) (by omega) dL_law_712 ?_
  refine hc_aload_n C dL_law_713 rfl rfl ?_
  refine hc_iload_n C dL_law_714 rfl rfl ?_
  refine hc_iconst C dL_law_715 (v := 2) rfl ?_
  refine hc_iadd C dL_law_716 ?_
  refine hc_sld C (j := i + 2) hX hbl hbA hn31 (show nI i + 2 = nI (i + 2) by rw [show (2 : Int32) = nI 2 from rfl, nI_add]) (by omega) dL_law_717 ?_
  refine hc_aload_n C dL_law_718 rfl rfl ?_
  refine hc_iload_n C dL_law_719 rfl rfl ?_
  refine hc_iconst C dL_law_720 (v := 3) rfl ?_
  refine hc_iadd C dL_law_721 ?_
  refine hc_sld C (j := i + 3) hX hbl hbA hn31 (show nI i + 3 = nI (i + 3) by rw [show (3 : Int32) = nI 3 from rfl, nI_add]) (by omega) dL_law_722 ?_
  refine hc_cV3i C mv_L_97 h2 rfl rfl rfl (Nat.le_of_ble_eq_true rfl) (rr_1 hd2) hcs dL_law_723 (fun rm Mm hm1 => ?_)
  obtain ⟨he, hI2⟩ := k2 rm Mm hm1
  refine hc_pop C dL_law_726 rfl ?_
  refine hc_goto C (tgt := 1159) dL_law_727 (by decide) ?_
  exact kk _ hI2

set_option maxRecDepth 100000 in
set_option maxHeartbeats 4000000 in
theorem lc_20 {G : hc_Geo} {p : Program} {l : Launch} {e : Env} {s : State} {m : MethodId} {below : List Frame} {meth : Method} {c : Code} {cells slots : Nat} {Q : State → Prop} {b n : Nat} {xs : Nat → Int32} (C : hc_Cx G hc_lay code 4 ret R_law p s m #[Value.ref b] meth c) (hX : va_X b n xs s s.heap) (hbl : b < s.heap.size) (hbA : ¬ hc_A G b) (hn31 : n < 2 ^ 31) (hcs : cells ≤ room_1.cells ∧ slots ≤ room_1.slots) {i : Nat} (hi : i + 6 ≤ n) {M : hc_Mem} (hI : Inv M) (kk : ∀ M' : hc_Mem, Inv M' → hc_W G hc_lay p l e room_1 s m #[Value.ref b] below meth c 4 cells slots Q 1159 [some (.ref b), some (.ref (hc_ad G 0)), some (.ref (hc_ad G 48)), some (.int (nI i))] [] M') : hc_W G hc_lay p l e room_1 s m #[Value.ref b] below meth c 4 cells slots Q 730 [some (.ref b), some (.ref (hc_ad G 0)), some (.ref (hc_ad G 48)), some (.int (nI i))] [] M := by
  obtain ⟨d1, P1, hd1, h1, k1⟩ := st_toCall (l := l) C.ok hI (xs (i + 1)) (xs (i + 2)) (xs (i + 3))
  refine hc_aload_n C dL_law_730 rfl rfl ?_
  refine hc_aload_n C dL_law_731 rfl rfl ?_
  refine hc_iload_n C dL_law_732 rfl rfl ?_
  refine hc_iconst C dL_law_733 (v := 1) rfl ?_
  refine hc_iadd C dL_law_734 ?_
  refine hc_sld C (j := i + 1) hX hbl hbA hn31 (show nI i + 1 = nI (i + 1) by rw [show (1 : Int32) = nI 1 from rfl, nI_add]) (by omega) dL_law_735 ?_
  refine hc_aload_n C dL_law_736 rfl rfl ?_
  refine hc_iload_n C dL_law_737 rfl rfl ?_
  refine hc_iconst C dL_law_738 (v := 2) rfl ?_
  refine hc_iadd C dL_law_739 ?_
  refine hc_sld C (j := i + 2) hX hbl hbA hn31 (show nI i + 2 = nI (i + 2) by rw [show (2 : Int32) = nI 2 from rfl, nI_add]) (by omega) dL_law_740 ?_
  refine hc_aload_n C dL_law_741 rfl rfl ?_
  refine hc_iload_n C dL_law_742 rfl rfl ?_
  refine hc_iconst C dL_law_743 (v := 3) rfl ?_
  refine hc_iadd C dL_law_744 ?_
  refine hc_sld C (j := i + 3) hX hbl hbA hn31 (show nI i + 3 = nI (i + 3) by rw [show (3 : Int32) = nI 3 from rfl, nI_add]) (by omega) dL_law_745 ?_
  refine hc_cV3i C mv_L_98 h1 rfl rfl rfl (Nat.le_of_ble_eq_true rfl) (rr_1 hd1) hcs dL_law_746 (fun rx Mx hx1 => ?_)
  obtain ⟨d2, P2, hd2, h2, k2⟩ := k1 rx Mx hx1
  refine hc_pop C dL_law_749 rfl ?_
  refine hc_aload_n C dL_law_750 rfl rfl ?_
  refine hc_aload_n C dL_law_751 rfl rfl ?_
  refine hc_iload_n C dL_law_752 rfl rfl ?_
  refine hc_iconst C dL_law_753 (v := 1) rfl ?_
  refine hc_iadd C dL_law_754 ?_
  refine hc_sld C (j := i + 1) hX hbl hbA hn31 (show nI i + 1 = nI (i + 1) by rw [show (1 : Int32) = nI 1 from rfl, nI_add]) (by omega) dL_law_755 ?_
  refine hc_aload_n C dL_law_756 rfl rfl ?_
  refine hc_iload_n C dL_law_757 rfl rfl ?_
  refine hc_iconst C dL_law_758 (v := 2) rfl ?_
  refine hc_iadd C dL_law_759 ?_
  refine hc_sld C (j := i + 2) hX hbl hbA hn31 (show nI i + 2 = nI (i + 2) by rw [show (2 : Int32) = nI 2 from rfl, nI_add]) (by omega) dL_law_760 ?_
  refine hc_aload_n C dL_law_761 rfl rfl ?_
  refine hc_iload_n C dL_law_762 rfl rfl ?_
  refine hc_iconst C dL_law_763 (v := 3) rfl ?_
  refine hc_iadd C dL_law_764 ?_
  refine hc_sld C (j := i + 3) hX hbl hbA hn31 (show nI i + 3 = nI (i + 3) by rw [show (3 : Int32) = nI 3 from rfl, nI_add]) (by omega) dL_law_765 ?_
  refine hc_cV3i C mv_L_101 h2 rfl rfl rfl (Nat.le_of_ble_eq_true rfl) (rr_1 hd2) hcs dL_law_766 (fun rm Mm hm1 => ?_)
  obtain ⟨he, hI2⟩ := k2 rm Mm hm1
  refine hc_pop C dL_law_769 rfl ?_
  refine hc_goto C (tgt := 1159) dL_law_770 (by decide) ?_
  exact kk _ hI2

set_option maxRecDepth 100000 in
set_option maxHeartbeats 4000000 in
theorem lc_21 {G : hc_Geo} {p : Program} {l : Launch} {e : Env} {s : State} {m : MethodId} {below : List Frame} {meth : Method} {c : Code} {cells slots : Nat} {Q : State → Prop} {b n : Nat} {xs : Nat → Int32} (C : hc_Cx G hc_lay code 4 ret R_law p s m #[Value.ref b] meth c) (hX : va_X b n xs s s.heap) (hbl : b < s.heap.size) (hbA : ¬ hc_A G b) (hn31 : n < 2 ^ 31) (hcs : cells ≤ room_1.cells ∧ slots ≤ room_1.slots) {i : Nat} (hi : i + 6 ≤ n) {M : hc_Mem} (hI : Inv M) (kk : ∀ M' : hc_Mem, Inv M' → hc_W G hc_lay p l e room_1 s m #[Value.ref b] below meth c 4 cells slots Q 1159 [some (.ref b), some (.ref (hc_ad G 0)), some (.ref (hc_ad G 48)), some (.int (nI i))] [] M') : hc_W G hc_lay p l e room_1 s m #[Value.ref b] below meth c 4 cells slots Q 773 [some (.ref b), some (.ref (hc_ad G 0)), some (.ref (hc_ad G 48)), some (.int (nI i))] [] M := by
  obtain ⟨d1, P1, hd1, h1, k1⟩ := st_who_w (l := l) C.ok hI (xs (i + 1)) (xs (i + 2)) (xs (i + 3)) (xs (i + 4))
  refine hc_aload_n C dL_law_773 rfl rfl ?_
  refine hc_aload_n C dL_law_774 rfl rfl ?_
  refine hc_iload_n C dL_law_775 rfl rfl ?_
  refine hc_iconst C dL_law_776 (v := 1) rfl ?_
  refine hc_iadd C dL_law_777 ?_
  refine hc_sld C (j := i + 1) hX hbl hbA hn31 (show nI i + 1 = nI (i + 1) by rw [show (1 : Int32) = nI 1 from rfl, nI_add]) (by omega) dL_law_778 ?_
  refine hc_aload_n C dL_law_779 rfl rfl ?_
  refine hc_iload_n C dL_law_780 rfl rfl ?_
  refine hc_iconst C dL_law_781 (v := 2) rfl ?_
  refine hc_iadd C dL_law_782 ?_
  refine hc_sld C (j := i + 2) hX hbl hbA hn31 (show nI i + 2 = nI (i + 2) by rw [show (2 : Int32) = nI 2 from rfl, nI_add]) (by omega) dL_law_783 ?_
  refine hc_aload_n C dL_law_784 rfl rfl ?_
  refine hc_iload_n C dL_law_785 rfl rfl ?_
  refine hc_iconst C dL_law_786 (v := 3) rfl ?_
  refine hc_iadd C dL_law_787 ?_
  refine hc_sld C (j := i + 3) hX hbl hbA hn31 (show nI i + 3 = nI (i + 3) by rw [show (3 : Int32) = nI 3 from rfl, nI_add]) (by omega) dL_law_788 ?_
  refine hc_aload_n C dL_law_789 rfl rfl ?_
  refine hc_iload_n C dL_law_790 rfl rfl ?_
  refine hc_iconst C dL_law_791 (v := 4) rfl ?_
  refine hc_iadd C dL_law_792 ?_
  refine hc_sld C (j := i + 4) hX hbl hbA hn31 (show nI i + 4 = nI (i + 4) by rw [show (4 : Int32) = nI 4 from rfl, nI_add]) (by omega) dL_law_793 ?_
  refine hc_cV4i C mv_L_102 h1 rfl rfl rfl (Nat.le_of_ble_eq_true rfl) (rr_1 hd1) hcs dL_law_794 (fun rx Mx hx1 => ?_)
  obtain ⟨d2, P2, hd2, h2, k2⟩ := k1 rx Mx hx1
  refine hc_pop C dL_law_797 rfl ?_
  refine hc_aload_n C dL_law_798 rfl rfl ?_
  refine hc_aload_n C dL_law_799 rfl rfl ?_
  refine hc_iload_n C dL_law_800 rfl rfl ?_
  refine hc_iconst C dL_law_801 (v := 1) rfl ?_
  refine hc_iadd C dL_law_802 ?_
  refine hc_sld C (j := i + 1) hX hbl hbA hn31 (show nI i + 1 = nI (i + 1) by rw [show (1 : Int32) = nI 1 from rfl, nI_add]) (by omega) dL_law_803 ?_
  refine hc_aload_n C dL_law_804 rfl rfl ?_
  refine hc_iload_n C dL_law_805 rfl rfl ?_
  refine hc_iconst C dL_law_806 (v := 2) rfl ?_
  refine hc_iadd C dL_law_807 ?_
  refine hc_sld C (j := i + 2) hX hbl hbA hn31 (show nI i + 2 = nI (i + 2) by rw [show (2 : Int32) = nI 2 from rfl, nI_add]) (by omega) dL_law_808 ?_
  refine hc_aload_n C dL_law_809 rfl rfl ?_
  refine hc_iload_n C dL_law_810 rfl rfl ?_
  refine hc_iconst C dL_law_811 (v := 3) rfl ?_
  refine hc_iadd C dL_law_812 ?_
  refine hc_sld C (j := i + 3) hX hbl hbA hn31 (show nI i + 3 = nI (i + 3) by rw [show (3 : Int32) = nI 3 from rfl, nI_add]) (by omega) dL_law_813 ?_
  refine hc_aload_n C dL_law_814 rfl rfl ?_
  refine hc_iload_n C dL_law_815 rfl rfl ?_
  refine hc_iconst C dL_law_816 (v := 4) rfl ?_
  refine hc_iadd C dL_law_817 ?_
  refine hc_sld C (j := i + 4) hX hbl hbA hn31 (show nI i + 4 = nI (i + 4) by rw [show (4 : Int32) = nI 4 from rfl, nI_add]) (by omega) dL_law_818 ?_
  refine hc_cV4i C mv_L_106 h2 rfl rfl rfl (Nat.le_of_ble_eq_true rfl) (rr_1 hd2) hcs dL_law_819 (fun rm Mm hm1 => ?_)
  obtain ⟨he, hI2⟩ := k2 rm Mm hm1
  refine hc_pop C dL_law_822 rfl ?_
  refine hc_goto C (tgt := 1159) dL_law_823 (by decide) ?_
  exact kk _ hI2

set_option maxRecDepth 100000 in
set_option maxHeartbeats 4000000 in
theorem lc_22 {G : hc_Geo} {p : Program} {l : Launch} {e : Env} {s : State} {m : MethodId} {below : List Frame} {meth : Method} {c : Code} {cells slots : Nat} {Q : State → Prop} {b n : Nat} {xs : Nat → Int32} (C : hc_Cx G hc_lay code 4 ret R_law p s m #[Value.ref b] meth c) (hX : va_X b n xs s s.heap) (hbl : b < s.heap.size) (hbA : ¬ hc_A G b) (hn31 : n < 2 ^ 31) (hcs : cells ≤ room_1.cells ∧ slots ≤ room_1.slots) {i : Nat} (hi : i + 6 ≤ n) {M : hc_Mem} (hI : Inv M) (kk : ∀ M' : hc_Mem, Inv M' → hc_W G hc_lay p l e room_1 s m #[Value.ref b] below meth c 4 cells slots Q 1159 [some (.ref b), some (.ref (hc_ad G 0)), some (.ref (hc_ad G 48)), some (.int (nI i))] [] M') : hc_W G hc_lay p l e room_1 s m #[Value.ref b] below meth c 4 cells slots Q 826 [some (.ref b), some (.ref (hc_ad G 0)), some (.ref (hc_ad G 48)), some (.int (nI i))] [] M := by
  obtain ⟨d1, P1, hd1, h1, k1⟩ := st_heed (l := l) C.ok hI (xs (i + 1)) (xs (i + 2)) (xs (i + 3)) (xs (i + 4))
  refine hc_aload_n C dL_law_826 rfl rfl ?_
  refine hc_aload_n C dL_law_827 rfl rfl ?_
  refine hc_iload_n C dL_law_828 rfl rfl ?_
  refine hc_iconst C dL_law_829 (v := 1) rfl ?_
  refine hc_iadd C dL_law_830 ?_
  refine hc_sld C (j := i + 1) hX hbl hbA hn31 (show nI i + 1 = nI (i + 1) by rw [show (1 : Int32) = nI 1 from rfl, nI_add]) (by omega) dL_law_831 ?_
  refine hc_aload_n C dL_law_832 rfl rfl ?_
  refine hc_iload_n C dL_law_833 rfl rfl ?_
  refine hc_iconst C dL_law_834 (v := 2) rfl ?_
  refine hc_iadd C dL_law_835 ?_
  refine hc_sld C (j := i + 2) hX hbl hbA hn31 (show nI i + 2 = nI (i + 2) by rw [show (2 : Int32) = nI 2 from rfl, nI_add]) (by omega) dL_law_836 ?_
  refine hc_aload_n C dL_law_837 rfl rfl ?_
  refine hc_iload_n C dL_law_838 rfl rfl ?_
  refine hc_iconst C dL_law_839 (v := 3) rfl ?_
  refine hc_iadd C dL_law_840 ?_
  refine hc_sld C (j := i + 3) hX hbl hbA hn31 (show nI i + 3 = nI (i + 3) by rw [show (3 : Int32) = nI 3 from rfl, nI_add]) (by omega) dL_law_841 ?_
  refine hc_aload_n C dL_law_842 rfl rfl ?_
  refine hc_iload_n C dL_law_843 rfl rfl ?_
  refine hc_iconst C dL_law_844 (v := 4) rfl ?_
  refine hc_iadd C dL_law_845 ?_
  refine hc_sld C (j := i + 4) hX hbl hbA hn31 (show nI i + 4 = nI (i + 4) by rw [show (4 : Int32) = nI 4 from rfl, nI_add]) (by omega) dL_law_846 ?_
  refine hc_cV4i C mv_L_107 h1 rfl rfl rfl (Nat.le_of_ble_eq_true rfl) (rr_1 hd1) hcs dL_law_847 (fun rx Mx hx1 => ?_)
  obtain ⟨d2, P2, hd2, h2, k2⟩ := k1 rx Mx hx1
  refine hc_pop C dL_law_850 rfl ?_
  refine hc_aload_n C dL_law_851 rfl rfl ?_
  refine hc_aload_n C dL_law_852 rfl rfl ?_
  refine hc_iload_n C dL_law_853 rfl rfl ?_
  refine hc_iconst C dL_law_854 (v := 1) rfl ?_
  refine hc_iadd C dL_law_855 ?_
  refine hc_sld C (j := i + 1) hX hbl hbA hn31 (show nI i + 1 = nI (i + 1) by rw [show (1 : Int32) = nI 1 from rfl, nI_add]) (by omega) dL_law_856 ?_
  refine hc_aload_n C dL_law_857 rfl rfl ?_
  refine hc_iload_n C dL_law_858 rfl rfl ?_
  refine hc_iconst C dL_law_859 (v := 2) rfl ?_
  refine hc_iadd C dL_law_860 ?_
  refine hc_sld C (j := i + 2) hX hbl hbA hn31 (show nI i + 2 = nI (i + 2) by rw [show (2 : Int32) = nI 2 from rfl, nI_add]) (by omega) dL_law_861 ?_
  refine hc_aload_n C dL_law_862 rfl rfl ?_
  refine hc_iload_n C dL_law_863 rfl rfl ?_
  refine hc_iconst C dL_law_864 (v := 3) rfl ?_
  refine hc_iadd C dL_law_865 ?_
  refine hc_sld C (j := i + 3) hX hbl hbA hn31 (show nI i + 3 = nI (i + 3) by rw [show (3 : Int32) = nI 3 from rfl, nI_add]) (by omega) dL_law_866 ?_
  refine hc_aload_n C dL_law_867 rfl rfl ?_
  refine hc_iload_n C dL_law_868 rfl rfl ?_
  refine hc_iconst C dL_law_869 (v := 4) rfl ?_
  refine hc_iadd C dL_law_870 ?_
  refine hc_sld C (j := i + 4) hX hbl hbA hn31 (show nI i + 4 = nI (i + 4) by rw [show (4 : Int32) = nI 4 from rfl, nI_add]) (by omega) dL_law_871 ?_
  refine hc_cV4i C mv_L_110 h2 rfl rfl rfl (Nat.le_of_ble_eq_true rfl) (rr_1 hd2) hcs dL_law_872 (fun rm Mm hm1 => ?_)
  obtain ⟨he, hI2⟩ := k2 rm Mm hm1
  refine hc_pop C dL_law_875 rfl ?_
  refine hc_goto C (tgt := 1159) dL_law_876 (by decide) ?_
  exact kk _ hI2

set_option maxRecDepth 100000 in
set_option maxHeartbeats 4000000 in
theorem lc_23 {G : hc_Geo} {p : Program} {l : Launch} {e : Env} {s : State} {m : MethodId} {below : List Frame} {meth : Method} {c : Code} {cells slots : Nat} {Q : State → Prop} {b n : Nat} {xs : Nat → Int32} (C : hc_Cx G hc_lay code 4 ret R_law p s m #[Value.ref b] meth c) (hX : va_X b n xs s s.heap) (hbl : b < s.heap.size) (hbA : ¬ hc_A G b) (hn31 : n < 2 ^ 31) (hcs : cells ≤ room_1.cells ∧ slots ≤ room_1.slots) {i : Nat} (hi : i + 6 ≤ n) {M : hc_Mem} (hI : Inv M) (kk : ∀ M' : hc_Mem, Inv M' → hc_W G hc_lay p l e room_1 s m #[Value.ref b] below meth c 4 cells slots Q 1159 [some (.ref b), some (.ref (hc_ad G 0)), some (.ref (hc_ad G 48)), some (.int (nI i))] [] M') : hc_W G hc_lay p l e room_1 s m #[Value.ref b] below meth c 4 cells slots Q 879 [some (.ref b), some (.ref (hc_ad G 0)), some (.ref (hc_ad G 48)), some (.int (nI i))] [] M := by
  obtain ⟨d1, P1, hd1, h1, k1⟩ := st_older (l := l) C.ok hI (xs (i + 1)) (xs (i + 2)) (xs (i + 3))
  refine hc_aload_n C dL_law_879 rfl rfl ?_
  refine hc_aload_n C dL_law_880 rfl rfl ?_
  refine hc_iload_n C dL_law_881 rfl rfl ?_
  refine hc_iconst C dL_law_882 (v := 1) rfl ?_
  refine hc_iadd C dL_law_883 ?_
  refine hc_sld C (j := i + 1) hX hbl hbA hn31 (show nI i + 1 = nI (i + 1) by rw [show (1 : Int32) = nI 1 from rfl, nI_add]) (by omega) dL_law_884 ?_
  refine hc_aload_n C dL_law_885 rfl rfl ?_
  refine hc_iload_n C dL_law_886 rfl rfl ?_
  refine hc_iconst C dL_law_887 (v := 2) rfl ?_
  refine hc_iadd C dL_law_888 ?_
  refine hc_sld C (j := i + 2) hX hbl hbA hn31 (show nI i + 2 = nI (i + 2) by rw [show (2 : Int32) = nI 2 from rfl, nI_add]) (by omega) dL_law_889 ?_
  refine hc_aload_n C dL_law_890 rfl rfl ?_
  refine hc_iload_n C dL_law_891 rfl rfl ?_
  refine hc_iconst C dL_law_892 (v := 3) rfl ?_
  refine hc_iadd C dL_law_893 ?_
  refine hc_sld C (j := i + 3) hX hbl hbA hn31 (show nI i + 3 = nI (i + 3) by rw [show (3 : Int32) = nI 3 from rfl, nI_add]) (by omega) dL_law_894 ?_
  refine hc_cV3i C mv_L_111 h1 rfl rfl rfl (Nat.le_of_ble_eq_true rfl) (rr_1 hd1) hcs dL_law_895 (fun rx Mx hx1 => ?_)
  obtain ⟨d2, P2, hd2, h2, k2⟩ := k1 rx Mx hx1
  refine hc_pop C dL_law_898 rfl ?_
  refine hc_aload_n C dL_law_899 rfl rfl ?_
  refine hc_aload_n C dL_law_900 rfl rfl ?_
  refine hc_iload_n C dL_law_901 rfl rfl ?_
  refine hc_iconst C dL_law_902 (v := 1) rfl ?_
  refine hc_iadd C dL_law_903 ?_
  refine hc_sld C (j := i + 1) hX hbl hbA hn31 (show nI i + 1 = nI (i + 1) by rw [show (1 : Int32) = nI 1 from rfl, nI_add]) (by omega) dL_law_904 ?_
  refine hc_aload_n C dL_law_905 rfl rfl ?_
  refine hc_iload_n C dL_law_906 rfl rfl ?_
  refine hc_iconst C dL_law_907 (v := 2) rfl ?_
  refine hc_iadd C dL_law_908 ?_
  refine hc_sld C (j := i + 2) hX hbl hbA hn31 (show nI i + 2 = nI (i + 2) by rw [show (2 : Int32) = nI 2 from rfl, nI_add]) (by omega) dL_law_909 ?_
  refine hc_aload_n C dL_law_910 rfl rfl ?_
  refine hc_iload_n C dL_law_911 rfl rfl ?_
  refine hc_iconst C dL_law_912 (v := 3) rfl ?_
  refine hc_iadd C dL_law_913 ?_
  refine hc_sld C (j := i + 3) hX hbl hbA hn31 (show nI i + 3 = nI (i + 3) by rw [show (3 : Int32) = nI 3 from rfl, nI_add]) (by omega) dL_law_914 ?_
  refine hc_cV3i C mv_L_114 h2 rfl rfl rfl (Nat.le_of_ble_eq_true rfl) (rr_1 hd2) hcs dL_law_915 (fun rm Mm hm1 => ?_)
  obtain ⟨he, hI2⟩ := k2 rm Mm hm1
  refine hc_pop C dL_law_918 rfl ?_
  refine hc_goto C (tgt := 1159) dL_law_919 (by decide) ?_
  exact kk _ hI2

set_option maxRecDepth 100000 in
set_option maxHeartbeats 4000000 in
theorem lc_24 {G : hc_Geo} {p : Program} {l : Launch} {e : Env} {s : State} {m : MethodId} {below : List Frame} {meth : Method} {c : Code} {cells slots : Nat} {Q : State → Prop} {b n : Nat} {xs : Nat → Int32} (C : hc_Cx G hc_lay code 4 ret R_law p s m #[Value.ref b] meth c) (hX : va_X b n xs s s.heap) (hbl : b < s.heap.size) (hbA : ¬ hc_A G b) (hn31 : n < 2 ^ 31) (hcs : cells ≤ room_1.cells ∧ slots ≤ room_1.slots) {i : Nat} (hi : i + 6 ≤ n) {M : hc_Mem} (hI : Inv M) (kk : ∀ M' : hc_Mem, Inv M' → hc_W G hc_lay p l e room_1 s m #[Value.ref b] below meth c 4 cells slots Q 1159 [some (.ref b), some (.ref (hc_ad G 0)), some (.ref (hc_ad G 48)), some (.int (nI i))] [] M') : hc_W G hc_lay p l e room_1 s m #[Value.ref b] below meth c 4 cells slots Q 922 [some (.ref b), some (.ref (hc_ad G 0)), some (.ref (hc_ad G 48)), some (.int (nI i))] [] M := by
  obtain ⟨d1, P1, hd1, h1, k1⟩ := st_odds_w (l := l) C.ok hI (xs (i + 1)) (xs (i + 2)) (xs (i + 3))
  refine hc_aload_n C dL_law_922 rfl rfl ?_
  refine hc_aload_n C dL_law_923 rfl rfl ?_
  refine hc_iload_n C dL_law_924 rfl rfl ?_
  refine hc_iconst C dL_law_925 (v := 1) rfl ?_
  refine hc_iadd C dL_law_926 ?_
  refine hc_sld C (j := i + 1) hX hbl hbA hn31 (show nI i + 1 = nI (i + 1) by rw [show (1 : Int32) = nI 1 from rfl, nI_add]) (by omega) dL_law_927 ?_
  refine hc_aload_n C dL_law_928 rfl rfl ?_
  refine hc_iload_n C dL_law_929 rfl rfl ?_
  refine hc_iconst C dL_law_930 (v := 2) rfl ?_
  refine hc_iadd C dL_law_931 ?_
  refine hc_sld C (j := i + 2) hX hbl hbA hn31 (show nI i + 2 = nI (i + 2) by rw [show (2 : Int32) = nI 2 from rfl, nI_add]) (by omega) dL_law_932 ?_
  refine hc_aload_n C dL_law_933 rfl rfl ?_
  refine hc_iload_n C dL_law_934 rfl rfl ?_
  refine hc_iconst C dL_law_935 (v := 3) rfl ?_
  refine hc_iadd C dL_law_936 ?_
  refine hc_sld C (j := i + 3) hX hbl hbA hn31 (show nI i + 3 = nI (i + 3) by rw [show (3 : Int32) = nI 3 from rfl, nI_add]) (by omega) dL_law_937 ?_
  refine hc_cV3i C mv_L_115 h1 rfl rfl rfl (Nat.le_of_ble_eq_true rfl) (rr_1 hd1) hcs dL_law_938 (fun rx Mx hx1 => ?_)
  obtain ⟨d2, P2, hd2, h2, k2⟩ := k1 rx Mx hx1
  refine hc_pop C dL_law_941 rfl ?_
  refine hc_aload_n C dL_law_942 rfl rfl ?_
  refine hc_aload_n C dL_law_943 rfl rfl ?_
  refine hc_iload_n C dL_law_944 rfl rfl ?_
  refine hc_iconst C dL_law_945 (v := 1) rfl ?_
  refine hc_iadd C dL_law_946 ?_
  refine hc_sld C (j := i + 1) hX hbl hbA hn31 (show nI i + 1 = nI (i + 1) by rw [show (1 : Int32) = nI 1 from rfl, nI_add]) (by omega) dL_law_947 ?_
  refine hc_aload_n C dL_law_948 rfl rfl ?_
  refine hc_iload_n C dL_law_949 rfl rfl ?_
  refine hc_iconst C dL_law_950 (v := 2) rfl ?_
  refine hc_iadd C dL_law_951 ?_
  refine hc_sld C (j := i + 2) hX hbl hbA hn31 (show nI i + 2 = nI (i + 2) by rw [show (2 : Int32) = nI 2 from rfl, nI_add]) (by omega) dL_law_952 ?_
  refine hc_aload_n C dL_law_953 rfl rfl ?_
  refine hc_iload_n C dL_law_954 rfl rfl ?_
  refine hc_iconst C dL_law_955 (v := 3) rfl ?_
  refine hc_iadd C dL_law_956 ?_
  refine hc_sld C (j := i + 3) hX hbl hbA hn31 (show nI i + 3 = nI (i + 3) by rw [show (3 : Int32) = nI 3 from rfl, nI_add]) (by omega) dL_law_957 ?_
  refine hc_cV3i C mv_L_118 h2 rfl rfl rfl (Nat.le_of_ble_eq_true rfl) (rr_1 hd2) hcs dL_law_958 (fun rm Mm hm1 => ?_)
  obtain ⟨he, hI2⟩ := k2 rm Mm hm1
  refine hc_pop C dL_law_961 rfl ?_
  refine hc_goto C (tgt := 1159) dL_law_962 (by decide) ?_
  exact kk _ hI2

set_option maxRecDepth 100000 in
set_option maxHeartbeats 4000000 in
theorem lc_25 {G : hc_Geo} {p : Program} {l : Launch} {e : Env} {s : State} {m : MethodId} {below : List Frame} {meth : Method} {c : Code} {cells slots : Nat} {Q : State → Prop} {b n : Nat} {xs : Nat → Int32} (C : hc_Cx G hc_lay code 4 ret R_law p s m #[Value.ref b] meth c) (hX : va_X b n xs s s.heap) (hbl : b < s.heap.size) (hbA : ¬ hc_A G b) (hn31 : n < 2 ^ 31) (hcs : cells ≤ room_1.cells ∧ slots ≤ room_1.slots) {i : Nat} (hi : i + 6 ≤ n) {M : hc_Mem} (hI : Inv M) (kk : ∀ M' : hc_Mem, Inv M' → hc_W G hc_lay p l e room_1 s m #[Value.ref b] below meth c 4 cells slots Q 1159 [some (.ref b), some (.ref (hc_ad G 0)), some (.ref (hc_ad G 48)), some (.int (nI i))] [] M') : hc_W G hc_lay p l e room_1 s m #[Value.ref b] below meth c 4 cells slots Q 965 [some (.ref b), some (.ref (hc_ad G 0)), some (.ref (hc_ad G 48)), some (.int (nI i))] [] M := by
  obtain ⟨d1, P1, hd1, h1, k1⟩ := st_image (l := l) C.ok hI (xs (i + 1))
  refine hc_aload_n C dL_law_965 rfl rfl ?_
  refine hc_aload_n C dL_law_966 rfl rfl ?_
  refine hc_iload_n C dL_law_967 rfl rfl ?_
  refine hc_iconst C dL_law_968 (v := 1) rfl ?_
  refine hc_iadd C dL_law_969 ?_
  refine hc_sld C (j := i + 1) hX hbl hbA hn31 (show nI i + 1 = nI (i + 1) by rw [show (1 : Int32) = nI 1 from rfl, nI_add]) (by omega) dL_law_970 ?_
  refine hc_cV1i C mv_L_119 h1 rfl rfl rfl (Nat.le_of_ble_eq_true rfl) (rr_1 hd1) hcs dL_law_971 (fun rx Mx hx1 => ?_)
  obtain ⟨d2, P2, hd2, h2, k2⟩ := k1 rx Mx hx1
  refine hc_pop C dL_law_974 rfl ?_
  refine hc_aload_n C dL_law_975 rfl rfl ?_
  refine hc_aload_n C dL_law_976 rfl rfl ?_
  refine hc_iload_n C dL_law_977 rfl rfl ?_
  refine hc_iconst C dL_law_978 (v := 1) rfl ?_
  refine hc_iadd C dL_law_979 ?_
  refine hc_sld C (j := i + 1) hX hbl hbA hn31 (show nI i + 1 = nI (i + 1) by rw [show (1 : Int32) = nI 1 from rfl, nI_add]) (by omega) dL_law_980 ?_
  refine hc_cV1i C mv_L_122 h2 rfl rfl rfl (Nat.le_of_ble_eq_true rfl) (rr_1 hd2) hcs dL_law_981 (fun rm Mm hm1 => ?_)
  obtain ⟨he, hI2⟩ := k2 rm Mm hm1
  refine hc_pop C dL_law_984 rfl ?_
  refine hc_goto C (tgt := 1159) dL_law_985 (by decide) ?_
  exact kk _ hI2

set_option maxRecDepth 100000 in
set_option maxHeartbeats 4000000 in
theorem lc_26 {G : hc_Geo} {p : Program} {l : Launch} {e : Env} {s : State} {m : MethodId} {below : List Frame} {meth : Method} {c : Code} {cells slots : Nat} {Q : State → Prop} {b n : Nat} {xs : Nat → Int32} (C : hc_Cx G hc_lay code 4 ret R_law p s m #[Value.ref b] meth c) (hX : va_X b n xs s s.heap) (hbl : b < s.heap.size) (hbA : ¬ hc_A G b) (hn31 : n < 2 ^ 31) (hcs : cells ≤ room_1.cells ∧ slots ≤ room_1.slots) {i : Nat} (hi : i + 6 ≤ n) {M : hc_Mem} (hI : Inv M) (kk : ∀ M' : hc_Mem, Inv M' → hc_W G hc_lay p l e room_1 s m #[Value.ref b] below meth c 4 cells slots Q 1159 [some (.ref b), some (.ref (hc_ad G 0)), some (.ref (hc_ad G 48)), some (.int (nI i))] [] M') : hc_W G hc_lay p l e room_1 s m #[Value.ref b] below meth c 4 cells slots Q 988 [some (.ref b), some (.ref (hc_ad G 0)), some (.ref (hc_ad G 48)), some (.int (nI i))] [] M := by
  obtain ⟨d1, P1, hd1, h1, k1⟩ := st_restore (l := l) C.ok hI (xs (i + 1))
  refine hc_aload_n C dL_law_988 rfl rfl ?_
  refine hc_aload_n C dL_law_989 rfl rfl ?_
  refine hc_iload_n C dL_law_990 rfl rfl ?_
  refine hc_iconst C dL_law_991 (v := 1) rfl ?_
  refine hc_iadd C dL_law_992 ?_
  refine hc_sld C (j := i + 1) hX hbl hbA hn31 (show nI i + 1 = nI (i + 1) by rw [show (1 : Int32) = nI 1 from rfl, nI_add]) (by omega) dL_law_993 ?_
  refine hc_cV1i C mv_L_123 h1 rfl rfl rfl (Nat.le_of_ble_eq_true rfl) (rr_1 hd1) hcs dL_law_994 (fun rx Mx hx1 => ?_)
  obtain ⟨d2, P2, hd2, h2, k2⟩ := k1 rx Mx hx1
  refine hc_pop C dL_law_997 rfl ?_
  refine hc_aload_n C dL_law_998 rfl rfl ?_
  refine hc_aload_n C dL_law_999 rfl rfl ?_
  refine hc_iload_n C dL_law_1000 rfl rfl ?_
  refine hc_iconst C dL_law_1001 (v := 1) rfl ?_
  refine hc_iadd C dL_law_1002 ?_
  refine hc_sld C (j := i + 1) hX hbl hbA hn31 (show nI i + 1 = nI (i + 1) by rw [show (1 : Int32) = nI 1 from rfl, nI_add]) (by omega) dL_law_1003 ?_
  refine hc_cV1i C mv_L_126 h2 rfl rfl rfl (Nat.le_of_ble_eq_true rfl) (rr_1 hd2) hcs dL_law_1004 (fun rm Mm hm1 => ?_)
  obtain ⟨he, hI2⟩ := k2 rm Mm hm1
  refine hc_pop C dL_law_1007 rfl ?_
  refine hc_goto C (tgt := 1159) dL_law_1008 (by decide) ?_
  exact kk _ hI2

set_option maxRecDepth 100000 in
set_option maxHeartbeats 4000000 in
theorem lc_27 {G : hc_Geo} {p : Program} {l : Launch} {e : Env} {s : State} {m : MethodId} {below : List Frame} {meth : Method} {c : Code} {cells slots : Nat} {Q : State → Prop} {b n : Nat} {xs : Nat → Int32} (C : hc_Cx G hc_lay code 4 ret R_law p s m #[Value.ref b] meth c) (hX : va_X b n xs s s.heap) (hbl : b < s.heap.size) (hbA : ¬ hc_A G b) (hn31 : n < 2 ^ 31) (hcs : cells ≤ room_1.cells ∧ slots ≤ room_1.slots) {i : Nat} (hi : i + 6 ≤ n) {M : hc_Mem} (hI : Inv M) (kk : ∀ M' : hc_Mem, Inv M' → hc_W G hc_lay p l e room_1 s m #[Value.ref b] below meth c 4 cells slots Q 1159 [some (.ref b), some (.ref (hc_ad G 0)), some (.ref (hc_ad G 48)), some (.int (nI i))] [] M') : hc_W G hc_lay p l e room_1 s m #[Value.ref b] below meth c 4 cells slots Q 1011 [some (.ref b), some (.ref (hc_ad G 0)), some (.ref (hc_ad G 48)), some (.int (nI i))] [] M := by
  obtain ⟨d1, P1, hd1, h1, k1⟩ := st_kind (l := l) C.ok hI (xs (i + 1))
  refine hc_aload_n C dL_law_1011 rfl rfl ?_
  refine hc_aload_n C dL_law_1012 rfl rfl ?_
  refine hc_iload_n C dL_law_1013 rfl rfl ?_
  refine hc_iconst C dL_law_1014 (v := 1) rfl ?_
  refine hc_iadd C dL_law_1015 ?_
  refine hc_sld C (j := i + 1) hX hbl hbA hn31 (show nI i + 1 = nI (i + 1) by rw [show (1 : Int32) = nI 1 from rfl, nI_add]) (by omega) dL_law_1016 ?_
  refine hc_cV1i C mv_L_127 h1 rfl rfl rfl (Nat.le_of_ble_eq_true rfl) (rr_1 hd1) hcs dL_law_1017 (fun rx Mx hx1 => ?_)
  obtain ⟨d2, P2, hd2, h2, k2⟩ := k1 rx Mx hx1
  refine hc_pop C dL_law_1020 rfl ?_
  refine hc_aload_n C dL_law_1021 rfl rfl ?_
  refine hc_aload_n C dL_law_1022 rfl rfl ?_
  refine hc_iload_n C dL_law_1023 rfl rfl ?_
  refine hc_iconst C dL_law_1024 (v := 1) rfl ?_
  refine hc_iadd C dL_law_1025 ?_
  refine hc_sld C (j := i + 1) hX hbl hbA hn31 (show nI i + 1 = nI (i + 1) by rw [show (1 : Int32) = nI 1 from rfl, nI_add]) (by omega) dL_law_1026 ?_
  refine hc_cV1i C mv_L_130 h2 rfl rfl rfl (Nat.le_of_ble_eq_true rfl) (rr_1 hd2) hcs dL_law_1027 (fun rm Mm hm1 => ?_)
  obtain ⟨he, hI2⟩ := k2 rm Mm hm1
  refine hc_pop C dL_law_1030 rfl ?_
  refine hc_goto C (tgt := 1159) dL_law_1031 (by decide) ?_
  exact kk _ hI2

set_option maxRecDepth 100000 in
set_option maxHeartbeats 4000000 in
theorem lc_28 {G : hc_Geo} {p : Program} {l : Launch} {e : Env} {s : State} {m : MethodId} {below : List Frame} {meth : Method} {c : Code} {cells slots : Nat} {Q : State → Prop} {b n : Nat} {xs : Nat → Int32} (C : hc_Cx G hc_lay code 4 ret R_law p s m #[Value.ref b] meth c) (hX : va_X b n xs s s.heap) (hbl : b < s.heap.size) (hbA : ¬ hc_A G b) (hn31 : n < 2 ^ 31) (hcs : cells ≤ room_1.cells ∧ slots ≤ room_1.slots) {i : Nat} (hi : i + 6 ≤ n) {M : hc_Mem} (hI : Inv M) (kk : ∀ M' : hc_Mem, Inv M' → hc_W G hc_lay p l e room_1 s m #[Value.ref b] below meth c 4 cells slots Q 1159 [some (.ref b), some (.ref (hc_ad G 0)), some (.ref (hc_ad G 48)), some (.int (nI i))] [] M') : hc_W G hc_lay p l e room_1 s m #[Value.ref b] below meth c 4 cells slots Q 1034 [some (.ref b), some (.ref (hc_ad G 0)), some (.ref (hc_ad G 48)), some (.int (nI i))] [] M := by
  obtain ⟨d1, P1, hd1, h1, k1⟩ := st_as (l := l) C.ok hI (xs (i + 1)) (xs (i + 2))
  refine hc_aload_n C dL_law_1034 rfl rfl ?_
  refine hc_aload_n C dL_law_1035 rfl rfl ?_
  refine hc_iload_n C dL_law_1036 rfl rfl ?_
  refine hc_iconst C dL_law_1037 (v := 1) rfl ?_
  refine hc_iadd C dL_law_1038 ?_
  refine hc_sld C (j := i + 1) hX hbl hbA hn31 (show nI i + 1 = nI (i + 1) by rw [show (1 : Int32) = nI 1 from rfl, nI_add]) (by omega) dL_law_1039 ?_
  refine hc_aload_n C dL_law_1040 rfl rfl ?_
  refine hc_iload_n C dL_law_1041 rfl rfl ?_
  refine hc_iconst C dL_law_1042 (v := 2) rfl ?_
  refine hc_iadd C dL_law_1043 ?_
  refine hc_sld C (j := i + 2) hX hbl hbA hn31 (show nI i + 2 = nI (i + 2) by rw [show (2 : Int32) = nI 2 from rfl, nI_add]) (by omega) dL_law_1044 ?_
  refine hc_cV2i C mv_L_131 h1 rfl rfl rfl (Nat.le_of_ble_eq_true rfl) (rr_1 hd1) hcs dL_law_1045 (fun rx Mx hx1 => ?_)
  obtain ⟨d2, P2, hd2, h2, k2⟩ := k1 rx Mx hx1
  refine hc_pop C dL_law_1048 rfl ?_
  refine hc_aload_n C dL_law_1049 rfl rfl ?_
  refine hc_aload_n C dL_law_1050 rfl rfl ?_
  refine hc_iload_n C dL_law_1051 rfl rfl ?_
  refine hc_iconst C dL_law_1052 (v := 1) rfl ?_
  refine hc_iadd C dL_law_1053 ?_
  refine hc_sld C (j := i + 1) hX hbl hbA hn31 (show nI i + 1 = nI (i + 1) by rw [show (1 : Int32) = nI 1 from rfl, nI_add]) (by omega) dL_law_1054 ?_
  refine hc_aload_n C dL_law_1055 rfl rfl ?_
  refine hc_iload_n C dL_law_1056 rfl rfl ?_
  refine hc_iconst C dL_law_1057 (v := 2) rfl ?_
  refine hc_iadd C dL_law_1058 ?_
  refine hc_sld C (j := i + 2) hX hbl hbA hn31 (show nI i + 2 = nI (i + 2) by rw [show (2 : Int32) = nI 2 from rfl, nI_add]) (by omega) dL_law_1059 ?_
  refine hc_cV2i C mv_L_134 h2 rfl rfl rfl (Nat.le_of_ble_eq_true rfl) (rr_1 hd2) hcs dL_law_1060 (fun rm Mm hm1 => ?_)
  obtain ⟨he, hI2⟩ := k2 rm Mm hm1
  refine hc_pop C dL_law_1063 rfl ?_
  refine hc_goto C (tgt := 1159) dL_law_1064 (by decide) ?_
  exact kk _ hI2

set_option maxRecDepth 100000 in
set_option maxHeartbeats 4000000 in
theorem lc_29 {G : hc_Geo} {p : Program} {l : Launch} {e : Env} {s : State} {m : MethodId} {below : List Frame} {meth : Method} {c : Code} {cells slots : Nat} {Q : State → Prop} {b n : Nat} {xs : Nat → Int32} (C : hc_Cx G hc_lay code 4 ret R_law p s m #[Value.ref b] meth c) (hX : va_X b n xs s s.heap) (hbl : b < s.heap.size) (hbA : ¬ hc_A G b) (hn31 : n < 2 ^ 31) (hcs : cells ≤ room_1.cells ∧ slots ≤ room_1.slots) {i : Nat} (hi : i + 6 ≤ n) {M : hc_Mem} (hI : Inv M) (kk : ∀ M' : hc_Mem, Inv M' → hc_W G hc_lay p l e room_1 s m #[Value.ref b] below meth c 4 cells slots Q 1159 [some (.ref b), some (.ref (hc_ad G 0)), some (.ref (hc_ad G 48)), some (.int (nI i))] [] M') : hc_W G hc_lay p l e room_1 s m #[Value.ref b] below meth c 4 cells slots Q 1067 [some (.ref b), some (.ref (hc_ad G 0)), some (.ref (hc_ad G 48)), some (.int (nI i))] [] M := by
  obtain ⟨d1, P1, hd1, h1, k1⟩ := st_ask (l := l) C.ok hI (xs (i + 1)) (xs (i + 2))
  refine hc_aload_n C dL_law_1067 rfl rfl ?_
  refine hc_aload_n C dL_law_1068 rfl rfl ?_
  refine hc_iload_n C dL_law_1069 rfl rfl ?_
  refine hc_iconst C dL_law_1070 (v := 1) rfl ?_
  refine hc_iadd C dL_law_1071 ?_
  refine hc_sld C (j := i + 1) hX hbl hbA hn31 (show nI i + 1 = nI (i + 1) by rw [show (1 : Int32) = nI 1 from rfl, nI_add]) (by omega) dL_law_1072 ?_
  refine hc_aload_n C dL_law_1073 rfl rfl ?_
  refine hc_iload_n C dL_law_1074 rfl rfl ?_
  refine hc_iconst C dL_law_1075 (v := 2) rfl ?_
  refine hc_iadd C dL_law_1076 ?_
  refine hc_sld C (j := i + 2) hX hbl hbA hn31 (show nI i + 2 = nI (i + 2) by rw [show (2 : Int32) = nI 2 from rfl, nI_add]) (by omega) dL_law_1077 ?_
  refine hc_cV2i C mv_L_135 h1 rfl rfl rfl (Nat.le_of_ble_eq_true rfl) (rr_1 hd1) hcs dL_law_1078 (fun rx Mx hx1 => ?_)
  obtain ⟨d2, P2, hd2, h2, k2⟩ := k1 rx Mx hx1
  refine hc_pop C dL_law_1081 rfl ?_
  refine hc_aload_n C dL_law_1082 rfl rfl ?_
  refine hc_aload_n C dL_law_1083 rfl rfl ?_
  refine hc_iload_n C dL_law_1084 rfl rfl ?_
  refine hc_iconst C dL_law_1085 (v := 1) rfl ?_
  refine hc_iadd C dL_law_1086 ?_
  refine hc_sld C (j := i + 1) hX hbl hbA hn31 (show nI i + 1 = nI (i + 1) by rw [show (1 : Int32) = nI 1 from rfl, nI_add]) (by omega) dL_law_1087 ?_
  refine hc_aload_n C dL_law_1088 rfl rfl ?_
  refine hc_iload_n C dL_law_1089 rfl rfl ?_
  refine hc_iconst C dL_law_1090 (v := 2) rfl ?_
  refine hc_iadd C dL_law_1091 ?_
  refine hc_sld C (j := i + 2) hX hbl hbA hn31 (show nI i + 2 = nI (i + 2) by rw [show (2 : Int32) = nI 2 from rfl, nI_add]) (by omega) dL_law_1092 ?_
  refine hc_cV2i C mv_L_138 h2 rfl rfl rfl (Nat.le_of_ble_eq_true rfl) (rr_1 hd2) hcs dL_law_1093 (fun rm Mm hm1 => ?_)
  obtain ⟨he, hI2⟩ := k2 rm Mm hm1
  refine hc_pop C dL_law_1096 rfl ?_
  refine hc_goto C (tgt := 1159) dL_law_1097 (by decide) ?_
  exact kk _ hI2

set_option maxRecDepth 100000 in
set_option maxHeartbeats 4000000 in
theorem lc_30 {G : hc_Geo} {p : Program} {l : Launch} {e : Env} {s : State} {m : MethodId} {below : List Frame} {meth : Method} {c : Code} {cells slots : Nat} {Q : State → Prop} {b n : Nat} {xs : Nat → Int32} (C : hc_Cx G hc_lay code 4 ret R_law p s m #[Value.ref b] meth c) (hX : va_X b n xs s s.heap) (hbl : b < s.heap.size) (hbA : ¬ hc_A G b) (hn31 : n < 2 ^ 31) (hcs : cells ≤ room_1.cells ∧ slots ≤ room_1.slots) {i : Nat} (hi : i + 6 ≤ n) {M : hc_Mem} (hI : Inv M) (kk : ∀ M' : hc_Mem, Inv M' → hc_W G hc_lay p l e room_1 s m #[Value.ref b] below meth c 4 cells slots Q 1159 [some (.ref b), some (.ref (hc_ad G 0)), some (.ref (hc_ad G 48)), some (.int (nI i))] [] M') : hc_W G hc_lay p l e room_1 s m #[Value.ref b] below meth c 4 cells slots Q 1100 [some (.ref b), some (.ref (hc_ad G 0)), some (.ref (hc_ad G 48)), some (.int (nI i))] [] M := by
  obtain ⟨d1, P1, hd1, h1, k1⟩ := st_trace (l := l) C.ok hI (xs (i + 1))
  refine hc_aload_n C dL_law_1100 rfl rfl ?_
  refine hc_aload_n C dL_law_1101 rfl rfl ?_
  refine hc_iload_n C dL_law_1102 rfl rfl ?_
  refine hc_iconst C dL_law_1103 (v := 1) rfl ?_
  refine hc_iadd C dL_law_1104 ?_
  refine hc_sld C (j := i + 1) hX hbl hbA hn31 (show nI i + 1 = nI (i + 1) by rw [show (1 : Int32) = nI 1 from rfl, nI_add]) (by omega) dL_law_1105 ?_
  refine hc_cV1i C mv_L_139 h1 rfl rfl rfl (Nat.le_of_ble_eq_true rfl) (rr_1 hd1) hcs dL_law_1106 (fun rx Mx hx1 => ?_)
  obtain ⟨d2, P2, hd2, h2, k2⟩ := k1 rx Mx hx1
  refine hc_pop C dL_law_1109 rfl ?_
  refine hc_aload_n C dL_law_1110 rfl rfl ?_
  refine hc_aload_n C dL_law_1111 rfl rfl ?_
  refine hc_iload_n C dL_law_1112 rfl rfl ?_
  refine hc_iconst C dL_law_1113 (v := 1) rfl ?_
  refine hc_iadd C dL_law_1114 ?_
  refine hc_sld C (j := i + 1) hX hbl hbA hn31 (show nI i + 1 = nI (i + 1) by rw [show (1 : Int32) = nI 1 from rfl, nI_add]) (by omega) dL_law_1115 ?_
  refine hc_cV1i C mv_L_142 h2 rfl rfl rfl (Nat.le_of_ble_eq_true rfl) (rr_1 hd2) hcs dL_law_1116 (fun rm Mm hm1 => ?_)
  obtain ⟨he, hI2⟩ := k2 rm Mm hm1
  refine hc_pop C dL_law_1119 rfl ?_
  refine hc_goto C (tgt := 1159) dL_law_1120 (by decide) ?_
  exact kk _ hI2

set_option maxRecDepth 100000 in
set_option maxHeartbeats 4000000 in
theorem lc_31 {G : hc_Geo} {p : Program} {l : Launch} {e : Env} {s : State} {m : MethodId} {below : List Frame} {meth : Method} {c : Code} {cells slots : Nat} {Q : State → Prop} {b n : Nat} {xs : Nat → Int32} (C : hc_Cx G hc_lay code 4 ret R_law p s m #[Value.ref b] meth c) (hX : va_X b n xs s s.heap) (hbl : b < s.heap.size) (hbA : ¬ hc_A G b) (hn31 : n < 2 ^ 31) (hcs : cells ≤ room_1.cells ∧ slots ≤ room_1.slots) {i : Nat} (hi : i + 6 ≤ n) {M : hc_Mem} (hI : Inv M) (kk : ∀ M' : hc_Mem, Inv M' → hc_W G hc_lay p l e room_1 s m #[Value.ref b] below meth c 4 cells slots Q 1159 [some (.ref b), some (.ref (hc_ad G 0)), some (.ref (hc_ad G 48)), some (.int (nI i))] [] M') : hc_W G hc_lay p l e room_1 s m #[Value.ref b] below meth c 4 cells slots Q 1123 [some (.ref b), some (.ref (hc_ad G 0)), some (.ref (hc_ad G 48)), some (.int (nI i))] [] M := by
  obtain ⟨d1, P1, hd1, h1, k1⟩ := st_count (l := l) C.ok hI (xs (i + 1))
  refine hc_aload_n C dL_law_1123 rfl rfl ?_
  refine hc_aload_n C dL_law_1124 rfl rfl ?_
  refine hc_iload_n C dL_law_1125 rfl rfl ?_
  refine hc_iconst C dL_law_1126 (v := 1) rfl ?_
  refine hc_iadd C dL_law_1127 ?_
  refine hc_sld C (j := i + 1) hX hbl hbA hn31 (show nI i + 1 = nI (i + 1) by rw [show (1 : Int32) = nI 1 from rfl, nI_add]) (by omega) dL_law_1128 ?_
  refine hc_cV1i C mv_L_143 h1 rfl rfl rfl (Nat.le_of_ble_eq_true rfl) (rr_1 hd1) hcs dL_law_1129 (fun rx Mx hx1 => ?_)
  obtain ⟨d2, P2, hd2, h2, k2⟩ := k1 rx Mx hx1
  refine hc_pop C dL_law_1132 rfl ?_
  refine hc_aload_n C dL_law_1133 rfl rfl ?_
  refine hc_aload_n C dL_law_1134 rfl rfl ?_
  refine hc_iload_n C dL_law_1135 rfl rfl ?_
  refine hc_iconst C dL_law_1136 (v := 1) rfl ?_
  refine hc_iadd C dL_law_1137 ?_
  refine hc_sld C (j := i + 1) hX hbl hbA hn31 (show nI i + 1 = nI (i + 1) by rw [show (1 : Int32) = nI 1 from rfl, nI_add]) (by omega) dL_law_1138 ?_
  refine hc_cV1i C mv_L_146 h2 rfl rfl rfl (Nat.le_of_ble_eq_true rfl) (rr_1 hd2) hcs dL_law_1139 (fun rm Mm hm1 => ?_)
  obtain ⟨he, hI2⟩ := k2 rm Mm hm1
  refine hc_pop C dL_law_1142 rfl ?_
  refine hc_goto C (tgt := 1159) dL_law_1143 (by decide) ?_
  exact kk _ hI2

set_option maxRecDepth 100000 in
set_option maxHeartbeats 4000000 in
theorem lc_32 {G : hc_Geo} {p : Program} {l : Launch} {e : Env} {s : State} {m : MethodId} {below : List Frame} {meth : Method} {c : Code} {cells slots : Nat} {Q : State → Prop} {b n : Nat} {xs : Nat → Int32} (C : hc_Cx G hc_lay code 4 ret R_law p s m #[Value.ref b] meth c) (hX : va_X b n xs s s.heap) (hbl : b < s.heap.size) (hbA : ¬ hc_A G b) (hn31 : n < 2 ^ 31) (hcs : cells ≤ room_1.cells ∧ slots ≤ room_1.slots) {i : Nat} (hi : i + 6 ≤ n) {M : hc_Mem} (hI : Inv M) (kk : ∀ M' : hc_Mem, Inv M' → hc_W G hc_lay p l e room_1 s m #[Value.ref b] below meth c 4 cells slots Q 1159 [some (.ref b), some (.ref (hc_ad G 0)), some (.ref (hc_ad G 48)), some (.int (nI i))] [] M') : hc_W G hc_lay p l e room_1 s m #[Value.ref b] below meth c 4 cells slots Q 1146 [some (.ref b), some (.ref (hc_ad G 0)), some (.ref (hc_ad G 48)), some (.int (nI i))] [] M := by
  obtain ⟨d1, P1, hd1, h1, k1⟩ := st_status (l := l) C.ok hI
  refine hc_aload_n C dL_law_1146 rfl rfl ?_
  refine hc_cV0i C mv_L_147 h1 rfl rfl rfl (Nat.le_of_ble_eq_true rfl) (rr_1 hd1) hcs dL_law_1147 (fun rx Mx hx1 => ?_)
  obtain ⟨d2, P2, hd2, h2, k2⟩ := k1 rx Mx hx1
  refine hc_aload_n C dL_law_1150 rfl rfl ?_
  refine hc_cV0i C mv_L_150 h2 rfl rfl rfl (Nat.le_of_ble_eq_true rfl) (rr_1 hd2) hcs dL_law_1151 (fun rm Mm hm1 => ?_)
  obtain ⟨he, hI2⟩ := k2 rm Mm hm1
  refine hc_icmp_eq C (tgt := 1159) dL_law_1154 (by decide) (fun c_1154 => ?_) (fun c_1154 => ?_)
  rotate_left
  · exact absurd he c_1154
  exact kk _ hI2

