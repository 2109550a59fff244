/-! THE LAW: its cases -/
set_option maxHeartbeats 4000000 in
set_option maxRecDepth 100000 in
theorem law_town {p : Program} {e : Env} {s : State} {m : MethodId} {args : Array Value} {below : List Frame} {meth : Method} {c : Code} {H : Heap} {locs : List Loc} {cells slots : Nat} {Q : State → Prop} {x : zX} {A : Nat → Prop} {ls : Array Slot} {sc L i : Nat} {xs : Nat → Int32} {b : Nat → Nat} {t : Nat → Nat → Nat} {a : Nat → Nat} {u : va_W} (C : zCx x p s m args c A sc L xs cells slots) (hi : i + 6 ≤ L) (hl : lv_has ls 4 [(3, .int (nI i)), (2, .ref (a 0)), (1, .ref (b 0)), (0, .ref sc)]) (hu : zLaw x b t a u) (hw : zHw x A s.heap u H locs) (kk : ∀ (u : va_W) (H : Heap) (locs : List Loc), zLaw x b t a u → zHw x A s.heap u H locs → W p x.1 e room_1 s m args below meth c H locs cells slots Q (F0 m 1315 ls [])) : W p x.1 e room_1 s m args below meth c H locs cells slots Q (F0 m 200 ls []) := by
  obtain ⟨hx, hb, hml, hown, hts, hK, hE, hA, hX, hcl⟩ := C
  obtain ⟨S, l0, T, l1, K, l2, tq, nn, q, g, mv, n, rfl, hI, hS, hk, h1, h2, h3⟩ := hu
  refine lv_aload_n hx hb dL_law_200 rfl (lv_at hl 2 rfl) ?_
  refine zarg 1 hx hb hX hw.S hi hl (by decide) (by decide) dL_law_201 dL_law_202 dL_law_203 dL_law_204 dL_law_205 ?_
  refine zarg 2 hx hb hX hw.S hi hl (by decide) (by decide) dL_law_206 dL_law_207 dL_law_208 dL_law_209 dL_law_210 ?_
  refine zcVL hx hb hml hown hts hl.1 hK hE hA lkL_13 (c_X5_town x b t S l0 T l1 K l2 (q 0) (g 5) (g 6) tq (g 7) (g 8) nn (xs (i + 1)) (xs (i + 2)) hI) ⟨Nat.le_of_ble_eq_true rfl, Nat.le_of_ble_eq_true rfl⟩ hcl hw 0 3 rfl rfl rfl rfl (Nat.le_of_ble_eq_true rfl) dL_law_211 (fun vv uu H locs hp hw => ?_)
  obtain ⟨rfl, l0, T, l1, rfl⟩ := hp
  refine W.eq (g2 := F0 m 214 ls [.int (zm_town S (g 5) (xs (i + 1)) (xs (i + 2))).1]) rfl ?_
  refine lv_aload_n hx hb dL_law_214 rfl (lv_at hl 1 rfl) ?_
  refine zarg 1 hx hb hX hw.S hi hl (by decide) (by decide) dL_law_215 dL_law_216 dL_law_217 dL_law_218 dL_law_219 ?_
  refine zarg 2 hx hb hX hw.S hi hl (by decide) (by decide) dL_law_220 dL_law_221 dL_law_222 dL_law_223 dL_law_224 ?_
  refine zcVR hx hb hml hown hts hl.1 hK hE hA lkL_17 (c_X6_town x a q g (zNM nn mv) S (xs (i + 1)) (xs (i + 2)) hI) ⟨Nat.le_of_ble_eq_true rfl, Nat.le_of_ble_eq_true rfl⟩ hcl hw 0 4 rfl rfl rfl rfl (Nat.le_of_ble_eq_true rfl) dL_law_225 (fun vv uu H locs hp hw => ?_)
  obtain ⟨rfl, F, rfl⟩ := hp
  refine W.eq (g2 := F0 m 228 ls [.int (zm_town S (g 5) (xs (i + 1)) (xs (i + 2))).1, .int (zm_town S (g 5) (xs (i + 1)) (xs (i + 2))).1]) rfl ?_
  refine lv_icmp_eq (tgt := 1315) hx hb dL_law_228 (by decide) (fun _ => ?_) (fun hc => absurd rfl hc)
  exact kk _ _ _ (zLaw.std (r := (zm_town S (g 5) (xs (i + 1)) (xs (i + 2)))) (zm_town_inv hI (g 5) (xs (i + 1)) (xs (i + 2))) hS hk h1 h2 h3) hw

set_option maxHeartbeats 4000000 in
set_option maxRecDepth 100000 in
theorem law_street {p : Program} {e : Env} {s : State} {m : MethodId} {args : Array Value} {below : List Frame} {meth : Method} {c : Code} {H : Heap} {locs : List Loc} {cells slots : Nat} {Q : State → Prop} {x : zX} {A : Nat → Prop} {ls : Array Slot} {sc L i : Nat} {xs : Nat → Int32} {b : Nat → Nat} {t : Nat → Nat → Nat} {a : Nat → Nat} {u : va_W} (C : zCx x p s m args c A sc L xs cells slots) (hi : i + 6 ≤ L) (hl : lv_has ls 4 [(3, .int (nI i)), (2, .ref (a 0)), (1, .ref (b 0)), (0, .ref sc)]) (hu : zLaw x b t a u) (hw : zHw x A s.heap u H locs) (kk : ∀ (u : va_W) (H : Heap) (locs : List Loc), zLaw x b t a u → zHw x A s.heap u H locs → W p x.1 e room_1 s m args below meth c H locs cells slots Q (F0 m 1315 ls [])) : W p x.1 e room_1 s m args below meth c H locs cells slots Q (F0 m 233 ls []) := by
  obtain ⟨hx, hb, hml, hown, hts, hK, hE, hA, hX, hcl⟩ := C
  obtain ⟨S, l0, T, l1, K, l2, tq, nn, q, g, mv, n, rfl, hI, hS, hk, h1, h2, h3⟩ := hu
  refine lv_aload_n hx hb dL_law_233 rfl (lv_at hl 2 rfl) ?_
  refine zarg 1 hx hb hX hw.S hi hl (by decide) (by decide) dL_law_234 dL_law_235 dL_law_236 dL_law_237 dL_law_238 ?_
  refine zarg 2 hx hb hX hw.S hi hl (by decide) (by decide) dL_law_239 dL_law_240 dL_law_241 dL_law_242 dL_law_243 ?_
  refine zarg 3 hx hb hX hw.S hi hl (by decide) (by decide) dL_law_244 dL_law_245 dL_law_246 dL_law_247 dL_law_248 ?_
  refine zcVL hx hb hml hown hts hl.1 hK hE hA lkL_18 (c_X5_street x b t S l0 T l1 K l2 (q 0) (g 5) (g 6) tq (g 7) (g 8) nn (xs (i + 1)) (xs (i + 2)) (xs (i + 3)) hI) ⟨Nat.le_of_ble_eq_true rfl, Nat.le_of_ble_eq_true rfl⟩ hcl hw 0 3 rfl rfl rfl rfl (Nat.le_of_ble_eq_true rfl) dL_law_249 (fun vv uu H locs hp hw => ?_)
  obtain ⟨rfl, l0, T, l1, rfl⟩ := hp
  refine W.eq (g2 := F0 m 252 ls [.int (zm_street S (g 5) (xs (i + 1)) (xs (i + 2)) (xs (i + 3))).1]) rfl ?_
  refine lv_aload_n hx hb dL_law_252 rfl (lv_at hl 1 rfl) ?_
  refine zarg 1 hx hb hX hw.S hi hl (by decide) (by decide) dL_law_253 dL_law_254 dL_law_255 dL_law_256 dL_law_257 ?_
  refine zarg 2 hx hb hX hw.S hi hl (by decide) (by decide) dL_law_258 dL_law_259 dL_law_260 dL_law_261 dL_law_262 ?_
  refine zarg 3 hx hb hX hw.S hi hl (by decide) (by decide) dL_law_263 dL_law_264 dL_law_265 dL_law_266 dL_law_267 ?_
  refine zcVR hx hb hml hown hts hl.1 hK hE hA lkL_22 (c_X6_street x a q g (zNM nn mv) S (xs (i + 1)) (xs (i + 2)) (xs (i + 3)) hI) ⟨Nat.le_of_ble_eq_true rfl, Nat.le_of_ble_eq_true rfl⟩ hcl hw 0 4 rfl rfl rfl rfl (Nat.le_of_ble_eq_true rfl) dL_law_268 (fun vv uu H locs hp hw => ?_)
  obtain ⟨rfl, F, rfl⟩ := hp
  refine W.eq (g2 := F0 m 271 ls [.int (zm_street S (g 5) (xs (i + 1)) (xs (i + 2)) (xs (i + 3))).1, .int (zm_street S (g 5) (xs (i + 1)) (xs (i + 2)) (xs (i + 3))).1]) rfl ?_
  refine lv_icmp_eq (tgt := 1315) hx hb dL_law_271 (by decide) (fun _ => ?_) (fun hc => absurd rfl hc)
  exact kk _ _ _ (zLaw.std (r := (zm_street S (g 5) (xs (i + 1)) (xs (i + 2)) (xs (i + 3)))) (zm_street_inv hI (g 5) (xs (i + 1)) (xs (i + 2)) (xs (i + 3))) hS hk h1 h2 h3) hw

set_option maxHeartbeats 4000000 in
set_option maxRecDepth 100000 in
theorem law_streetOf {p : Program} {e : Env} {s : State} {m : MethodId} {args : Array Value} {below : List Frame} {meth : Method} {c : Code} {H : Heap} {locs : List Loc} {cells slots : Nat} {Q : State → Prop} {x : zX} {A : Nat → Prop} {ls : Array Slot} {sc L i : Nat} {xs : Nat → Int32} {b : Nat → Nat} {t : Nat → Nat → Nat} {a : Nat → Nat} {u : va_W} (C : zCx x p s m args c A sc L xs cells slots) (hi : i + 6 ≤ L) (hl : lv_has ls 4 [(3, .int (nI i)), (2, .ref (a 0)), (1, .ref (b 0)), (0, .ref sc)]) (hu : zLaw x b t a u) (hw : zHw x A s.heap u H locs) (kk : ∀ (u : va_W) (H : Heap) (locs : List Loc), zLaw x b t a u → zHw x A s.heap u H locs → W p x.1 e room_1 s m args below meth c H locs cells slots Q (F0 m 1315 ls [])) : W p x.1 e room_1 s m args below meth c H locs cells slots Q (F0 m 276 ls []) := by
  obtain ⟨hx, hb, hml, hown, hts, hK, hE, hA, hX, hcl⟩ := C
  obtain ⟨S, l0, T, l1, K, l2, tq, nn, q, g, mv, n, rfl, hI, hS, hk, h1, h2, h3⟩ := hu
  refine lv_aload_n hx hb dL_law_276 rfl (lv_at hl 2 rfl) ?_
  refine zarg 1 hx hb hX hw.S hi hl (by decide) (by decide) dL_law_277 dL_law_278 dL_law_279 dL_law_280 dL_law_281 ?_
  refine zarg 2 hx hb hX hw.S hi hl (by decide) (by decide) dL_law_282 dL_law_283 dL_law_284 dL_law_285 dL_law_286 ?_
  refine zcVL hx hb hml hown hts hl.1 hK hE hA lkL_23 (c_X5_streetOf x b t S l0 T l1 K l2 (q 0) (g 5) (g 6) tq (g 7) (g 8) nn (xs (i + 1)) (xs (i + 2)) hI) ⟨Nat.le_of_ble_eq_true rfl, Nat.le_of_ble_eq_true rfl⟩ hcl hw 0 3 rfl rfl rfl rfl (Nat.le_of_ble_eq_true rfl) dL_law_287 (fun vv uu H locs hp hw => ?_)
  obtain ⟨rfl, l0, T, l1, rfl⟩ := hp
  refine W.eq (g2 := F0 m 290 ls [.int (zm_streetOf S (g 5) (xs (i + 1)) (xs (i + 2))).1]) rfl ?_
  refine lv_aload_n hx hb dL_law_290 rfl (lv_at hl 1 rfl) ?_
  refine zarg 1 hx hb hX hw.S hi hl (by decide) (by decide) dL_law_291 dL_law_292 dL_law_293 dL_law_294 dL_law_295 ?_
  refine zarg 2 hx hb hX hw.S hi hl (by decide) (by decide) dL_law_296 dL_law_297 dL_law_298 dL_law_299 dL_law_300 ?_
  refine zcVR hx hb hml hown hts hl.1 hK hE hA lkL_26 (c_X6_streetOf x a q g (zNM nn mv) S (xs (i + 1)) (xs (i + 2)) hI) ⟨Nat.le_of_ble_eq_true rfl, Nat.le_of_ble_eq_true rfl⟩ hcl hw 0 4 rfl rfl rfl rfl (Nat.le_of_ble_eq_true rfl) dL_law_301 (fun vv uu H locs hp hw => ?_)
  obtain ⟨rfl, F, rfl⟩ := hp
  refine W.eq (g2 := F0 m 304 ls [.int (zm_streetOf S (g 5) (xs (i + 1)) (xs (i + 2))).1, .int (zm_streetOf S (g 5) (xs (i + 1)) (xs (i + 2))).1]) rfl ?_
  refine lv_icmp_eq (tgt := 1315) hx hb dL_law_304 (by decide) (fun _ => ?_) (fun hc => absurd rfl hc)
  exact kk _ _ _ (zLaw.std (r := (zm_streetOf S (g 5) (xs (i + 1)) (xs (i + 2)))) (by rw [zm_streetOf_S]; exact hI) hS hk h1 h2 h3) hw

set_option maxHeartbeats 4000000 in
set_option maxRecDepth 100000 in
theorem law_hole {p : Program} {e : Env} {s : State} {m : MethodId} {args : Array Value} {below : List Frame} {meth : Method} {c : Code} {H : Heap} {locs : List Loc} {cells slots : Nat} {Q : State → Prop} {x : zX} {A : Nat → Prop} {ls : Array Slot} {sc L i : Nat} {xs : Nat → Int32} {b : Nat → Nat} {t : Nat → Nat → Nat} {a : Nat → Nat} {u : va_W} (C : zCx x p s m args c A sc L xs cells slots) (hi : i + 6 ≤ L) (hl : lv_has ls 4 [(3, .int (nI i)), (2, .ref (a 0)), (1, .ref (b 0)), (0, .ref sc)]) (hu : zLaw x b t a u) (hw : zHw x A s.heap u H locs) (kk : ∀ (u : va_W) (H : Heap) (locs : List Loc), zLaw x b t a u → zHw x A s.heap u H locs → W p x.1 e room_1 s m args below meth c H locs cells slots Q (F0 m 1315 ls [])) : W p x.1 e room_1 s m args below meth c H locs cells slots Q (F0 m 309 ls []) := by
  obtain ⟨hx, hb, hml, hown, hts, hK, hE, hA, hX, hcl⟩ := C
  obtain ⟨S, l0, T, l1, K, l2, tq, nn, q, g, mv, n, rfl, hI, hS, hk, h1, h2, h3⟩ := hu
  refine lv_aload_n hx hb dL_law_309 rfl (lv_at hl 2 rfl) ?_
  refine zarg 1 hx hb hX hw.S hi hl (by decide) (by decide) dL_law_310 dL_law_311 dL_law_312 dL_law_313 dL_law_314 ?_
  refine zarg 2 hx hb hX hw.S hi hl (by decide) (by decide) dL_law_315 dL_law_316 dL_law_317 dL_law_318 dL_law_319 ?_
  refine zcVL hx hb hml hown hts hl.1 hK hE hA lkL_27 (c_X5_hole x b t S l0 T l1 K l2 (q 0) (g 5) (g 6) tq (g 7) (g 8) nn (xs (i + 1)) (xs (i + 2)) hI) ⟨Nat.le_of_ble_eq_true rfl, Nat.le_of_ble_eq_true rfl⟩ hcl hw 0 3 rfl rfl rfl rfl (Nat.le_of_ble_eq_true rfl) dL_law_320 (fun vv uu H locs hp hw => ?_)
  obtain ⟨rfl, l0, T, l1, rfl⟩ := hp
  refine W.eq (g2 := F0 m 323 ls [.int (zm_hole S (g 5) (xs (i + 1)) (xs (i + 2))).1]) rfl ?_
  refine lv_aload_n hx hb dL_law_323 rfl (lv_at hl 1 rfl) ?_
  refine zarg 1 hx hb hX hw.S hi hl (by decide) (by decide) dL_law_324 dL_law_325 dL_law_326 dL_law_327 dL_law_328 ?_
  refine zarg 2 hx hb hX hw.S hi hl (by decide) (by decide) dL_law_329 dL_law_330 dL_law_331 dL_law_332 dL_law_333 ?_
  refine zcVR hx hb hml hown hts hl.1 hK hE hA lkL_30 (c_X6_hole x a q g (zNM nn mv) S (xs (i + 1)) (xs (i + 2)) hI) ⟨Nat.le_of_ble_eq_true rfl, Nat.le_of_ble_eq_true rfl⟩ hcl hw 0 4 rfl rfl rfl rfl (Nat.le_of_ble_eq_true rfl) dL_law_334 (fun vv uu H locs hp hw => ?_)
  obtain ⟨rfl, F, rfl⟩ := hp
  refine W.eq (g2 := F0 m 337 ls [.int (zm_hole S (g 5) (xs (i + 1)) (xs (i + 2))).1, .int (zm_hole S (g 5) (xs (i + 1)) (xs (i + 2))).1]) rfl ?_
  refine lv_icmp_eq (tgt := 1315) hx hb dL_law_337 (by decide) (fun _ => ?_) (fun hc => absurd rfl hc)
  exact kk _ _ _ (zLaw.std (r := (zm_hole S (g 5) (xs (i + 1)) (xs (i + 2)))) (zm_hole_inv hI (g 5) (xs (i + 1)) (xs (i + 2))) hS hk h1 h2 h3) hw

set_option maxHeartbeats 4000000 in
set_option maxRecDepth 100000 in
theorem law_of {p : Program} {e : Env} {s : State} {m : MethodId} {args : Array Value} {below : List Frame} {meth : Method} {c : Code} {H : Heap} {locs : List Loc} {cells slots : Nat} {Q : State → Prop} {x : zX} {A : Nat → Prop} {ls : Array Slot} {sc L i : Nat} {xs : Nat → Int32} {b : Nat → Nat} {t : Nat → Nat → Nat} {a : Nat → Nat} {u : va_W} (C : zCx x p s m args c A sc L xs cells slots) (hi : i + 6 ≤ L) (hl : lv_has ls 4 [(3, .int (nI i)), (2, .ref (a 0)), (1, .ref (b 0)), (0, .ref sc)]) (hu : zLaw x b t a u) (hw : zHw x A s.heap u H locs) (kk : ∀ (u : va_W) (H : Heap) (locs : List Loc), zLaw x b t a u → zHw x A s.heap u H locs → W p x.1 e room_1 s m args below meth c H locs cells slots Q (F0 m 1315 ls [])) : W p x.1 e room_1 s m args below meth c H locs cells slots Q (F0 m 342 ls []) := by
  obtain ⟨hx, hb, hml, hown, hts, hK, hE, hA, hX, hcl⟩ := C
  obtain ⟨S, l0, T, l1, K, l2, tq, nn, q, g, mv, n, rfl, hI, hS, hk, h1, h2, h3⟩ := hu
  refine lv_aload_n hx hb dL_law_342 rfl (lv_at hl 2 rfl) ?_
  refine zarg 1 hx hb hX hw.S hi hl (by decide) (by decide) dL_law_343 dL_law_344 dL_law_345 dL_law_346 dL_law_347 ?_
  refine zarg 2 hx hb hX hw.S hi hl (by decide) (by decide) dL_law_348 dL_law_349 dL_law_350 dL_law_351 dL_law_352 ?_
  refine zcVL hx hb hml hown hts hl.1 hK hE hA lkL_31 (c_X5_of x b t S l0 T l1 K l2 (q 0) (g 5) (g 6) tq (g 7) (g 8) nn (xs (i + 1)) (xs (i + 2)) hI) ⟨Nat.le_of_ble_eq_true rfl, Nat.le_of_ble_eq_true rfl⟩ hcl hw 0 3 rfl rfl rfl rfl (Nat.le_of_ble_eq_true rfl) dL_law_353 (fun vv uu H locs hp hw => ?_)
  obtain ⟨rfl, l0, T, l1, rfl⟩ := hp
  refine W.eq (g2 := F0 m 356 ls [.int (zm_of S (g 5) (xs (i + 1)) (xs (i + 2))).1]) rfl ?_
  refine lv_aload_n hx hb dL_law_356 rfl (lv_at hl 1 rfl) ?_
  refine zarg 1 hx hb hX hw.S hi hl (by decide) (by decide) dL_law_357 dL_law_358 dL_law_359 dL_law_360 dL_law_361 ?_
  refine zarg 2 hx hb hX hw.S hi hl (by decide) (by decide) dL_law_362 dL_law_363 dL_law_364 dL_law_365 dL_law_366 ?_
  refine zcVR hx hb hml hown hts hl.1 hK hE hA lkL_34 (c_X6_of x a q g (zNM nn mv) S (xs (i + 1)) (xs (i + 2)) hI) ⟨Nat.le_of_ble_eq_true rfl, Nat.le_of_ble_eq_true rfl⟩ hcl hw 0 4 rfl rfl rfl rfl (Nat.le_of_ble_eq_true rfl) dL_law_367 (fun vv uu H locs hp hw => ?_)
  obtain ⟨rfl, F, rfl⟩ := hp
  refine W.eq (g2 := F0 m 370 ls [.int (zm_of S (g 5) (xs (i + 1)) (xs (i + 2))).1, .int (zm_of S (g 5) (xs (i + 1)) (xs (i + 2))).1]) rfl ?_
  refine lv_icmp_eq (tgt := 1315) hx hb dL_law_370 (by decide) (fun _ => ?_) (fun hc => absurd rfl hc)
  exact kk _ _ _ (zLaw.std (r := (zm_of S (g 5) (xs (i + 1)) (xs (i + 2)))) (by rw [zm_of_S]; exact hI) hS hk h1 h2 h3) hw

set_option maxHeartbeats 4000000 in
set_option maxRecDepth 100000 in
theorem law_set {p : Program} {e : Env} {s : State} {m : MethodId} {args : Array Value} {below : List Frame} {meth : Method} {c : Code} {H : Heap} {locs : List Loc} {cells slots : Nat} {Q : State → Prop} {x : zX} {A : Nat → Prop} {ls : Array Slot} {sc L i : Nat} {xs : Nat → Int32} {b : Nat → Nat} {t : Nat → Nat → Nat} {a : Nat → Nat} {u : va_W} (C : zCx x p s m args c A sc L xs cells slots) (hi : i + 6 ≤ L) (hl : lv_has ls 4 [(3, .int (nI i)), (2, .ref (a 0)), (1, .ref (b 0)), (0, .ref sc)]) (hu : zLaw x b t a u) (hw : zHw x A s.heap u H locs) (kk : ∀ (u : va_W) (H : Heap) (locs : List Loc), zLaw x b t a u → zHw x A s.heap u H locs → W p x.1 e room_1 s m args below meth c H locs cells slots Q (F0 m 1315 ls [])) : W p x.1 e room_1 s m args below meth c H locs cells slots Q (F0 m 375 ls []) := by
  obtain ⟨hx, hb, hml, hown, hts, hK, hE, hA, hX, hcl⟩ := C
  obtain ⟨S, l0, T, l1, K, l2, tq, nn, q, g, mv, n, rfl, hI, hS, hk, h1, h2, h3⟩ := hu
  refine lv_aload_n hx hb dL_law_375 rfl (lv_at hl 2 rfl) ?_
  refine zarg 1 hx hb hX hw.S hi hl (by decide) (by decide) dL_law_376 dL_law_377 dL_law_378 dL_law_379 dL_law_380 ?_
  refine zarg 2 hx hb hX hw.S hi hl (by decide) (by decide) dL_law_381 dL_law_382 dL_law_383 dL_law_384 dL_law_385 ?_
  refine zarg 3 hx hb hX hw.S hi hl (by decide) (by decide) dL_law_386 dL_law_387 dL_law_388 dL_law_389 dL_law_390 ?_
  refine zcVL hx hb hml hown hts hl.1 hK hE hA lkL_35 (c_X5_set x b t S l0 T l1 K l2 (q 0) (g 5) (g 6) tq (g 7) (g 8) nn (xs (i + 1)) (xs (i + 2)) (xs (i + 3)) hI) ⟨Nat.le_of_ble_eq_true rfl, Nat.le_of_ble_eq_true rfl⟩ hcl hw 0 3 rfl rfl rfl rfl (Nat.le_of_ble_eq_true rfl) dL_law_391 (fun vv uu H locs hp hw => ?_)
  obtain ⟨rfl, l0, T, l1, rfl⟩ := hp
  refine W.eq (g2 := F0 m 394 ls [.int (zm_set S (g 5) (xs (i + 1)) (xs (i + 2)) (xs (i + 3))).1]) rfl ?_
  refine lv_aload_n hx hb dL_law_394 rfl (lv_at hl 1 rfl) ?_
  refine zarg 1 hx hb hX hw.S hi hl (by decide) (by decide) dL_law_395 dL_law_396 dL_law_397 dL_law_398 dL_law_399 ?_
  refine zarg 2 hx hb hX hw.S hi hl (by decide) (by decide) dL_law_400 dL_law_401 dL_law_402 dL_law_403 dL_law_404 ?_
  refine zarg 3 hx hb hX hw.S hi hl (by decide) (by decide) dL_law_405 dL_law_406 dL_law_407 dL_law_408 dL_law_409 ?_
  refine zcVR hx hb hml hown hts hl.1 hK hE hA lkL_38 (c_X6_set x a q g (zNM nn mv) S (xs (i + 1)) (xs (i + 2)) (xs (i + 3)) hI) ⟨Nat.le_of_ble_eq_true rfl, Nat.le_of_ble_eq_true rfl⟩ hcl hw 0 4 rfl rfl rfl rfl (Nat.le_of_ble_eq_true rfl) dL_law_410 (fun vv uu H locs hp hw => ?_)
  obtain ⟨rfl, F, rfl⟩ := hp
  refine W.eq (g2 := F0 m 413 ls [.int (zm_set S (g 5) (xs (i + 1)) (xs (i + 2)) (xs (i + 3))).1, .int (zm_set S (g 5) (xs (i + 1)) (xs (i + 2)) (xs (i + 3))).1]) rfl ?_
  refine lv_icmp_eq (tgt := 1315) hx hb dL_law_413 (by decide) (fun _ => ?_) (fun hc => absurd rfl hc)
  exact kk _ _ _ (zLaw.std (r := (zm_set S (g 5) (xs (i + 1)) (xs (i + 2)) (xs (i + 3)))) (zm_set_inv hI (g 5) (xs (i + 1)) (xs (i + 2)) (xs (i + 3))) hS hk h1 h2 h3) hw

set_option maxHeartbeats 4000000 in
set_option maxRecDepth 100000 in
theorem law_turn {p : Program} {e : Env} {s : State} {m : MethodId} {args : Array Value} {below : List Frame} {meth : Method} {c : Code} {H : Heap} {locs : List Loc} {cells slots : Nat} {Q : State → Prop} {x : zX} {A : Nat → Prop} {ls : Array Slot} {sc L i : Nat} {xs : Nat → Int32} {b : Nat → Nat} {t : Nat → Nat → Nat} {a : Nat → Nat} {u : va_W} (C : zCx x p s m args c A sc L xs cells slots) (hi : i + 6 ≤ L) (hl : lv_has ls 4 [(3, .int (nI i)), (2, .ref (a 0)), (1, .ref (b 0)), (0, .ref sc)]) (hu : zLaw x b t a u) (hw : zHw x A s.heap u H locs) (kk : ∀ (u : va_W) (H : Heap) (locs : List Loc), zLaw x b t a u → zHw x A s.heap u H locs → W p x.1 e room_1 s m args below meth c H locs cells slots Q (F0 m 1315 ls [])) : W p x.1 e room_1 s m args below meth c H locs cells slots Q (F0 m 418 ls []) := by
  obtain ⟨hx, hb, hml, hown, hts, hK, hE, hA, hX, hcl⟩ := C
  obtain ⟨S, l0, T, l1, K, l2, tq, nn, q, g, mv, n, rfl, hI, hS, hk, h1, h2, h3⟩ := hu
  refine lv_aload_n hx hb dL_law_418 rfl (lv_at hl 2 rfl) ?_
  refine zarg 1 hx hb hX hw.S hi hl (by decide) (by decide) dL_law_419 dL_law_420 dL_law_421 dL_law_422 dL_law_423 ?_
  refine zarg 2 hx hb hX hw.S hi hl (by decide) (by decide) dL_law_424 dL_law_425 dL_law_426 dL_law_427 dL_law_428 ?_
  refine zcVL hx hb hml hown hts hl.1 hK hE hA lkL_39 (c_X5_turn x b t S l0 T l1 K l2 (q 0) (g 5) (g 6) tq (g 7) (g 8) nn (xs (i + 1)) (xs (i + 2)) hI) ⟨Nat.le_of_ble_eq_true rfl, Nat.le_of_ble_eq_true rfl⟩ hcl hw 0 3 rfl rfl rfl rfl (Nat.le_of_ble_eq_true rfl) dL_law_429 (fun vv uu H locs hp hw => ?_)
  obtain ⟨rfl, l0, T, l1, rfl⟩ := hp
  refine W.eq (g2 := F0 m 432 ls [.int (zm_turn S (g 5) (xs (i + 1)) (xs (i + 2))).1]) rfl ?_
  refine lv_aload_n hx hb dL_law_432 rfl (lv_at hl 1 rfl) ?_
  refine zarg 1 hx hb hX hw.S hi hl (by decide) (by decide) dL_law_433 dL_law_434 dL_law_435 dL_law_436 dL_law_437 ?_
  refine zarg 2 hx hb hX hw.S hi hl (by decide) (by decide) dL_law_438 dL_law_439 dL_law_440 dL_law_441 dL_law_442 ?_
  refine zcVR hx hb hml hown hts hl.1 hK hE hA lkL_42 (c_X6_turn x a q g (zNM nn mv) S (xs (i + 1)) (xs (i + 2)) hI) ⟨Nat.le_of_ble_eq_true rfl, Nat.le_of_ble_eq_true rfl⟩ hcl hw 0 4 rfl rfl rfl rfl (Nat.le_of_ble_eq_true rfl) dL_law_443 (fun vv uu H locs hp hw => ?_)
  obtain ⟨rfl, F, rfl⟩ := hp
  refine W.eq (g2 := F0 m 446 ls [.int (zm_turn S (g 5) (xs (i + 1)) (xs (i + 2))).1, .int (zm_turn S (g 5) (xs (i + 1)) (xs (i + 2))).1]) rfl ?_
  refine lv_icmp_eq (tgt := 1315) hx hb dL_law_446 (by decide) (fun _ => ?_) (fun hc => absurd rfl hc)
  exact kk _ _ _ (zLaw.std (r := (zm_turn S (g 5) (xs (i + 1)) (xs (i + 2)))) (zm_turn_inv hI (g 5) (xs (i + 1)) (xs (i + 2))) hS hk h1 h2 h3) hw

set_option maxHeartbeats 4000000 in
set_option maxRecDepth 100000 in
theorem law_as {p : Program} {e : Env} {s : State} {m : MethodId} {args : Array Value} {below : List Frame} {meth : Method} {c : Code} {H : Heap} {locs : List Loc} {cells slots : Nat} {Q : State → Prop} {x : zX} {A : Nat → Prop} {ls : Array Slot} {sc L i : Nat} {xs : Nat → Int32} {b : Nat → Nat} {t : Nat → Nat → Nat} {a : Nat → Nat} {u : va_W} (C : zCx x p s m args c A sc L xs cells slots) (hi : i + 6 ≤ L) (hl : lv_has ls 4 [(3, .int (nI i)), (2, .ref (a 0)), (1, .ref (b 0)), (0, .ref sc)]) (hu : zLaw x b t a u) (hw : zHw x A s.heap u H locs) (kk : ∀ (u : va_W) (H : Heap) (locs : List Loc), zLaw x b t a u → zHw x A s.heap u H locs → W p x.1 e room_1 s m args below meth c H locs cells slots Q (F0 m 1315 ls [])) : W p x.1 e room_1 s m args below meth c H locs cells slots Q (F0 m 451 ls []) := by
  obtain ⟨hx, hb, hml, hown, hts, hK, hE, hA, hX, hcl⟩ := C
  obtain ⟨S, l0, T, l1, K, l2, tq, nn, q, g, mv, n, rfl, hI, hS, hk, h1, h2, h3⟩ := hu
  refine lv_aload_n hx hb dL_law_451 rfl (lv_at hl 2 rfl) ?_
  refine zarg 1 hx hb hX hw.S hi hl (by decide) (by decide) dL_law_452 dL_law_453 dL_law_454 dL_law_455 dL_law_456 ?_
  refine zarg 2 hx hb hX hw.S hi hl (by decide) (by decide) dL_law_457 dL_law_458 dL_law_459 dL_law_460 dL_law_461 ?_
  refine zcVL hx hb hml hown hts hl.1 hK hE hA lkL_43 (c_X5_as x b t S l0 T l1 K l2 (q 0) (g 5) (g 6) tq (g 7) (g 8) nn (xs (i + 1)) (xs (i + 2)) hI) ⟨Nat.le_of_ble_eq_true rfl, Nat.le_of_ble_eq_true rfl⟩ hcl hw 0 3 rfl rfl rfl rfl (Nat.le_of_ble_eq_true rfl) dL_law_462 (fun vv uu H locs hp hw => ?_)
  obtain ⟨rfl, l0, T, l1, rfl⟩ := hp
  refine W.eq (g2 := F0 m 465 ls [.int (zm_as S (g 5) (xs (i + 1)) (xs (i + 2))).1]) rfl ?_
  refine lv_aload_n hx hb dL_law_465 rfl (lv_at hl 1 rfl) ?_
  refine zarg 1 hx hb hX hw.S hi hl (by decide) (by decide) dL_law_466 dL_law_467 dL_law_468 dL_law_469 dL_law_470 ?_
  refine zarg 2 hx hb hX hw.S hi hl (by decide) (by decide) dL_law_471 dL_law_472 dL_law_473 dL_law_474 dL_law_475 ?_
  refine zcVR hx hb hml hown hts hl.1 hK hE hA lkL_46 (c_X6_as x a q g (zNM nn mv) S (xs (i + 1)) (xs (i + 2)) hI) ⟨Nat.le_of_ble_eq_true rfl, Nat.le_of_ble_eq_true rfl⟩ hcl hw 0 4 rfl rfl rfl rfl (Nat.le_of_ble_eq_true rfl) dL_law_476 (fun vv uu H locs hp hw => ?_)
  obtain ⟨rfl, F, rfl⟩ := hp
  refine W.eq (g2 := F0 m 479 ls [.int (zm_as S (g 5) (xs (i + 1)) (xs (i + 2))).1, .int (zm_as S (g 5) (xs (i + 1)) (xs (i + 2))).1]) rfl ?_
  refine lv_icmp_eq (tgt := 1315) hx hb dL_law_479 (by decide) (fun _ => ?_) (fun hc => absurd rfl hc)
  exact kk _ _ _ (zLaw.std (r := (zm_as S (g 5) (xs (i + 1)) (xs (i + 2)))) (by rw [zm_as_S]; exact hI) hS hk h1 h2 h3) hw

set_option maxHeartbeats 4000000 in
set_option maxRecDepth 100000 in
theorem law_fill {p : Program} {e : Env} {s : State} {m : MethodId} {args : Array Value} {below : List Frame} {meth : Method} {c : Code} {H : Heap} {locs : List Loc} {cells slots : Nat} {Q : State → Prop} {x : zX} {A : Nat → Prop} {ls : Array Slot} {sc L i : Nat} {xs : Nat → Int32} {b : Nat → Nat} {t : Nat → Nat → Nat} {a : Nat → Nat} {u : va_W} (C : zCx x p s m args c A sc L xs cells slots) (hi : i + 6 ≤ L) (hl : lv_has ls 4 [(3, .int (nI i)), (2, .ref (a 0)), (1, .ref (b 0)), (0, .ref sc)]) (hu : zLaw x b t a u) (hw : zHw x A s.heap u H locs) (kk : ∀ (u : va_W) (H : Heap) (locs : List Loc), zLaw x b t a u → zHw x A s.heap u H locs → W p x.1 e room_1 s m args below meth c H locs cells slots Q (F0 m 1315 ls [])) : W p x.1 e room_1 s m args below meth c H locs cells slots Q (F0 m 484 ls []) := by
  obtain ⟨hx, hb, hml, hown, hts, hK, hE, hA, hX, hcl⟩ := C
  obtain ⟨S, l0, T, l1, K, l2, tq, nn, q, g, mv, n, rfl, hI, hS, hk, h1, h2, h3⟩ := hu
  refine lv_aload_n hx hb dL_law_484 rfl (lv_at hl 2 rfl) ?_
  refine zarg 1 hx hb hX hw.S hi hl (by decide) (by decide) dL_law_485 dL_law_486 dL_law_487 dL_law_488 dL_law_489 ?_
  refine zarg 2 hx hb hX hw.S hi hl (by decide) (by decide) dL_law_490 dL_law_491 dL_law_492 dL_law_493 dL_law_494 ?_
  refine zcVL hx hb hml hown hts hl.1 hK hE hA lkL_47 (c_X5_fill x b t S l0 T l1 K l2 (q 0) (g 5) (g 6) tq (g 7) (g 8) nn (xs (i + 1)) (xs (i + 2)) hI) ⟨Nat.le_of_ble_eq_true rfl, Nat.le_of_ble_eq_true rfl⟩ hcl hw 0 3 rfl rfl rfl rfl (Nat.le_of_ble_eq_true rfl) dL_law_495 (fun vv uu H locs hp hw => ?_)
  obtain ⟨rfl, l0, T, l1, rfl⟩ := hp
  refine W.eq (g2 := F0 m 498 ls [.int (zm_fill S (g 5) (xs (i + 1)) (xs (i + 2))).1]) rfl ?_
  refine lv_aload_n hx hb dL_law_498 rfl (lv_at hl 1 rfl) ?_
  refine zarg 1 hx hb hX hw.S hi hl (by decide) (by decide) dL_law_499 dL_law_500 dL_law_501 dL_law_502 dL_law_503 ?_
  refine zarg 2 hx hb hX hw.S hi hl (by decide) (by decide) dL_law_504 dL_law_505 dL_law_506 dL_law_507 dL_law_508 ?_
  refine zcVR hx hb hml hown hts hl.1 hK hE hA lkL_50 (c_X6_fill x a q g (zNM nn mv) S (xs (i + 1)) (xs (i + 2)) hI) ⟨Nat.le_of_ble_eq_true rfl, Nat.le_of_ble_eq_true rfl⟩ hcl hw 0 4 rfl rfl rfl rfl (Nat.le_of_ble_eq_true rfl) dL_law_509 (fun vv uu H locs hp hw => ?_)
  obtain ⟨rfl, F, rfl⟩ := hp
  refine W.eq (g2 := F0 m 512 ls [.int (zm_fill S (g 5) (xs (i + 1)) (xs (i + 2))).1, .int (zm_fill S (g 5) (xs (i + 1)) (xs (i + 2))).1]) rfl ?_
  refine lv_icmp_eq (tgt := 1315) hx hb dL_law_512 (by decide) (fun _ => ?_) (fun hc => absurd rfl hc)
  exact kk _ _ _ (zLaw.std (r := (zm_fill S (g 5) (xs (i + 1)) (xs (i + 2)))) (zm_fill_inv hI (g 5) (xs (i + 1)) (xs (i + 2))) hS hk h1 h2 h3) hw

set_option maxHeartbeats 4000000 in
set_option maxRecDepth 100000 in
theorem law_next {p : Program} {e : Env} {s : State} {m : MethodId} {args : Array Value} {below : List Frame} {meth : Method} {c : Code} {H : Heap} {locs : List Loc} {cells slots : Nat} {Q : State → Prop} {x : zX} {A : Nat → Prop} {ls : Array Slot} {sc L i : Nat} {xs : Nat → Int32} {b : Nat → Nat} {t : Nat → Nat → Nat} {a : Nat → Nat} {u : va_W} (C : zCx x p s m args c A sc L xs cells slots) (hi : i + 6 ≤ L) (hl : lv_has ls 4 [(3, .int (nI i)), (2, .ref (a 0)), (1, .ref (b 0)), (0, .ref sc)]) (hu : zLaw x b t a u) (hw : zHw x A s.heap u H locs) (kk : ∀ (u : va_W) (H : Heap) (locs : List Loc), zLaw x b t a u → zHw x A s.heap u H locs → W p x.1 e room_1 s m args below meth c H locs cells slots Q (F0 m 1315 ls [])) : W p x.1 e room_1 s m args below meth c H locs cells slots Q (F0 m 517 ls []) := by
  obtain ⟨hx, hb, hml, hown, hts, hK, hE, hA, hX, hcl⟩ := C
  obtain ⟨S, l0, T, l1, K, l2, tq, nn, q, g, mv, n, rfl, hI, hS, hk, h1, h2, h3⟩ := hu
  refine lv_aload_n hx hb dL_law_517 rfl (lv_at hl 2 rfl) ?_
  refine zcVL hx hb hml hown hts hl.1 hK hE hA lkL_51 (c_X5_next x b t S l0 T l1 K l2 (q 0) (g 5) (g 6) tq (g 7) (g 8) nn  hI) ⟨Nat.le_of_ble_eq_true rfl, Nat.le_of_ble_eq_true rfl⟩ hcl hw 0 3 rfl rfl rfl rfl (Nat.le_of_ble_eq_true rfl) dL_law_518 (fun vv uu H locs hp hw => ?_)
  obtain ⟨rfl, l0, T, l1, rfl⟩ := hp
  refine W.eq (g2 := F0 m 521 ls [.int (zm_next S (g 5) ).1]) rfl ?_
  refine lv_aload_n hx hb dL_law_521 rfl (lv_at hl 1 rfl) ?_
  refine zcVR hx hb hml hown hts hl.1 hK hE hA lkL_55 (c_X6_next x a q g (zNM nn mv) S  hI) ⟨Nat.le_of_ble_eq_true rfl, Nat.le_of_ble_eq_true rfl⟩ hcl hw 0 4 rfl rfl rfl rfl (Nat.le_of_ble_eq_true rfl) dL_law_522 (fun vv uu H locs hp hw => ?_)
  obtain ⟨rfl, F, rfl⟩ := hp
  refine W.eq (g2 := F0 m 525 ls [.int (zm_next S (g 5) ).1, .int (zm_next S (g 5) ).1]) rfl ?_
  refine lv_icmp_eq (tgt := 1315) hx hb dL_law_525 (by decide) (fun _ => ?_) (fun hc => absurd rfl hc)
  exact kk _ _ _ (zLaw.std (r := (zm_next S (g 5) )) (by rw [zm_next_S]; exact hI) hS hk h1 h2 h3) hw

set_option maxHeartbeats 4000000 in
set_option maxRecDepth 100000 in
theorem law_weeks {p : Program} {e : Env} {s : State} {m : MethodId} {args : Array Value} {below : List Frame} {meth : Method} {c : Code} {H : Heap} {locs : List Loc} {cells slots : Nat} {Q : State → Prop} {x : zX} {A : Nat → Prop} {ls : Array Slot} {sc L i : Nat} {xs : Nat → Int32} {b : Nat → Nat} {t : Nat → Nat → Nat} {a : Nat → Nat} {u : va_W} (C : zCx x p s m args c A sc L xs cells slots) (hi : i + 6 ≤ L) (hl : lv_has ls 4 [(3, .int (nI i)), (2, .ref (a 0)), (1, .ref (b 0)), (0, .ref sc)]) (hu : zLaw x b t a u) (hw : zHw x A s.heap u H locs) (kk : ∀ (u : va_W) (H : Heap) (locs : List Loc), zLaw x b t a u → zHw x A s.heap u H locs → W p x.1 e room_1 s m args below meth c H locs cells slots Q (F0 m 1315 ls [])) : W p x.1 e room_1 s m args below meth c H locs cells slots Q (F0 m 530 ls []) := by
  obtain ⟨hx, hb, hml, hown, hts, hK, hE, hA, hX, hcl⟩ := C
  obtain ⟨S, l0, T, l1, K, l2, tq, nn, q, g, mv, n, rfl, hI, hS, hk, h1, h2, h3⟩ := hu
  refine lv_aload_n hx hb dL_law_530 rfl (lv_at hl 2 rfl) ?_
  refine zarg 1 hx hb hX hw.S hi hl (by decide) (by decide) dL_law_531 dL_law_532 dL_law_533 dL_law_534 dL_law_535 ?_
  refine zcVL hx hb hml hown hts hl.1 hK hE hA lkL_56 (c_X5_weeks x b t S l0 T l1 K l2 (q 0) (g 5) (g 6) tq (g 7) (g 8) nn (xs (i + 1)) hI) ⟨Nat.le_of_ble_eq_true rfl, Nat.le_of_ble_eq_true rfl⟩ hcl hw 0 3 rfl rfl rfl rfl (Nat.le_of_ble_eq_true rfl) dL_law_536 (fun vv uu H locs hp hw => ?_)
  obtain ⟨rfl, l0, T, l1, rfl⟩ := hp
  refine W.eq (g2 := F0 m 539 ls [.int (zm_weeks S (g 5) (xs (i + 1))).1]) rfl ?_
  refine lv_aload_n hx hb dL_law_539 rfl (lv_at hl 1 rfl) ?_
  refine zarg 1 hx hb hX hw.S hi hl (by decide) (by decide) dL_law_540 dL_law_541 dL_law_542 dL_law_543 dL_law_544 ?_
  refine zcVR hx hb hml hown hts hl.1 hK hE hA lkL_60 (c_X6_weeks x a q g (zNM nn mv) S (xs (i + 1)) hI) ⟨Nat.le_of_ble_eq_true rfl, Nat.le_of_ble_eq_true rfl⟩ hcl hw 0 4 rfl rfl rfl rfl (Nat.le_of_ble_eq_true rfl) dL_law_545 (fun vv uu H locs hp hw => ?_)
  obtain ⟨rfl, F, rfl⟩ := hp
  refine W.eq (g2 := F0 m 548 ls [.int (zm_weeks S (g 5) (xs (i + 1))).1, .int (zm_weeks S (g 5) (xs (i + 1))).1]) rfl ?_
  refine lv_icmp_eq (tgt := 1315) hx hb dL_law_548 (by decide) (fun _ => ?_) (fun hc => absurd rfl hc)
  exact kk _ _ _ (zLaw.std (r := (zm_weeks S (g 5) (xs (i + 1)))) (zm_weeks_inv hI (g 5) (xs (i + 1))) hS hk h1 h2 h3) hw

set_option maxHeartbeats 4000000 in
set_option maxRecDepth 100000 in
theorem law_now {p : Program} {e : Env} {s : State} {m : MethodId} {args : Array Value} {below : List Frame} {meth : Method} {c : Code} {H : Heap} {locs : List Loc} {cells slots : Nat} {Q : State → Prop} {x : zX} {A : Nat → Prop} {ls : Array Slot} {sc L i : Nat} {xs : Nat → Int32} {b : Nat → Nat} {t : Nat → Nat → Nat} {a : Nat → Nat} {u : va_W} (C : zCx x p s m args c A sc L xs cells slots) (hi : i + 6 ≤ L) (hl : lv_has ls 4 [(3, .int (nI i)), (2, .ref (a 0)), (1, .ref (b 0)), (0, .ref sc)]) (hu : zLaw x b t a u) (hw : zHw x A s.heap u H locs) (kk : ∀ (u : va_W) (H : Heap) (locs : List Loc), zLaw x b t a u → zHw x A s.heap u H locs → W p x.1 e room_1 s m args below meth c H locs cells slots Q (F0 m 1315 ls [])) : W p x.1 e room_1 s m args below meth c H locs cells slots Q (F0 m 553 ls []) := by
  obtain ⟨hx, hb, hml, hown, hts, hK, hE, hA, hX, hcl⟩ := C
  obtain ⟨S, l0, T, l1, K, l2, tq, nn, q, g, mv, n, rfl, hI, hS, hk, h1, h2, h3⟩ := hu
  refine lv_aload_n hx hb dL_law_553 rfl (lv_at hl 2 rfl) ?_
  refine zarg 1 hx hb hX hw.S hi hl (by decide) (by decide) dL_law_554 dL_law_555 dL_law_556 dL_law_557 dL_law_558 ?_
  refine zcVL hx hb hml hown hts hl.1 hK hE hA lkL_61 (c_X5_now x b t S l0 T l1 K l2 (q 0) (g 5) (g 6) tq (g 7) (g 8) nn (xs (i + 1)) hI) ⟨Nat.le_of_ble_eq_true rfl, Nat.le_of_ble_eq_true rfl⟩ hcl hw 0 3 rfl rfl rfl rfl (Nat.le_of_ble_eq_true rfl) dL_law_559 (fun vv uu H locs hp hw => ?_)
  obtain ⟨rfl, l0, T, l1, rfl⟩ := hp
  refine W.eq (g2 := F0 m 562 ls [.int (zm_now S (g 5) (xs (i + 1))).1]) rfl ?_
  refine lv_aload_n hx hb dL_law_562 rfl (lv_at hl 1 rfl) ?_
  refine zarg 1 hx hb hX hw.S hi hl (by decide) (by decide) dL_law_563 dL_law_564 dL_law_565 dL_law_566 dL_law_567 ?_
  refine zcVR hx hb hml hown hts hl.1 hK hE hA lkL_64 (c_X6_now x a q g (zNM nn mv) S (xs (i + 1)) hI) ⟨Nat.le_of_ble_eq_true rfl, Nat.le_of_ble_eq_true rfl⟩ hcl hw 0 4 rfl rfl rfl rfl (Nat.le_of_ble_eq_true rfl) dL_law_568 (fun vv uu H locs hp hw => ?_)
  obtain ⟨rfl, F, rfl⟩ := hp
  refine W.eq (g2 := F0 m 571 ls [.int (zm_now S (g 5) (xs (i + 1))).1, .int (zm_now S (g 5) (xs (i + 1))).1]) rfl ?_
  refine lv_icmp_eq (tgt := 1315) hx hb dL_law_571 (by decide) (fun _ => ?_) (fun hc => absurd rfl hc)
  exact kk _ _ _ (zLaw.std (r := (zm_now S (g 5) (xs (i + 1)))) (by rw [zm_now_S]; exact hI) hS hk h1 h2 h3) hw
