/-! the law's calls, one by one -/
section LAWC
set_option maxHeartbeats 2000000 in
set_option maxRecDepth 20000 in
theorem lc_addServer {p : Program} {l : Launch} {e : Env} {s : State} {m : MethodId} {below : List Frame} {meth : Method} {c : Code} {D : va_G} {K : Nat → ClassId} {NL : List Nat} {ad : Nat → Nat} {b N cells slots n : Nat} {xs : Nat → Int32} {Q : State → Prop} {G : fM} {x : fX} (hX : Lx p l s m c D K NL ad b N xs) (hR : RelA n NL G) (hi : 3 * n + 2 < N) (hc : cells + 40 ≤ 601024) (hs : slots + 4000 ≤ 7293034) (kk : KK p l e s m below meth c D K b N xs cells slots Q n) : WL p l e s m below meth c D K NL ad b cells slots Q G x 160 (lL b ad (3 * n)) [] := by
  have hn : n < 512 := by have := hX.2.2.2.2.2; omega
  have hm : f_EM NL := hR.1.2.2.2.2.2.1
  have h320 : 320 ∈ NL := hR.1.2.2.2.1
  have h321 : 321 ∈ NL := hR.1.2.2.2.2.1
  obtain ⟨k, G1, x1, v, G2, hH, hM, hk, hv, hR2⟩ := st_addServer (l := l) (D := D) (K := K) (ad := ad) (x := x) hX.2.1.1 hR hn (xs (3 * n + 1)) (xs (3 * n + 2))
  refine fk_aload_n hX.1 dL_law_160 rfl rfl ?_
  refine fl_arg (k := 1) hX rfl rfl rfl (by omega) dL_law_161 dL_law_162 dL_law_164 dL_law_165 dL_law_166 ?_
  refine fl_arg (k := 2) hX rfl rfl rfl (by omega) dL_law_167 dL_law_168 dL_law_170 dL_law_171 dL_law_172 ?_
  refine fk_aload_n hX.1 dL_law_173 rfl rfl ?_
  refine fl_callH (nA := 4) hX hH gL_law_L_addServer rfl (by decide +kernel) (Nat.le_of_ble_eq_true rfl) rfl rfl (Nat.le_of_ble_eq_true rfl) dL_law_174 (by omega) (by omega) ?_
  refine fk_istore hX.1 dL_law_177 (by decide) rfl ?_
  refine fk_aload_n hX.1 dL_law_179 rfl rfl ?_
  refine fl_arg (k := 1) hX rfl rfl rfl (by omega) dL_law_180 dL_law_181 dL_law_183 dL_law_184 dL_law_185 ?_
  refine fl_arg (k := 2) hX rfl rfl rfl (by omega) dL_law_186 dL_law_187 dL_law_189 dL_law_190 dL_law_191 ?_
  refine fl_callV (nA := 2) hX hM hm.1 (f_E310 _ _ _ _ _) rfl gL_law_X6_addServer rfl (by decide +kernel) (Nat.le_of_ble_eq_true rfl) rfl rfl (Nat.le_of_ble_eq_true rfl) dL_law_192 (by omega) (by omega) ?_
  refine fk_istore hX.1 dL_law_195 (by decide) rfl ?_
  refine fl_tT hX hm rfl rfl hk (by omega) (by omega) dL_law_197 dL_law_198 dL_law_201 dL_law_203 ?_
  refine fl_tI (off := 1332) hX h320 rfl rfl rfl hv dL_law_208 dL_law_210 dL_law_213 dL_law_214 dL_law_215 dL_law_216 dL_law_218 dL_law_219 dL_law_220 dL_law_225 (by decide) ?_
  exact fk_drop 7 (fk_drop 6 (fk_widen (by omega) (by omega) (kk NL ad G2 x1 hX hR2)))
set_option maxHeartbeats 2000000 in
set_option maxRecDepth 20000 in
theorem lc_setWeight {p : Program} {l : Launch} {e : Env} {s : State} {m : MethodId} {below : List Frame} {meth : Method} {c : Code} {D : va_G} {K : Nat → ClassId} {NL : List Nat} {ad : Nat → Nat} {b N cells slots n : Nat} {xs : Nat → Int32} {Q : State → Prop} {G : fM} {x : fX} (hX : Lx p l s m c D K NL ad b N xs) (hR : RelA n NL G) (hi : 3 * n + 2 < N) (hc : cells + 40 ≤ 601024) (hs : slots + 4000 ≤ 7293034) (kk : KK p l e s m below meth c D K b N xs cells slots Q n) : WL p l e s m below meth c D K NL ad b cells slots Q G x 228 (lL b ad (3 * n)) [] := by
  have hn : n < 512 := by have := hX.2.2.2.2.2; omega
  have hm : f_EM NL := hR.1.2.2.2.2.2.1
  have h320 : 320 ∈ NL := hR.1.2.2.2.1
  have h321 : 321 ∈ NL := hR.1.2.2.2.2.1
  obtain ⟨k, G1, x1, v, G2, hH, hM, hk, hv, hR2⟩ := st_setWeight (l := l) (D := D) (K := K) (ad := ad) (x := x) hX.2.1.1 hR hn (xs (3 * n + 1)) (xs (3 * n + 2))
  refine fk_aload_n hX.1 dL_law_228 rfl rfl ?_
  refine fl_arg (k := 1) hX rfl rfl rfl (by omega) dL_law_229 dL_law_230 dL_law_232 dL_law_233 dL_law_234 ?_
  refine fl_arg (k := 2) hX rfl rfl rfl (by omega) dL_law_235 dL_law_236 dL_law_238 dL_law_239 dL_law_240 ?_
  refine fk_aload_n hX.1 dL_law_241 rfl rfl ?_
  refine fl_callH (nA := 4) hX hH gL_law_L_setWeight rfl (by decide +kernel) (Nat.le_of_ble_eq_true rfl) rfl rfl (Nat.le_of_ble_eq_true rfl) dL_law_242 (by omega) (by omega) ?_
  refine fk_istore hX.1 dL_law_245 (by decide) rfl ?_
  refine fk_aload_n hX.1 dL_law_247 rfl rfl ?_
  refine fl_arg (k := 1) hX rfl rfl rfl (by omega) dL_law_248 dL_law_249 dL_law_251 dL_law_252 dL_law_253 ?_
  refine fl_arg (k := 2) hX rfl rfl rfl (by omega) dL_law_254 dL_law_255 dL_law_257 dL_law_258 dL_law_259 ?_
  refine fl_callV (nA := 2) hX hM hm.1 (f_E310 _ _ _ _ _) rfl gL_law_X6_setWeight rfl (by decide +kernel) (Nat.le_of_ble_eq_true rfl) rfl rfl (Nat.le_of_ble_eq_true rfl) dL_law_260 (by omega) (by omega) ?_
  refine fk_istore hX.1 dL_law_263 (by decide) rfl ?_
  refine fl_tT hX hm rfl rfl hk (by omega) (by omega) dL_law_265 dL_law_266 dL_law_269 dL_law_271 ?_
  refine fl_tI (off := 1264) hX h320 rfl rfl rfl hv dL_law_276 dL_law_278 dL_law_281 dL_law_282 dL_law_283 dL_law_284 dL_law_286 dL_law_287 dL_law_288 dL_law_293 (by decide) ?_
  exact fk_drop 7 (fk_drop 6 (fk_widen (by omega) (by omega) (kk NL ad G2 x1 hX hR2)))
set_option maxHeartbeats 2000000 in
set_option maxRecDepth 20000 in
theorem lc_setDraining {p : Program} {l : Launch} {e : Env} {s : State} {m : MethodId} {below : List Frame} {meth : Method} {c : Code} {D : va_G} {K : Nat → ClassId} {NL : List Nat} {ad : Nat → Nat} {b N cells slots n : Nat} {xs : Nat → Int32} {Q : State → Prop} {G : fM} {x : fX} (hX : Lx p l s m c D K NL ad b N xs) (hR : RelA n NL G) (hi : 3 * n + 2 < N) (hc : cells + 40 ≤ 601024) (hs : slots + 4000 ≤ 7293034) (kk : KK p l e s m below meth c D K b N xs cells slots Q n) : WL p l e s m below meth c D K NL ad b cells slots Q G x 296 (lL b ad (3 * n)) [] := by
  have hn : n < 512 := by have := hX.2.2.2.2.2; omega
  have hm : f_EM NL := hR.1.2.2.2.2.2.1
  have h320 : 320 ∈ NL := hR.1.2.2.2.1
  have h321 : 321 ∈ NL := hR.1.2.2.2.2.1
  obtain ⟨k, G1, x1, v, G2, hH, hM, hk, hv, hR2⟩ := st_setDraining (l := l) (D := D) (K := K) (ad := ad) (x := x) hX.2.1.1 hR hn (xs (3 * n + 1)) (bz (xs (3 * n + 2))) (bz_01 _)
  refine fk_aload_n hX.1 dL_law_296 rfl rfl ?_
  refine fl_arg (k := 1) hX rfl rfl rfl (by omega) dL_law_297 dL_law_298 dL_law_300 dL_law_301 dL_law_302 ?_
  refine fl_arg (k := 2) hX rfl rfl rfl (by omega) dL_law_303 dL_law_304 dL_law_306 dL_law_307 dL_law_308 ?_
  refine fl_bool hX dL_law_309 dL_law_312 dL_law_313 dL_law_316 ?_
  refine fk_aload_n hX.1 dL_law_317 rfl rfl ?_
  refine fl_callH (nA := 4) hX hH gL_law_L_setDraining rfl (by decide +kernel) (Nat.le_of_ble_eq_true rfl) rfl rfl (Nat.le_of_ble_eq_true rfl) dL_law_318 (by omega) (by omega) ?_
  refine fk_istore hX.1 dL_law_321 (by decide) rfl ?_
  refine fk_aload_n hX.1 dL_law_323 rfl rfl ?_
  refine fl_arg (k := 1) hX rfl rfl rfl (by omega) dL_law_324 dL_law_325 dL_law_327 dL_law_328 dL_law_329 ?_
  refine fl_arg (k := 2) hX rfl rfl rfl (by omega) dL_law_330 dL_law_331 dL_law_333 dL_law_334 dL_law_335 ?_
  refine fl_bool hX dL_law_336 dL_law_339 dL_law_340 dL_law_343 ?_
  refine fl_callV (nA := 2) hX hM hm.1 (f_E310 _ _ _ _ _) rfl gL_law_X6_setDraining rfl (by decide +kernel) (Nat.le_of_ble_eq_true rfl) rfl rfl (Nat.le_of_ble_eq_true rfl) dL_law_344 (by omega) (by omega) ?_
  refine fk_istore hX.1 dL_law_347 (by decide) rfl ?_
  refine fl_tT hX hm rfl rfl hk (by omega) (by omega) dL_law_349 dL_law_350 dL_law_353 dL_law_355 ?_
  refine fl_tZ (off := 1173) hX h320 rfl rfl rfl hv dL_law_360 dL_law_362 dL_law_365 dL_law_366 dL_law_367 dL_law_368 dL_law_370 dL_law_373 dL_law_374 dL_law_377 dL_law_378 dL_law_379 dL_law_384 (by decide) ?_
  exact fk_drop 7 (fk_drop 6 (fk_widen (by omega) (by omega) (kk NL ad G2 x1 hX hR2)))
set_option maxHeartbeats 2000000 in
set_option maxRecDepth 20000 in
theorem lc_report {p : Program} {l : Launch} {e : Env} {s : State} {m : MethodId} {below : List Frame} {meth : Method} {c : Code} {D : va_G} {K : Nat → ClassId} {NL : List Nat} {ad : Nat → Nat} {b N cells slots n : Nat} {xs : Nat → Int32} {Q : State → Prop} {G : fM} {x : fX} (hX : Lx p l s m c D K NL ad b N xs) (hR : RelA n NL G) (hi : 3 * n + 2 < N) (hc : cells + 40 ≤ 601024) (hs : slots + 4000 ≤ 7293034) (kk : KK p l e s m below meth c D K b N xs cells slots Q n) : WL p l e s m below meth c D K NL ad b cells slots Q G x 387 (lL b ad (3 * n)) [] := by
  have hn : n < 512 := by have := hX.2.2.2.2.2; omega
  have hm : f_EM NL := hR.1.2.2.2.2.2.1
  have h320 : 320 ∈ NL := hR.1.2.2.2.1
  have h321 : 321 ∈ NL := hR.1.2.2.2.2.1
  obtain ⟨k, G1, x1, v, G2, hH, hM, hk, hv, hR2⟩ := st_report (l := l) (D := D) (K := K) (ad := ad) (x := x) hX.2.1.1 hR hn (xs (3 * n + 1)) (bz (xs (3 * n + 2))) (bz_01 _)
  refine fk_aload_n hX.1 dL_law_387 rfl rfl ?_
  refine fl_arg (k := 1) hX rfl rfl rfl (by omega) dL_law_388 dL_law_389 dL_law_391 dL_law_392 dL_law_393 ?_
  refine fl_arg (k := 2) hX rfl rfl rfl (by omega) dL_law_394 dL_law_395 dL_law_397 dL_law_398 dL_law_399 ?_
  refine fl_bool hX dL_law_400 dL_law_403 dL_law_404 dL_law_407 ?_
  refine fk_aload_n hX.1 dL_law_408 rfl rfl ?_
  refine fl_callH (nA := 4) hX hH gL_law_L_report rfl (by decide +kernel) (Nat.le_of_ble_eq_true rfl) rfl rfl (Nat.le_of_ble_eq_true rfl) dL_law_409 (by omega) (by omega) ?_
  refine fk_istore hX.1 dL_law_412 (by decide) rfl ?_
  refine fk_aload_n hX.1 dL_law_414 rfl rfl ?_
  refine fl_arg (k := 1) hX rfl rfl rfl (by omega) dL_law_415 dL_law_416 dL_law_418 dL_law_419 dL_law_420 ?_
  refine fl_arg (k := 2) hX rfl rfl rfl (by omega) dL_law_421 dL_law_422 dL_law_424 dL_law_425 dL_law_426 ?_
  refine fl_bool hX dL_law_427 dL_law_430 dL_law_431 dL_law_434 ?_
  refine fl_callV (nA := 2) hX hM hm.1 (f_E310 _ _ _ _ _) rfl gL_law_X6_report rfl (by decide +kernel) (Nat.le_of_ble_eq_true rfl) rfl rfl (Nat.le_of_ble_eq_true rfl) dL_law_435 (by omega) (by omega) ?_
  refine fk_istore hX.1 dL_law_438 (by decide) rfl ?_
  refine fl_tT hX hm rfl rfl hk (by omega) (by omega) dL_law_440 dL_law_441 dL_law_444 dL_law_446 ?_
  refine fl_tZ (off := 1082) hX h320 rfl rfl rfl hv dL_law_451 dL_law_453 dL_law_456 dL_law_457 dL_law_458 dL_law_459 dL_law_461 dL_law_464 dL_law_465 dL_law_468 dL_law_469 dL_law_470 dL_law_475 (by decide) ?_
  exact fk_drop 7 (fk_drop 6 (fk_widen (by omega) (by omega) (kk NL ad G2 x1 hX hR2)))
set_option maxHeartbeats 2000000 in
set_option maxRecDepth 20000 in
theorem lc_servers {p : Program} {l : Launch} {e : Env} {s : State} {m : MethodId} {below : List Frame} {meth : Method} {c : Code} {D : va_G} {K : Nat → ClassId} {NL : List Nat} {ad : Nat → Nat} {b N cells slots n : Nat} {xs : Nat → Int32} {Q : State → Prop} {G : fM} {x : fX} (hX : Lx p l s m c D K NL ad b N xs) (hR : RelA n NL G) (hi : 3 * n + 2 < N) (hc : cells + 40 ≤ 601024) (hs : slots + 4000 ≤ 7293034) (kk : KK p l e s m below meth c D K b N xs cells slots Q n) : WL p l e s m below meth c D K NL ad b cells slots Q G x 478 (lL b ad (3 * n)) [] := by
  have hn : n < 512 := by have := hX.2.2.2.2.2; omega
  have hm : f_EM NL := hR.1.2.2.2.2.2.1
  have h320 : 320 ∈ NL := hR.1.2.2.2.1
  have h321 : 321 ∈ NL := hR.1.2.2.2.2.1
  obtain ⟨v, G1, G2, hH, hM, hR2⟩ := st_servers (l := l) (D := D) (K := K) (ad := ad) (x := x) hR hn 
  refine fk_aload_n hX.1 dL_law_478 rfl rfl ?_
  refine fl_callV (nA := 0) hX hH hR.1.2.1 (f_E300 _ _ _ _ _) rfl gL_law_X5_servers rfl (by decide +kernel) (Nat.le_of_ble_eq_true rfl) rfl rfl (Nat.le_of_ble_eq_true rfl) dL_law_479 (by omega) (by omega) ?_
  refine fk_aload_n hX.1 dL_law_482 rfl rfl ?_
  refine fl_callV (nA := 0) hX hM hm.1 (f_E310 _ _ _ _ _) rfl gL_law_X6_servers rfl (by decide +kernel) (Nat.le_of_ble_eq_true rfl) rfl rfl (Nat.le_of_ble_eq_true rfl) dL_law_483 (by omega) (by omega) ?_
  refine fk_icmp_eq (tgt := 1557) hX.1 dL_law_486 (by decide) (fun _ => ?_) (fun h => absurd rfl h)
  exact fk_widen (by omega) (by omega) (kk NL ad G2 x hX hR2)
set_option maxHeartbeats 2000000 in
set_option maxRecDepth 20000 in
theorem lc_setThresholds {p : Program} {l : Launch} {e : Env} {s : State} {m : MethodId} {below : List Frame} {meth : Method} {c : Code} {D : va_G} {K : Nat → ClassId} {NL : List Nat} {ad : Nat → Nat} {b N cells slots n : Nat} {xs : Nat → Int32} {Q : State → Prop} {G : fM} {x : fX} (hX : Lx p l s m c D K NL ad b N xs) (hR : RelA n NL G) (hi : 3 * n + 2 < N) (hc : cells + 40 ≤ 601024) (hs : slots + 4000 ≤ 7293034) (kk : KK p l e s m below meth c D K b N xs cells slots Q n) : WL p l e s m below meth c D K NL ad b cells slots Q G x 491 (lL b ad (3 * n)) [] := by
  have hn : n < 512 := by have := hX.2.2.2.2.2; omega
  have hm : f_EM NL := hR.1.2.2.2.2.2.1
  have h320 : 320 ∈ NL := hR.1.2.2.2.1
  have h321 : 321 ∈ NL := hR.1.2.2.2.2.1
  obtain ⟨k, G1, x1, G2, hH, hM, hk, hR2⟩ := st_setThresholds (l := l) (D := D) (K := K) (ad := ad) (x := x) hX.2.1.1 hR hn (xs (3 * n + 1)) (xs (3 * n + 2))
  refine fk_aload_n hX.1 dL_law_491 rfl rfl ?_
  refine fl_arg (k := 1) hX rfl rfl rfl (by omega) dL_law_492 dL_law_493 dL_law_495 dL_law_496 dL_law_497 ?_
  refine fl_arg (k := 2) hX rfl rfl rfl (by omega) dL_law_498 dL_law_499 dL_law_501 dL_law_502 dL_law_503 ?_
  refine fl_callH (nA := 3) hX hH gL_law_L_setThresholds rfl (by decide +kernel) (Nat.le_of_ble_eq_true rfl) rfl rfl (Nat.le_of_ble_eq_true rfl) dL_law_504 (by omega) (by omega) ?_
  refine fk_istore hX.1 dL_law_507 (by decide) rfl ?_
  refine fk_aload_n hX.1 dL_law_509 rfl rfl ?_
  refine fl_arg (k := 1) hX rfl rfl rfl (by omega) dL_law_510 dL_law_511 dL_law_513 dL_law_514 dL_law_515 ?_
  refine fl_arg (k := 2) hX rfl rfl rfl (by omega) dL_law_516 dL_law_517 dL_law_519 dL_law_520 dL_law_521 ?_
  refine fl_callV (nA := 2) hX hM hm.1 (f_E310 _ _ _ _ _) rfl gL_law_X6_setThresholds rfl (by decide +kernel) (Nat.le_of_ble_eq_true rfl) rfl rfl (Nat.le_of_ble_eq_true rfl) dL_law_522 (by omega) (by omega) ?_
  refine fl_tT hX hm rfl rfl hk (by omega) (by omega) dL_law_525 dL_law_526 dL_law_529 dL_law_531 ?_
  refine fk_goto (tgt := 1557) hX.1 dL_law_536 (by decide) ?_
  exact fk_drop 6 (fk_widen (by omega) (by omega) (kk NL ad G2 x1 hX hR2))
set_option maxHeartbeats 2000000 in
set_option maxRecDepth 20000 in
theorem lc_setSlowStart {p : Program} {l : Launch} {e : Env} {s : State} {m : MethodId} {below : List Frame} {meth : Method} {c : Code} {D : va_G} {K : Nat → ClassId} {NL : List Nat} {ad : Nat → Nat} {b N cells slots n : Nat} {xs : Nat → Int32} {Q : State → Prop} {G : fM} {x : fX} (hX : Lx p l s m c D K NL ad b N xs) (hR : RelA n NL G) (hi : 3 * n + 2 < N) (hc : cells + 40 ≤ 601024) (hs : slots + 4000 ≤ 7293034) (kk : KK p l e s m below meth c D K b N xs cells slots Q n) : WL p l e s m below meth c D K NL ad b cells slots Q G x 539 (lL b ad (3 * n)) [] := by
  have hn : n < 512 := by have := hX.2.2.2.2.2; omega
  have hm : f_EM NL := hR.1.2.2.2.2.2.1
  have h320 : 320 ∈ NL := hR.1.2.2.2.1
  have h321 : 321 ∈ NL := hR.1.2.2.2.2.1
  obtain ⟨k, G1, x1, v, G2, hH, hM, hk, hv, hR2⟩ := st_setSlowStart (l := l) (D := D) (K := K) (ad := ad) (x := x) hX.2.1.1 hR hn (xs (3 * n + 1))
  refine fk_aload_n hX.1 dL_law_539 rfl rfl ?_
  refine fl_arg (k := 1) hX rfl rfl rfl (by omega) dL_law_540 dL_law_541 dL_law_543 dL_law_544 dL_law_545 ?_
  refine fk_aload_n hX.1 dL_law_546 rfl rfl ?_
  refine fl_callH (nA := 3) hX hH gL_law_L_setSlowStart rfl (by decide +kernel) (Nat.le_of_ble_eq_true rfl) rfl rfl (Nat.le_of_ble_eq_true rfl) dL_law_547 (by omega) (by omega) ?_
  refine fk_istore hX.1 dL_law_550 (by decide) rfl ?_
  refine fk_aload_n hX.1 dL_law_552 rfl rfl ?_
  refine fl_arg (k := 1) hX rfl rfl rfl (by omega) dL_law_553 dL_law_554 dL_law_556 dL_law_557 dL_law_558 ?_
  refine fl_callV (nA := 1) hX hM hm.1 (f_E310 _ _ _ _ _) rfl gL_law_X6_setSlowStart rfl (by decide +kernel) (Nat.le_of_ble_eq_true rfl) rfl rfl (Nat.le_of_ble_eq_true rfl) dL_law_559 (by omega) (by omega) ?_
  refine fk_istore hX.1 dL_law_562 (by decide) rfl ?_
  refine fl_tT hX hm rfl rfl hk (by omega) (by omega) dL_law_564 dL_law_565 dL_law_568 dL_law_570 ?_
  refine fl_tI (off := 965) hX h320 rfl rfl rfl hv dL_law_575 dL_law_577 dL_law_580 dL_law_581 dL_law_582 dL_law_583 dL_law_585 dL_law_586 dL_law_587 dL_law_592 (by decide) ?_
  exact fk_drop 7 (fk_drop 6 (fk_widen (by omega) (by omega) (kk NL ad G2 x1 hX hR2)))
set_option maxHeartbeats 2000000 in
set_option maxRecDepth 20000 in
theorem lc_setCool {p : Program} {l : Launch} {e : Env} {s : State} {m : MethodId} {below : List Frame} {meth : Method} {c : Code} {D : va_G} {K : Nat → ClassId} {NL : List Nat} {ad : Nat → Nat} {b N cells slots n : Nat} {xs : Nat → Int32} {Q : State → Prop} {G : fM} {x : fX} (hX : Lx p l s m c D K NL ad b N xs) (hR : RelA n NL G) (hi : 3 * n + 2 < N) (hc : cells + 40 ≤ 601024) (hs : slots + 4000 ≤ 7293034) (kk : KK p l e s m below meth c D K b N xs cells slots Q n) : WL p l e s m below meth c D K NL ad b cells slots Q G x 595 (lL b ad (3 * n)) [] := by
  have hn : n < 512 := by have := hX.2.2.2.2.2; omega
  have hm : f_EM NL := hR.1.2.2.2.2.2.1
  have h320 : 320 ∈ NL := hR.1.2.2.2.1
  have h321 : 321 ∈ NL := hR.1.2.2.2.2.1
  obtain ⟨k, G1, x1, v, G2, hH, hM, hk, hv, hR2⟩ := st_setCool (l := l) (D := D) (K := K) (ad := ad) (x := x) hX.2.1.1 hR hn (xs (3 * n + 1))
  refine fk_aload_n hX.1 dL_law_595 rfl rfl ?_
  refine fl_arg (k := 1) hX rfl rfl rfl (by omega) dL_law_596 dL_law_597 dL_law_599 dL_law_600 dL_law_601 ?_
  refine fk_aload_n hX.1 dL_law_602 rfl rfl ?_
  refine fl_callH (nA := 3) hX hH gL_law_L_setCool rfl (by decide +kernel) (Nat.le_of_ble_eq_true rfl) rfl rfl (Nat.le_of_ble_eq_true rfl) dL_law_603 (by omega) (by omega) ?_
  refine fk_istore hX.1 dL_law_606 (by decide) rfl ?_
  refine fk_aload_n hX.1 dL_law_608 rfl rfl ?_
  refine fl_arg (k := 1) hX rfl rfl rfl (by omega) dL_law_609 dL_law_610 dL_law_612 dL_law_613 dL_law_614 ?_
  refine fl_callV (nA := 1) hX hM hm.1 (f_E310 _ _ _ _ _) rfl gL_law_X6_setCool rfl (by decide +kernel) (Nat.le_of_ble_eq_true rfl) rfl rfl (Nat.le_of_ble_eq_true rfl) dL_law_615 (by omega) (by omega) ?_
  refine fk_istore hX.1 dL_law_618 (by decide) rfl ?_
  refine fl_tT hX hm rfl rfl hk (by omega) (by omega) dL_law_620 dL_law_621 dL_law_624 dL_law_626 ?_
  refine fl_tI (off := 909) hX h320 rfl rfl rfl hv dL_law_631 dL_law_633 dL_law_636 dL_law_637 dL_law_638 dL_law_639 dL_law_641 dL_law_642 dL_law_643 dL_law_648 (by decide) ?_
  exact fk_drop 7 (fk_drop 6 (fk_widen (by omega) (by omega) (kk NL ad G2 x1 hX hR2)))
set_option maxHeartbeats 2000000 in
set_option maxRecDepth 20000 in
theorem lc_setSticky {p : Program} {l : Launch} {e : Env} {s : State} {m : MethodId} {below : List Frame} {meth : Method} {c : Code} {D : va_G} {K : Nat → ClassId} {NL : List Nat} {ad : Nat → Nat} {b N cells slots n : Nat} {xs : Nat → Int32} {Q : State → Prop} {G : fM} {x : fX} (hX : Lx p l s m c D K NL ad b N xs) (hR : RelA n NL G) (hi : 3 * n + 2 < N) (hc : cells + 40 ≤ 601024) (hs : slots + 4000 ≤ 7293034) (kk : KK p l e s m below meth c D K b N xs cells slots Q n) : WL p l e s m below meth c D K NL ad b cells slots Q G x 651 (lL b ad (3 * n)) [] := by
  have hn : n < 512 := by have := hX.2.2.2.2.2; omega
  have hm : f_EM NL := hR.1.2.2.2.2.2.1
  have h320 : 320 ∈ NL := hR.1.2.2.2.1
  have h321 : 321 ∈ NL := hR.1.2.2.2.2.1
  obtain ⟨k, G1, x1, v, G2, hH, hM, hk, hv, hR2⟩ := st_setSticky (l := l) (D := D) (K := K) (ad := ad) (x := x) hX.2.1.1 hR hn (xs (3 * n + 1))
  refine fk_aload_n hX.1 dL_law_651 rfl rfl ?_
  refine fl_arg (k := 1) hX rfl rfl rfl (by omega) dL_law_652 dL_law_653 dL_law_655 dL_law_656 dL_law_657 ?_
  refine fk_aload_n hX.1 dL_law_658 rfl rfl ?_
  refine fl_callH (nA := 3) hX hH gL_law_L_setSticky rfl (by decide +kernel) (Nat.le_of_ble_eq_true rfl) rfl rfl (Nat.le_of_ble_eq_true rfl) dL_law_659 (by omega) (by omega) ?_
  refine fk_istore hX.1 dL_law_662 (by decide) rfl ?_
  refine fk_aload_n hX.1 dL_law_664 rfl rfl ?_
  refine fl_arg (k := 1) hX rfl rfl rfl (by omega) dL_law_665 dL_law_666 dL_law_668 dL_law_669 dL_law_670 ?_
  refine fl_callV (nA := 1) hX hM hm.1 (f_E310 _ _ _ _ _) rfl gL_law_X6_setSticky rfl (by decide +kernel) (Nat.le_of_ble_eq_true rfl) rfl rfl (Nat.le_of_ble_eq_true rfl) dL_law_671 (by omega) (by omega) ?_
  refine fk_istore hX.1 dL_law_674 (by decide) rfl ?_
  refine fl_tT hX hm rfl rfl hk (by omega) (by omega) dL_law_676 dL_law_677 dL_law_680 dL_law_682 ?_
  refine fl_tI (off := 853) hX h320 rfl rfl rfl hv dL_law_687 dL_law_689 dL_law_692 dL_law_693 dL_law_694 dL_law_695 dL_law_697 dL_law_698 dL_law_699 dL_law_704 (by decide) ?_
  exact fk_drop 7 (fk_drop 6 (fk_widen (by omega) (by omega) (kk NL ad G2 x1 hX hR2)))
set_option maxHeartbeats 2000000 in
set_option maxRecDepth 20000 in
theorem lc_setPolicy {p : Program} {l : Launch} {e : Env} {s : State} {m : MethodId} {below : List Frame} {meth : Method} {c : Code} {D : va_G} {K : Nat → ClassId} {NL : List Nat} {ad : Nat → Nat} {b N cells slots n : Nat} {xs : Nat → Int32} {Q : State → Prop} {G : fM} {x : fX} (hX : Lx p l s m c D K NL ad b N xs) (hR : RelA n NL G) (hi : 3 * n + 2 < N) (hc : cells + 40 ≤ 601024) (hs : slots + 4000 ≤ 7293034) (kk : KK p l e s m below meth c D K b N xs cells slots Q n) : WL p l e s m below meth c D K NL ad b cells slots Q G x 707 (lL b ad (3 * n)) [] := by
  have hn : n < 512 := by have := hX.2.2.2.2.2; omega
  have hm : f_EM NL := hR.1.2.2.2.2.2.1
  have h320 : 320 ∈ NL := hR.1.2.2.2.1
  have h321 : 321 ∈ NL := hR.1.2.2.2.2.1
  obtain ⟨k, G1, x1, v, G2, hH, hM, hk, hv, hR2⟩ := st_setPolicy (l := l) (D := D) (K := K) (ad := ad) (x := x) hX.2.1.1 hR hn (xs (3 * n + 1))
  refine fk_aload_n hX.1 dL_law_707 rfl rfl ?_
  refine fl_arg (k := 1) hX rfl rfl rfl (by omega) dL_law_708 dL_law_709 dL_law_711 dL_law_712 dL_law_713 ?_
  refine fk_aload_n hX.1 dL_law_714 rfl rfl ?_
  refine fl_callH (nA := 3) hX hH gL_law_L_setPolicy rfl (by decide +kernel) (Nat.le_of_ble_eq_true rfl) rfl rfl (Nat.le_of_ble_eq_true rfl) dL_law_715 (by omega) (by omega) ?_
  refine fk_istore hX.1 dL_law_718 (by decide) rfl ?_
  refine fk_aload_n hX.1 dL_law_720 rfl rfl ?_
  refine fl_arg (k := 1) hX rfl rfl rfl (by omega) dL_law_721 dL_law_722 dL_law_724 dL_law_725 dL_law_726 ?_
  refine fl_callV (nA := 1) hX hM hm.1 (f_E310 _ _ _ _ _) rfl gL_law_X6_setPolicy rfl (by decide +kernel) (Nat.le_of_ble_eq_true rfl) rfl rfl (Nat.le_of_ble_eq_true rfl) dL_law_727 (by omega) (by omega) ?_
  refine fk_istore hX.1 dL_law_730 (by decide) rfl ?_
  refine fl_tT hX hm rfl rfl hk (by omega) (by omega) dL_law_732 dL_law_733 dL_law_736 dL_law_738 ?_
  refine fl_tI (off := 797) hX h320 rfl rfl rfl hv dL_law_743 dL_law_745 dL_law_748 dL_law_749 dL_law_750 dL_law_751 dL_law_753 dL_law_754 dL_law_755 dL_law_760 (by decide) ?_
  exact fk_drop 7 (fk_drop 6 (fk_widen (by omega) (by omega) (kk NL ad G2 x1 hX hR2)))
set_option maxHeartbeats 2000000 in
set_option maxRecDepth 20000 in
theorem lc_setSeed {p : Program} {l : Launch} {e : Env} {s : State} {m : MethodId} {below : List Frame} {meth : Method} {c : Code} {D : va_G} {K : Nat → ClassId} {NL : List Nat} {ad : Nat → Nat} {b N cells slots n : Nat} {xs : Nat → Int32} {Q : State → Prop} {G : fM} {x : fX} (hX : Lx p l s m c D K NL ad b N xs) (hR : RelA n NL G) (hi : 3 * n + 2 < N) (hc : cells + 40 ≤ 601024) (hs : slots + 4000 ≤ 7293034) (kk : KK p l e s m below meth c D K b N xs cells slots Q n) : WL p l e s m below meth c D K NL ad b cells slots Q G x 763 (lL b ad (3 * n)) [] := by
  have hn : n < 512 := by have := hX.2.2.2.2.2; omega
  have hm : f_EM NL := hR.1.2.2.2.2.2.1
  have h320 : 320 ∈ NL := hR.1.2.2.2.1
  have h321 : 321 ∈ NL := hR.1.2.2.2.2.1
  obtain ⟨v, G1, G2, hH, hM, hR2⟩ := st_setSeed (l := l) (D := D) (K := K) (ad := ad) (x := x) hR hn (xs (3 * n + 1))
  refine fk_aload_n hX.1 dL_law_763 rfl rfl ?_
  refine fl_arg (k := 1) hX rfl rfl rfl (by omega) dL_law_764 dL_law_765 dL_law_767 dL_law_768 dL_law_769 ?_
  refine fl_callV (nA := 1) hX hH hR.1.2.1 (f_E300 _ _ _ _ _) rfl gL_law_X5_setSeed rfl (by decide +kernel) (Nat.le_of_ble_eq_true rfl) rfl rfl (Nat.le_of_ble_eq_true rfl) dL_law_770 (by omega) (by omega) ?_
  refine fk_aload_n hX.1 dL_law_773 rfl rfl ?_
  refine fl_arg (k := 1) hX rfl rfl rfl (by omega) dL_law_774 dL_law_775 dL_law_777 dL_law_778 dL_law_779 ?_
  refine fl_callV (nA := 1) hX hM hm.1 (f_E310 _ _ _ _ _) rfl gL_law_X6_setSeed rfl (by decide +kernel) (Nat.le_of_ble_eq_true rfl) rfl rfl (Nat.le_of_ble_eq_true rfl) dL_law_780 (by omega) (by omega) ?_
  refine fk_icmp_eq (tgt := 1557) hX.1 dL_law_783 (by decide) (fun _ => ?_) (fun h => absurd rfl h)
  exact fk_widen (by omega) (by omega) (kk NL ad G2 x hX hR2)
set_option maxHeartbeats 2000000 in
set_option maxRecDepth 20000 in
theorem lc_tick {p : Program} {l : Launch} {e : Env} {s : State} {m : MethodId} {below : List Frame} {meth : Method} {c : Code} {D : va_G} {K : Nat → ClassId} {NL : List Nat} {ad : Nat → Nat} {b N cells slots n : Nat} {xs : Nat → Int32} {Q : State → Prop} {G : fM} {x : fX} (hX : Lx p l s m c D K NL ad b N xs) (hR : RelA n NL G) (hi : 3 * n + 2 < N) (hc : cells + 40 ≤ 601024) (hs : slots + 4000 ≤ 7293034) (kk : KK p l e s m below meth c D K b N xs cells slots Q n) : WL p l e s m below meth c D K NL ad b cells slots Q G x 788 (lL b ad (3 * n)) [] := by
  have hn : n < 512 := by have := hX.2.2.2.2.2; omega
  have hm : f_EM NL := hR.1.2.2.2.2.2.1
  have h320 : 320 ∈ NL := hR.1.2.2.2.1
  have h321 : 321 ∈ NL := hR.1.2.2.2.2.1
  obtain ⟨k, G1, x1, v, G2, hH, hM, hk, hv, hR2⟩ := st_tick (l := l) (D := D) (K := K) (ad := ad) (x := x) hX.2.1.1 hR hn (xs (3 * n + 1))
  refine fk_aload_n hX.1 dL_law_788 rfl rfl ?_
  refine fl_arg (k := 1) hX rfl rfl rfl (by omega) dL_law_789 dL_law_790 dL_law_792 dL_law_793 dL_law_794 ?_
  refine fk_aload_n hX.1 dL_law_795 rfl rfl ?_
  refine fl_callH (nA := 3) hX hH gL_law_L_tick rfl (by decide +kernel) (Nat.le_of_ble_eq_true rfl) rfl rfl (Nat.le_of_ble_eq_true rfl) dL_law_796 (by omega) (by omega) ?_
  refine fk_istore hX.1 dL_law_799 (by decide) rfl ?_
  refine fk_aload_n hX.1 dL_law_801 rfl rfl ?_
  refine fl_arg (k := 1) hX rfl rfl rfl (by omega) dL_law_802 dL_law_803 dL_law_805 dL_law_806 dL_law_807 ?_
  refine fl_callV (nA := 1) hX hM hm.1 (f_E310 _ _ _ _ _) rfl gL_law_X6_tick rfl (by decide +kernel) (Nat.le_of_ble_eq_true rfl) rfl rfl (Nat.le_of_ble_eq_true rfl) dL_law_808 (by omega) (by omega) ?_
  refine fk_istore hX.1 dL_law_811 (by decide) rfl ?_
  refine fl_tT hX hm rfl rfl hk (by omega) (by omega) dL_law_813 dL_law_814 dL_law_817 dL_law_819 ?_
  refine fl_tI (off := 716) hX h320 rfl rfl rfl hv dL_law_824 dL_law_826 dL_law_829 dL_law_830 dL_law_831 dL_law_832 dL_law_834 dL_law_835 dL_law_836 dL_law_841 (by decide) ?_
  exact fk_drop 7 (fk_drop 6 (fk_widen (by omega) (by omega) (kk NL ad G2 x1 hX hR2)))
set_option maxHeartbeats 2000000 in
set_option maxRecDepth 20000 in
theorem lc_preview {p : Program} {l : Launch} {e : Env} {s : State} {m : MethodId} {below : List Frame} {meth : Method} {c : Code} {D : va_G} {K : Nat → ClassId} {NL : List Nat} {ad : Nat → Nat} {b N cells slots n : Nat} {xs : Nat → Int32} {Q : State → Prop} {G : fM} {x : fX} (hX : Lx p l s m c D K NL ad b N xs) (hR : RelA n NL G) (hi : 3 * n + 2 < N) (hc : cells + 40 ≤ 601024) (hs : slots + 4000 ≤ 7293034) (kk : KK p l e s m below meth c D K b N xs cells slots Q n) : WL p l e s m below meth c D K NL ad b cells slots Q G x 844 (lL b ad (3 * n)) [] := by
  have hn : n < 512 := by have := hX.2.2.2.2.2; omega
  have hm : f_EM NL := hR.1.2.2.2.2.2.1
  have h320 : 320 ∈ NL := hR.1.2.2.2.1
  have h321 : 321 ∈ NL := hR.1.2.2.2.2.1
  obtain ⟨v, G1, G2, hH, hM, hR2⟩ := st_preview (l := l) (D := D) (K := K) (ad := ad) (x := x) hR hn (xs (3 * n + 1))
  refine fk_aload_n hX.1 dL_law_844 rfl rfl ?_
  refine fl_arg (k := 1) hX rfl rfl rfl (by omega) dL_law_845 dL_law_846 dL_law_848 dL_law_849 dL_law_850 ?_
  refine fl_callV (nA := 1) hX hH hR.1.2.1 (f_E300 _ _ _ _ _) rfl gL_law_X5_preview rfl (by decide +kernel) (Nat.le_of_ble_eq_true rfl) rfl rfl (Nat.le_of_ble_eq_true rfl) dL_law_851 (by omega) (by omega) ?_
  refine fk_aload_n hX.1 dL_law_854 rfl rfl ?_
  refine fl_arg (k := 1) hX rfl rfl rfl (by omega) dL_law_855 dL_law_856 dL_law_858 dL_law_859 dL_law_860 ?_
  refine fl_callV (nA := 1) hX hM hm.1 (f_E310 _ _ _ _ _) rfl gL_law_X6_preview rfl (by decide +kernel) (Nat.le_of_ble_eq_true rfl) rfl rfl (Nat.le_of_ble_eq_true rfl) dL_law_861 (by omega) (by omega) ?_
  refine fk_icmp_eq (tgt := 1557) hX.1 dL_law_864 (by decide) (fun _ => ?_) (fun h => absurd rfl h)
  exact fk_widen (by omega) (by omega) (kk NL ad G2 x hX hR2)
set_option maxHeartbeats 2000000 in
set_option maxRecDepth 20000 in
theorem lc_open {p : Program} {l : Launch} {e : Env} {s : State} {m : MethodId} {below : List Frame} {meth : Method} {c : Code} {D : va_G} {K : Nat → ClassId} {NL : List Nat} {ad : Nat → Nat} {b N cells slots n : Nat} {xs : Nat → Int32} {Q : State → Prop} {G : fM} {x : fX} (hX : Lx p l s m c D K NL ad b N xs) (hR : RelA n NL G) (hi : 3 * n + 2 < N) (hc : cells + 40 ≤ 601024) (hs : slots + 4000 ≤ 7293034) (kk : KK p l e s m below meth c D K b N xs cells slots Q n) : WL p l e s m below meth c D K NL ad b cells slots Q G x 869 (lL b ad (3 * n)) [] := by
  have hn : n < 512 := by have := hX.2.2.2.2.2; omega
  have hm : f_EM NL := hR.1.2.2.2.2.2.1
  have h320 : 320 ∈ NL := hR.1.2.2.2.1
  have h321 : 321 ∈ NL := hR.1.2.2.2.2.1
  obtain ⟨k, G1, x1, v, G2, hH, hM, hk, hv, hR2⟩ := st_open (l := l) (D := D) (K := K) (ad := ad) (x := x) hX.2.1.1 hR hn (xs (3 * n + 1))
  refine fk_aload_n hX.1 dL_law_869 rfl rfl ?_
  refine fl_arg (k := 1) hX rfl rfl rfl (by omega) dL_law_870 dL_law_871 dL_law_873 dL_law_874 dL_law_875 ?_
  refine fk_aload_n hX.1 dL_law_876 rfl rfl ?_
  refine fl_callH (nA := 3) hX hH gL_law_L_open rfl (by decide +kernel) (Nat.le_of_ble_eq_true rfl) rfl rfl (Nat.le_of_ble_eq_true rfl) dL_law_877 (by omega) (by omega) ?_
  refine fk_istore hX.1 dL_law_880 (by decide) rfl ?_
  refine fk_aload_n hX.1 dL_law_882 rfl rfl ?_
  refine fl_arg (k := 1) hX rfl rfl rfl (by omega) dL_law_883 dL_law_884 dL_law_886 dL_law_887 dL_law_888 ?_
  refine fl_callV (nA := 1) hX hM hm.1 (f_E310 _ _ _ _ _) rfl gL_law_X6_open rfl (by decide +kernel) (Nat.le_of_ble_eq_true rfl) rfl rfl (Nat.le_of_ble_eq_true rfl) dL_law_889 (by omega) (by omega) ?_
  refine fk_istore hX.1 dL_law_892 (by decide) rfl ?_
  refine fl_tT hX hm rfl rfl hk (by omega) (by omega) dL_law_894 dL_law_895 dL_law_898 dL_law_900 ?_
  refine fl_tI (off := 635) hX h320 rfl rfl rfl hv dL_law_905 dL_law_907 dL_law_910 dL_law_911 dL_law_912 dL_law_913 dL_law_915 dL_law_916 dL_law_917 dL_law_922 (by decide) ?_
  exact fk_drop 7 (fk_drop 6 (fk_widen (by omega) (by omega) (kk NL ad G2 x1 hX hR2)))
set_option maxHeartbeats 2000000 in
set_option maxRecDepth 20000 in
theorem lc_close {p : Program} {l : Launch} {e : Env} {s : State} {m : MethodId} {below : List Frame} {meth : Method} {c : Code} {D : va_G} {K : Nat → ClassId} {NL : List Nat} {ad : Nat → Nat} {b N cells slots n : Nat} {xs : Nat → Int32} {Q : State → Prop} {G : fM} {x : fX} (hX : Lx p l s m c D K NL ad b N xs) (hR : RelA n NL G) (hi : 3 * n + 2 < N) (hc : cells + 40 ≤ 601024) (hs : slots + 4000 ≤ 7293034) (kk : KK p l e s m below meth c D K b N xs cells slots Q n) : WL p l e s m below meth c D K NL ad b cells slots Q G x 925 (lL b ad (3 * n)) [] := by
  have hn : n < 512 := by have := hX.2.2.2.2.2; omega
  have hm : f_EM NL := hR.1.2.2.2.2.2.1
  have h320 : 320 ∈ NL := hR.1.2.2.2.1
  have h321 : 321 ∈ NL := hR.1.2.2.2.2.1
  obtain ⟨k, G1, x1, v, G2, hH, hM, hk, hv, hR2⟩ := st_close (l := l) (D := D) (K := K) (ad := ad) (x := x) hX.2.1.1 hR hn (xs (3 * n + 1)) (bz (xs (3 * n + 2)))
  refine fk_aload_n hX.1 dL_law_925 rfl rfl ?_
  refine fl_arg (k := 1) hX rfl rfl rfl (by omega) dL_law_926 dL_law_927 dL_law_929 dL_law_930 dL_law_931 ?_
  refine fl_arg (k := 2) hX rfl rfl rfl (by omega) dL_law_932 dL_law_933 dL_law_935 dL_law_936 dL_law_937 ?_
  refine fl_bool hX dL_law_938 dL_law_941 dL_law_942 dL_law_945 ?_
  refine fk_aload_n hX.1 dL_law_946 rfl rfl ?_
  refine fl_callH (nA := 4) hX hH gL_law_L_close rfl (by decide +kernel) (Nat.le_of_ble_eq_true rfl) rfl rfl (Nat.le_of_ble_eq_true rfl) dL_law_947 (by omega) (by omega) ?_
  refine fk_istore hX.1 dL_law_950 (by decide) rfl ?_
  refine fk_aload_n hX.1 dL_law_952 rfl rfl ?_
  refine fl_arg (k := 1) hX rfl rfl rfl (by omega) dL_law_953 dL_law_954 dL_law_956 dL_law_957 dL_law_958 ?_
  refine fl_arg (k := 2) hX rfl rfl rfl (by omega) dL_law_959 dL_law_960 dL_law_962 dL_law_963 dL_law_964 ?_
  refine fl_bool hX dL_law_965 dL_law_968 dL_law_969 dL_law_972 ?_
  refine fl_callV (nA := 2) hX hM hm.1 (f_E310 _ _ _ _ _) rfl gL_law_X6_close rfl (by decide +kernel) (Nat.le_of_ble_eq_true rfl) rfl rfl (Nat.le_of_ble_eq_true rfl) dL_law_973 (by omega) (by omega) ?_
  refine fk_istore hX.1 dL_law_976 (by decide) rfl ?_
  refine fl_tT hX hm rfl rfl hk (by omega) (by omega) dL_law_978 dL_law_979 dL_law_982 dL_law_984 ?_
  refine fl_tI (off := 551) hX h320 rfl rfl rfl hv dL_law_989 dL_law_991 dL_law_994 dL_law_995 dL_law_996 dL_law_997 dL_law_999 dL_law_1000 dL_law_1001 dL_law_1006 (by decide) ?_
  exact fk_drop 7 (fk_drop 6 (fk_widen (by omega) (by omega) (kk NL ad G2 x1 hX hR2)))
set_option maxHeartbeats 2000000 in
set_option maxRecDepth 20000 in
theorem lc_serverOf {p : Program} {l : Launch} {e : Env} {s : State} {m : MethodId} {below : List Frame} {meth : Method} {c : Code} {D : va_G} {K : Nat → ClassId} {NL : List Nat} {ad : Nat → Nat} {b N cells slots n : Nat} {xs : Nat → Int32} {Q : State → Prop} {G : fM} {x : fX} (hX : Lx p l s m c D K NL ad b N xs) (hR : RelA n NL G) (hi : 3 * n + 2 < N) (hc : cells + 40 ≤ 601024) (hs : slots + 4000 ≤ 7293034) (kk : KK p l e s m below meth c D K b N xs cells slots Q n) : WL p l e s m below meth c D K NL ad b cells slots Q G x 1009 (lL b ad (3 * n)) [] := by
  have hn : n < 512 := by have := hX.2.2.2.2.2; omega
  have hm : f_EM NL := hR.1.2.2.2.2.2.1
  have h320 : 320 ∈ NL := hR.1.2.2.2.1
  have h321 : 321 ∈ NL := hR.1.2.2.2.2.1
  obtain ⟨k, G1, x1, v, G2, hH, hM, hk, hv, hR2⟩ := st_serverOf (l := l) (D := D) (K := K) (ad := ad) (x := x) hX.2.1.1 hR hn (xs (3 * n + 1))
  refine fk_aload_n hX.1 dL_law_1009 rfl rfl ?_
  refine fl_arg (k := 1) hX rfl rfl rfl (by omega) dL_law_1010 dL_law_1011 dL_law_1013 dL_law_1014 dL_law_1015 ?_
  refine fk_aload_n hX.1 dL_law_1016 rfl rfl ?_
  refine fl_callH (nA := 3) hX hH gL_law_L_serverOf rfl (by decide +kernel) (Nat.le_of_ble_eq_true rfl) rfl rfl (Nat.le_of_ble_eq_true rfl) dL_law_1017 (by omega) (by omega) ?_
  refine fk_istore hX.1 dL_law_1020 (by decide) rfl ?_
  refine fk_aload_n hX.1 dL_law_1022 rfl rfl ?_
  refine fl_arg (k := 1) hX rfl rfl rfl (by omega) dL_law_1023 dL_law_1024 dL_law_1026 dL_law_1027 dL_law_1028 ?_
  refine fl_callV (nA := 1) hX hM hm.1 (f_E310 _ _ _ _ _) rfl gL_law_X6_serverOf rfl (by decide +kernel) (Nat.le_of_ble_eq_true rfl) rfl rfl (Nat.le_of_ble_eq_true rfl) dL_law_1029 (by omega) (by omega) ?_
  refine fk_istore hX.1 dL_law_1032 (by decide) rfl ?_
  refine fl_tT hX hm rfl rfl hk (by omega) (by omega) dL_law_1034 dL_law_1035 dL_law_1038 dL_law_1040 ?_
  refine fl_tI (off := 495) hX h320 rfl rfl rfl hv dL_law_1045 dL_law_1047 dL_law_1050 dL_law_1051 dL_law_1052 dL_law_1053 dL_law_1055 dL_law_1056 dL_law_1057 dL_law_1062 (by decide) ?_
  exact fk_drop 7 (fk_drop 6 (fk_widen (by omega) (by omega) (kk NL ad G2 x1 hX hR2)))
set_option maxHeartbeats 2000000 in
set_option maxRecDepth 20000 in
theorem lc_isAvailable {p : Program} {l : Launch} {e : Env} {s : State} {m : MethodId} {below : List Frame} {meth : Method} {c : Code} {D : va_G} {K : Nat → ClassId} {NL : List Nat} {ad : Nat → Nat} {b N cells slots n : Nat} {xs : Nat → Int32} {Q : State → Prop} {G : fM} {x : fX} (hX : Lx p l s m c D K NL ad b N xs) (hR : RelA n NL G) (hi : 3 * n + 2 < N) (hc : cells + 40 ≤ 601024) (hs : slots + 4000 ≤ 7293034) (kk : KK p l e s m below meth c D K b N xs cells slots Q n) : WL p l e s m below meth c D K NL ad b cells slots Q G x 1065 (lL b ad (3 * n)) [] := by
  have hn : n < 512 := by have := hX.2.2.2.2.2; omega
  have hm : f_EM NL := hR.1.2.2.2.2.2.1
  have h320 : 320 ∈ NL := hR.1.2.2.2.1
  have h321 : 321 ∈ NL := hR.1.2.2.2.2.1
  obtain ⟨k, G1, x1, v, G2, hH, hM, hk, hv, hR2⟩ := st_isAvailable (l := l) (D := D) (K := K) (ad := ad) (x := x) hX.2.1.1 hR hn (xs (3 * n + 1))
  refine fk_aload_n hX.1 dL_law_1065 rfl rfl ?_
  refine fl_arg (k := 1) hX rfl rfl rfl (by omega) dL_law_1066 dL_law_1067 dL_law_1069 dL_law_1070 dL_law_1071 ?_
  refine fk_aload_n hX.1 dL_law_1072 rfl rfl ?_
  refine fl_callH (nA := 3) hX hH gL_law_L_isAvailable rfl (by decide +kernel) (Nat.le_of_ble_eq_true rfl) rfl rfl (Nat.le_of_ble_eq_true rfl) dL_law_1073 (by omega) (by omega) ?_
  refine fk_istore hX.1 dL_law_1076 (by decide) rfl ?_
  refine fk_aload_n hX.1 dL_law_1078 rfl rfl ?_
  refine fl_arg (k := 1) hX rfl rfl rfl (by omega) dL_law_1079 dL_law_1080 dL_law_1082 dL_law_1083 dL_law_1084 ?_
  refine fl_callV (nA := 1) hX hM hm.1 (f_E310 _ _ _ _ _) rfl gL_law_X6_isAvailable rfl (by decide +kernel) (Nat.le_of_ble_eq_true rfl) rfl rfl (Nat.le_of_ble_eq_true rfl) dL_law_1085 (by omega) (by omega) ?_
  refine fk_istore hX.1 dL_law_1088 (by decide) rfl ?_
  refine fl_tT hX hm rfl rfl hk (by omega) (by omega) dL_law_1090 dL_law_1091 dL_law_1094 dL_law_1096 ?_
  refine fl_tZ (off := 432) hX h320 rfl rfl rfl hv dL_law_1101 dL_law_1103 dL_law_1106 dL_law_1107 dL_law_1108 dL_law_1109 dL_law_1111 dL_law_1114 dL_law_1115 dL_law_1118 dL_law_1119 dL_law_1120 dL_law_1125 (by decide) ?_
  exact fk_drop 7 (fk_drop 6 (fk_widen (by omega) (by omega) (kk NL ad G2 x1 hX hR2)))
set_option maxHeartbeats 2000000 in
set_option maxRecDepth 20000 in
theorem lc_effectiveWeight {p : Program} {l : Launch} {e : Env} {s : State} {m : MethodId} {below : List Frame} {meth : Method} {c : Code} {D : va_G} {K : Nat → ClassId} {NL : List Nat} {ad : Nat → Nat} {b N cells slots n : Nat} {xs : Nat → Int32} {Q : State → Prop} {G : fM} {x : fX} (hX : Lx p l s m c D K NL ad b N xs) (hR : RelA n NL G) (hi : 3 * n + 2 < N) (hc : cells + 40 ≤ 601024) (hs : slots + 4000 ≤ 7293034) (kk : KK p l e s m below meth c D K b N xs cells slots Q n) : WL p l e s m below meth c D K NL ad b cells slots Q G x 1128 (lL b ad (3 * n)) [] := by
  have hn : n < 512 := by have := hX.2.2.2.2.2; omega
  have hm : f_EM NL := hR.1.2.2.2.2.2.1
  have h320 : 320 ∈ NL := hR.1.2.2.2.1
  have h321 : 321 ∈ NL := hR.1.2.2.2.2.1
  obtain ⟨k, G1, x1, v, G2, hH, hM, hk, hv, hR2⟩ := st_effectiveWeight (l := l) (D := D) (K := K) (ad := ad) (x := x) hX.2.1.1 hR hn (xs (3 * n + 1))
  refine fk_aload_n hX.1 dL_law_1128 rfl rfl ?_
  refine fl_arg (k := 1) hX rfl rfl rfl (by omega) dL_law_1129 dL_law_1130 dL_law_1132 dL_law_1133 dL_law_1134 ?_
  refine fk_aload_n hX.1 dL_law_1135 rfl rfl ?_
  refine fl_callH (nA := 3) hX hH gL_law_L_effectiveWeight rfl (by decide +kernel) (Nat.le_of_ble_eq_true rfl) rfl rfl (Nat.le_of_ble_eq_true rfl) dL_law_1136 (by omega) (by omega) ?_
  refine fk_istore hX.1 dL_law_1139 (by decide) rfl ?_
  refine fk_aload_n hX.1 dL_law_1141 rfl rfl ?_
  refine fl_arg (k := 1) hX rfl rfl rfl (by omega) dL_law_1142 dL_law_1143 dL_law_1145 dL_law_1146 dL_law_1147 ?_
  refine fl_callV (nA := 1) hX hM hm.1 (f_E310 _ _ _ _ _) rfl gL_law_X6_effectiveWeight rfl (by decide +kernel) (Nat.le_of_ble_eq_true rfl) rfl rfl (Nat.le_of_ble_eq_true rfl) dL_law_1148 (by omega) (by omega) ?_
  refine fk_istore hX.1 dL_law_1151 (by decide) rfl ?_
  refine fl_tT hX hm rfl rfl hk (by omega) (by omega) dL_law_1153 dL_law_1154 dL_law_1157 dL_law_1159 ?_
  refine fl_tI (off := 376) hX h320 rfl rfl rfl hv dL_law_1164 dL_law_1166 dL_law_1169 dL_law_1170 dL_law_1171 dL_law_1172 dL_law_1174 dL_law_1175 dL_law_1176 dL_law_1181 (by decide) ?_
  exact fk_drop 7 (fk_drop 6 (fk_widen (by omega) (by omega) (kk NL ad G2 x1 hX hR2)))
set_option maxHeartbeats 2000000 in
set_option maxRecDepth 20000 in
theorem lc_active {p : Program} {l : Launch} {e : Env} {s : State} {m : MethodId} {below : List Frame} {meth : Method} {c : Code} {D : va_G} {K : Nat → ClassId} {NL : List Nat} {ad : Nat → Nat} {b N cells slots n : Nat} {xs : Nat → Int32} {Q : State → Prop} {G : fM} {x : fX} (hX : Lx p l s m c D K NL ad b N xs) (hR : RelA n NL G) (hi : 3 * n + 2 < N) (hc : cells + 40 ≤ 601024) (hs : slots + 4000 ≤ 7293034) (kk : KK p l e s m below meth c D K b N xs cells slots Q n) : WL p l e s m below meth c D K NL ad b cells slots Q G x 1184 (lL b ad (3 * n)) [] := by
  have hn : n < 512 := by have := hX.2.2.2.2.2; omega
  have hm : f_EM NL := hR.1.2.2.2.2.2.1
  have h320 : 320 ∈ NL := hR.1.2.2.2.1
  have h321 : 321 ∈ NL := hR.1.2.2.2.2.1
  obtain ⟨k, G1, x1, v, G2, hH, hM, hk, hv, hR2⟩ := st_active (l := l) (D := D) (K := K) (ad := ad) (x := x) hX.2.1.1 hR hn (xs (3 * n + 1))
  refine fk_aload_n hX.1 dL_law_1184 rfl rfl ?_
  refine fl_arg (k := 1) hX rfl rfl rfl (by omega) dL_law_1185 dL_law_1186 dL_law_1188 dL_law_1189 dL_law_1190 ?_
  refine fk_aload_n hX.1 dL_law_1191 rfl rfl ?_
  refine fl_callH (nA := 3) hX hH gL_law_L_active rfl (by decide +kernel) (Nat.le_of_ble_eq_true rfl) rfl rfl (Nat.le_of_ble_eq_true rfl) dL_law_1192 (by omega) (by omega) ?_
  refine fk_istore hX.1 dL_law_1195 (by decide) rfl ?_
  refine fk_aload_n hX.1 dL_law_1197 rfl rfl ?_
  refine fl_arg (k := 1) hX rfl rfl rfl (by omega) dL_law_1198 dL_law_1199 dL_law_1201 dL_law_1202 dL_law_1203 ?_
  refine fl_callV (nA := 1) hX hM hm.1 (f_E310 _ _ _ _ _) rfl gL_law_X6_active rfl (by decide +kernel) (Nat.le_of_ble_eq_true rfl) rfl rfl (Nat.le_of_ble_eq_true rfl) dL_law_1204 (by omega) (by omega) ?_
  refine fk_istore hX.1 dL_law_1207 (by decide) rfl ?_
  refine fl_tT hX hm rfl rfl hk (by omega) (by omega) dL_law_1209 dL_law_1210 dL_law_1213 dL_law_1215 ?_
  refine fl_tI (off := 320) hX h320 rfl rfl rfl hv dL_law_1220 dL_law_1222 dL_law_1225 dL_law_1226 dL_law_1227 dL_law_1228 dL_law_1230 dL_law_1231 dL_law_1232 dL_law_1237 (by decide) ?_
  exact fk_drop 7 (fk_drop 6 (fk_widen (by omega) (by omega) (kk NL ad G2 x1 hX hR2)))
set_option maxHeartbeats 2000000 in
set_option maxRecDepth 20000 in
theorem lc_utilization {p : Program} {l : Launch} {e : Env} {s : State} {m : MethodId} {below : List Frame} {meth : Method} {c : Code} {D : va_G} {K : Nat → ClassId} {NL : List Nat} {ad : Nat → Nat} {b N cells slots n : Nat} {xs : Nat → Int32} {Q : State → Prop} {G : fM} {x : fX} (hX : Lx p l s m c D K NL ad b N xs) (hR : RelA n NL G) (hi : 3 * n + 2 < N) (hc : cells + 40 ≤ 601024) (hs : slots + 4000 ≤ 7293034) (kk : KK p l e s m below meth c D K b N xs cells slots Q n) : WL p l e s m below meth c D K NL ad b cells slots Q G x 1240 (lL b ad (3 * n)) [] := by
  have hn : n < 512 := by have := hX.2.2.2.2.2; omega
  have hm : f_EM NL := hR.1.2.2.2.2.2.1
  have h320 : 320 ∈ NL := hR.1.2.2.2.1
  have h321 : 321 ∈ NL := hR.1.2.2.2.2.1
  obtain ⟨k, G1, x1, v, G2, hH, hM, hk, hv, hR2⟩ := st_utilization (l := l) (D := D) (K := K) (ad := ad) (x := x) hX.2.1.1 hR hn (xs (3 * n + 1))
  refine fk_aload_n hX.1 dL_law_1240 rfl rfl ?_
  refine fl_arg (k := 1) hX rfl rfl rfl (by omega) dL_law_1241 dL_law_1242 dL_law_1244 dL_law_1245 dL_law_1246 ?_
  refine fk_aload hX.1 dL_law_1247 rfl ?_
  refine fl_callH (nA := 3) hX hH gL_law_L_utilization rfl (by decide +kernel) (Nat.le_of_ble_eq_true rfl) rfl rfl (Nat.le_of_ble_eq_true rfl) dL_law_1249 (by omega) (by omega) ?_
  refine fk_istore hX.1 dL_law_1252 (by decide) rfl ?_
  refine fk_aload_n hX.1 dL_law_1254 rfl rfl ?_
  refine fl_arg (k := 1) hX rfl rfl rfl (by omega) dL_law_1255 dL_law_1256 dL_law_1258 dL_law_1259 dL_law_1260 ?_
  refine fl_callV (nA := 1) hX hM hm.1 (f_E310 _ _ _ _ _) rfl gL_law_X6_utilization rfl (by decide +kernel) (Nat.le_of_ble_eq_true rfl) rfl rfl (Nat.le_of_ble_eq_true rfl) dL_law_1261 (by omega) (by omega) ?_
  refine fk_dstore hX.1 dL_law_1264 (by decide) rfl ?_
  refine fl_tT hX hm rfl rfl hk (by omega) (by omega) dL_law_1266 dL_law_1267 dL_law_1270 dL_law_1272 ?_
  have kg := fk_goto (tgt := 1557) hX.1 dL_law_1314 (by decide) (fk_drop 7 (fk_drop 6 (fk_widen (k := cells + 40) (n := slots + 4000) (cells := cells + 1 + 1 + 1) (slots := slots + 6 + 6 + 6) (by omega) (by omega) (kk NL ad G2 x1 hX hR2))) : WL p l e s m below meth c D K NL ad b _ _ Q G2 x1 1557 (f_set (f_set (f_set (lL b ad (3 * n)) 6 (some (.int k))) 7 (some (.double v))) 8 none) [])
  refine fk_iload hX.1 dL_law_1277 rfl ?_
  refine fk_if_ne (tgt := 1314) hX.1 dL_law_1279 (by decide) (fun _ => kg) (fun h => ?_)
  have hv9 := hv h
  refine fk_aload hX.1 dL_law_1282 rfl ?_
  refine fk_iconst (v := 0) hX.1 dL_law_1284 (by decide) ?_
  refine fk_dald hX.1 h321 dL_law_1285 ?_
  refine fk_dload hX.1 dL_law_1286 rfl ?_
  refine fk_dcmp hX.1 dL_law_1288 ?_
  refine fk_if_eq (tgt := 1314) hX.1 dL_law_1289 (by decide) (fun _ => kg) (fun h9 => ?_)
  rw [hv9] at h9
  refine fk_aload hX.1 dL_law_1292 rfl ?_
  refine fk_iconst (v := 0) hX.1 dL_law_1294 (by decide) ?_
  refine fk_dald hX.1 h321 dL_law_1295 ?_
  refine fk_aload hX.1 dL_law_1296 rfl ?_
  refine fk_iconst (v := 0) hX.1 dL_law_1298 (by decide) ?_
  refine fk_dald hX.1 h321 dL_law_1299 ?_
  refine fk_dcmp hX.1 dL_law_1300 ?_
  refine fk_if_eq (tgt := 1312) hX.1 dL_law_1301 (by decide) (fun h8 => absurd (by rw [hv9] at h8; exact h8) h9) (fun _ => ?_)
  refine fk_dload hX.1 dL_law_1304 rfl ?_
  refine fk_dload hX.1 dL_law_1306 rfl ?_
  refine fk_dcmp hX.1 dL_law_1308 ?_
  exact fk_if_ne (tgt := 1314) hX.1 dL_law_1309 (by decide) (fun _ => kg) (fun h8 => absurd h8 h9)
set_option maxHeartbeats 2000000 in
set_option maxRecDepth 20000 in
theorem lc_breaker {p : Program} {l : Launch} {e : Env} {s : State} {m : MethodId} {below : List Frame} {meth : Method} {c : Code} {D : va_G} {K : Nat → ClassId} {NL : List Nat} {ad : Nat → Nat} {b N cells slots n : Nat} {xs : Nat → Int32} {Q : State → Prop} {G : fM} {x : fX} (hX : Lx p l s m c D K NL ad b N xs) (hR : RelA n NL G) (hi : 3 * n + 2 < N) (hc : cells + 40 ≤ 601024) (hs : slots + 4000 ≤ 7293034) (kk : KK p l e s m below meth c D K b N xs cells slots Q n) : WL p l e s m below meth c D K NL ad b cells slots Q G x 1317 (lL b ad (3 * n)) [] := by
  have hn : n < 512 := by have := hX.2.2.2.2.2; omega
  have hm : f_EM NL := hR.1.2.2.2.2.2.1
  have h320 : 320 ∈ NL := hR.1.2.2.2.1
  have h321 : 321 ∈ NL := hR.1.2.2.2.2.1
  obtain ⟨k, G1, x1, v, G2, hH, hM, hk, hv, hR2⟩ := st_breaker (l := l) (D := D) (K := K) (ad := ad) (x := x) hX.2.1.1 hR hn (xs (3 * n + 1))
  refine fk_aload_n hX.1 dL_law_1317 rfl rfl ?_
  refine fl_arg (k := 1) hX rfl rfl rfl (by omega) dL_law_1318 dL_law_1319 dL_law_1321 dL_law_1322 dL_law_1323 ?_
  refine fk_aload_n hX.1 dL_law_1324 rfl rfl ?_
  refine fl_callH (nA := 3) hX hH gL_law_L_breaker rfl (by decide +kernel) (Nat.le_of_ble_eq_true rfl) rfl rfl (Nat.le_of_ble_eq_true rfl) dL_law_1325 (by omega) (by omega) ?_
  refine fk_istore hX.1 dL_law_1328 (by decide) rfl ?_
  refine fk_aload_n hX.1 dL_law_1330 rfl rfl ?_
  refine fl_arg (k := 1) hX rfl rfl rfl (by omega) dL_law_1331 dL_law_1332 dL_law_1334 dL_law_1335 dL_law_1336 ?_
  refine fl_callV (nA := 1) hX hM hm.1 (f_E310 _ _ _ _ _) rfl gL_law_X6_breaker rfl (by decide +kernel) (Nat.le_of_ble_eq_true rfl) rfl rfl (Nat.le_of_ble_eq_true rfl) dL_law_1337 (by omega) (by omega) ?_
  refine fk_istore hX.1 dL_law_1340 (by decide) rfl ?_
  refine fl_tT hX hm rfl rfl hk (by omega) (by omega) dL_law_1342 dL_law_1343 dL_law_1346 dL_law_1348 ?_
  refine fl_tI (off := 187) hX h320 rfl rfl rfl hv dL_law_1353 dL_law_1355 dL_law_1358 dL_law_1359 dL_law_1360 dL_law_1361 dL_law_1363 dL_law_1364 dL_law_1365 dL_law_1370 (by decide) ?_
  exact fk_drop 7 (fk_drop 6 (fk_widen (by omega) (by omega) (kk NL ad G2 x1 hX hR2)))
set_option maxHeartbeats 2000000 in
set_option maxRecDepth 20000 in
theorem lc_owner {p : Program} {l : Launch} {e : Env} {s : State} {m : MethodId} {below : List Frame} {meth : Method} {c : Code} {D : va_G} {K : Nat → ClassId} {NL : List Nat} {ad : Nat → Nat} {b N cells slots n : Nat} {xs : Nat → Int32} {Q : State → Prop} {G : fM} {x : fX} (hX : Lx p l s m c D K NL ad b N xs) (hR : RelA n NL G) (hi : 3 * n + 2 < N) (hc : cells + 40 ≤ 601024) (hs : slots + 4000 ≤ 7293034) (kk : KK p l e s m below meth c D K b N xs cells slots Q n) : WL p l e s m below meth c D K NL ad b cells slots Q G x 1373 (lL b ad (3 * n)) [] := by
  have hn : n < 512 := by have := hX.2.2.2.2.2; omega
  have hm : f_EM NL := hR.1.2.2.2.2.2.1
  have h320 : 320 ∈ NL := hR.1.2.2.2.1
  have h321 : 321 ∈ NL := hR.1.2.2.2.2.1
  obtain ⟨k, G1, x1, v, G2, hH, hM, hk, hv, hR2⟩ := st_owner (l := l) (D := D) (K := K) (ad := ad) (x := x) hX.2.1.1 hR hn (xs (3 * n + 1))
  refine fk_aload_n hX.1 dL_law_1373 rfl rfl ?_
  refine fl_arg (k := 1) hX rfl rfl rfl (by omega) dL_law_1374 dL_law_1375 dL_law_1377 dL_law_1378 dL_law_1379 ?_
  refine fk_aload_n hX.1 dL_law_1380 rfl rfl ?_
  refine fl_callH (nA := 3) hX hH gL_law_L_owner rfl (by decide +kernel) (Nat.le_of_ble_eq_true rfl) rfl rfl (Nat.le_of_ble_eq_true rfl) dL_law_1381 (by omega) (by omega) ?_
  refine fk_istore hX.1 dL_law_1384 (by decide) rfl ?_
  refine fk_aload_n hX.1 dL_law_1386 rfl rfl ?_
  refine fl_arg (k := 1) hX rfl rfl rfl (by omega) dL_law_1387 dL_law_1388 dL_law_1390 dL_law_1391 dL_law_1392 ?_
  refine fl_callV (nA := 1) hX hM hm.1 (f_E310 _ _ _ _ _) rfl gL_law_X6_owner rfl (by decide +kernel) (Nat.le_of_ble_eq_true rfl) rfl rfl (Nat.le_of_ble_eq_true rfl) dL_law_1393 (by omega) (by omega) ?_
  refine fk_istore hX.1 dL_law_1396 (by decide) rfl ?_
  refine fl_tT hX hm rfl rfl hk (by omega) (by omega) dL_law_1398 dL_law_1399 dL_law_1402 dL_law_1404 ?_
  refine fl_tI (off := 131) hX h320 rfl rfl rfl hv dL_law_1409 dL_law_1411 dL_law_1414 dL_law_1415 dL_law_1416 dL_law_1417 dL_law_1419 dL_law_1420 dL_law_1421 dL_law_1426 (by decide) ?_
  exact fk_drop 7 (fk_drop 6 (fk_widen (by omega) (by omega) (kk NL ad G2 x1 hX hR2)))
set_option maxHeartbeats 2000000 in
set_option maxRecDepth 20000 in
theorem lc_count {p : Program} {l : Launch} {e : Env} {s : State} {m : MethodId} {below : List Frame} {meth : Method} {c : Code} {D : va_G} {K : Nat → ClassId} {NL : List Nat} {ad : Nat → Nat} {b N cells slots n : Nat} {xs : Nat → Int32} {Q : State → Prop} {G : fM} {x : fX} (hX : Lx p l s m c D K NL ad b N xs) (hR : RelA n NL G) (hi : 3 * n + 2 < N) (hc : cells + 40 ≤ 601024) (hs : slots + 4000 ≤ 7293034) (kk : KK p l e s m below meth c D K b N xs cells slots Q n) : WL p l e s m below meth c D K NL ad b cells slots Q G x 1429 (lL b ad (3 * n)) [] := by
  have hn : n < 512 := by have := hX.2.2.2.2.2; omega
  have hm : f_EM NL := hR.1.2.2.2.2.2.1
  have h320 : 320 ∈ NL := hR.1.2.2.2.1
  have h321 : 321 ∈ NL := hR.1.2.2.2.2.1
  obtain ⟨k, G1, x1, v, G2, hH, hM, hk, hv, hR2⟩ := st_count (l := l) (D := D) (K := K) (ad := ad) (x := x) hX.2.1.1 hR hn (xs (3 * n + 1))
  refine fk_aload_n hX.1 dL_law_1429 rfl rfl ?_
  refine fl_arg (k := 1) hX rfl rfl rfl (by omega) dL_law_1430 dL_law_1431 dL_law_1433 dL_law_1434 dL_law_1435 ?_
  refine fk_aload_n hX.1 dL_law_1436 rfl rfl ?_
  refine fl_callH (nA := 3) hX hH gL_law_L_count rfl (by decide +kernel) (Nat.le_of_ble_eq_true rfl) rfl rfl (Nat.le_of_ble_eq_true rfl) dL_law_1437 (by omega) (by omega) ?_
  refine fk_istore hX.1 dL_law_1440 (by decide) rfl ?_
  refine fk_aload_n hX.1 dL_law_1442 rfl rfl ?_
  refine fl_arg (k := 1) hX rfl rfl rfl (by omega) dL_law_1443 dL_law_1444 dL_law_1446 dL_law_1447 dL_law_1448 ?_
  refine fl_callV (nA := 1) hX hM hm.1 (f_E310 _ _ _ _ _) rfl gL_law_X6_count rfl (by decide +kernel) (Nat.le_of_ble_eq_true rfl) rfl rfl (Nat.le_of_ble_eq_true rfl) dL_law_1449 (by omega) (by omega) ?_
  refine fk_istore hX.1 dL_law_1452 (by decide) rfl ?_
  refine fl_tT hX hm rfl rfl hk (by omega) (by omega) dL_law_1454 dL_law_1455 dL_law_1458 dL_law_1460 ?_
  refine fl_tI (off := 75) hX h320 rfl rfl rfl hv dL_law_1465 dL_law_1467 dL_law_1470 dL_law_1471 dL_law_1472 dL_law_1473 dL_law_1475 dL_law_1476 dL_law_1477 dL_law_1482 (by decide) ?_
  exact fk_drop 7 (fk_drop 6 (fk_widen (by omega) (by omega) (kk NL ad G2 x1 hX hR2)))
set_option maxHeartbeats 2000000 in
set_option maxRecDepth 20000 in
theorem lc_save {p : Program} {l : Launch} {e : Env} {s : State} {m : MethodId} {below : List Frame} {meth : Method} {c : Code} {D : va_G} {K : Nat → ClassId} {NL : List Nat} {ad : Nat → Nat} {b N cells slots n : Nat} {xs : Nat → Int32} {Q : State → Prop} {G : fM} {x : fX} (hX : Lx p l s m c D K NL ad b N xs) (hR : RelA n NL G) (hi : 3 * n + 2 < N) (hc : cells + 40 ≤ 601024) (hs : slots + 4000 ≤ 7293034) (kk : KK p l e s m below meth c D K b N xs cells slots Q n) : WL p l e s m below meth c D K NL ad b cells slots Q G x 1485 (lL b ad (3 * n)) [] := by
  have hn : n < 512 := by have := hX.2.2.2.2.2; omega
  have hm : f_EM NL := hR.1.2.2.2.2.2.1
  have h320 : 320 ∈ NL := hR.1.2.2.2.1
  have h321 : 321 ∈ NL := hR.1.2.2.2.2.1
  rcases st_save (l := l) (D := D) (K := K) (ad := ad) (x := x) hX.2.1.1 hR hn (xs (3 * n + 1)) with ⟨k, G1, G2, hH, hM, hk, hR2⟩ | ⟨τ, G1, G2, hτ, hS, hfr, hM, hk, hR2⟩
  · refine fk_aload_n hX.1 dL_law_1485 rfl rfl ?_
    refine fl_arg (k := 1) hX rfl rfl rfl (by omega) dL_law_1486 dL_law_1487 dL_law_1489 dL_law_1490 dL_law_1491 ?_
    refine fl_callH (nA := 2) hX hH gL_law_L_save rfl (by decide +kernel) (Nat.le_of_ble_eq_true rfl) rfl rfl (Nat.le_of_ble_eq_true rfl) dL_law_1492 (by omega) (by omega) ?_
    refine fk_istore hX.1 dL_law_1495 (by decide) rfl ?_
    refine fk_aload_n hX.1 dL_law_1497 rfl rfl ?_
    refine fl_arg (k := 1) hX rfl rfl rfl (by omega) dL_law_1498 dL_law_1499 dL_law_1501 dL_law_1502 dL_law_1503 ?_
    refine fl_callV (nA := 1) hX hM hm.1 (f_E310 _ _ _ _ _) rfl gL_law_X6_save rfl (by decide +kernel) (Nat.le_of_ble_eq_true rfl) rfl rfl (Nat.le_of_ble_eq_true rfl) dL_law_1504 (by omega) (by omega) ?_
    refine fl_tT hX hm rfl rfl hk (by omega) (by omega) dL_law_1507 dL_law_1508 dL_law_1511 dL_law_1513 ?_
    refine fk_goto (tgt := 1557) hX.1 dL_law_1518 (by decide) ?_
    exact fk_drop 6 (fk_widen (by omega) (by omega) (kk NL ad G2 x hX hR2))
  · refine fk_aload_n hX.1 dL_law_1485 rfl rfl ?_
    refine fl_arg (k := 1) hX rfl rfl rfl (by omega) dL_law_1486 dL_law_1487 dL_law_1489 dL_law_1490 dL_law_1491 ?_
    refine fk_callSS (nA := 2) hX.1 hX.2.2.1 hS (vx_cwSW 2 hX.1.1.2.2.2.2 gL_law_L_save rfl rfl rfl (by decide +kernel) ⟨Nat.le_of_ble_eq_true rfl, Nat.le_of_ble_eq_true rfl⟩) rfl rfl (Nat.le_of_ble_eq_true rfl) dL_law_1492 ⟨by show cells + 30 ≤ 601024; omega, by show slots + 3302 ≤ 7293034; omega⟩ ?_
    intro a hDn
    have hX2 : Lx p l s m c D K (NLx NL τ) (adx ad τ a) b N xs := ⟨⟨hX.1.1, hX.1.2.1, hDn, hX.1.2.2.2⟩, hX.2⟩
    have hm2 : f_EM (NLx NL τ) := hR2.1.2.2.2.2.2.1
    have hL : lL b ad (3 * n) = lL b (adx ad τ a) (3 * n) := (lL_eq (adx_out (by omega)) (adx_out (by omega)) (adx_out (by omega)) (adx_out (by omega))).symm
    rw [hL]
    refine fk_istore hX2.1 dL_law_1495 (by decide) rfl ?_
    refine fk_aload_n hX2.1 dL_law_1497 rfl rfl ?_
    refine fl_arg (k := 1) hX2 rfl rfl rfl (by omega) dL_law_1498 dL_law_1499 dL_law_1501 dL_law_1502 dL_law_1503 ?_
    refine fk_widen (k := cells + 30) (n := slots + 3302) (Nat.le_refl _) (Nat.le_refl _) ?_
    refine fl_callV (nA := 1) hX2 (hM a) hm2.1 (f_E310 _ _ _ _ _) rfl gL_law_X6_save rfl (by decide +kernel) (Nat.le_of_ble_eq_true rfl) rfl rfl (Nat.le_of_ble_eq_true rfl) dL_law_1504 (by omega) (by omega) ?_
    refine fl_tT hX2 hm2 rfl rfl hk (by omega) (by omega) dL_law_1507 dL_law_1508 dL_law_1511 dL_law_1513 ?_
    refine fk_goto (tgt := 1557) hX2.1 dL_law_1518 (by decide) ?_
    exact fk_drop 6 (fk_widen (by omega) (by omega) (kk (NLx NL τ) (adx ad τ a) G2 x hX2 hR2))
set_option maxHeartbeats 2000000 in
set_option maxRecDepth 20000 in
theorem lc_restore {p : Program} {l : Launch} {e : Env} {s : State} {m : MethodId} {below : List Frame} {meth : Method} {c : Code} {D : va_G} {K : Nat → ClassId} {NL : List Nat} {ad : Nat → Nat} {b N cells slots n : Nat} {xs : Nat → Int32} {Q : State → Prop} {G : fM} {x : fX} (hX : Lx p l s m c D K NL ad b N xs) (hR : RelA n NL G) (hi : 3 * n + 2 < N) (hc : cells + 40 ≤ 601024) (hs : slots + 4000 ≤ 7293034) (kk : KK p l e s m below meth c D K b N xs cells slots Q n) : WL p l e s m below meth c D K NL ad b cells slots Q G x 1521 (lL b ad (3 * n)) [] := by
  have hn : n < 512 := by have := hX.2.2.2.2.2; omega
  have hm : f_EM NL := hR.1.2.2.2.2.2.1
  have h320 : 320 ∈ NL := hR.1.2.2.2.1
  have h321 : 321 ∈ NL := hR.1.2.2.2.2.1
  obtain ⟨k, G1, x1, G2, hH, hM, hk, hR2⟩ := st_restore (l := l) (D := D) (K := K) (ad := ad) (x := x) hX.2.1.1 hR hn (xs (3 * n + 1))
  refine fk_aload_n hX.1 dL_law_1521 rfl rfl ?_
  refine fl_arg (k := 1) hX rfl rfl rfl (by omega) dL_law_1522 dL_law_1523 dL_law_1525 dL_law_1526 dL_law_1527 ?_
  refine fl_callH (nA := 2) hX hH gL_law_L_restore rfl (by decide +kernel) (Nat.le_of_ble_eq_true rfl) rfl rfl (Nat.le_of_ble_eq_true rfl) dL_law_1528 (by omega) (by omega) ?_
  refine fk_istore hX.1 dL_law_1531 (by decide) rfl ?_
  refine fk_aload_n hX.1 dL_law_1533 rfl rfl ?_
  refine fl_arg (k := 1) hX rfl rfl rfl (by omega) dL_law_1534 dL_law_1535 dL_law_1537 dL_law_1538 dL_law_1539 ?_
  refine fl_callV (nA := 1) hX hM hm.1 (f_E310 _ _ _ _ _) rfl gL_law_X6_restore rfl (by decide +kernel) (Nat.le_of_ble_eq_true rfl) rfl rfl (Nat.le_of_ble_eq_true rfl) dL_law_1540 (by omega) (by omega) ?_
  refine fl_tT hX hm rfl rfl hk (by omega) (by omega) dL_law_1543 dL_law_1544 dL_law_1547 dL_law_1549 ?_
  refine fk_goto (tgt := 1557) hX.1 dL_law_1554 (by decide) ?_
  exact fk_drop 6 (fk_widen (by omega) (by omega) (kk NL ad G2 x1 hX hR2))
end LAWC
