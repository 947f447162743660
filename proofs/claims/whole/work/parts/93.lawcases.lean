/-! the law's cases, walked -/
section LW
variable {p : Program} {e : Env} {s : State} {m : MethodId} {below : List Frame} {meth : Method} {c : Code} {l : Launch} {b L : Nat} {xs : Nat → Int32} {D : va_G} {cs : Nat → ClassId} {H : Heap} {locs : List Loc} {Z : State → Prop} {la : Array Slot} {aX aM : Int → Nat} {ω τ t : q_S} {i : Nat}
theorem L_field (C0 : lw_At p s m meth c b L xs) (F : l_F s D cs aX aM) (S : l_S s D cs aX aM H locs ω (ovM τ t)) (hR : Rel ω τ) (hce : cE ω (pM (τ 1))) (hT : tT ω = tT (tx τ)) (hl : lv_has la 4 (l_ls b (aX 0) (aM 0) i)) (hi : i + 7 ≤ L) (hL : L ≤ 3584) (kk : l_Go p l e s m b below meth c D cs aX aM Z la) : W p l e room_1 s m #[Value.ref b] below meth c H locs 600000 7302250 Z (F0 m 208 la []) := by
  refine l_caseI (av := [.inl (xs (i + 1)).toInt]) (pc1 := 214) (pc2 := 217) (pc3 := 223) (pc4 := 226) C0 F S hR hce hT hl.1 (C_field _) ⟨q_in32 _, trivial⟩ rfl (fun H locs st hS k => ?_) dL_law_214 vX7_field (List.mem_of_getElem? (i := 371) (by decide +kernel)) rfl rfl rfl (fun H locs st hS k => ?_) dL_law_223 vX8_field (List.mem_of_getElem? (i := 1127) (by decide +kernel)) rfl rfl rfl dL_law_226 (by decide) kk
  · refine lv_aload_n C0.1 C0.2.1 dL_law_208 rfl (lv_at hl 2 rfl) ?_
    refine l_arg (k := 1) C0 hS hl (by omega) hL (by decide) dL_law_209 dL_law_210 dL_law_211 dL_law_212 dL_law_213 ?_
    exact k
  · refine lv_aload_n C0.1 C0.2.1 dL_law_217 rfl (lv_at hl 3 rfl) ?_
    refine l_arg (k := 1) C0 hS hl (by omega) hL (by decide) dL_law_218 dL_law_219 dL_law_220 dL_law_221 dL_law_222 ?_
    exact k
theorem L_track (C0 : lw_At p s m meth c b L xs) (F : l_F s D cs aX aM) (S : l_S s D cs aX aM H locs ω (ovM τ t)) (hR : Rel ω τ) (hce : cE ω (pM (τ 1))) (hT : tT ω = tT (tx τ)) (hl : lv_has la 4 (l_ls b (aX 0) (aM 0) i)) (hi : i + 7 ≤ L) (hL : L ≤ 3584) (kk : l_Go p l e s m b below meth c D cs aX aM Z la) : W p l e room_1 s m #[Value.ref b] below meth c H locs 600000 7302250 Z (F0 m 231 la []) := by
  refine l_caseI (av := [.inl (xs (i + 1)).toInt, .inl (xs (i + 2)).toInt, .inl (xs (i + 3)).toInt, .inl (xs (i + 4)).toInt, .inl (xs (i + 5)).toInt, .inl (xs (i + 6)).toInt]) (pc1 := 263) (pc2 := 266) (pc3 := 298) (pc4 := 301) C0 F S hR hce hT hl.1 (C_track _ _ _ _ _ _) ⟨q_in32 _, q_in32 _, q_in32 _, q_in32 _, q_in32 _, q_in32 _, trivial⟩ rfl (fun H locs st hS k => ?_) dL_law_263 vX7_track (List.mem_of_getElem? (i := 397) (by decide +kernel)) rfl rfl rfl (fun H locs st hS k => ?_) dL_law_298 vX8_track (List.mem_of_getElem? (i := 1136) (by decide +kernel)) rfl rfl rfl dL_law_301 (by decide) kk
  · refine lv_aload_n C0.1 C0.2.1 dL_law_231 rfl (lv_at hl 2 rfl) ?_
    refine l_arg (k := 1) C0 hS hl (by omega) hL (by decide) dL_law_232 dL_law_233 dL_law_234 dL_law_235 dL_law_236 ?_
    refine l_arg (k := 2) C0 hS hl (by omega) hL (by decide) dL_law_237 dL_law_238 dL_law_239 dL_law_240 dL_law_241 ?_
    refine l_arg (k := 3) C0 hS hl (by omega) hL (by decide) dL_law_242 dL_law_243 dL_law_244 dL_law_245 dL_law_246 ?_
    refine l_arg (k := 4) C0 hS hl (by omega) hL (by decide) dL_law_247 dL_law_248 dL_law_249 dL_law_250 dL_law_251 ?_
    refine l_arg (k := 5) C0 hS hl (by omega) hL (by decide) dL_law_252 dL_law_253 dL_law_254 dL_law_255 dL_law_256 ?_
    refine l_arg6 (k := 6) C0 hS hl (by omega) hL (by decide) dL_law_257 dL_law_258 dL_law_259 dL_law_261 dL_law_262 ?_
    exact k
  · refine lv_aload_n C0.1 C0.2.1 dL_law_266 rfl (lv_at hl 3 rfl) ?_
    refine l_arg (k := 1) C0 hS hl (by omega) hL (by decide) dL_law_267 dL_law_268 dL_law_269 dL_law_270 dL_law_271 ?_
    refine l_arg (k := 2) C0 hS hl (by omega) hL (by decide) dL_law_272 dL_law_273 dL_law_274 dL_law_275 dL_law_276 ?_
    refine l_arg (k := 3) C0 hS hl (by omega) hL (by decide) dL_law_277 dL_law_278 dL_law_279 dL_law_280 dL_law_281 ?_
    refine l_arg (k := 4) C0 hS hl (by omega) hL (by decide) dL_law_282 dL_law_283 dL_law_284 dL_law_285 dL_law_286 ?_
    refine l_arg (k := 5) C0 hS hl (by omega) hL (by decide) dL_law_287 dL_law_288 dL_law_289 dL_law_290 dL_law_291 ?_
    refine l_arg6 (k := 6) C0 hS hl (by omega) hL (by decide) dL_law_292 dL_law_293 dL_law_294 dL_law_296 dL_law_297 ?_
    exact k
theorem L_kind (C0 : lw_At p s m meth c b L xs) (F : l_F s D cs aX aM) (S : l_S s D cs aX aM H locs ω (ovM τ t)) (hR : Rel ω τ) (hce : cE ω (pM (τ 1))) (hT : tT ω = tT (tx τ)) (hl : lv_has la 4 (l_ls b (aX 0) (aM 0) i)) (hi : i + 7 ≤ L) (hL : L ≤ 3584) (kk : l_Go p l e s m b below meth c D cs aX aM Z la) : W p l e room_1 s m #[Value.ref b] below meth c H locs 600000 7302250 Z (F0 m 306 la []) := by
  refine l_caseI (av := [.inl (xs (i + 1)).toInt, .inl (xs (i + 2)).toInt]) (pc1 := 317) (pc2 := 320) (pc3 := 331) (pc4 := 334) C0 F S hR hce hT hl.1 (C_kind _ _) ⟨q_in32 _, q_in32 _, trivial⟩ rfl (fun H locs st hS k => ?_) dL_law_317 vX7_kind (List.mem_of_getElem? (i := 408) (by decide +kernel)) rfl rfl rfl (fun H locs st hS k => ?_) dL_law_331 vX8_kind (List.mem_of_getElem? (i := 1153) (by decide +kernel)) rfl rfl rfl dL_law_334 (by decide) kk
  · refine lv_aload_n C0.1 C0.2.1 dL_law_306 rfl (lv_at hl 2 rfl) ?_
    refine l_arg (k := 1) C0 hS hl (by omega) hL (by decide) dL_law_307 dL_law_308 dL_law_309 dL_law_310 dL_law_311 ?_
    refine l_arg (k := 2) C0 hS hl (by omega) hL (by decide) dL_law_312 dL_law_313 dL_law_314 dL_law_315 dL_law_316 ?_
    exact k
  · refine lv_aload_n C0.1 C0.2.1 dL_law_320 rfl (lv_at hl 3 rfl) ?_
    refine l_arg (k := 1) C0 hS hl (by omega) hL (by decide) dL_law_321 dL_law_322 dL_law_323 dL_law_324 dL_law_325 ?_
    refine l_arg (k := 2) C0 hS hl (by omega) hL (by decide) dL_law_326 dL_law_327 dL_law_328 dL_law_329 dL_law_330 ?_
    exact k
theorem L_vertex (C0 : lw_At p s m meth c b L xs) (F : l_F s D cs aX aM) (S : l_S s D cs aX aM H locs ω (ovM τ t)) (hR : Rel ω τ) (hce : cE ω (pM (τ 1))) (hT : tT ω = tT (tx τ)) (hl : lv_has la 4 (l_ls b (aX 0) (aM 0) i)) (hi : i + 7 ≤ L) (hL : L ≤ 3584) (kk : l_Go p l e s m b below meth c D cs aX aM Z la) : W p l e room_1 s m #[Value.ref b] below meth c H locs 600000 7302250 Z (F0 m 339 la []) := by
  refine l_caseI (av := [.inl (xs (i + 1)).toInt, .inl (xs (i + 2)).toInt, .inl (xs (i + 3)).toInt, .inl (xs (i + 4)).toInt]) (pc1 := 360) (pc2 := 363) (pc3 := 384) (pc4 := 387) C0 F S hR hce hT hl.1 (C_vertex _ _ _ _) ⟨q_in32 _, q_in32 _, q_in32 _, q_in32 _, trivial⟩ rfl (fun H locs st hS k => ?_) dL_law_360 vX7_vertex (List.mem_of_getElem? (i := 444) (by decide +kernel)) rfl rfl rfl (fun H locs st hS k => ?_) dL_law_384 vX8_vertex (List.mem_of_getElem? (i := 1182) (by decide +kernel)) rfl rfl rfl dL_law_387 (by decide) kk
  · refine lv_aload_n C0.1 C0.2.1 dL_law_339 rfl (lv_at hl 2 rfl) ?_
    refine l_arg (k := 1) C0 hS hl (by omega) hL (by decide) dL_law_340 dL_law_341 dL_law_342 dL_law_343 dL_law_344 ?_
    refine l_arg (k := 2) C0 hS hl (by omega) hL (by decide) dL_law_345 dL_law_346 dL_law_347 dL_law_348 dL_law_349 ?_
    refine l_arg (k := 3) C0 hS hl (by omega) hL (by decide) dL_law_350 dL_law_351 dL_law_352 dL_law_353 dL_law_354 ?_
    refine l_arg (k := 4) C0 hS hl (by omega) hL (by decide) dL_law_355 dL_law_356 dL_law_357 dL_law_358 dL_law_359 ?_
    exact k
  · refine lv_aload_n C0.1 C0.2.1 dL_law_363 rfl (lv_at hl 3 rfl) ?_
    refine l_arg (k := 1) C0 hS hl (by omega) hL (by decide) dL_law_364 dL_law_365 dL_law_366 dL_law_367 dL_law_368 ?_
    refine l_arg (k := 2) C0 hS hl (by omega) hL (by decide) dL_law_369 dL_law_370 dL_law_371 dL_law_372 dL_law_373 ?_
    refine l_arg (k := 3) C0 hS hl (by omega) hL (by decide) dL_law_374 dL_law_375 dL_law_376 dL_law_377 dL_law_378 ?_
    refine l_arg (k := 4) C0 hS hl (by omega) hL (by decide) dL_law_379 dL_law_380 dL_law_381 dL_law_382 dL_law_383 ?_
    exact k
theorem L_drop (C0 : lw_At p s m meth c b L xs) (F : l_F s D cs aX aM) (S : l_S s D cs aX aM H locs ω (ovM τ t)) (hR : Rel ω τ) (hce : cE ω (pM (τ 1))) (hT : tT ω = tT (tx τ)) (hl : lv_has la 4 (l_ls b (aX 0) (aM 0) i)) (hi : i + 7 ≤ L) (hL : L ≤ 3584) (kk : l_Go p l e s m b below meth c D cs aX aM Z la) : W p l e room_1 s m #[Value.ref b] below meth c H locs 600000 7302250 Z (F0 m 392 la []) := by
  refine l_caseI (av := []) (pc1 := 393) (pc2 := 396) (pc3 := 397) (pc4 := 400) C0 F S hR hce hT hl.1 (C_drop) trivial rfl (fun H locs st hS k => ?_) dL_law_393 vX7_drop (List.mem_of_getElem? (i := 476) (by decide +kernel)) rfl rfl rfl (fun H locs st hS k => ?_) dL_law_397 vX8_drop (List.mem_of_getElem? (i := 1209) (by decide +kernel)) rfl rfl rfl dL_law_400 (by decide) kk
  · refine lv_aload_n C0.1 C0.2.1 dL_law_392 rfl (lv_at hl 2 rfl) ?_
    exact k
  · refine lv_aload_n C0.1 C0.2.1 dL_law_396 rfl (lv_at hl 3 rfl) ?_
    exact k
theorem L_wipe (C0 : lw_At p s m meth c b L xs) (F : l_F s D cs aX aM) (S : l_S s D cs aX aM H locs ω (ovM τ t)) (hR : Rel ω τ) (hce : cE ω (pM (τ 1))) (hT : tT ω = tT (tx τ)) (hl : lv_has la 4 (l_ls b (aX 0) (aM 0) i)) (hi : i + 7 ≤ L) (hL : L ≤ 3584) (kk : l_Go p l e s m b below meth c D cs aX aM Z la) : W p l e room_1 s m #[Value.ref b] below meth c H locs 600000 7302250 Z (F0 m 405 la []) := by
  refine l_caseI (av := []) (pc1 := 406) (pc2 := 409) (pc3 := 410) (pc4 := 413) C0 F S hR hce hT hl.1 (C_wipe) trivial rfl (fun H locs st hS k => ?_) dL_law_406 vX7_wipe (List.mem_of_getElem? (i := 484) (by decide +kernel)) rfl rfl rfl (fun H locs st hS k => ?_) dL_law_410 vX8_wipe (List.mem_of_getElem? (i := 1213) (by decide +kernel)) rfl rfl rfl dL_law_413 (by decide) kk
  · refine lv_aload_n C0.1 C0.2.1 dL_law_405 rfl (lv_at hl 2 rfl) ?_
    exact k
  · refine lv_aload_n C0.1 C0.2.1 dL_law_409 rfl (lv_at hl 3 rfl) ?_
    exact k
theorem L_trackOf (C0 : lw_At p s m meth c b L xs) (F : l_F s D cs aX aM) (S : l_S s D cs aX aM H locs ω (ovM τ t)) (hR : Rel ω τ) (hce : cE ω (pM (τ 1))) (hT : tT ω = tT (tx τ)) (hl : lv_has la 4 (l_ls b (aX 0) (aM 0) i)) (hi : i + 7 ≤ L) (hL : L ≤ 3584) (kk : l_Go p l e s m b below meth c D cs aX aM Z la) : W p l e room_1 s m #[Value.ref b] below meth c H locs 600000 7302250 Z (F0 m 418 la []) := by
  refine l_caseI (av := [.inl (xs (i + 1)).toInt, .inl (xs (i + 2)).toInt]) (pc1 := 429) (pc2 := 432) (pc3 := 443) (pc4 := 446) C0 F S hR hce hT hl.1 (C_trackOf _ _) ⟨q_in32 _, q_in32 _, trivial⟩ rfl (fun H locs st hS k => ?_) dL_law_429 vX7_trackOf (List.mem_of_getElem? (i := 496) (by decide +kernel)) rfl rfl rfl (fun H locs st hS k => ?_) dL_law_443 vX8_trackOf (List.mem_of_getElem? (i := 1221) (by decide +kernel)) rfl rfl rfl dL_law_446 (by decide) kk
  · refine lv_aload_n C0.1 C0.2.1 dL_law_418 rfl (lv_at hl 2 rfl) ?_
    refine l_arg (k := 1) C0 hS hl (by omega) hL (by decide) dL_law_419 dL_law_420 dL_law_421 dL_law_422 dL_law_423 ?_
    refine l_arg (k := 2) C0 hS hl (by omega) hL (by decide) dL_law_424 dL_law_425 dL_law_426 dL_law_427 dL_law_428 ?_
    exact k
  · refine lv_aload_n C0.1 C0.2.1 dL_law_432 rfl (lv_at hl 3 rfl) ?_
    refine l_arg (k := 1) C0 hS hl (by omega) hL (by decide) dL_law_433 dL_law_434 dL_law_435 dL_law_436 dL_law_437 ?_
    refine l_arg (k := 2) C0 hS hl (by omega) hL (by decide) dL_law_438 dL_law_439 dL_law_440 dL_law_441 dL_law_442 ?_
    exact k
theorem L_bend (C0 : lw_At p s m meth c b L xs) (F : l_F s D cs aX aM) (S : l_S s D cs aX aM H locs ω (ovM τ t)) (hR : Rel ω τ) (hce : cE ω (pM (τ 1))) (hT : tT ω = tT (tx τ)) (hl : lv_has la 4 (l_ls b (aX 0) (aM 0) i)) (hi : i + 7 ≤ L) (hL : L ≤ 3584) (kk : l_Go p l e s m b below meth c D cs aX aM Z la) : W p l e room_1 s m #[Value.ref b] below meth c H locs 600000 7302250 Z (F0 m 451 la []) := by
  refine l_caseJ (av := [.inl (xs (i + 1)).toInt]) (pc1 := 457) (pc2 := 460) (pc3 := 466) (pc4 := 469) C0 F S hR hce hT hl.1 (C_bend _) ⟨q_in32 _, trivial⟩ rfl (fun H locs st hS k => ?_) dL_law_457 vX7_bend (List.mem_of_getElem? (i := 500) (by decide +kernel)) rfl rfl rfl (fun H locs st hS k => ?_) dL_law_466 vX8_bend (List.mem_of_getElem? (i := 1226) (by decide +kernel)) rfl rfl rfl dL_law_469 dL_law_470 (by decide) kk
  · refine lv_aload_n C0.1 C0.2.1 dL_law_451 rfl (lv_at hl 2 rfl) ?_
    refine l_arg (k := 1) C0 hS hl (by omega) hL (by decide) dL_law_452 dL_law_453 dL_law_454 dL_law_455 dL_law_456 ?_
    exact k
  · refine lv_aload_n C0.1 C0.2.1 dL_law_460 rfl (lv_at hl 3 rfl) ?_
    refine l_arg (k := 1) C0 hS hl (by omega) hL (by decide) dL_law_461 dL_law_462 dL_law_463 dL_law_464 dL_law_465 ?_
    exact k
theorem L_vertexOf (C0 : lw_At p s m meth c b L xs) (F : l_F s D cs aX aM) (S : l_S s D cs aX aM H locs ω (ovM τ t)) (hR : Rel ω τ) (hce : cE ω (pM (τ 1))) (hT : tT ω = tT (tx τ)) (hl : lv_has la 4 (l_ls b (aX 0) (aM 0) i)) (hi : i + 7 ≤ L) (hL : L ≤ 3584) (kk : l_Go p l e s m b below meth c D cs aX aM Z la) : W p l e room_1 s m #[Value.ref b] below meth c H locs 600000 7302250 Z (F0 m 475 la []) := by
  refine l_caseI (av := [.inl (xs (i + 1)).toInt, .inl (xs (i + 2)).toInt]) (pc1 := 486) (pc2 := 489) (pc3 := 500) (pc4 := 503) C0 F S hR hce hT hl.1 (C_vertexOf _ _) ⟨q_in32 _, q_in32 _, trivial⟩ rfl (fun H locs st hS k => ?_) dL_law_486 vX7_vertexOf (List.mem_of_getElem? (i := 505) (by decide +kernel)) rfl rfl rfl (fun H locs st hS k => ?_) dL_law_500 vX8_vertexOf (List.mem_of_getElem? (i := 1231) (by decide +kernel)) rfl rfl rfl dL_law_503 (by decide) kk
  · refine lv_aload_n C0.1 C0.2.1 dL_law_475 rfl (lv_at hl 2 rfl) ?_
    refine l_arg (k := 1) C0 hS hl (by omega) hL (by decide) dL_law_476 dL_law_477 dL_law_478 dL_law_479 dL_law_480 ?_
    refine l_arg (k := 2) C0 hS hl (by omega) hL (by decide) dL_law_481 dL_law_482 dL_law_483 dL_law_484 dL_law_485 ?_
    exact k
  · refine lv_aload_n C0.1 C0.2.1 dL_law_489 rfl (lv_at hl 3 rfl) ?_
    refine l_arg (k := 1) C0 hS hl (by omega) hL (by decide) dL_law_490 dL_law_491 dL_law_492 dL_law_493 dL_law_494 ?_
    refine l_arg (k := 2) C0 hS hl (by omega) hL (by decide) dL_law_495 dL_law_496 dL_law_497 dL_law_498 dL_law_499 ?_
    exact k
theorem L_numbers (C0 : lw_At p s m meth c b L xs) (F : l_F s D cs aX aM) (S : l_S s D cs aX aM H locs ω (ovM τ t)) (hR : Rel ω τ) (hce : cE ω (pM (τ 1))) (hT : tT ω = tT (tx τ)) (hl : lv_has la 4 (l_ls b (aX 0) (aM 0) i)) (hi : i + 7 ≤ L) (hL : L ≤ 3584) (kk : l_Go p l e s m b below meth c D cs aX aM Z la) : W p l e room_1 s m #[Value.ref b] below meth c H locs 600000 7302250 Z (F0 m 508 la []) := by
  refine l_caseI (av := [.inl (xs (i + 1)).toInt, .inl (xs (i + 2)).toInt]) (pc1 := 519) (pc2 := 522) (pc3 := 533) (pc4 := 536) C0 F S hR hce hT hl.1 (C_numbers _ _) ⟨q_in32 _, q_in32 _, trivial⟩ rfl (fun H locs st hS k => ?_) dL_law_519 vX7_numbers (List.mem_of_getElem? (i := 513) (by decide +kernel)) rfl rfl rfl (fun H locs st hS k => ?_) dL_law_533 vX8_numbers (List.mem_of_getElem? (i := 1109) (by decide +kernel)) rfl rfl rfl dL_law_536 (by decide) kk
  · refine lv_aload_n C0.1 C0.2.1 dL_law_508 rfl (lv_at hl 2 rfl) ?_
    refine l_arg (k := 1) C0 hS hl (by omega) hL (by decide) dL_law_509 dL_law_510 dL_law_511 dL_law_512 dL_law_513 ?_
    refine l_arg (k := 2) C0 hS hl (by omega) hL (by decide) dL_law_514 dL_law_515 dL_law_516 dL_law_517 dL_law_518 ?_
    exact k
  · refine lv_aload_n C0.1 C0.2.1 dL_law_522 rfl (lv_at hl 3 rfl) ?_
    refine l_arg (k := 1) C0 hS hl (by omega) hL (by decide) dL_law_523 dL_law_524 dL_law_525 dL_law_526 dL_law_527 ?_
    refine l_arg (k := 2) C0 hS hl (by omega) hL (by decide) dL_law_528 dL_law_529 dL_law_530 dL_law_531 dL_law_532 ?_
    exact k
theorem L_count (C0 : lw_At p s m meth c b L xs) (F : l_F s D cs aX aM) (S : l_S s D cs aX aM H locs ω (ovM τ t)) (hR : Rel ω τ) (hce : cE ω (pM (τ 1))) (hT : tT ω = tT (tx τ)) (hl : lv_has la 4 (l_ls b (aX 0) (aM 0) i)) (hi : i + 7 ≤ L) (hL : L ≤ 3584) (kk : l_Go p l e s m b below meth c D cs aX aM Z la) : W p l e room_1 s m #[Value.ref b] below meth c H locs 600000 7302250 Z (F0 m 541 la []) := by
  refine l_caseI (av := [.inl (xs (i + 1)).toInt]) (pc1 := 547) (pc2 := 550) (pc3 := 556) (pc4 := 559) C0 F S hR hce hT hl.1 (C_count _) ⟨q_in32 _, trivial⟩ rfl (fun H locs st hS k => ?_) dL_law_547 vX7_count (List.mem_of_getElem? (i := 517) (by decide +kernel)) rfl rfl rfl (fun H locs st hS k => ?_) dL_law_556 vX8_count (List.mem_of_getElem? (i := 1240) (by decide +kernel)) rfl rfl rfl dL_law_559 (by decide) kk
  · refine lv_aload_n C0.1 C0.2.1 dL_law_541 rfl (lv_at hl 2 rfl) ?_
    refine l_arg (k := 1) C0 hS hl (by omega) hL (by decide) dL_law_542 dL_law_543 dL_law_544 dL_law_545 dL_law_546 ?_
    exact k
  · refine lv_aload_n C0.1 C0.2.1 dL_law_550 rfl (lv_at hl 3 rfl) ?_
    refine l_arg (k := 1) C0 hS hl (by omega) hL (by decide) dL_law_551 dL_law_552 dL_law_553 dL_law_554 dL_law_555 ?_
    exact k
theorem L_centre (C0 : lw_At p s m meth c b L xs) (F : l_F s D cs aX aM) (S : l_S s D cs aX aM H locs ω (ovM τ t)) (hR : Rel ω τ) (hce : cE ω (pM (τ 1))) (hT : tT ω = tT (tx τ)) (hl : lv_has la 4 (l_ls b (aX 0) (aM 0) i)) (hi : i + 7 ≤ L) (hL : L ≤ 3584) (kk : l_Go p l e s m b below meth c D cs aX aM Z la) : W p l e room_1 s m #[Value.ref b] below meth c H locs 600000 7302250 Z (F0 m 564 la []) := by
  refine l_caseJ (av := [.inl (xs (i + 1)).toInt, .inl (xs (i + 2)).toInt, .inl (xs (i + 3)).toInt]) (pc1 := 580) (pc2 := 583) (pc3 := 599) (pc4 := 602) C0 F S hR hce hT hl.1 (C_centre _ _ _) ⟨q_in32 _, q_in32 _, q_in32 _, trivial⟩ rfl (fun H locs st hS k => ?_) dL_law_580 vX7_centre (List.mem_of_getElem? (i := 525) (by decide +kernel)) rfl rfl rfl (fun H locs st hS k => ?_) dL_law_599 vX8_centre (List.mem_of_getElem? (i := 1248) (by decide +kernel)) rfl rfl rfl dL_law_602 dL_law_603 (by decide) kk
  · refine lv_aload_n C0.1 C0.2.1 dL_law_564 rfl (lv_at hl 2 rfl) ?_
    refine l_arg (k := 1) C0 hS hl (by omega) hL (by decide) dL_law_565 dL_law_566 dL_law_567 dL_law_568 dL_law_569 ?_
    refine l_arg (k := 2) C0 hS hl (by omega) hL (by decide) dL_law_570 dL_law_571 dL_law_572 dL_law_573 dL_law_574 ?_
    refine l_arg (k := 3) C0 hS hl (by omega) hL (by decide) dL_law_575 dL_law_576 dL_law_577 dL_law_578 dL_law_579 ?_
    exact k
  · refine lv_aload_n C0.1 C0.2.1 dL_law_583 rfl (lv_at hl 3 rfl) ?_
    refine l_arg (k := 1) C0 hS hl (by omega) hL (by decide) dL_law_584 dL_law_585 dL_law_586 dL_law_587 dL_law_588 ?_
    refine l_arg (k := 2) C0 hS hl (by omega) hL (by decide) dL_law_589 dL_law_590 dL_law_591 dL_law_592 dL_law_593 ?_
    refine l_arg (k := 3) C0 hS hl (by omega) hL (by decide) dL_law_594 dL_law_595 dL_law_596 dL_law_597 dL_law_598 ?_
    exact k
theorem L_on (C0 : lw_At p s m meth c b L xs) (F : l_F s D cs aX aM) (S : l_S s D cs aX aM H locs ω (ovM τ t)) (hR : Rel ω τ) (hce : cE ω (pM (τ 1))) (hT : tT ω = tT (tx τ)) (hl : lv_has la 4 (l_ls b (aX 0) (aM 0) i)) (hi : i + 7 ≤ L) (hL : L ≤ 3584) (kk : l_Go p l e s m b below meth c D cs aX aM Z la) : W p l e room_1 s m #[Value.ref b] below meth c H locs 600000 7302250 Z (F0 m 608 la []) := by
  refine l_caseI (av := [.inl (xs (i + 1)).toInt, .inl (xs (i + 2)).toInt, .inl (xs (i + 3)).toInt]) (pc1 := 624) (pc2 := 627) (pc3 := 643) (pc4 := 646) C0 F S hR hce hT hl.1 (C_on _ _ _) ⟨q_in32 _, q_in32 _, q_in32 _, trivial⟩ rfl (fun H locs st hS k => ?_) dL_law_624 vX7_on (List.mem_of_getElem? (i := 552) (by decide +kernel)) rfl rfl rfl (fun H locs st hS k => ?_) dL_law_643 vX8_on (List.mem_of_getElem? (i := 1258) (by decide +kernel)) rfl rfl rfl dL_law_646 (by decide) kk
  · refine lv_aload_n C0.1 C0.2.1 dL_law_608 rfl (lv_at hl 2 rfl) ?_
    refine l_arg (k := 1) C0 hS hl (by omega) hL (by decide) dL_law_609 dL_law_610 dL_law_611 dL_law_612 dL_law_613 ?_
    refine l_arg (k := 2) C0 hS hl (by omega) hL (by decide) dL_law_614 dL_law_615 dL_law_616 dL_law_617 dL_law_618 ?_
    refine l_arg (k := 3) C0 hS hl (by omega) hL (by decide) dL_law_619 dL_law_620 dL_law_621 dL_law_622 dL_law_623 ?_
    exact k
  · refine lv_aload_n C0.1 C0.2.1 dL_law_627 rfl (lv_at hl 3 rfl) ?_
    refine l_arg (k := 1) C0 hS hl (by omega) hL (by decide) dL_law_628 dL_law_629 dL_law_630 dL_law_631 dL_law_632 ?_
    refine l_arg (k := 2) C0 hS hl (by omega) hL (by decide) dL_law_633 dL_law_634 dL_law_635 dL_law_636 dL_law_637 ?_
    refine l_arg (k := 3) C0 hS hl (by omega) hL (by decide) dL_law_638 dL_law_639 dL_law_640 dL_law_641 dL_law_642 ?_
    exact k
theorem L_meets (C0 : lw_At p s m meth c b L xs) (F : l_F s D cs aX aM) (S : l_S s D cs aX aM H locs ω (ovM τ t)) (hR : Rel ω τ) (hce : cE ω (pM (τ 1))) (hT : tT ω = tT (tx τ)) (hl : lv_has la 4 (l_ls b (aX 0) (aM 0) i)) (hi : i + 7 ≤ L) (hL : L ≤ 3584) (kk : l_Go p l e s m b below meth c D cs aX aM Z la) : W p l e room_1 s m #[Value.ref b] below meth c H locs 600000 7302250 Z (F0 m 651 la []) := by
  refine l_caseI (av := [.inl (xs (i + 1)).toInt, .inl (xs (i + 2)).toInt, .inl (xs (i + 3)).toInt]) (pc1 := 667) (pc2 := 670) (pc3 := 686) (pc4 := 689) C0 F S hR hce hT hl.1 (C_meets _ _ _) ⟨q_in32 _, q_in32 _, q_in32 _, trivial⟩ rfl (fun H locs st hS k => ?_) dL_law_667 vX7_meets (List.mem_of_getElem? (i := 556) (by decide +kernel)) rfl rfl rfl (fun H locs st hS k => ?_) dL_law_686 vX8_meets (List.mem_of_getElem? (i := 1262) (by decide +kernel)) rfl rfl rfl dL_law_689 (by decide) kk
  · refine lv_aload_n C0.1 C0.2.1 dL_law_651 rfl (lv_at hl 2 rfl) ?_
    refine l_arg (k := 1) C0 hS hl (by omega) hL (by decide) dL_law_652 dL_law_653 dL_law_654 dL_law_655 dL_law_656 ?_
    refine l_arg (k := 2) C0 hS hl (by omega) hL (by decide) dL_law_657 dL_law_658 dL_law_659 dL_law_660 dL_law_661 ?_
    refine l_arg (k := 3) C0 hS hl (by omega) hL (by decide) dL_law_662 dL_law_663 dL_law_664 dL_law_665 dL_law_666 ?_
    exact k
  · refine lv_aload_n C0.1 C0.2.1 dL_law_670 rfl (lv_at hl 3 rfl) ?_
    refine l_arg (k := 1) C0 hS hl (by omega) hL (by decide) dL_law_671 dL_law_672 dL_law_673 dL_law_674 dL_law_675 ?_
    refine l_arg (k := 2) C0 hS hl (by omega) hL (by decide) dL_law_676 dL_law_677 dL_law_678 dL_law_679 dL_law_680 ?_
    refine l_arg (k := 3) C0 hS hl (by omega) hL (by decide) dL_law_681 dL_law_682 dL_law_683 dL_law_684 dL_law_685 ?_
    exact k
theorem L_push (C0 : lw_At p s m meth c b L xs) (F : l_F s D cs aX aM) (S : l_S s D cs aX aM H locs ω (ovM τ t)) (hR : Rel ω τ) (hce : cE ω (pM (τ 1))) (hT : tT ω = tT (tx τ)) (hl : lv_has la 4 (l_ls b (aX 0) (aM 0) i)) (hi : i + 7 ≤ L) (hL : L ≤ 3584) (kk : l_Go p l e s m b below meth c D cs aX aM Z la) : W p l e room_1 s m #[Value.ref b] below meth c H locs 600000 7302250 Z (F0 m 694 la []) := by
  refine l_caseJ (av := [.inl (xs (i + 1)).toInt, .inl (xs (i + 2)).toInt, .inl (xs (i + 3)).toInt, .inl (xs (i + 4)).toInt, .inl (xs (i + 5)).toInt]) (pc1 := 720) (pc2 := 723) (pc3 := 749) (pc4 := 752) C0 F S hR hce hT hl.1 (C_push _ _ _ _ _) ⟨q_in32 _, q_in32 _, q_in32 _, q_in32 _, q_in32 _, trivial⟩ rfl (fun H locs st hS k => ?_) dL_law_720 vX7_push (List.mem_of_getElem? (i := 560) (by decide +kernel)) rfl rfl rfl (fun H locs st hS k => ?_) dL_law_749 vX8_push (List.mem_of_getElem? (i := 1266) (by decide +kernel)) rfl rfl rfl dL_law_752 dL_law_753 (by decide) kk
  · refine lv_aload_n C0.1 C0.2.1 dL_law_694 rfl (lv_at hl 2 rfl) ?_
    refine l_arg (k := 1) C0 hS hl (by omega) hL (by decide) dL_law_695 dL_law_696 dL_law_697 dL_law_698 dL_law_699 ?_
    refine l_arg (k := 2) C0 hS hl (by omega) hL (by decide) dL_law_700 dL_law_701 dL_law_702 dL_law_703 dL_law_704 ?_
    refine l_arg (k := 3) C0 hS hl (by omega) hL (by decide) dL_law_705 dL_law_706 dL_law_707 dL_law_708 dL_law_709 ?_
    refine l_arg (k := 4) C0 hS hl (by omega) hL (by decide) dL_law_710 dL_law_711 dL_law_712 dL_law_713 dL_law_714 ?_
    refine l_arg (k := 5) C0 hS hl (by omega) hL (by decide) dL_law_715 dL_law_716 dL_law_717 dL_law_718 dL_law_719 ?_
    exact k
  · refine lv_aload_n C0.1 C0.2.1 dL_law_723 rfl (lv_at hl 3 rfl) ?_
    refine l_arg (k := 1) C0 hS hl (by omega) hL (by decide) dL_law_724 dL_law_725 dL_law_726 dL_law_727 dL_law_728 ?_
    refine l_arg (k := 2) C0 hS hl (by omega) hL (by decide) dL_law_729 dL_law_730 dL_law_731 dL_law_732 dL_law_733 ?_
    refine l_arg (k := 3) C0 hS hl (by omega) hL (by decide) dL_law_734 dL_law_735 dL_law_736 dL_law_737 dL_law_738 ?_
    refine l_arg (k := 4) C0 hS hl (by omega) hL (by decide) dL_law_739 dL_law_740 dL_law_741 dL_law_742 dL_law_743 ?_
    refine l_arg (k := 5) C0 hS hl (by omega) hL (by decide) dL_law_744 dL_law_745 dL_law_746 dL_law_747 dL_law_748 ?_
    exact k
theorem L_fits (C0 : lw_At p s m meth c b L xs) (F : l_F s D cs aX aM) (S : l_S s D cs aX aM H locs ω (ovM τ t)) (hR : Rel ω τ) (hce : cE ω (pM (τ 1))) (hT : tT ω = tT (tx τ)) (hl : lv_has la 4 (l_ls b (aX 0) (aM 0) i)) (hi : i + 7 ≤ L) (hL : L ≤ 3584) (kk : l_Go p l e s m b below meth c D cs aX aM Z la) : W p l e room_1 s m #[Value.ref b] below meth c H locs 600000 7302250 Z (F0 m 758 la []) := by
  refine l_caseI (av := [.inl (xs (i + 1)).toInt, .inl (xs (i + 2)).toInt]) (pc1 := 769) (pc2 := 772) (pc3 := 783) (pc4 := 786) C0 F S hR hce hT hl.1 (C_fits _ _) ⟨q_in32 _, q_in32 _, trivial⟩ rfl (fun H locs st hS k => ?_) dL_law_769 vX7_fits (List.mem_of_getElem? (i := 587) (by decide +kernel)) rfl rfl rfl (fun H locs st hS k => ?_) dL_law_783 vX8_fits (List.mem_of_getElem? (i := 1274) (by decide +kernel)) rfl rfl rfl dL_law_786 (by decide) kk
  · refine lv_aload_n C0.1 C0.2.1 dL_law_758 rfl (lv_at hl 2 rfl) ?_
    refine l_arg (k := 1) C0 hS hl (by omega) hL (by decide) dL_law_759 dL_law_760 dL_law_761 dL_law_762 dL_law_763 ?_
    refine l_arg (k := 2) C0 hS hl (by omega) hL (by decide) dL_law_764 dL_law_765 dL_law_766 dL_law_767 dL_law_768 ?_
    exact k
  · refine lv_aload_n C0.1 C0.2.1 dL_law_772 rfl (lv_at hl 3 rfl) ?_
    refine l_arg (k := 1) C0 hS hl (by omega) hL (by decide) dL_law_773 dL_law_774 dL_law_775 dL_law_776 dL_law_777 ?_
    refine l_arg (k := 2) C0 hS hl (by omega) hL (by decide) dL_law_778 dL_law_779 dL_law_780 dL_law_781 dL_law_782 ?_
    exact k
theorem L_through (C0 : lw_At p s m meth c b L xs) (F : l_F s D cs aX aM) (S : l_S s D cs aX aM H locs ω (ovM τ t)) (hR : Rel ω τ) (hce : cE ω (pM (τ 1))) (hT : tT ω = tT (tx τ)) (hl : lv_has la 4 (l_ls b (aX 0) (aM 0) i)) (hi : i + 7 ≤ L) (hL : L ≤ 3584) (kk : l_Go p l e s m b below meth c D cs aX aM Z la) : W p l e room_1 s m #[Value.ref b] below meth c H locs 600000 7302250 Z (F0 m 791 la []) := by
  refine l_caseI (av := []) (pc1 := 792) (pc2 := 795) (pc3 := 796) (pc4 := 799) C0 F S hR hce hT hl.1 (C_through) trivial rfl (fun H locs st hS k => ?_) dL_law_792 vX7_through (List.mem_of_getElem? (i := 588) (by decide +kernel)) rfl rfl rfl (fun H locs st hS k => ?_) dL_law_796 vX8_through (List.mem_of_getElem? (i := 1282) (by decide +kernel)) rfl rfl rfl dL_law_799 (by decide) kk
  · refine lv_aload_n C0.1 C0.2.1 dL_law_791 rfl (lv_at hl 2 rfl) ?_
    exact k
  · refine lv_aload_n C0.1 C0.2.1 dL_law_795 rfl (lv_at hl 3 rfl) ?_
    exact k
theorem L_lost (C0 : lw_At p s m meth c b L xs) (F : l_F s D cs aX aM) (S : l_S s D cs aX aM H locs ω (ovM τ t)) (hR : Rel ω τ) (hce : cE ω (pM (τ 1))) (hT : tT ω = tT (tx τ)) (hl : lv_has la 4 (l_ls b (aX 0) (aM 0) i)) (hi : i + 7 ≤ L) (hL : L ≤ 3584) (kk : l_Go p l e s m b below meth c D cs aX aM Z la) : W p l e room_1 s m #[Value.ref b] below meth c H locs 600000 7302250 Z (F0 m 804 la []) := by
  refine l_caseJ (av := [.inl (xs (i + 1)).toInt, .inl (xs (i + 2)).toInt, .inl (xs (i + 3)).toInt]) (pc1 := 820) (pc2 := 823) (pc3 := 839) (pc4 := 842) C0 F S hR hce hT hl.1 (C_lost _ _ _) ⟨q_in32 _, q_in32 _, q_in32 _, trivial⟩ rfl (fun H locs st hS k => ?_) dL_law_820 vX7_lost (List.mem_of_getElem? (i := 596) (by decide +kernel)) rfl rfl rfl (fun H locs st hS k => ?_) dL_law_839 vX8_lost (List.mem_of_getElem? (i := 1286) (by decide +kernel)) rfl rfl rfl dL_law_842 dL_law_843 (by decide) kk
  · refine lv_aload_n C0.1 C0.2.1 dL_law_804 rfl (lv_at hl 2 rfl) ?_
    refine l_arg (k := 1) C0 hS hl (by omega) hL (by decide) dL_law_805 dL_law_806 dL_law_807 dL_law_808 dL_law_809 ?_
    refine l_arg (k := 2) C0 hS hl (by omega) hL (by decide) dL_law_810 dL_law_811 dL_law_812 dL_law_813 dL_law_814 ?_
    refine l_arg (k := 3) C0 hS hl (by omega) hL (by decide) dL_law_815 dL_law_816 dL_law_817 dL_law_818 dL_law_819 ?_
    exact k
  · refine lv_aload_n C0.1 C0.2.1 dL_law_823 rfl (lv_at hl 3 rfl) ?_
    refine l_arg (k := 1) C0 hS hl (by omega) hL (by decide) dL_law_824 dL_law_825 dL_law_826 dL_law_827 dL_law_828 ?_
    refine l_arg (k := 2) C0 hS hl (by omega) hL (by decide) dL_law_829 dL_law_830 dL_law_831 dL_law_832 dL_law_833 ?_
    refine l_arg (k := 3) C0 hS hl (by omega) hL (by decide) dL_law_834 dL_law_835 dL_law_836 dL_law_837 dL_law_838 ?_
    exact k
theorem L_even (C0 : lw_At p s m meth c b L xs) (F : l_F s D cs aX aM) (S : l_S s D cs aX aM H locs ω (ovM τ t)) (hR : Rel ω τ) (hce : cE ω (pM (τ 1))) (hT : tT ω = tT (tx τ)) (hl : lv_has la 4 (l_ls b (aX 0) (aM 0) i)) (hi : i + 7 ≤ L) (hL : L ≤ 3584) (kk : l_Go p l e s m b below meth c D cs aX aM Z la) : W p l e room_1 s m #[Value.ref b] below meth c H locs 600000 7302250 Z (F0 m 848 la []) := by
  refine l_caseI (av := [.inl (xs (i + 1)).toInt]) (pc1 := 854) (pc2 := 857) (pc3 := 863) (pc4 := 866) C0 F S hR hce hT hl.1 (C_even _) ⟨q_in32 _, trivial⟩ rfl (fun H locs st hS k => ?_) dL_law_854 vX7_even (List.mem_of_getElem? (i := 617) (by decide +kernel)) rfl rfl rfl (fun H locs st hS k => ?_) dL_law_863 vX8_even (List.mem_of_getElem? (i := 1309) (by decide +kernel)) rfl rfl rfl dL_law_866 (by decide) kk
  · refine lv_aload_n C0.1 C0.2.1 dL_law_848 rfl (lv_at hl 2 rfl) ?_
    refine l_arg (k := 1) C0 hS hl (by omega) hL (by decide) dL_law_849 dL_law_850 dL_law_851 dL_law_852 dL_law_853 ?_
    exact k
  · refine lv_aload_n C0.1 C0.2.1 dL_law_857 rfl (lv_at hl 3 rfl) ?_
    refine l_arg (k := 1) C0 hS hl (by omega) hL (by decide) dL_law_858 dL_law_859 dL_law_860 dL_law_861 dL_law_862 ?_
    exact k
theorem L_came (C0 : lw_At p s m meth c b L xs) (F : l_F s D cs aX aM) (S : l_S s D cs aX aM H locs ω (ovM τ t)) (hR : Rel ω τ) (hce : cE ω (pM (τ 1))) (hT : tT ω = tT (tx τ)) (hl : lv_has la 4 (l_ls b (aX 0) (aM 0) i)) (hi : i + 7 ≤ L) (hL : L ≤ 3584) (kk : l_Go p l e s m b below meth c D cs aX aM Z la) : W p l e room_1 s m #[Value.ref b] below meth c H locs 600000 7302250 Z (F0 m 871 la []) := by
  refine l_caseI (av := [.inl (xs (i + 1)).toInt]) (pc1 := 877) (pc2 := 880) (pc3 := 886) (pc4 := 889) C0 F S hR hce hT hl.1 (C_came _) ⟨q_in32 _, trivial⟩ rfl (fun H locs st hS k => ?_) dL_law_877 vX7_came (List.mem_of_getElem? (i := 625) (by decide +kernel)) rfl rfl rfl (fun H locs st hS k => ?_) dL_law_886 vX8_came (List.mem_of_getElem? (i := 1317) (by decide +kernel)) rfl rfl rfl dL_law_889 (by decide) kk
  · refine lv_aload_n C0.1 C0.2.1 dL_law_871 rfl (lv_at hl 2 rfl) ?_
    refine l_arg (k := 1) C0 hS hl (by omega) hL (by decide) dL_law_872 dL_law_873 dL_law_874 dL_law_875 dL_law_876 ?_
    exact k
  · refine lv_aload_n C0.1 C0.2.1 dL_law_880 rfl (lv_at hl 3 rfl) ?_
    refine l_arg (k := 1) C0 hS hl (by omega) hL (by decide) dL_law_881 dL_law_882 dL_law_883 dL_law_884 dL_law_885 ?_
    exact k
theorem L_spoils (C0 : lw_At p s m meth c b L xs) (F : l_F s D cs aX aM) (S : l_S s D cs aX aM H locs ω (ovM τ t)) (hR : Rel ω τ) (hce : cE ω (pM (τ 1))) (hT : tT ω = tT (tx τ)) (hl : lv_has la 4 (l_ls b (aX 0) (aM 0) i)) (hi : i + 7 ≤ L) (hL : L ≤ 3584) (kk : l_Go p l e s m b below meth c D cs aX aM Z la) : W p l e room_1 s m #[Value.ref b] below meth c H locs 600000 7302250 Z (F0 m 894 la []) := by
  refine l_caseI (av := [.inl (xs (i + 1)).toInt]) (pc1 := 900) (pc2 := 903) (pc3 := 909) (pc4 := 912) C0 F S hR hce hT hl.1 (C_spoils _) ⟨q_in32 _, trivial⟩ rfl (fun H locs st hS k => ?_) dL_law_900 vX7_spoils (List.mem_of_getElem? (i := 633) (by decide +kernel)) rfl rfl rfl (fun H locs st hS k => ?_) dL_law_909 vX8_spoils (List.mem_of_getElem? (i := 1325) (by decide +kernel)) rfl rfl rfl dL_law_912 (by decide) kk
  · refine lv_aload_n C0.1 C0.2.1 dL_law_894 rfl (lv_at hl 2 rfl) ?_
    refine l_arg (k := 1) C0 hS hl (by omega) hL (by decide) dL_law_895 dL_law_896 dL_law_897 dL_law_898 dL_law_899 ?_
    exact k
  · refine lv_aload_n C0.1 C0.2.1 dL_law_903 rfl (lv_at hl 3 rfl) ?_
    refine l_arg (k := 1) C0 hS hl (by omega) hL (by decide) dL_law_904 dL_law_905 dL_law_906 dL_law_907 dL_law_908 ?_
    exact k
theorem L_holds (C0 : lw_At p s m meth c b L xs) (F : l_F s D cs aX aM) (S : l_S s D cs aX aM H locs ω (ovM τ t)) (hR : Rel ω τ) (hce : cE ω (pM (τ 1))) (hT : tT ω = tT (tx τ)) (hl : lv_has la 4 (l_ls b (aX 0) (aM 0) i)) (hi : i + 7 ≤ L) (hL : L ≤ 3584) (kk : l_Go p l e s m b below meth c D cs aX aM Z la) : W p l e room_1 s m #[Value.ref b] below meth c H locs 600000 7302250 Z (F0 m 917 la []) := by
  refine l_caseI (av := [.inl (xs (i + 1)).toInt, .inl (xs (i + 2)).toInt, .inl (xs (i + 3)).toInt, .inl (xs (i + 4)).toInt]) (pc1 := 938) (pc2 := 941) (pc3 := 962) (pc4 := 965) C0 F S hR hce hT hl.1 (C_holds _ _ _ _) ⟨q_in32 _, q_in32 _, q_in32 _, q_in32 _, trivial⟩ rfl (fun H locs st hS k => ?_) dL_law_938 vX7_holds (List.mem_of_getElem? (i := 638) (by decide +kernel)) rfl rfl rfl (fun H locs st hS k => ?_) dL_law_962 vX8_holds (List.mem_of_getElem? (i := 1329) (by decide +kernel)) rfl rfl rfl dL_law_965 (by decide) kk
  · refine lv_aload_n C0.1 C0.2.1 dL_law_917 rfl (lv_at hl 2 rfl) ?_
    refine l_arg (k := 1) C0 hS hl (by omega) hL (by decide) dL_law_918 dL_law_919 dL_law_920 dL_law_921 dL_law_922 ?_
    refine l_arg (k := 2) C0 hS hl (by omega) hL (by decide) dL_law_923 dL_law_924 dL_law_925 dL_law_926 dL_law_927 ?_
    refine l_arg (k := 3) C0 hS hl (by omega) hL (by decide) dL_law_928 dL_law_929 dL_law_930 dL_law_931 dL_law_932 ?_
    refine l_arg (k := 4) C0 hS hl (by omega) hL (by decide) dL_law_933 dL_law_934 dL_law_935 dL_law_936 dL_law_937 ?_
    exact k
  · refine lv_aload_n C0.1 C0.2.1 dL_law_941 rfl (lv_at hl 3 rfl) ?_
    refine l_arg (k := 1) C0 hS hl (by omega) hL (by decide) dL_law_942 dL_law_943 dL_law_944 dL_law_945 dL_law_946 ?_
    refine l_arg (k := 2) C0 hS hl (by omega) hL (by decide) dL_law_947 dL_law_948 dL_law_949 dL_law_950 dL_law_951 ?_
    refine l_arg (k := 3) C0 hS hl (by omega) hL (by decide) dL_law_952 dL_law_953 dL_law_954 dL_law_955 dL_law_956 ?_
    refine l_arg (k := 4) C0 hS hl (by omega) hL (by decide) dL_law_957 dL_law_958 dL_law_959 dL_law_960 dL_law_961 ?_
    exact k
theorem L_names (C0 : lw_At p s m meth c b L xs) (F : l_F s D cs aX aM) (S : l_S s D cs aX aM H locs ω (ovM τ t)) (hR : Rel ω τ) (hce : cE ω (pM (τ 1))) (hT : tT ω = tT (tx τ)) (hl : lv_has la 4 (l_ls b (aX 0) (aM 0) i)) (hi : i + 7 ≤ L) (hL : L ≤ 3584) (kk : l_Go p l e s m b below meth c D cs aX aM Z la) : W p l e room_1 s m #[Value.ref b] below meth c H locs 600000 7302250 Z (F0 m 970 la []) := by
  refine l_caseI (av := [.inl (xs (i + 1)).toInt, .inl (xs (i + 2)).toInt, .inl (xs (i + 3)).toInt, .inl (xs (i + 4)).toInt]) (pc1 := 991) (pc2 := 994) (pc3 := 1015) (pc4 := 1018) C0 F S hR hce hT hl.1 (C_names _ _ _ _) ⟨q_in32 _, q_in32 _, q_in32 _, q_in32 _, trivial⟩ rfl (fun H locs st hS k => ?_) dL_law_991 vX7_names (List.mem_of_getElem? (i := 672) (by decide +kernel)) rfl rfl rfl (fun H locs st hS k => ?_) dL_law_1015 vX8_names (List.mem_of_getElem? (i := 1356) (by decide +kernel)) rfl rfl rfl dL_law_1018 (by decide) kk
  · refine lv_aload_n C0.1 C0.2.1 dL_law_970 rfl (lv_at hl 2 rfl) ?_
    refine l_arg (k := 1) C0 hS hl (by omega) hL (by decide) dL_law_971 dL_law_972 dL_law_973 dL_law_974 dL_law_975 ?_
    refine l_arg (k := 2) C0 hS hl (by omega) hL (by decide) dL_law_976 dL_law_977 dL_law_978 dL_law_979 dL_law_980 ?_
    refine l_arg (k := 3) C0 hS hl (by omega) hL (by decide) dL_law_981 dL_law_982 dL_law_983 dL_law_984 dL_law_985 ?_
    refine l_arg (k := 4) C0 hS hl (by omega) hL (by decide) dL_law_986 dL_law_987 dL_law_988 dL_law_989 dL_law_990 ?_
    exact k
  · refine lv_aload_n C0.1 C0.2.1 dL_law_994 rfl (lv_at hl 3 rfl) ?_
    refine l_arg (k := 1) C0 hS hl (by omega) hL (by decide) dL_law_995 dL_law_996 dL_law_997 dL_law_998 dL_law_999 ?_
    refine l_arg (k := 2) C0 hS hl (by omega) hL (by decide) dL_law_1000 dL_law_1001 dL_law_1002 dL_law_1003 dL_law_1004 ?_
    refine l_arg (k := 3) C0 hS hl (by omega) hL (by decide) dL_law_1005 dL_law_1006 dL_law_1007 dL_law_1008 dL_law_1009 ?_
    refine l_arg (k := 4) C0 hS hl (by omega) hL (by decide) dL_law_1010 dL_law_1011 dL_law_1012 dL_law_1013 dL_law_1014 ?_
    exact k
theorem L_calls (C0 : lw_At p s m meth c b L xs) (F : l_F s D cs aX aM) (S : l_S s D cs aX aM H locs ω (ovM τ t)) (hR : Rel ω τ) (hce : cE ω (pM (τ 1))) (hT : tT ω = tT (tx τ)) (hl : lv_has la 4 (l_ls b (aX 0) (aM 0) i)) (hi : i + 7 ≤ L) (hL : L ≤ 3584) (kk : l_Go p l e s m b below meth c D cs aX aM Z la) : W p l e room_1 s m #[Value.ref b] below meth c H locs 600000 7302250 Z (F0 m 1023 la []) := by
  refine l_caseI (av := [.inl (xs (i + 1)).toInt, .inl (xs (i + 2)).toInt, .inl (xs (i + 3)).toInt]) (pc1 := 1039) (pc2 := 1042) (pc3 := 1058) (pc4 := 1061) C0 F S hR hce hT hl.1 (C_calls _ _ _) ⟨q_in32 _, q_in32 _, q_in32 _, trivial⟩ rfl (fun H locs st hS k => ?_) dL_law_1039 vX7_calls (List.mem_of_getElem? (i := 696) (by decide +kernel)) rfl rfl rfl (fun H locs st hS k => ?_) dL_law_1058 vX8_calls (List.mem_of_getElem? (i := 1372) (by decide +kernel)) rfl rfl rfl dL_law_1061 (by decide) kk
  · refine lv_aload_n C0.1 C0.2.1 dL_law_1023 rfl (lv_at hl 2 rfl) ?_
    refine l_arg (k := 1) C0 hS hl (by omega) hL (by decide) dL_law_1024 dL_law_1025 dL_law_1026 dL_law_1027 dL_law_1028 ?_
    refine l_arg (k := 2) C0 hS hl (by omega) hL (by decide) dL_law_1029 dL_law_1030 dL_law_1031 dL_law_1032 dL_law_1033 ?_
    refine l_arg (k := 3) C0 hS hl (by omega) hL (by decide) dL_law_1034 dL_law_1035 dL_law_1036 dL_law_1037 dL_law_1038 ?_
    exact k
  · refine lv_aload_n C0.1 C0.2.1 dL_law_1042 rfl (lv_at hl 3 rfl) ?_
    refine l_arg (k := 1) C0 hS hl (by omega) hL (by decide) dL_law_1043 dL_law_1044 dL_law_1045 dL_law_1046 dL_law_1047 ?_
    refine l_arg (k := 2) C0 hS hl (by omega) hL (by decide) dL_law_1048 dL_law_1049 dL_law_1050 dL_law_1051 dL_law_1052 ?_
    refine l_arg (k := 3) C0 hS hl (by omega) hL (by decide) dL_law_1053 dL_law_1054 dL_law_1055 dL_law_1056 dL_law_1057 ?_
    exact k
theorem L_rest (C0 : lw_At p s m meth c b L xs) (F : l_F s D cs aX aM) (S : l_S s D cs aX aM H locs ω (ovM τ t)) (hR : Rel ω τ) (hce : cE ω (pM (τ 1))) (hT : tT ω = tT (tx τ)) (hl : lv_has la 4 (l_ls b (aX 0) (aM 0) i)) (hi : i + 7 ≤ L) (hL : L ≤ 3584) (kk : l_Go p l e s m b below meth c D cs aX aM Z la) : W p l e room_1 s m #[Value.ref b] below meth c H locs 600000 7302250 Z (F0 m 1066 la []) := by
  refine l_caseI (av := [.inl (xs (i + 1)).toInt]) (pc1 := 1072) (pc2 := 1075) (pc3 := 1081) (pc4 := 1084) C0 F S hR hce hT hl.1 (C_rest _) ⟨q_in32 _, trivial⟩ rfl (fun H locs st hS k => ?_) dL_law_1072 vX7_rest (List.mem_of_getElem? (i := 700) (by decide +kernel)) rfl rfl rfl (fun H locs st hS k => ?_) dL_law_1081 vX8_rest (List.mem_of_getElem? (i := 1376) (by decide +kernel)) rfl rfl rfl dL_law_1084 (by decide) kk
  · refine lv_aload_n C0.1 C0.2.1 dL_law_1066 rfl (lv_at hl 2 rfl) ?_
    refine l_arg (k := 1) C0 hS hl (by omega) hL (by decide) dL_law_1067 dL_law_1068 dL_law_1069 dL_law_1070 dL_law_1071 ?_
    exact k
  · refine lv_aload_n C0.1 C0.2.1 dL_law_1075 rfl (lv_at hl 3 rfl) ?_
    refine l_arg (k := 1) C0 hS hl (by omega) hL (by decide) dL_law_1076 dL_law_1077 dL_law_1078 dL_law_1079 dL_law_1080 ?_
    exact k
theorem L_energy (C0 : lw_At p s m meth c b L xs) (F : l_F s D cs aX aM) (S : l_S s D cs aX aM H locs ω (ovM τ t)) (hR : Rel ω τ) (hce : cE ω (pM (τ 1))) (hT : tT ω = tT (tx τ)) (hl : lv_has la 4 (l_ls b (aX 0) (aM 0) i)) (hi : i + 7 ≤ L) (hL : L ≤ 3584) (kk : l_Go p l e s m b below meth c D cs aX aM Z la) : W p l e room_1 s m #[Value.ref b] below meth c H locs 600000 7302250 Z (F0 m 1089 la []) := by
  refine l_caseJ (av := [.inl (xs (i + 1)).toInt, .inl (xs (i + 2)).toInt, .inl (xs (i + 3)).toInt, .inl (xs (i + 4)).toInt]) (pc1 := 1110) (pc2 := 1113) (pc3 := 1134) (pc4 := 1137) C0 F S hR hce hT hl.1 (C_energy _ _ _ _) ⟨q_in32 _, q_in32 _, q_in32 _, q_in32 _, trivial⟩ rfl (fun H locs st hS k => ?_) dL_law_1110 vX7_energy (List.mem_of_getElem? (i := 704) (by decide +kernel)) rfl rfl rfl (fun H locs st hS k => ?_) dL_law_1134 vX8_energy (List.mem_of_getElem? (i := 1384) (by decide +kernel)) rfl rfl rfl dL_law_1137 dL_law_1138 (by decide) kk
  · refine lv_aload_n C0.1 C0.2.1 dL_law_1089 rfl (lv_at hl 2 rfl) ?_
    refine l_arg (k := 1) C0 hS hl (by omega) hL (by decide) dL_law_1090 dL_law_1091 dL_law_1092 dL_law_1093 dL_law_1094 ?_
    refine l_arg (k := 2) C0 hS hl (by omega) hL (by decide) dL_law_1095 dL_law_1096 dL_law_1097 dL_law_1098 dL_law_1099 ?_
    refine l_arg (k := 3) C0 hS hl (by omega) hL (by decide) dL_law_1100 dL_law_1101 dL_law_1102 dL_law_1103 dL_law_1104 ?_
    refine l_arg (k := 4) C0 hS hl (by omega) hL (by decide) dL_law_1105 dL_law_1106 dL_law_1107 dL_law_1108 dL_law_1109 ?_
    exact k
  · refine lv_aload_n C0.1 C0.2.1 dL_law_1113 rfl (lv_at hl 3 rfl) ?_
    refine l_arg (k := 1) C0 hS hl (by omega) hL (by decide) dL_law_1114 dL_law_1115 dL_law_1116 dL_law_1117 dL_law_1118 ?_
    refine l_arg (k := 2) C0 hS hl (by omega) hL (by decide) dL_law_1119 dL_law_1120 dL_law_1121 dL_law_1122 dL_law_1123 ?_
    refine l_arg (k := 3) C0 hS hl (by omega) hL (by decide) dL_law_1124 dL_law_1125 dL_law_1126 dL_law_1127 dL_law_1128 ?_
    refine l_arg (k := 4) C0 hS hl (by omega) hL (by decide) dL_law_1129 dL_law_1130 dL_law_1131 dL_law_1132 dL_law_1133 ?_
    exact k
theorem L_heat (C0 : lw_At p s m meth c b L xs) (F : l_F s D cs aX aM) (S : l_S s D cs aX aM H locs ω (ovM τ t)) (hR : Rel ω τ) (hce : cE ω (pM (τ 1))) (hT : tT ω = tT (tx τ)) (hl : lv_has la 4 (l_ls b (aX 0) (aM 0) i)) (hi : i + 7 ≤ L) (hL : L ≤ 3584) (kk : l_Go p l e s m b below meth c D cs aX aM Z la) : W p l e room_1 s m #[Value.ref b] below meth c H locs 600000 7302250 Z (F0 m 1143 la []) := by
  refine l_caseJ (av := [.inl (xs (i + 1)).toInt, .inl (xs (i + 2)).toInt]) (pc1 := 1154) (pc2 := 1157) (pc3 := 1168) (pc4 := 1171) C0 F S hR hce hT hl.1 (C_heat _ _) ⟨q_in32 _, q_in32 _, trivial⟩ rfl (fun H locs st hS k => ?_) dL_law_1154 vX7_heat (List.mem_of_getElem? (i := 714) (by decide +kernel)) rfl rfl rfl (fun H locs st hS k => ?_) dL_law_1168 vX8_heat (List.mem_of_getElem? (i := 1396) (by decide +kernel)) rfl rfl rfl dL_law_1171 dL_law_1172 (by decide) kk
  · refine lv_aload_n C0.1 C0.2.1 dL_law_1143 rfl (lv_at hl 2 rfl) ?_
    refine l_arg (k := 1) C0 hS hl (by omega) hL (by decide) dL_law_1144 dL_law_1145 dL_law_1146 dL_law_1147 dL_law_1148 ?_
    refine l_arg (k := 2) C0 hS hl (by omega) hL (by decide) dL_law_1149 dL_law_1150 dL_law_1151 dL_law_1152 dL_law_1153 ?_
    exact k
  · refine lv_aload_n C0.1 C0.2.1 dL_law_1157 rfl (lv_at hl 3 rfl) ?_
    refine l_arg (k := 1) C0 hS hl (by omega) hL (by decide) dL_law_1158 dL_law_1159 dL_law_1160 dL_law_1161 dL_law_1162 ?_
    refine l_arg (k := 2) C0 hS hl (by omega) hL (by decide) dL_law_1163 dL_law_1164 dL_law_1165 dL_law_1166 dL_law_1167 ?_
    exact k
theorem L_evens (C0 : lw_At p s m meth c b L xs) (F : l_F s D cs aX aM) (S : l_S s D cs aX aM H locs ω (ovM τ t)) (hR : Rel ω τ) (hce : cE ω (pM (τ 1))) (hT : tT ω = tT (tx τ)) (hl : lv_has la 4 (l_ls b (aX 0) (aM 0) i)) (hi : i + 7 ≤ L) (hL : L ≤ 3584) (kk : l_Go p l e s m b below meth c D cs aX aM Z la) : W p l e room_1 s m #[Value.ref b] below meth c H locs 600000 7302250 Z (F0 m 1177 la []) := by
  refine l_caseI (av := [.inl (xs (i + 1)).toInt]) (pc1 := 1183) (pc2 := 1186) (pc3 := 1192) (pc4 := 1195) C0 F S hR hce hT hl.1 (C_evens _) ⟨q_in32 _, trivial⟩ rfl (fun H locs st hS k => ?_) dL_law_1183 vX7_evens (List.mem_of_getElem? (i := 731) (by decide +kernel)) rfl rfl rfl (fun H locs st hS k => ?_) dL_law_1192 vX8_evens (List.mem_of_getElem? (i := 1416) (by decide +kernel)) rfl rfl rfl dL_law_1195 (by decide) kk
  · refine lv_aload_n C0.1 C0.2.1 dL_law_1177 rfl (lv_at hl 2 rfl) ?_
    refine l_arg (k := 1) C0 hS hl (by omega) hL (by decide) dL_law_1178 dL_law_1179 dL_law_1180 dL_law_1181 dL_law_1182 ?_
    exact k
  · refine lv_aload_n C0.1 C0.2.1 dL_law_1186 rfl (lv_at hl 3 rfl) ?_
    refine l_arg (k := 1) C0 hS hl (by omega) hL (by decide) dL_law_1187 dL_law_1188 dL_law_1189 dL_law_1190 dL_law_1191 ?_
    exact k
theorem L_feed (C0 : lw_At p s m meth c b L xs) (F : l_F s D cs aX aM) (S : l_S s D cs aX aM H locs ω (ovM τ t)) (hR : Rel ω τ) (hce : cE ω (pM (τ 1))) (hT : tT ω = tT (tx τ)) (hl : lv_has la 4 (l_ls b (aX 0) (aM 0) i)) (hi : i + 7 ≤ L) (hL : L ≤ 3584) (kk : l_Go p l e s m b below meth c D cs aX aM Z la) : W p l e room_1 s m #[Value.ref b] below meth c H locs 600000 7302250 Z (F0 m 1200 la []) := by
  refine l_caseI (av := [.inl (xs (i + 1)).toInt]) (pc1 := 1206) (pc2 := 1209) (pc3 := 1215) (pc4 := 1218) C0 F S hR hce hT hl.1 (C_feed _) ⟨q_in32 _, trivial⟩ rfl (fun H locs st hS k => ?_) dL_law_1206 vX7_feed (List.mem_of_getElem? (i := 735) (by decide +kernel)) rfl rfl rfl (fun H locs st hS k => ?_) dL_law_1215 vX8_feed (List.mem_of_getElem? (i := 1420) (by decide +kernel)) rfl rfl rfl dL_law_1218 (by decide) kk
  · refine lv_aload_n C0.1 C0.2.1 dL_law_1200 rfl (lv_at hl 2 rfl) ?_
    refine l_arg (k := 1) C0 hS hl (by omega) hL (by decide) dL_law_1201 dL_law_1202 dL_law_1203 dL_law_1204 dL_law_1205 ?_
    exact k
  · refine lv_aload_n C0.1 C0.2.1 dL_law_1209 rfl (lv_at hl 3 rfl) ?_
    refine l_arg (k := 1) C0 hS hl (by omega) hL (by decide) dL_law_1210 dL_law_1211 dL_law_1212 dL_law_1213 dL_law_1214 ?_
    exact k
theorem L_reads (C0 : lw_At p s m meth c b L xs) (F : l_F s D cs aX aM) (S : l_S s D cs aX aM H locs ω (ovM τ t)) (hR : Rel ω τ) (hce : cE ω (pM (τ 1))) (hT : tT ω = tT (tx τ)) (hl : lv_has la 4 (l_ls b (aX 0) (aM 0) i)) (hi : i + 7 ≤ L) (hL : L ≤ 3584) (kk : l_Go p l e s m b below meth c D cs aX aM Z la) : W p l e room_1 s m #[Value.ref b] below meth c H locs 600000 7302250 Z (F0 m 1223 la []) := by
  refine l_caseI (av := []) (pc1 := 1224) (pc2 := 1227) (pc3 := 1228) (pc4 := 1231) C0 F S hR hce hT hl.1 (C_reads) trivial rfl (fun H locs st hS k => ?_) dL_law_1224 vX7_reads (List.mem_of_getElem? (i := 743) (by decide +kernel)) rfl rfl rfl (fun H locs st hS k => ?_) dL_law_1228 vX8_reads (List.mem_of_getElem? (i := 1425) (by decide +kernel)) rfl rfl rfl dL_law_1231 (by decide) kk
  · refine lv_aload_n C0.1 C0.2.1 dL_law_1223 rfl (lv_at hl 2 rfl) ?_
    exact k
  · refine lv_aload_n C0.1 C0.2.1 dL_law_1227 rfl (lv_at hl 3 rfl) ?_
    exact k
theorem L_prints (C0 : lw_At p s m meth c b L xs) (F : l_F s D cs aX aM) (S : l_S s D cs aX aM H locs ω (ovM τ t)) (hR : Rel ω τ) (hce : cE ω (pM (τ 1))) (hT : tT ω = tT (tx τ)) (hl : lv_has la 4 (l_ls b (aX 0) (aM 0) i)) (hi : i + 7 ≤ L) (hL : L ≤ 3584) (kk : l_Go p l e s m b below meth c D cs aX aM Z la) : W p l e room_1 s m #[Value.ref b] below meth c H locs 600000 7302250 Z (F0 m 1236 la []) := by
  refine l_caseI (av := [.inl (xs (i + 1)).toInt]) (pc1 := 1242) (pc2 := 1245) (pc3 := 1251) (pc4 := 1254) C0 F S hR hce hT hl.1 (C_prints _) ⟨q_in32 _, trivial⟩ rfl (fun H locs st hS k => ?_) dL_law_1242 vX7_prints (List.mem_of_getElem? (i := 890) (by decide +kernel)) rfl rfl rfl (fun H locs st hS k => ?_) dL_law_1251 vX8_prints (List.mem_of_getElem? (i := 1471) (by decide +kernel)) rfl rfl rfl dL_law_1254 (by decide) kk
  · refine lv_aload_n C0.1 C0.2.1 dL_law_1236 rfl (lv_at hl 2 rfl) ?_
    refine l_arg (k := 1) C0 hS hl (by omega) hL (by decide) dL_law_1237 dL_law_1238 dL_law_1239 dL_law_1240 dL_law_1241 ?_
    exact k
  · refine lv_aload_n C0.1 C0.2.1 dL_law_1245 rfl (lv_at hl 3 rfl) ?_
    refine l_arg (k := 1) C0 hS hl (by omega) hL (by decide) dL_law_1246 dL_law_1247 dL_law_1248 dL_law_1249 dL_law_1250 ?_
    exact k
theorem L_paper (C0 : lw_At p s m meth c b L xs) (F : l_F s D cs aX aM) (S : l_S s D cs aX aM H locs ω (ovM τ t)) (hR : Rel ω τ) (hce : cE ω (pM (τ 1))) (hT : tT ω = tT (tx τ)) (hl : lv_has la 4 (l_ls b (aX 0) (aM 0) i)) (hi : i + 7 ≤ L) (hL : L ≤ 3584) (kk : l_Go p l e s m b below meth c D cs aX aM Z la) : W p l e room_1 s m #[Value.ref b] below meth c H locs 600000 7302250 Z (F0 m 1259 la []) := by
  refine l_caseI (av := [.inl (xs (i + 1)).toInt]) (pc1 := 1265) (pc2 := 1268) (pc3 := 1274) (pc4 := 1277) C0 F S hR hce hT hl.1 (C_paper _) ⟨q_in32 _, trivial⟩ rfl (fun H locs st hS k => ?_) dL_law_1265 vX7_paper (List.mem_of_getElem? (i := 923) (by decide +kernel)) rfl rfl rfl (fun H locs st hS k => ?_) dL_law_1274 vX8_paper (List.mem_of_getElem? (i := 1483) (by decide +kernel)) rfl rfl rfl dL_law_1277 (by decide) kk
  · refine lv_aload_n C0.1 C0.2.1 dL_law_1259 rfl (lv_at hl 2 rfl) ?_
    refine l_arg (k := 1) C0 hS hl (by omega) hL (by decide) dL_law_1260 dL_law_1261 dL_law_1262 dL_law_1263 dL_law_1264 ?_
    exact k
  · refine lv_aload_n C0.1 C0.2.1 dL_law_1268 rfl (lv_at hl 3 rfl) ?_
    refine l_arg (k := 1) C0 hS hl (by omega) hL (by decide) dL_law_1269 dL_law_1270 dL_law_1271 dL_law_1272 dL_law_1273 ?_
    exact k
theorem L_list (C0 : lw_At p s m meth c b L xs) (F : l_F s D cs aX aM) (S : l_S s D cs aX aM H locs ω (ovM τ t)) (hR : Rel ω τ) (hce : cE ω (pM (τ 1))) (hT : tT ω = tT (tx τ)) (hl : lv_has la 4 (l_ls b (aX 0) (aM 0) i)) (hi : i + 7 ≤ L) (hL : L ≤ 3584) (kk : l_Go p l e s m b below meth c D cs aX aM Z la) : W p l e room_1 s m #[Value.ref b] below meth c H locs 600000 7302250 Z (F0 m 1282 la []) := by
  refine l_caseI (av := [.inl (xs (i + 1)).toInt, .inl (xs (i + 2)).toInt]) (pc1 := 1293) (pc2 := 1296) (pc3 := 1307) (pc4 := 1310) C0 F S hR hce hT hl.1 (C_list _ _) ⟨q_in32 _, q_in32 _, trivial⟩ rfl (fun H locs st hS k => ?_) dL_law_1293 vX7_list (List.mem_of_getElem? (i := 927) (by decide +kernel)) rfl rfl rfl (fun H locs st hS k => ?_) dL_law_1307 vX8_list (List.mem_of_getElem? (i := 1487) (by decide +kernel)) rfl rfl rfl dL_law_1310 (by decide) kk
  · refine lv_aload_n C0.1 C0.2.1 dL_law_1282 rfl (lv_at hl 2 rfl) ?_
    refine l_arg (k := 1) C0 hS hl (by omega) hL (by decide) dL_law_1283 dL_law_1284 dL_law_1285 dL_law_1286 dL_law_1287 ?_
    refine l_arg (k := 2) C0 hS hl (by omega) hL (by decide) dL_law_1288 dL_law_1289 dL_law_1290 dL_law_1291 dL_law_1292 ?_
    exact k
  · refine lv_aload_n C0.1 C0.2.1 dL_law_1296 rfl (lv_at hl 3 rfl) ?_
    refine l_arg (k := 1) C0 hS hl (by omega) hL (by decide) dL_law_1297 dL_law_1298 dL_law_1299 dL_law_1300 dL_law_1301 ?_
    refine l_arg (k := 2) C0 hS hl (by omega) hL (by decide) dL_law_1302 dL_law_1303 dL_law_1304 dL_law_1305 dL_law_1306 ?_
    exact k
theorem L_set (C0 : lw_At p s m meth c b L xs) (F : l_F s D cs aX aM) (S : l_S s D cs aX aM H locs ω (ovM τ t)) (hR : Rel ω τ) (hce : cE ω (pM (τ 1))) (hT : tT ω = tT (tx τ)) (hl : lv_has la 4 (l_ls b (aX 0) (aM 0) i)) (hi : i + 7 ≤ L) (hL : L ≤ 3584) (kk : l_Go p l e s m b below meth c D cs aX aM Z la) : W p l e room_1 s m #[Value.ref b] below meth c H locs 600000 7302250 Z (F0 m 1315 la []) := by
  refine l_caseI (av := [.inl (xs (i + 1)).toInt, .inl (xs (i + 2)).toInt, .inr (.inl (((Int32.ofInt (xs (i + 3)).toInt).toInt64 <<< ((32 : Int32).toInt64 &&& 63)) ||| ((Int32.ofInt (xs (i + 4)).toInt).toInt64 &&& 4294967295)).toInt)]) (pc1 := 1346) (pc2 := 1349) (pc3 := 1380) (pc4 := 1383) C0 F S hR hce hT hl.1 (C_set _ _ _) ⟨q_in32 _, q_in32 _, q_in64 _, trivial⟩ rfl (fun H locs st hS k => ?_) dL_law_1346 vX7_set (List.mem_of_getElem? (i := 938) (by decide +kernel)) rfl rfl rfl (fun H locs st hS k => ?_) dL_law_1380 vX8_set (List.mem_of_getElem? (i := 1494) (by decide +kernel)) rfl rfl rfl dL_law_1383 (by decide) kk
  · refine lv_aload_n C0.1 C0.2.1 dL_law_1315 rfl (lv_at hl 2 rfl) ?_
    refine l_arg (k := 1) C0 hS hl (by omega) hL (by decide) dL_law_1316 dL_law_1317 dL_law_1318 dL_law_1319 dL_law_1320 ?_
    refine l_arg (k := 2) C0 hS hl (by omega) hL (by decide) dL_law_1321 dL_law_1322 dL_law_1323 dL_law_1324 dL_law_1325 ?_
    refine l_arg (k := 3) C0 hS hl (by omega) hL (by decide) dL_law_1326 dL_law_1327 dL_law_1328 dL_law_1329 dL_law_1330 ?_
    refine lv_i2l C0.1 C0.2.1 dL_law_1331 rfl ?_
    refine lv_bipush (v := 32) C0.1 C0.2.1 dL_law_1332 (by decide) ?_
    refine lv_lshl C0.1 C0.2.1 dL_law_1334 rfl ?_
    refine l_arg (k := 4) C0 hS hl (by omega) hL (by decide) dL_law_1335 dL_law_1336 dL_law_1337 dL_law_1338 dL_law_1339 ?_
    refine lv_i2l C0.1 C0.2.1 dL_law_1340 rfl ?_
    refine lv_ldc2 (v := 4294967295) C0.1 C0.2.1 C0.2.2.2.2.1 (C0.2.2.2.2.2.1 _ (List.mem_of_getElem? (i := 1522) (by decide +kernel))) dL_law_1341 ?_
    refine lv_land C0.1 C0.2.1 dL_law_1344 ?_
    refine lv_lor C0.1 C0.2.1 dL_law_1345 ?_
    rw [show Value.long (((Int32.ofInt (xs (i + 3)).toInt).toInt64 <<< ((32 : Int32).toInt64 &&& 63)) ||| ((Int32.ofInt (xs (i + 4)).toInt).toInt64 &&& 4294967295)) = Value.long (Int64.ofInt (((Int32.ofInt (xs (i + 3)).toInt).toInt64 <<< ((32 : Int32).toInt64 &&& 63)) ||| ((Int32.ofInt (xs (i + 4)).toInt).toInt64 &&& 4294967295)).toInt) from by rw [Int64.ofInt_toInt]]
    exact k
  · refine lv_aload_n C0.1 C0.2.1 dL_law_1349 rfl (lv_at hl 3 rfl) ?_
    refine l_arg (k := 1) C0 hS hl (by omega) hL (by decide) dL_law_1350 dL_law_1351 dL_law_1352 dL_law_1353 dL_law_1354 ?_
    refine l_arg (k := 2) C0 hS hl (by omega) hL (by decide) dL_law_1355 dL_law_1356 dL_law_1357 dL_law_1358 dL_law_1359 ?_
    refine l_arg (k := 3) C0 hS hl (by omega) hL (by decide) dL_law_1360 dL_law_1361 dL_law_1362 dL_law_1363 dL_law_1364 ?_
    refine lv_i2l C0.1 C0.2.1 dL_law_1365 rfl ?_
    refine lv_bipush (v := 32) C0.1 C0.2.1 dL_law_1366 (by decide) ?_
    refine lv_lshl C0.1 C0.2.1 dL_law_1368 rfl ?_
    refine l_arg (k := 4) C0 hS hl (by omega) hL (by decide) dL_law_1369 dL_law_1370 dL_law_1371 dL_law_1372 dL_law_1373 ?_
    refine lv_i2l C0.1 C0.2.1 dL_law_1374 rfl ?_
    refine lv_ldc2 (v := 4294967295) C0.1 C0.2.1 C0.2.2.2.2.1 (C0.2.2.2.2.2.1 _ (List.mem_of_getElem? (i := 1522) (by decide +kernel))) dL_law_1375 ?_
    refine lv_land C0.1 C0.2.1 dL_law_1378 ?_
    refine lv_lor C0.1 C0.2.1 dL_law_1379 ?_
    rw [show Value.long (((Int32.ofInt (xs (i + 3)).toInt).toInt64 <<< ((32 : Int32).toInt64 &&& 63)) ||| ((Int32.ofInt (xs (i + 4)).toInt).toInt64 &&& 4294967295)) = Value.long (Int64.ofInt (((Int32.ofInt (xs (i + 3)).toInt).toInt64 <<< ((32 : Int32).toInt64 &&& 63)) ||| ((Int32.ofInt (xs (i + 4)).toInt).toInt64 &&& 4294967295)).toInt) from by rw [Int64.ofInt_toInt]]
    exact k
theorem L_get (C0 : lw_At p s m meth c b L xs) (F : l_F s D cs aX aM) (S : l_S s D cs aX aM H locs ω (ovM τ t)) (hR : Rel ω τ) (hce : cE ω (pM (τ 1))) (hT : tT ω = tT (tx τ)) (hl : lv_has la 4 (l_ls b (aX 0) (aM 0) i)) (hi : i + 7 ≤ L) (hL : L ≤ 3584) (kk : l_Go p l e s m b below meth c D cs aX aM Z la) : W p l e room_1 s m #[Value.ref b] below meth c H locs 600000 7302250 Z (F0 m 1388 la []) := by
  refine l_caseJ (av := [.inl (xs (i + 1)).toInt, .inl (xs (i + 2)).toInt]) (pc1 := 1399) (pc2 := 1402) (pc3 := 1413) (pc4 := 1416) C0 F S hR hce hT hl.1 (C_get _ _) ⟨q_in32 _, q_in32 _, trivial⟩ rfl (fun H locs st hS k => ?_) dL_law_1399 vX7_get (List.mem_of_getElem? (i := 950) (by decide +kernel)) rfl rfl rfl (fun H locs st hS k => ?_) dL_law_1413 vX8_get (List.mem_of_getElem? (i := 1498) (by decide +kernel)) rfl rfl rfl dL_law_1416 dL_law_1417 (by decide) kk
  · refine lv_aload_n C0.1 C0.2.1 dL_law_1388 rfl (lv_at hl 2 rfl) ?_
    refine l_arg (k := 1) C0 hS hl (by omega) hL (by decide) dL_law_1389 dL_law_1390 dL_law_1391 dL_law_1392 dL_law_1393 ?_
    refine l_arg (k := 2) C0 hS hl (by omega) hL (by decide) dL_law_1394 dL_law_1395 dL_law_1396 dL_law_1397 dL_law_1398 ?_
    exact k
  · refine lv_aload_n C0.1 C0.2.1 dL_law_1402 rfl (lv_at hl 3 rfl) ?_
    refine l_arg (k := 1) C0 hS hl (by omega) hL (by decide) dL_law_1403 dL_law_1404 dL_law_1405 dL_law_1406 dL_law_1407 ?_
    refine l_arg (k := 2) C0 hS hl (by omega) hL (by decide) dL_law_1408 dL_law_1409 dL_law_1410 dL_law_1411 dL_law_1412 ?_
    exact k
theorem L_into (C0 : lw_At p s m meth c b L xs) (F : l_F s D cs aX aM) (S : l_S s D cs aX aM H locs ω (ovM τ t)) (hR : Rel ω τ) (hce : cE ω (pM (τ 1))) (hT : tT ω = tT (tx τ)) (hl : lv_has la 4 (l_ls b (aX 0) (aM 0) i)) (hi : i + 7 ≤ L) (hL : L ≤ 3584) (kk : l_Go p l e s m b below meth c D cs aX aM Z la) : W p l e room_1 s m #[Value.ref b] below meth c H locs 600000 7302250 Z (F0 m 1422 la []) := by
  refine l_caseI (av := [.inl (xs (i + 1)).toInt, .inl (xs (i + 2)).toInt, .inl (xs (i + 3)).toInt]) (pc1 := 1438) (pc2 := 1441) (pc3 := 1457) (pc4 := 1460) C0 F S hR hce hT hl.1 (C_into _ _ _) ⟨q_in32 _, q_in32 _, q_in32 _, trivial⟩ rfl (fun H locs st hS k => ?_) dL_law_1438 vX7_into (List.mem_of_getElem? (i := 954) (by decide +kernel)) rfl rfl rfl (fun H locs st hS k => ?_) dL_law_1457 vX8_into (List.mem_of_getElem? (i := 1502) (by decide +kernel)) rfl rfl rfl dL_law_1460 (by decide) kk
  · refine lv_aload_n C0.1 C0.2.1 dL_law_1422 rfl (lv_at hl 2 rfl) ?_
    refine l_arg (k := 1) C0 hS hl (by omega) hL (by decide) dL_law_1423 dL_law_1424 dL_law_1425 dL_law_1426 dL_law_1427 ?_
    refine l_arg (k := 2) C0 hS hl (by omega) hL (by decide) dL_law_1428 dL_law_1429 dL_law_1430 dL_law_1431 dL_law_1432 ?_
    refine l_arg (k := 3) C0 hS hl (by omega) hL (by decide) dL_law_1433 dL_law_1434 dL_law_1435 dL_law_1436 dL_law_1437 ?_
    exact k
  · refine lv_aload_n C0.1 C0.2.1 dL_law_1441 rfl (lv_at hl 3 rfl) ?_
    refine l_arg (k := 1) C0 hS hl (by omega) hL (by decide) dL_law_1442 dL_law_1443 dL_law_1444 dL_law_1445 dL_law_1446 ?_
    refine l_arg (k := 2) C0 hS hl (by omega) hL (by decide) dL_law_1447 dL_law_1448 dL_law_1449 dL_law_1450 dL_law_1451 ?_
    refine l_arg (k := 3) C0 hS hl (by omega) hL (by decide) dL_law_1452 dL_law_1453 dL_law_1454 dL_law_1455 dL_law_1456 ?_
    exact k
theorem L_judge (C0 : lw_At p s m meth c b L xs) (F : l_F s D cs aX aM) (S : l_S s D cs aX aM H locs ω (ovM τ t)) (hR : Rel ω τ) (hce : cE ω (pM (τ 1))) (hT : tT ω = tT (tx τ)) (hl : lv_has la 4 (l_ls b (aX 0) (aM 0) i)) (hi : i + 7 ≤ L) (hL : L ≤ 3584) (kk : l_Go p l e s m b below meth c D cs aX aM Z la) : W p l e room_1 s m #[Value.ref b] below meth c H locs 600000 7302250 Z (F0 m 1465 la []) := by
  refine l_caseI (av := [.inl (xs (i + 1)).toInt, .inl (xs (i + 2)).toInt, .inl (xs (i + 3)).toInt]) (pc1 := 1481) (pc2 := 1484) (pc3 := 1500) (pc4 := 1503) C0 F S hR hce hT hl.1 (C_judge _ _ _) ⟨q_in32 _, q_in32 _, q_in32 _, trivial⟩ rfl (fun H locs st hS k => ?_) dL_law_1481 vX7_judge (List.mem_of_getElem? (i := 962) (by decide +kernel)) rfl rfl rfl (fun H locs st hS k => ?_) dL_law_1500 vX8_judge (List.mem_of_getElem? (i := 1510) (by decide +kernel)) rfl rfl rfl dL_law_1503 (by decide) kk
  · refine lv_aload_n C0.1 C0.2.1 dL_law_1465 rfl (lv_at hl 2 rfl) ?_
    refine l_arg (k := 1) C0 hS hl (by omega) hL (by decide) dL_law_1466 dL_law_1467 dL_law_1468 dL_law_1469 dL_law_1470 ?_
    refine l_arg (k := 2) C0 hS hl (by omega) hL (by decide) dL_law_1471 dL_law_1472 dL_law_1473 dL_law_1474 dL_law_1475 ?_
    refine l_arg (k := 3) C0 hS hl (by omega) hL (by decide) dL_law_1476 dL_law_1477 dL_law_1478 dL_law_1479 dL_law_1480 ?_
    exact k
  · refine lv_aload_n C0.1 C0.2.1 dL_law_1484 rfl (lv_at hl 3 rfl) ?_
    refine l_arg (k := 1) C0 hS hl (by omega) hL (by decide) dL_law_1485 dL_law_1486 dL_law_1487 dL_law_1488 dL_law_1489 ?_
    refine l_arg (k := 2) C0 hS hl (by omega) hL (by decide) dL_law_1490 dL_law_1491 dL_law_1492 dL_law_1493 dL_law_1494 ?_
    refine l_arg (k := 3) C0 hS hl (by omega) hL (by decide) dL_law_1495 dL_law_1496 dL_law_1497 dL_law_1498 dL_law_1499 ?_
    exact k
theorem L_undo (C0 : lw_At p s m meth c b L xs) (F : l_F s D cs aX aM) (S : l_S s D cs aX aM H locs ω (ovM τ t)) (hR : Rel ω τ) (hce : cE ω (pM (τ 1))) (hT : tT ω = tT (tx τ)) (hl : lv_has la 4 (l_ls b (aX 0) (aM 0) i)) (hi : i + 7 ≤ L) (hL : L ≤ 3584) (kk : l_Go p l e s m b below meth c D cs aX aM Z la) : W p l e room_1 s m #[Value.ref b] below meth c H locs 600000 7302250 Z (F0 m 1508 la []) := by
  refine l_caseI (av := []) (pc1 := 1509) (pc2 := 1512) (pc3 := 1513) (pc4 := 1516) C0 F S hR hce hT hl.1 (C_undo) trivial rfl (fun H locs st hS k => ?_) dL_law_1509 vX7_undo (List.mem_of_getElem? (i := 966) (by decide +kernel)) rfl rfl rfl (fun H locs st hS k => ?_) dL_law_1513 vX8_undo (List.mem_of_getElem? (i := 1120) (by decide +kernel)) rfl rfl rfl dL_law_1516 (by decide) kk
  · refine lv_aload_n C0.1 C0.2.1 dL_law_1508 rfl (lv_at hl 2 rfl) ?_
    exact k
  · refine lv_aload_n C0.1 C0.2.1 dL_law_1512 rfl (lv_at hl 3 rfl) ?_
    exact k
theorem L_image (C0 : lw_At p s m meth c b L xs) (F : l_F s D cs aX aM) (S : l_S s D cs aX aM H locs ω (ovM τ t)) (hR : Rel ω τ) (hce : cE ω (pM (τ 1))) (hT : tT ω = tT (tx τ)) (hl : lv_has la 4 (l_ls b (aX 0) (aM 0) i)) (hi : i + 7 ≤ L) (hL : L ≤ 3584) (kk : l_Go p l e s m b below meth c D cs aX aM Z la) : W p l e room_1 s m #[Value.ref b] below meth c H locs 600000 7302250 Z (F0 m 1521 la []) := by
  refine l_caseI (av := []) (pc1 := 1522) (pc2 := 1525) (pc3 := 1526) (pc4 := 1529) C0 F S hR hce hT hl.1 (C_image) trivial rfl (fun H locs st hS k => ?_) dL_law_1522 vX7_image (List.mem_of_getElem? (i := 974) (by decide +kernel)) rfl rfl rfl (fun H locs st hS k => ?_) dL_law_1526 vX8_image (List.mem_of_getElem? (i := 1514) (by decide +kernel)) rfl rfl rfl dL_law_1529 (by decide) kk
  · refine lv_aload_n C0.1 C0.2.1 dL_law_1521 rfl (lv_at hl 2 rfl) ?_
    exact k
  · refine lv_aload_n C0.1 C0.2.1 dL_law_1525 rfl (lv_at hl 3 rfl) ?_
    exact k
theorem L_back (C0 : lw_At p s m meth c b L xs) (F : l_F s D cs aX aM) (S : l_S s D cs aX aM H locs ω (ovM τ t)) (hR : Rel ω τ) (hce : cE ω (pM (τ 1))) (hT : tT ω = tT (tx τ)) (hl : lv_has la 4 (l_ls b (aX 0) (aM 0) i)) (hi : i + 7 ≤ L) (hL : L ≤ 3584) (kk : l_Go p l e s m b below meth c D cs aX aM Z la) : W p l e room_1 s m #[Value.ref b] below meth c H locs 600000 7302250 Z (F0 m 1534 la []) := by
  refine l_caseI (av := []) (pc1 := 1535) (pc2 := 1538) (pc3 := 1539) (pc4 := 1542) C0 F S hR hce hT hl.1 (C_back) trivial rfl (fun H locs st hS k => ?_) dL_law_1535 vX7_back (List.mem_of_getElem? (i := 979) (by decide +kernel)) rfl rfl rfl (fun H locs st hS k => ?_) dL_law_1539 vX8_back (List.mem_of_getElem? (i := 1518) (by decide +kernel)) rfl rfl rfl dL_law_1542 (by decide) kk
  · refine lv_aload_n C0.1 C0.2.1 dL_law_1534 rfl (lv_at hl 2 rfl) ?_
    exact k
  · refine lv_aload_n C0.1 C0.2.1 dL_law_1538 rfl (lv_at hl 3 rfl) ?_
    exact k
end LW
