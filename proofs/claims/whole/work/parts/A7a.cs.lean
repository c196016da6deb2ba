/-! ===== CASES OF THE LAW (printed by wip/gen/law.py) ===== -/
section V0
variable {p : Program} {l : Launch} {e : Jvm.Env} {s : State} {m : MethodId} {below : List Frame} {meth : Method} {c : Code} {Q : State → Prop} {D : va_G} {cid : Nat → ClassId} {eP : Nat → Option Nat} {eI : Nat → Nat → Int32} {Od : State → Prop} {b L : Nat} {xs : Nat → Int32} {ca a out j : Nat} {σ : Mm} {μ : Ms} {ls : Array Slot} {H : Heap} {locs : List Loc} {cells slots : Nat}
theorem cs_0 (hL : Lw p l s m c D cid eP eI Od b L xs) (hI : Li D cid eP eI s b ca a out j σ μ ls H locs) (hj : 9 * j + 9 ≤ L) (hc : cells + 9 ≤ 601024) (hs : slots + 110 ≤ 7293034) (kk : Kn p l e s m below meth c Q D cid eP eI b ca a out j cells slots) : W p l e room_1 s m #[.ref b] below meth c H locs cells slots Q (F0 m 176 ls []) := by
  obtain ⟨hls, hv, hW, hS, hok, hon⟩ := id hI
  obtain ⟨v, σ1, μ', r1, r2, hv', n1, n2⟩ := ok_stop (xs (9 * j + 1)) (xs (9 * j + 2)) (bz (xs (9 * j + 3))) (bz_01 _) 0 σ ca a μ hv
  obtain ⟨x, rfl⟩ := (runc_ky r1).2 kc_C_stop.rt
  refine lv_aload_n hL.1.1 hL.1.2.1 dl_176 rfl (lv_at hls 2 rfl) ?_
  refine lc_ld hL hls hS (i := 1) (by decide) hj rfl dl_177 dl_178 dl_180 dl_181 dl_182 ?_
  refine lc_ld hL hls hS (i := 2) (by decide) hj rfl dl_183 dl_184 dl_186 dl_187 dl_188 ?_
  refine lc_ld hL hls hS (i := 3) (by decide) hj rfl dl_189 dl_190 dl_192 dl_193 dl_194 ?_
  refine lw_bz hL.1.1 hL.1.2.1 dl_195 dl_198 dl_199 dl_202 (t1 := 202) (t2 := 203) rfl rfl ?_
  refine lc_call hL (ys := [xs (9 * j + 1), xs (9 * j + 2), bz (xs (9 * j + 3))]) kc_C_stop hW hS hls.1 (by decide) (inv_ca hv) (by decide) r1 (num1 hc hs n1 n2) rfl dl_203 (fun H1 locs1 hW1 hS1 => ?_)
  refine lv_aload_n hL.1.1 hL.1.2.1 dl_206 rfl (lv_at hls 3 rfl) ?_
  refine lc_ld hL hls hS1 (i := 1) (by decide) hj rfl dl_207 dl_208 dl_210 dl_211 dl_212 ?_
  refine lc_ld hL hls hS1 (i := 2) (by decide) hj rfl dl_213 dl_214 dl_216 dl_217 dl_218 ?_
  refine lc_ld hL hls hS1 (i := 3) (by decide) hj rfl dl_219 dl_220 dl_222 dl_223 dl_224 ?_
  refine lw_bz hL.1.1 hL.1.2.1 dl_225 dl_228 dl_229 dl_232 (t1 := 232) (t2 := 233) rfl rfl ?_
  refine lc_call hL (ys := [xs (9 * j + 1), xs (9 * j + 2), bz (xs (9 * j + 3))]) kc_M_stop hW1 hS1 hls.1 (by decide) (inv_a1 hv r1) (Nat.le_of_ble_eq_true rfl) r2 (num2 hc hs n1 n2 rfl rfl) rfl dl_233 (fun H2 locs2 hW2 hS2 => ?_)
  refine lv_icmp_eq hL.1.1 hL.1.2.1 dl_236 (tgt := 1512) (by decide) (fun _ => ?_) (fun h => absurd rfl h)
  exact W.widen (num3 n1 rfl) (num4 n2 rfl) (kk ls _ μ' H2 locs2 (li_next hI r1 r2 hv' hW2 hS2))
theorem cs_1 (hL : Lw p l s m c D cid eP eI Od b L xs) (hI : Li D cid eP eI s b ca a out j σ μ ls H locs) (hj : 9 * j + 9 ≤ L) (hc : cells + 9 ≤ 601024) (hs : slots + 110 ≤ 7293034) (kk : Kn p l e s m below meth c Q D cid eP eI b ca a out j cells slots) : W p l e room_1 s m #[.ref b] below meth c H locs cells slots Q (F0 m 241 ls []) := by
  obtain ⟨hls, hv, hW, hS, hok, hon⟩ := id hI
  obtain ⟨v, σ1, μ', r1, r2, hv', n1, n2⟩ := ok_leg (xs (9 * j + 1)) (xs (9 * j + 2)) (xs (9 * j + 3)) 0 σ ca a μ hv
  obtain ⟨x, rfl⟩ := (runc_ky r1).2 kc_C_leg.rt
  refine lv_aload_n hL.1.1 hL.1.2.1 dl_241 rfl (lv_at hls 2 rfl) ?_
  refine lc_ld hL hls hS (i := 1) (by decide) hj rfl dl_242 dl_243 dl_245 dl_246 dl_247 ?_
  refine lc_ld hL hls hS (i := 2) (by decide) hj rfl dl_248 dl_249 dl_251 dl_252 dl_253 ?_
  refine lc_ld hL hls hS (i := 3) (by decide) hj rfl dl_254 dl_255 dl_257 dl_258 dl_259 ?_
  refine lc_call hL (ys := [xs (9 * j + 1), xs (9 * j + 2), xs (9 * j + 3)]) kc_C_leg hW hS hls.1 (by decide) (inv_ca hv) (by decide) r1 (num1 hc hs n1 n2) rfl dl_260 (fun H1 locs1 hW1 hS1 => ?_)
  refine lv_aload_n hL.1.1 hL.1.2.1 dl_263 rfl (lv_at hls 3 rfl) ?_
  refine lc_ld hL hls hS1 (i := 1) (by decide) hj rfl dl_264 dl_265 dl_267 dl_268 dl_269 ?_
  refine lc_ld hL hls hS1 (i := 2) (by decide) hj rfl dl_270 dl_271 dl_273 dl_274 dl_275 ?_
  refine lc_ld hL hls hS1 (i := 3) (by decide) hj rfl dl_276 dl_277 dl_279 dl_280 dl_281 ?_
  refine lc_call hL (ys := [xs (9 * j + 1), xs (9 * j + 2), xs (9 * j + 3)]) kc_M_leg hW1 hS1 hls.1 (by decide) (inv_a1 hv r1) (Nat.le_of_ble_eq_true rfl) r2 (num2 hc hs n1 n2 rfl rfl) rfl dl_282 (fun H2 locs2 hW2 hS2 => ?_)
  refine lv_icmp_eq hL.1.1 hL.1.2.1 dl_285 (tgt := 1512) (by decide) (fun _ => ?_) (fun h => absurd rfl h)
  exact W.widen (num3 n1 rfl) (num4 n2 rfl) (kk ls _ μ' H2 locs2 (li_next hI r1 r2 hv' hW2 hS2))
theorem cs_2 (hL : Lw p l s m c D cid eP eI Od b L xs) (hI : Li D cid eP eI s b ca a out j σ μ ls H locs) (hj : 9 * j + 9 ≤ L) (hc : cells + 9 ≤ 601024) (hs : slots + 110 ≤ 7293034) (kk : Kn p l e s m below meth c Q D cid eP eI b ca a out j cells slots) : W p l e room_1 s m #[.ref b] below meth c H locs cells slots Q (F0 m 290 ls []) := by
  obtain ⟨hls, hv, hW, hS, hok, hon⟩ := id hI
  obtain ⟨v, σ1, μ', r1, r2, hv', n1, n2⟩ := ok_drums (xs (9 * j + 1)) (xs (9 * j + 2)) 0 σ ca a μ hv
  obtain ⟨x, rfl⟩ := (runc_ky r1).2 kc_C_drums.rt
  refine lv_aload_n hL.1.1 hL.1.2.1 dl_290 rfl (lv_at hls 2 rfl) ?_
  refine lc_ld hL hls hS (i := 1) (by decide) hj rfl dl_291 dl_292 dl_294 dl_295 dl_296 ?_
  refine lc_ld hL hls hS (i := 2) (by decide) hj rfl dl_297 dl_298 dl_300 dl_301 dl_302 ?_
  refine lc_call hL (ys := [xs (9 * j + 1), xs (9 * j + 2)]) kc_C_drums hW hS hls.1 (by decide) (inv_ca hv) (by decide) r1 (num1 hc hs n1 n2) rfl dl_303 (fun H1 locs1 hW1 hS1 => ?_)
  refine lv_aload_n hL.1.1 hL.1.2.1 dl_306 rfl (lv_at hls 3 rfl) ?_
  refine lc_ld hL hls hS1 (i := 1) (by decide) hj rfl dl_307 dl_308 dl_310 dl_311 dl_312 ?_
  refine lc_ld hL hls hS1 (i := 2) (by decide) hj rfl dl_313 dl_314 dl_316 dl_317 dl_318 ?_
  refine lc_call hL (ys := [xs (9 * j + 1), xs (9 * j + 2)]) kc_M_drums hW1 hS1 hls.1 (by decide) (inv_a1 hv r1) (Nat.le_of_ble_eq_true rfl) r2 (num2 hc hs n1 n2 rfl rfl) rfl dl_319 (fun H2 locs2 hW2 hS2 => ?_)
  refine lv_icmp_eq hL.1.1 hL.1.2.1 dl_322 (tgt := 1512) (by decide) (fun _ => ?_) (fun h => absurd rfl h)
  exact W.widen (num3 n1 rfl) (num4 n2 rfl) (kk ls _ μ' H2 locs2 (li_next hI r1 r2 hv' hW2 hS2))
theorem cs_3 (hL : Lw p l s m c D cid eP eI Od b L xs) (hI : Li D cid eP eI s b ca a out j σ μ ls H locs) (hj : 9 * j + 9 ≤ L) (hc : cells + 9 ≤ 601024) (hs : slots + 110 ≤ 7293034) (kk : Kn p l e s m below meth c Q D cid eP eI b ca a out j cells slots) : W p l e room_1 s m #[.ref b] below meth c H locs cells slots Q (F0 m 327 ls []) := by
  obtain ⟨hls, hv, hW, hS, hok, hon⟩ := id hI
  obtain ⟨v, σ1, μ', r1, r2, hv', n1, n2⟩ := ok_boat (xs (9 * j + 1)) (xs (9 * j + 2)) (xs (9 * j + 3)) (xs (9 * j + 4)) (xs (9 * j + 5)) (xs (9 * j + 6)) (xs (9 * j + 7)) (xs (9 * j + 8)) 0 σ ca a μ hv
  obtain ⟨x, rfl⟩ := (runc_ky r1).2 kc_C_boat.rt
  refine lv_aload_n hL.1.1 hL.1.2.1 dl_327 rfl (lv_at hls 2 rfl) ?_
  refine lc_ld hL hls hS (i := 1) (by decide) hj rfl dl_328 dl_329 dl_331 dl_332 dl_333 ?_
  refine lc_ld hL hls hS (i := 2) (by decide) hj rfl dl_334 dl_335 dl_337 dl_338 dl_339 ?_
  refine lc_ld hL hls hS (i := 3) (by decide) hj rfl dl_340 dl_341 dl_343 dl_344 dl_345 ?_
  refine lc_ld hL hls hS (i := 4) (by decide) hj rfl dl_346 dl_347 dl_349 dl_350 dl_351 ?_
  refine lc_ld hL hls hS (i := 5) (by decide) hj rfl dl_352 dl_353 dl_355 dl_356 dl_357 ?_
  refine lc_ld2 hL hls hS (i := 6) (by decide) hj rfl dl_358 dl_359 dl_361 dl_363 dl_364 ?_
  refine lc_ld2 hL hls hS (i := 7) (by decide) hj rfl dl_365 dl_366 dl_368 dl_370 dl_371 ?_
  refine lc_ld2 hL hls hS (i := 8) (by decide) hj rfl dl_372 dl_373 dl_375 dl_377 dl_378 ?_
  refine lc_call hL (ys := [xs (9 * j + 1), xs (9 * j + 2), xs (9 * j + 3), xs (9 * j + 4), xs (9 * j + 5), xs (9 * j + 6), xs (9 * j + 7), xs (9 * j + 8)]) kc_C_boat hW hS hls.1 (by decide) (inv_ca hv) (by decide) r1 (num1 hc hs n1 n2) rfl dl_379 (fun H1 locs1 hW1 hS1 => ?_)
  refine lv_aload_n hL.1.1 hL.1.2.1 dl_382 rfl (lv_at hls 3 rfl) ?_
  refine lc_ld hL hls hS1 (i := 1) (by decide) hj rfl dl_383 dl_384 dl_386 dl_387 dl_388 ?_
  refine lc_ld hL hls hS1 (i := 2) (by decide) hj rfl dl_389 dl_390 dl_392 dl_393 dl_394 ?_
  refine lc_ld hL hls hS1 (i := 3) (by decide) hj rfl dl_395 dl_396 dl_398 dl_399 dl_400 ?_
  refine lc_ld hL hls hS1 (i := 4) (by decide) hj rfl dl_401 dl_402 dl_404 dl_405 dl_406 ?_
  refine lc_ld hL hls hS1 (i := 5) (by decide) hj rfl dl_407 dl_408 dl_410 dl_411 dl_412 ?_
  refine lc_ld2 hL hls hS1 (i := 6) (by decide) hj rfl dl_413 dl_414 dl_416 dl_418 dl_419 ?_
  refine lc_ld2 hL hls hS1 (i := 7) (by decide) hj rfl dl_420 dl_421 dl_423 dl_425 dl_426 ?_
  refine lc_ld2 hL hls hS1 (i := 8) (by decide) hj rfl dl_427 dl_428 dl_430 dl_432 dl_433 ?_
  refine lc_call hL (ys := [xs (9 * j + 1), xs (9 * j + 2), xs (9 * j + 3), xs (9 * j + 4), xs (9 * j + 5), xs (9 * j + 6), xs (9 * j + 7), xs (9 * j + 8)]) kc_M_boat hW1 hS1 hls.1 (by decide) (inv_a1 hv r1) (Nat.le_of_ble_eq_true rfl) r2 (num2 hc hs n1 n2 rfl rfl) rfl dl_434 (fun H2 locs2 hW2 hS2 => ?_)
  refine lv_icmp_eq hL.1.1 hL.1.2.1 dl_437 (tgt := 1512) (by decide) (fun _ => ?_) (fun h => absurd rfl h)
  exact W.widen (num3 n1 rfl) (num4 n2 rfl) (kk ls _ μ' H2 locs2 (li_next hI r1 r2 hv' hW2 hS2))
theorem cs_4 (hL : Lw p l s m c D cid eP eI Od b L xs) (hI : Li D cid eP eI s b ca a out j σ μ ls H locs) (hj : 9 * j + 9 ≤ L) (hc : cells + 9 ≤ 601024) (hs : slots + 110 ≤ 7293034) (kk : Kn p l e s m below meth c Q D cid eP eI b ca a out j cells slots) : W p l e room_1 s m #[.ref b] below meth c H locs cells slots Q (F0 m 442 ls []) := by
  obtain ⟨hls, hv, hW, hS, hok, hon⟩ := id hI
  obtain ⟨v, σ1, μ', r1, r2, hv', n1, n2⟩ := ok_swell (xs (9 * j + 1)) (xs (9 * j + 2)) (xs (9 * j + 3)) 0 σ ca a μ hv
  obtain ⟨x, rfl⟩ := (runc_ky r1).2 kc_C_swell.rt
  refine lv_aload_n hL.1.1 hL.1.2.1 dl_442 rfl (lv_at hls 2 rfl) ?_
  refine lc_ld hL hls hS (i := 1) (by decide) hj rfl dl_443 dl_444 dl_446 dl_447 dl_448 ?_
  refine lc_ld hL hls hS (i := 2) (by decide) hj rfl dl_449 dl_450 dl_452 dl_453 dl_454 ?_
  refine lc_ld hL hls hS (i := 3) (by decide) hj rfl dl_455 dl_456 dl_458 dl_459 dl_460 ?_
  refine lc_call hL (ys := [xs (9 * j + 1), xs (9 * j + 2), xs (9 * j + 3)]) kc_C_swell hW hS hls.1 (by decide) (inv_ca hv) (by decide) r1 (num1 hc hs n1 n2) rfl dl_461 (fun H1 locs1 hW1 hS1 => ?_)
  refine lv_aload_n hL.1.1 hL.1.2.1 dl_464 rfl (lv_at hls 3 rfl) ?_
  refine lc_ld hL hls hS1 (i := 1) (by decide) hj rfl dl_465 dl_466 dl_468 dl_469 dl_470 ?_
  refine lc_ld hL hls hS1 (i := 2) (by decide) hj rfl dl_471 dl_472 dl_474 dl_475 dl_476 ?_
  refine lc_ld hL hls hS1 (i := 3) (by decide) hj rfl dl_477 dl_478 dl_480 dl_481 dl_482 ?_
  refine lc_call hL (ys := [xs (9 * j + 1), xs (9 * j + 2), xs (9 * j + 3)]) kc_M_swell hW1 hS1 hls.1 (by decide) (inv_a1 hv r1) (Nat.le_of_ble_eq_true rfl) r2 (num2 hc hs n1 n2 rfl rfl) rfl dl_483 (fun H2 locs2 hW2 hS2 => ?_)
  refine lv_icmp_eq hL.1.1 hL.1.2.1 dl_486 (tgt := 1512) (by decide) (fun _ => ?_) (fun h => absurd rfl h)
  exact W.widen (num3 n1 rfl) (num4 n2 rfl) (kk ls _ μ' H2 locs2 (li_next hI r1 r2 hv' hW2 hS2))
theorem cs_5 (hL : Lw p l s m c D cid eP eI Od b L xs) (hI : Li D cid eP eI s b ca a out j σ μ ls H locs) (hj : 9 * j + 9 ≤ L) (hc : cells + 9 ≤ 601024) (hs : slots + 110 ≤ 7293034) (kk : Kn p l e s m below meth c Q D cid eP eI b ca a out j cells slots) : W p l e room_1 s m #[.ref b] below meth c H locs cells slots Q (F0 m 491 ls []) := by
  obtain ⟨hls, hv, hW, hS, hok, hon⟩ := id hI
  obtain ⟨v, σ1, μ', r1, r2, hv', n1, n2⟩ := ok_wind (xs (9 * j + 1)) (xs (9 * j + 2)) (xs (9 * j + 3)) 0 σ ca a μ hv
  obtain ⟨x, rfl⟩ := (runc_ky r1).2 kc_C_wind.rt
  refine lv_aload_n hL.1.1 hL.1.2.1 dl_491 rfl (lv_at hls 2 rfl) ?_
  refine lc_ld hL hls hS (i := 1) (by decide) hj rfl dl_492 dl_493 dl_495 dl_496 dl_497 ?_
  refine lc_ld hL hls hS (i := 2) (by decide) hj rfl dl_498 dl_499 dl_501 dl_502 dl_503 ?_
  refine lc_ld hL hls hS (i := 3) (by decide) hj rfl dl_504 dl_505 dl_507 dl_508 dl_509 ?_
  refine lc_call hL (ys := [xs (9 * j + 1), xs (9 * j + 2), xs (9 * j + 3)]) kc_C_wind hW hS hls.1 (by decide) (inv_ca hv) (by decide) r1 (num1 hc hs n1 n2) rfl dl_510 (fun H1 locs1 hW1 hS1 => ?_)
  refine lv_aload_n hL.1.1 hL.1.2.1 dl_513 rfl (lv_at hls 3 rfl) ?_
  refine lc_ld hL hls hS1 (i := 1) (by decide) hj rfl dl_514 dl_515 dl_517 dl_518 dl_519 ?_
  refine lc_ld hL hls hS1 (i := 2) (by decide) hj rfl dl_520 dl_521 dl_523 dl_524 dl_525 ?_
  refine lc_ld hL hls hS1 (i := 3) (by decide) hj rfl dl_526 dl_527 dl_529 dl_530 dl_531 ?_
  refine lc_call hL (ys := [xs (9 * j + 1), xs (9 * j + 2), xs (9 * j + 3)]) kc_M_wind hW1 hS1 hls.1 (by decide) (inv_a1 hv r1) (Nat.le_of_ble_eq_true rfl) r2 (num2 hc hs n1 n2 rfl rfl) rfl dl_532 (fun H2 locs2 hW2 hS2 => ?_)
  refine lv_icmp_eq hL.1.1 hL.1.2.1 dl_535 (tgt := 1512) (by decide) (fun _ => ?_) (fun h => absurd rfl h)
  exact W.widen (num3 n1 rfl) (num4 n2 rfl) (kk ls _ μ' H2 locs2 (li_next hI r1 r2 hv' hW2 hS2))
theorem cs_6 (hL : Lw p l s m c D cid eP eI Od b L xs) (hI : Li D cid eP eI s b ca a out j σ μ ls H locs) (hj : 9 * j + 9 ≤ L) (hc : cells + 9 ≤ 601024) (hs : slots + 110 ≤ 7293034) (kk : Kn p l e s m below meth c Q D cid eP eI b ca a out j cells slots) : W p l e room_1 s m #[.ref b] below meth c H locs cells slots Q (F0 m 540 ls []) := by
  obtain ⟨hls, hv, hW, hS, hok, hon⟩ := id hI
  obtain ⟨v, σ1, μ', r1, r2, hv', n1, n2⟩ := ok_swellOf (xs (9 * j + 1)) (xs (9 * j + 2)) (xs (9 * j + 3)) 0 σ ca a μ hv
  obtain ⟨x, rfl⟩ := (runc_ky r1).2 kc_C_swellOf.rt
  refine lv_aload_n hL.1.1 hL.1.2.1 dl_540 rfl (lv_at hls 2 rfl) ?_
  refine lc_ld hL hls hS (i := 1) (by decide) hj rfl dl_541 dl_542 dl_544 dl_545 dl_546 ?_
  refine lc_ld hL hls hS (i := 2) (by decide) hj rfl dl_547 dl_548 dl_550 dl_551 dl_552 ?_
  refine lc_ld hL hls hS (i := 3) (by decide) hj rfl dl_553 dl_554 dl_556 dl_557 dl_558 ?_
  refine lc_call hL (ys := [xs (9 * j + 1), xs (9 * j + 2), xs (9 * j + 3)]) kc_C_swellOf hW hS hls.1 (by decide) (inv_ca hv) (by decide) r1 (num1 hc hs n1 n2) rfl dl_559 (fun H1 locs1 hW1 hS1 => ?_)
  refine lv_aload_n hL.1.1 hL.1.2.1 dl_562 rfl (lv_at hls 3 rfl) ?_
  refine lc_ld hL hls hS1 (i := 1) (by decide) hj rfl dl_563 dl_564 dl_566 dl_567 dl_568 ?_
  refine lc_ld hL hls hS1 (i := 2) (by decide) hj rfl dl_569 dl_570 dl_572 dl_573 dl_574 ?_
  refine lc_ld hL hls hS1 (i := 3) (by decide) hj rfl dl_575 dl_576 dl_578 dl_579 dl_580 ?_
  refine lc_call hL (ys := [xs (9 * j + 1), xs (9 * j + 2), xs (9 * j + 3)]) kc_M_swellOf hW1 hS1 hls.1 (by decide) (inv_a1 hv r1) (Nat.le_of_ble_eq_true rfl) r2 (num2 hc hs n1 n2 rfl rfl) rfl dl_581 (fun H2 locs2 hW2 hS2 => ?_)
  refine lv_icmp_eq hL.1.1 hL.1.2.1 dl_584 (tgt := 1512) (by decide) (fun _ => ?_) (fun h => absurd rfl h)
  exact W.widen (num3 n1 rfl) (num4 n2 rfl) (kk ls _ μ' H2 locs2 (li_next hI r1 r2 hv' hW2 hS2))
theorem cs_7 (hL : Lw p l s m c D cid eP eI Od b L xs) (hI : Li D cid eP eI s b ca a out j σ μ ls H locs) (hj : 9 * j + 9 ≤ L) (hc : cells + 9 ≤ 601024) (hs : slots + 110 ≤ 7293034) (kk : Kn p l e s m below meth c Q D cid eP eI b ca a out j cells slots) : W p l e room_1 s m #[.ref b] below meth c H locs cells slots Q (F0 m 589 ls []) := by
  obtain ⟨hls, hv, hW, hS, hok, hon⟩ := id hI
  obtain ⟨v, σ1, μ', r1, r2, hv', n1, n2⟩ := ok_windOf (xs (9 * j + 1)) (xs (9 * j + 2)) (xs (9 * j + 3)) 0 σ ca a μ hv
  obtain ⟨x, rfl⟩ := (runc_ky r1).2 kc_C_windOf.rt
  refine lv_aload_n hL.1.1 hL.1.2.1 dl_589 rfl (lv_at hls 2 rfl) ?_
  refine lc_ld hL hls hS (i := 1) (by decide) hj rfl dl_590 dl_591 dl_593 dl_594 dl_595 ?_
  refine lc_ld hL hls hS (i := 2) (by decide) hj rfl dl_596 dl_597 dl_599 dl_600 dl_601 ?_
  refine lc_ld hL hls hS (i := 3) (by decide) hj rfl dl_602 dl_603 dl_605 dl_606 dl_607 ?_
  refine lc_call hL (ys := [xs (9 * j + 1), xs (9 * j + 2), xs (9 * j + 3)]) kc_C_windOf hW hS hls.1 (by decide) (inv_ca hv) (by decide) r1 (num1 hc hs n1 n2) rfl dl_608 (fun H1 locs1 hW1 hS1 => ?_)
  refine lv_aload_n hL.1.1 hL.1.2.1 dl_611 rfl (lv_at hls 3 rfl) ?_
  refine lc_ld hL hls hS1 (i := 1) (by decide) hj rfl dl_612 dl_613 dl_615 dl_616 dl_617 ?_
  refine lc_ld hL hls hS1 (i := 2) (by decide) hj rfl dl_618 dl_619 dl_621 dl_622 dl_623 ?_
  refine lc_ld hL hls hS1 (i := 3) (by decide) hj rfl dl_624 dl_625 dl_627 dl_628 dl_629 ?_
  refine lc_call hL (ys := [xs (9 * j + 1), xs (9 * j + 2), xs (9 * j + 3)]) kc_M_windOf hW1 hS1 hls.1 (by decide) (inv_a1 hv r1) (Nat.le_of_ble_eq_true rfl) r2 (num2 hc hs n1 n2 rfl rfl) rfl dl_630 (fun H2 locs2 hW2 hS2 => ?_)
  refine lv_icmp_eq hL.1.1 hL.1.2.1 dl_633 (tgt := 1512) (by decide) (fun _ => ?_) (fun h => absurd rfl h)
  exact W.widen (num3 n1 rfl) (num4 n2 rfl) (kk ls _ μ' H2 locs2 (li_next hI r1 r2 hv' hW2 hS2))
end V0
