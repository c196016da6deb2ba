/-! ===== CASES OF THE LAW (printed by wip/gen/law.py) ===== -/
section V4
variable {p : Program} {l : Launch} {e : Jvm.Env} {s : State} {m : MethodId} {below : List Frame} {meth : Method} {c : Code} {Q : State → Prop} {D : va_G} {cid : Nat → ClassId} {eP : Nat → Option Nat} {eI : Nat → Nat → Int32} {Od : State → Prop} {b L : Nat} {xs : Nat → Int32} {ca a out j : Nat} {σ : Mm} {μ : Ms} {ls : Array Slot} {H : Heap} {locs : List Loc} {cells slots : Nat}
theorem cs_25 (hL : Lw p l s m c D cid eP eI Od b L xs) (hI : Li D cid eP eI s b ca a out j σ μ ls H locs) (hj : 9 * j + 9 ≤ L) (hc : cells + 9 ≤ 601024) (hs : slots + 110 ≤ 7293034) (kk : Kn p l e s m below meth c Q D cid eP eI b ca a out j cells slots) : W p l e room_1 s m #[.ref b] below meth c H locs cells slots Q (F0 m 1325 ls []) := by
  obtain ⟨hls, hv, hW, hS, hok, hon⟩ := id hI
  obtain ⟨v, σ1, μ', r1, r2, hv', n1, n2⟩ := ok_run (xs (9 * j + 1)) (xs (9 * j + 2)) 0 σ ca a μ hv
  obtain ⟨x, rfl⟩ := (runc_ky r1).2 kc_C_run.rt
  refine lv_aload_n hL.1.1 hL.1.2.1 dl_1325 rfl (lv_at hls 2 rfl) ?_
  refine lc_ld hL hls hS (i := 1) (by decide) hj rfl dl_1326 dl_1327 dl_1329 dl_1330 dl_1331 ?_
  refine lc_ld hL hls hS (i := 2) (by decide) hj rfl dl_1332 dl_1333 dl_1335 dl_1336 dl_1337 ?_
  refine lc_call hL (ys := [xs (9 * j + 1), xs (9 * j + 2)]) kc_C_run hW hS hls.1 (by decide) (inv_ca hv) (by decide) r1 (num1 hc hs n1 n2) rfl dl_1338 (fun H1 locs1 hW1 hS1 => ?_)
  refine lv_aload_n hL.1.1 hL.1.2.1 dl_1341 rfl (lv_at hls 3 rfl) ?_
  refine lc_ld hL hls hS1 (i := 1) (by decide) hj rfl dl_1342 dl_1343 dl_1345 dl_1346 dl_1347 ?_
  refine lc_ld hL hls hS1 (i := 2) (by decide) hj rfl dl_1348 dl_1349 dl_1351 dl_1352 dl_1353 ?_
  refine lc_call hL (ys := [xs (9 * j + 1), xs (9 * j + 2)]) kc_M_run hW1 hS1 hls.1 (by decide) (inv_a1 hv r1) (Nat.le_of_ble_eq_true rfl) r2 (num2 hc hs n1 n2 rfl rfl) rfl dl_1354 (fun H2 locs2 hW2 hS2 => ?_)
  refine lv_icmp_eq hL.1.1 hL.1.2.1 dl_1357 (tgt := 1512) (by decide) (fun _ => ?_) (fun h => absurd rfl h)
  exact W.widen (num3 n1 rfl) (num4 n2 rfl) (kk ls _ μ' H2 locs2 (li_next hI r1 r2 hv' hW2 hS2))
theorem cs_26 (hL : Lw p l s m c D cid eP eI Od b L xs) (hI : Li D cid eP eI s b ca a out j σ μ ls H locs) (hj : 9 * j + 9 ≤ L) (hc : cells + 9 ≤ 601024) (hs : slots + 110 ≤ 7293034) (kk : Kn p l e s m below meth c Q D cid eP eI b ca a out j cells slots) : W p l e room_1 s m #[.ref b] below meth c H locs cells slots Q (F0 m 1362 ls []) := by
  obtain ⟨hls, hv, hW, hS, hok, hon⟩ := id hI
  obtain ⟨v, σ1, μ', r1, r2, hv', n1, n2⟩ := ok_suspects  0 σ ca a μ hv
  obtain ⟨x, rfl⟩ := (runc_ky r1).2 kc_C_suspects.rt
  refine lv_aload_n hL.1.1 hL.1.2.1 dl_1362 rfl (lv_at hls 2 rfl) ?_
  refine lc_call hL (ys := []) kc_C_suspects hW hS hls.1 (by decide) (inv_ca hv) (by decide) r1 (num1 hc hs n1 n2) rfl dl_1363 (fun H1 locs1 hW1 hS1 => ?_)
  refine lv_aload_n hL.1.1 hL.1.2.1 dl_1366 rfl (lv_at hls 3 rfl) ?_
  refine lc_call hL (ys := []) kc_M_suspects hW1 hS1 hls.1 (by decide) (inv_a1 hv r1) (Nat.le_of_ble_eq_true rfl) r2 (num2 hc hs n1 n2 rfl rfl) rfl dl_1367 (fun H2 locs2 hW2 hS2 => ?_)
  refine lv_icmp_eq hL.1.1 hL.1.2.1 dl_1370 (tgt := 1512) (by decide) (fun _ => ?_) (fun h => absurd rfl h)
  exact W.widen (num3 n1 rfl) (num4 n2 rfl) (kk ls _ μ' H2 locs2 (li_next hI r1 r2 hv' hW2 hS2))
theorem cs_27 (hL : Lw p l s m c D cid eP eI Od b L xs) (hI : Li D cid eP eI s b ca a out j σ μ ls H locs) (hj : 9 * j + 9 ≤ L) (hc : cells + 9 ≤ 601024) (hs : slots + 110 ≤ 7293034) (kk : Kn p l e s m below meth c Q D cid eP eI b ca a out j cells slots) : W p l e room_1 s m #[.ref b] below meth c H locs cells slots Q (F0 m 1375 ls []) := by
  obtain ⟨hls, hv, hW, hS, hok, hon⟩ := id hI
  obtain ⟨v, σ1, μ', r1, r2, hv', n1, n2⟩ := ok_way (xs (9 * j + 1)) (xs (9 * j + 2)) (xs (9 * j + 3)) (xs (9 * j + 4)) (xs (9 * j + 5)) (xs (9 * j + 6)) 0 σ ca a μ hv
  obtain ⟨x, rfl⟩ := (runc_ky r1).2 kc_C_way.rt
  refine lv_aload_n hL.1.1 hL.1.2.1 dl_1375 rfl (lv_at hls 2 rfl) ?_
  refine lc_ld hL hls hS (i := 1) (by decide) hj rfl dl_1376 dl_1377 dl_1379 dl_1380 dl_1381 ?_
  refine lc_ld hL hls hS (i := 2) (by decide) hj rfl dl_1382 dl_1383 dl_1385 dl_1386 dl_1387 ?_
  refine lc_ld hL hls hS (i := 3) (by decide) hj rfl dl_1388 dl_1389 dl_1391 dl_1392 dl_1393 ?_
  refine lc_ld hL hls hS (i := 4) (by decide) hj rfl dl_1394 dl_1395 dl_1397 dl_1398 dl_1399 ?_
  refine lc_ld hL hls hS (i := 5) (by decide) hj rfl dl_1400 dl_1401 dl_1403 dl_1404 dl_1405 ?_
  refine lc_ld2 hL hls hS (i := 6) (by decide) hj rfl dl_1406 dl_1407 dl_1409 dl_1411 dl_1412 ?_
  refine lc_call hL (ys := [xs (9 * j + 1), xs (9 * j + 2), xs (9 * j + 3), xs (9 * j + 4), xs (9 * j + 5), xs (9 * j + 6)]) kc_C_way hW hS hls.1 (by decide) (inv_ca hv) (by decide) r1 (num1 hc hs n1 n2) rfl dl_1413 (fun H1 locs1 hW1 hS1 => ?_)
  refine lv_aload_n hL.1.1 hL.1.2.1 dl_1416 rfl (lv_at hls 3 rfl) ?_
  refine lc_ld hL hls hS1 (i := 1) (by decide) hj rfl dl_1417 dl_1418 dl_1420 dl_1421 dl_1422 ?_
  refine lc_ld hL hls hS1 (i := 2) (by decide) hj rfl dl_1423 dl_1424 dl_1426 dl_1427 dl_1428 ?_
  refine lc_ld hL hls hS1 (i := 3) (by decide) hj rfl dl_1429 dl_1430 dl_1432 dl_1433 dl_1434 ?_
  refine lc_ld hL hls hS1 (i := 4) (by decide) hj rfl dl_1435 dl_1436 dl_1438 dl_1439 dl_1440 ?_
  refine lc_ld hL hls hS1 (i := 5) (by decide) hj rfl dl_1441 dl_1442 dl_1444 dl_1445 dl_1446 ?_
  refine lc_ld2 hL hls hS1 (i := 6) (by decide) hj rfl dl_1447 dl_1448 dl_1450 dl_1452 dl_1453 ?_
  refine lc_call hL (ys := [xs (9 * j + 1), xs (9 * j + 2), xs (9 * j + 3), xs (9 * j + 4), xs (9 * j + 5), xs (9 * j + 6)]) kc_M_way hW1 hS1 hls.1 (by decide) (inv_a1 hv r1) (Nat.le_of_ble_eq_true rfl) r2 (num2 hc hs n1 n2 rfl rfl) rfl dl_1454 (fun H2 locs2 hW2 hS2 => ?_)
  refine lv_icmp_eq hL.1.1 hL.1.2.1 dl_1457 (tgt := 1512) (by decide) (fun _ => ?_) (fun h => absurd rfl h)
  exact W.widen (num3 n1 rfl) (num4 n2 rfl) (kk ls _ μ' H2 locs2 (li_next hI r1 r2 hv' hW2 hS2))
theorem cs_28 (hL : Lw p l s m c D cid eP eI Od b L xs) (hI : Li D cid eP eI s b ca a out j σ μ ls H locs) (hj : 9 * j + 9 ≤ L) (hc : cells + 9 ≤ 601024) (hs : slots + 110 ≤ 7293034) (kk : Kn p l e s m below meth c Q D cid eP eI b ca a out j cells slots) : W p l e room_1 s m #[.ref b] below meth c H locs cells slots Q (F0 m 1462 ls []) := by
  obtain ⟨hls, hv, hW, hS, hok, hon⟩ := id hI
  obtain ⟨v, σ1, μ', r1, r2, hv', n1, n2⟩ := ok_count (xs (9 * j + 1)) 0 σ ca a μ hv
  obtain ⟨x, rfl⟩ := (runc_ky r1).2 kc_C_count.rt
  refine lv_aload_n hL.1.1 hL.1.2.1 dl_1462 rfl (lv_at hls 2 rfl) ?_
  refine lc_ld hL hls hS (i := 1) (by decide) hj rfl dl_1463 dl_1464 dl_1466 dl_1467 dl_1468 ?_
  refine lc_call hL (ys := [xs (9 * j + 1)]) kc_C_count hW hS hls.1 (by decide) (inv_ca hv) (by decide) r1 (num1 hc hs n1 n2) rfl dl_1469 (fun H1 locs1 hW1 hS1 => ?_)
  refine lv_aload_n hL.1.1 hL.1.2.1 dl_1472 rfl (lv_at hls 3 rfl) ?_
  refine lc_ld hL hls hS1 (i := 1) (by decide) hj rfl dl_1473 dl_1474 dl_1476 dl_1477 dl_1478 ?_
  refine lc_call hL (ys := [xs (9 * j + 1)]) kc_M_count hW1 hS1 hls.1 (by decide) (inv_a1 hv r1) (Nat.le_of_ble_eq_true rfl) r2 (num2 hc hs n1 n2 rfl rfl) rfl dl_1479 (fun H2 locs2 hW2 hS2 => ?_)
  refine lv_icmp_eq hL.1.1 hL.1.2.1 dl_1482 (tgt := 1512) (by decide) (fun _ => ?_) (fun h => absurd rfl h)
  exact W.widen (num3 n1 rfl) (num4 n2 rfl) (kk ls _ μ' H2 locs2 (li_next hI r1 r2 hv' hW2 hS2))
theorem cs_29 (hL : Lw p l s m c D cid eP eI Od b L xs) (hI : Li D cid eP eI s b ca a out j σ μ ls H locs) (hj : 9 * j + 9 ≤ L) (hc : cells + 9 ≤ 601024) (hs : slots + 110 ≤ 7293034) (kk : Kn p l e s m below meth c Q D cid eP eI b ca a out j cells slots) : W p l e room_1 s m #[.ref b] below meth c H locs cells slots Q (F0 m 1487 ls []) := by
  obtain ⟨hls, hv, hW, hS, hok, hon⟩ := id hI
  obtain ⟨v, σ1, μ', r1, r2, hv', n1, n2⟩ := ok_free (xs (9 * j + 1)) 0 σ ca a μ hv
  obtain ⟨x, rfl⟩ := (runc_ky r1).2 kc_C_free.rt
  refine lv_aload_n hL.1.1 hL.1.2.1 dl_1487 rfl (lv_at hls 2 rfl) ?_
  refine lc_ld hL hls hS (i := 1) (by decide) hj rfl dl_1488 dl_1489 dl_1491 dl_1492 dl_1493 ?_
  refine lc_call hL (ys := [xs (9 * j + 1)]) kc_C_free hW hS hls.1 (by decide) (inv_ca hv) (by decide) r1 (num1 hc hs n1 n2) rfl dl_1494 (fun H1 locs1 hW1 hS1 => ?_)
  refine lv_aload_n hL.1.1 hL.1.2.1 dl_1497 rfl (lv_at hls 3 rfl) ?_
  refine lc_ld hL hls hS1 (i := 1) (by decide) hj rfl dl_1498 dl_1499 dl_1501 dl_1502 dl_1503 ?_
  refine lc_call hL (ys := [xs (9 * j + 1)]) kc_M_free hW1 hS1 hls.1 (by decide) (inv_a1 hv r1) (Nat.le_of_ble_eq_true rfl) r2 (num2 hc hs n1 n2 rfl rfl) rfl dl_1504 (fun H2 locs2 hW2 hS2 => ?_)
  refine lv_icmp_eq hL.1.1 hL.1.2.1 dl_1507 (tgt := 1512) (by decide) (fun _ => ?_) (fun h => absurd rfl h)
  exact W.widen (num3 n1 rfl) (num4 n2 rfl) (kk ls _ μ' H2 locs2 (li_next hI r1 r2 hv' hW2 hS2))
end V4
