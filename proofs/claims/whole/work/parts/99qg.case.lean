theorem dL_law_1290 : decode cL_law 1290 = .ok (.aload_n 1, 1) := by decide +kernel
theorem dL_law_1291 : decode cL_law 1291 = .ok (.aload_n 0, 1) := by decide +kernel
theorem dL_law_1292 : decode cL_law 1292 = .ok (.iload 4, 2) := by decide +kernel
theorem dL_law_1294 : decode cL_law 1294 = .ok (.iconst 1, 1) := by decide +kernel
theorem dL_law_1295 : decode cL_law 1295 = .ok (.iadd, 1) := by decide +kernel
theorem dL_law_1296 : decode cL_law 1296 = .ok (.iaload, 1) := by decide +kernel
theorem dL_law_1297 : decode cL_law 1297 = .ok (.aload_n 0, 1) := by decide +kernel
theorem dL_law_1298 : decode cL_law 1298 = .ok (.iload 4, 2) := by decide +kernel
theorem dL_law_1300 : decode cL_law 1300 = .ok (.iconst 2, 1) := by decide +kernel
theorem dL_law_1301 : decode cL_law 1301 = .ok (.iadd, 1) := by decide +kernel
theorem dL_law_1302 : decode cL_law 1302 = .ok (.iaload, 1) := by decide +kernel
theorem dL_law_1303 : decode cL_law 1303 = .ok (.aload_n 0, 1) := by decide +kernel
theorem dL_law_1304 : decode cL_law 1304 = .ok (.iload 4, 2) := by decide +kernel
theorem dL_law_1306 : decode cL_law 1306 = .ok (.iconst 3, 1) := by decide +kernel
theorem dL_law_1307 : decode cL_law 1307 = .ok (.iadd, 1) := by decide +kernel
theorem dL_law_1308 : decode cL_law 1308 = .ok (.iaload, 1) := by decide +kernel
theorem dL_law_1309 : decode cL_law 1309 = .ok (.aload_n 3, 1) := by decide +kernel
theorem dL_law_1310 : decode cL_law 1310 = .ok (.invokestatic 174, 3) := by decide +kernel
theorem dL_law_1313 : decode cL_law 1313 = .ok (.istore 5, 2) := by decide +kernel
theorem dL_law_1315 : decode cL_law 1315 = .ok (.aload_n 2, 1) := by decide +kernel
theorem dL_law_1316 : decode cL_law 1316 = .ok (.aload_n 0, 1) := by decide +kernel
theorem dL_law_1317 : decode cL_law 1317 = .ok (.iload 4, 2) := by decide +kernel
theorem dL_law_1319 : decode cL_law 1319 = .ok (.iconst 1, 1) := by decide +kernel
theorem dL_law_1320 : decode cL_law 1320 = .ok (.iadd, 1) := by decide +kernel
theorem dL_law_1321 : decode cL_law 1321 = .ok (.iaload, 1) := by decide +kernel
theorem dL_law_1322 : decode cL_law 1322 = .ok (.aload_n 0, 1) := by decide +kernel
theorem dL_law_1323 : decode cL_law 1323 = .ok (.iload 4, 2) := by decide +kernel
theorem dL_law_1325 : decode cL_law 1325 = .ok (.iconst 2, 1) := by decide +kernel
theorem dL_law_1326 : decode cL_law 1326 = .ok (.iadd, 1) := by decide +kernel
theorem dL_law_1327 : decode cL_law 1327 = .ok (.iaload, 1) := by decide +kernel
theorem dL_law_1328 : decode cL_law 1328 = .ok (.aload_n 0, 1) := by decide +kernel
theorem dL_law_1329 : decode cL_law 1329 = .ok (.iload 4, 2) := by decide +kernel
theorem dL_law_1331 : decode cL_law 1331 = .ok (.iconst 3, 1) := by decide +kernel
theorem dL_law_1332 : decode cL_law 1332 = .ok (.iadd, 1) := by decide +kernel
theorem dL_law_1333 : decode cL_law 1333 = .ok (.iaload, 1) := by decide +kernel
theorem dL_law_1334 : decode cL_law 1334 = .ok (.invokevirtual 176, 3) := by decide +kernel
theorem dL_law_1337 : decode cL_law 1337 = .ok (.istore 6, 2) := by decide +kernel
theorem dL_law_1339 : decode cL_law 1339 = .ok (.aload_n 2, 1) := by decide +kernel
theorem dL_law_1340 : decode cL_law 1340 = .ok (.invokevirtual 117, 3) := by decide +kernel
theorem dL_law_1343 : decode cL_law 1343 = .ok (.iload 5, 2) := by decide +kernel
theorem dL_law_1345 : decode cL_law 1345 = .ok (.if_icmp .eq 5, 3) := by decide +kernel
theorem dL_law_1348 : decode cL_law 1348 = .ok (.iconst 0, 1) := by decide +kernel
theorem dL_law_1349 : decode cL_law 1349 = .ok (.ireturn, 1) := by decide +kernel
theorem dL_law_1350 : decode cL_law 1350 = .ok (.iload 5, 2) := by decide +kernel
theorem dL_law_1352 : decode cL_law 1352 = .ok (.ifCond .ne 15, 3) := by decide +kernel
theorem dL_law_1355 : decode cL_law 1355 = .ok (.aload_n 3, 1) := by decide +kernel
theorem dL_law_1356 : decode cL_law 1356 = .ok (.iconst 0, 1) := by decide +kernel
theorem dL_law_1357 : decode cL_law 1357 = .ok (.laload, 1) := by decide +kernel
theorem dL_law_1358 : decode cL_law 1358 = .ok (.iload 6, 2) := by decide +kernel
theorem dL_law_1360 : decode cL_law 1360 = .ok (.i2l, 1) := by decide +kernel
theorem dL_law_1361 : decode cL_law 1361 = .ok (.lcmp, 1) := by decide +kernel
theorem dL_law_1362 : decode cL_law 1362 = .ok (.ifCond .eq 5, 3) := by decide +kernel
theorem dL_law_1365 : decode cL_law 1365 = .ok (.iconst 0, 1) := by decide +kernel
theorem dL_law_1366 : decode cL_law 1366 = .ok (.ireturn, 1) := by decide +kernel
theorem dL_law_1367 : decode cL_law 1367 = .ok (.goto 911, 3) := by decide +kernel
theorem kH_174 : CH RL 174 yL_trespasses cL_trespasses 6 (some .int) [(0, 12, 15, 18), (0, 12, 19, 13)] 5 := ⟨wsH_gt wd959 wd960 wd0 wd961, by decide +kernel⟩
theorem kL_176 : CV RL 176 RX10 yX10_trespasses cX10_trespasses 7 (some .int) 3 := ⟨wsV_gt wd1692 wd1693 wd1694 wd11 wd1695, by decide +kernel⟩
theorem dL_law_1370 : decode cL_law 1370 = .ok (.aload_n 1, 1) := by decide +kernel
theorem dL_law_1371 : decode cL_law 1371 = .ok (.aload_n 0, 1) := by decide +kernel
theorem dL_law_1372 : decode cL_law 1372 = .ok (.iload 4, 2) := by decide +kernel
theorem dL_law_1374 : decode cL_law 1374 = .ok (.iconst 1, 1) := by decide +kernel
theorem dL_law_1375 : decode cL_law 1375 = .ok (.iadd, 1) := by decide +kernel
theorem dL_law_1376 : decode cL_law 1376 = .ok (.iaload, 1) := by decide +kernel
theorem dL_law_1377 : decode cL_law 1377 = .ok (.aload_n 3, 1) := by decide +kernel
theorem dL_law_1378 : decode cL_law 1378 = .ok (.invokestatic 177, 3) := by decide +kernel
theorem dL_law_1381 : decode cL_law 1381 = .ok (.istore 5, 2) := by decide +kernel
theorem dL_law_1383 : decode cL_law 1383 = .ok (.aload_n 2, 1) := by decide +kernel
theorem dL_law_1384 : decode cL_law 1384 = .ok (.aload_n 0, 1) := by decide +kernel
theorem dL_law_1385 : decode cL_law 1385 = .ok (.iload 4, 2) := by decide +kernel
theorem dL_law_1387 : decode cL_law 1387 = .ok (.iconst 1, 1) := by decide +kernel
theorem dL_law_1388 : decode cL_law 1388 = .ok (.iadd, 1) := by decide +kernel
theorem dL_law_1389 : decode cL_law 1389 = .ok (.iaload, 1) := by decide +kernel
theorem dL_law_1390 : decode cL_law 1390 = .ok (.invokevirtual 179, 3) := by decide +kernel
theorem dL_law_1393 : decode cL_law 1393 = .ok (.istore 6, 2) := by decide +kernel
theorem dL_law_1395 : decode cL_law 1395 = .ok (.aload_n 2, 1) := by decide +kernel
theorem dL_law_1396 : decode cL_law 1396 = .ok (.invokevirtual 117, 3) := by decide +kernel
theorem dL_law_1399 : decode cL_law 1399 = .ok (.iload 5, 2) := by decide +kernel
theorem dL_law_1401 : decode cL_law 1401 = .ok (.if_icmp .eq 5, 3) := by decide +kernel
theorem dL_law_1404 : decode cL_law 1404 = .ok (.iconst 0, 1) := by decide +kernel
theorem dL_law_1405 : decode cL_law 1405 = .ok (.ireturn, 1) := by decide +kernel
theorem dL_law_1406 : decode cL_law 1406 = .ok (.iload 5, 2) := by decide +kernel
theorem dL_law_1408 : decode cL_law 1408 = .ok (.ifCond .ne 15, 3) := by decide +kernel
theorem dL_law_1411 : decode cL_law 1411 = .ok (.aload_n 3, 1) := by decide +kernel
theorem dL_law_1412 : decode cL_law 1412 = .ok (.iconst 0, 1) := by decide +kernel
theorem dL_law_1413 : decode cL_law 1413 = .ok (.laload, 1) := by decide +kernel
theorem dL_law_1414 : decode cL_law 1414 = .ok (.iload 6, 2) := by decide +kernel
theorem dL_law_1416 : decode cL_law 1416 = .ok (.i2l, 1) := by decide +kernel
theorem dL_law_1417 : decode cL_law 1417 = .ok (.lcmp, 1) := by decide +kernel
theorem dL_law_1418 : decode cL_law 1418 = .ok (.ifCond .eq 5, 3) := by decide +kernel
theorem dL_law_1421 : decode cL_law 1421 = .ok (.iconst 0, 1) := by decide +kernel
theorem dL_law_1422 : decode cL_law 1422 = .ok (.ireturn, 1) := by decide +kernel
theorem dL_law_1423 : decode cL_law 1423 = .ok (.goto 855, 3) := by decide +kernel
theorem kH_177 : CH RL 177 yL_allKnow cL_allKnow 4 (some .int) [(0, 9, 12, 18)] 3 := ⟨wsH_gt wd975 wd976 wd0 wd977, by decide +kernel⟩
theorem kL_179 : CV RL 179 RX10 yX10_allKnow cX10_allKnow 2 (some .int) 1 := ⟨wsV_gt wd1696 wd1697 wd1698 wd11 wd1699, by decide +kernel⟩
theorem dL_law_1426 : decode cL_law 1426 = .ok (.aload_n 1, 1) := by decide +kernel
theorem dL_law_1427 : decode cL_law 1427 = .ok (.aload_n 0, 1) := by decide +kernel
theorem dL_law_1428 : decode cL_law 1428 = .ok (.iload 4, 2) := by decide +kernel
theorem dL_law_1430 : decode cL_law 1430 = .ok (.iconst 1, 1) := by decide +kernel
theorem dL_law_1431 : decode cL_law 1431 = .ok (.iadd, 1) := by decide +kernel
theorem dL_law_1432 : decode cL_law 1432 = .ok (.iaload, 1) := by decide +kernel
theorem dL_law_1433 : decode cL_law 1433 = .ok (.aload_n 3, 1) := by decide +kernel
theorem dL_law_1434 : decode cL_law 1434 = .ok (.invokestatic 180, 3) := by decide +kernel
theorem dL_law_1437 : decode cL_law 1437 = .ok (.istore 5, 2) := by decide +kernel
theorem dL_law_1439 : decode cL_law 1439 = .ok (.aload_n 2, 1) := by decide +kernel
theorem dL_law_1440 : decode cL_law 1440 = .ok (.aload_n 0, 1) := by decide +kernel
theorem dL_law_1441 : decode cL_law 1441 = .ok (.iload 4, 2) := by decide +kernel
theorem dL_law_1443 : decode cL_law 1443 = .ok (.iconst 1, 1) := by decide +kernel
theorem dL_law_1444 : decode cL_law 1444 = .ok (.iadd, 1) := by decide +kernel
theorem dL_law_1445 : decode cL_law 1445 = .ok (.iaload, 1) := by decide +kernel
theorem dL_law_1446 : decode cL_law 1446 = .ok (.invokevirtual 182, 3) := by decide +kernel
theorem dL_law_1449 : decode cL_law 1449 = .ok (.istore 6, 2) := by decide +kernel
theorem dL_law_1451 : decode cL_law 1451 = .ok (.aload_n 2, 1) := by decide +kernel
theorem dL_law_1452 : decode cL_law 1452 = .ok (.invokevirtual 117, 3) := by decide +kernel
theorem dL_law_1455 : decode cL_law 1455 = .ok (.iload 5, 2) := by decide +kernel
theorem dL_law_1457 : decode cL_law 1457 = .ok (.if_icmp .eq 5, 3) := by decide +kernel
theorem dL_law_1460 : decode cL_law 1460 = .ok (.iconst 0, 1) := by decide +kernel
theorem dL_law_1461 : decode cL_law 1461 = .ok (.ireturn, 1) := by decide +kernel
theorem dL_law_1462 : decode cL_law 1462 = .ok (.iload 5, 2) := by decide +kernel
theorem dL_law_1464 : decode cL_law 1464 = .ok (.ifCond .ne 15, 3) := by decide +kernel
theorem dL_law_1467 : decode cL_law 1467 = .ok (.aload_n 3, 1) := by decide +kernel
theorem dL_law_1468 : decode cL_law 1468 = .ok (.iconst 0, 1) := by decide +kernel
theorem dL_law_1469 : decode cL_law 1469 = .ok (.laload, 1) := by decide +kernel
theorem dL_law_1470 : decode cL_law 1470 = .ok (.iload 6, 2) := by decide +kernel
theorem dL_law_1472 : decode cL_law 1472 = .ok (.i2l, 1) := by decide +kernel
theorem dL_law_1473 : decode cL_law 1473 = .ok (.lcmp, 1) := by decide +kernel
theorem dL_law_1474 : decode cL_law 1474 = .ok (.ifCond .eq 5, 3) := by decide +kernel
theorem dL_law_1477 : decode cL_law 1477 = .ok (.iconst 0, 1) := by decide +kernel
theorem dL_law_1478 : decode cL_law 1478 = .ok (.ireturn, 1) := by decide +kernel
theorem dL_law_1479 : decode cL_law 1479 = .ok (.goto 799, 3) := by decide +kernel
theorem kH_180 : CH RL 180 yL_lost cL_lost 4 (some .int) [(0, 9, 12, 18)] 3 := ⟨wsH_gt wd982 wd983 wd0 wd984, by decide +kernel⟩
theorem kL_182 : CV RL 182 RX10 yX10_lost cX10_lost 4 (some .int) 1 := ⟨wsV_gt wd1700 wd1701 wd1702 wd11 wd1703, by decide +kernel⟩
section LC
variable {p : Program} {l : Launch} {e : Env} {s : State} {m : MethodId} {below : List Frame} {meth : Method} {c : Code} {G : Gt} {Q : State → Prop} {b L i : Nat} {xs : Nat → Int32} {S : St} {H : Heap} {locs : List Loc} {ls : Array Slot} {cells slots : Nat}
set_option maxHeartbeats 4000000 in
set_option maxRecDepth 20000 in
theorem lc_trespasses (C : Cx p s m #[.ref b] meth c cL_law 7 RL G) (hst : l.stackTraces = false) (hX : va_X b L xs s s.heap) (hbl : b < s.heap.size) (hbA : ¬ Ab G b) (hi : 6 * i + 5 < L) (hL : L ≤ 3072) (hd : Dy G S s H locs) (hR : Rel S) (hl : lv_has ls 7 [(4, .int (nI (6 * i))), (0, .ref b), (1, .ref (gR G 0)), (2, .ref (gR G 142)), (3, .ref (gR G 186))]) (hB : cells + 20 ≤ 601024 ∧ slots + 120 ≤ 7293034) (hnext : ∀ (S : St) (H : Heap) (locs : List Loc) (ls : Array Slot) (k n : Nat), k ≤ cells + 20 → n ≤ slots + 120 → Dy G S s H locs → Rel S → lv_has ls 7 [(4, .int (nI (6 * i))), (0, .ref b), (1, .ref (gR G 0)), (2, .ref (gR G 142)), (3, .ref (gR G 186))] → W p l e room_1 s m #[.ref b] below meth c H locs k n Q (F0 m 2278 ls [])) : W p l e room_1 s m #[.ref b] below meth c H locs cells slots Q (F0 m 1290 ls []) := by
  have hx := C.1.1
  have hb := C.1.2.1
  obtain ⟨k, S1, bb, S2, e1, e2, hR2, e3, e4⟩ := useC (A_trespasses (xs (6 * i + 1)) (xs (6 * i + 2)) (xs (6 * i + 3))) (some 1) (some 2) false (Or.inl rfl) (Or.inl rfl) (by decide) (fun _ _ _ h => n6_fX10_trespasses rfl _ h) hR
  refine lv_aload_n hx hb dL_law_1290 rfl (lv_at hl 2 rfl) ?_
  refine R_scr (k := 1) C hd hX hbl hbA (lv_at hl 1 rfl) (lv_at hl 0 rfl) hi hL (by decide) rfl dL_law_1291 dL_law_1292 dL_law_1294 dL_law_1295 dL_law_1296 ?_
  refine R_scr (k := 2) C hd hX hbl hbA (lv_at hl 1 rfl) (lv_at hl 0 rfl) hi hL (by decide) rfl dL_law_1297 dL_law_1298 dL_law_1300 dL_law_1301 dL_law_1302 ?_
  refine R_scr (k := 3) C hd hX hbl hbA (lv_at hl 1 rfl) (lv_at hl 0 rfl) hi hL (by decide) rfl dL_law_1303 dL_law_1304 dL_law_1306 dL_law_1307 dL_law_1308 ?_
  refine lv_aload_n hx hb dL_law_1309 rfl (lv_at hl 4 rfl) ?_
  refine R_cHi (rest := []) (As := [.ref (gR G 0), .int (xs (6 * i + 1)), .int (xs (6 * i + 2)), .int (xs (6 * i + 3)), .ref (gR G 186)]) C hd (ccL_trespasses l G hst e1) kH_174 hl.1 ⟨by decide, by decide⟩ rfl rfl (Nat.le_of_ble_eq_true rfl) dL_law_1310 (lfit hB (by decide) (by decide)) (fun H locs hd => ?_)
  refine lv_istore hx hb dL_law_1313 hl (by decide) rfl (fun ls hl => ?_)
  refine lv_aload_n hx hb dL_law_1315 rfl (lv_at hl 4 rfl) ?_
  refine R_scr (k := 1) C hd hX hbl hbA (lv_at hl 2 rfl) (lv_at hl 1 rfl) hi hL (by decide) rfl dL_law_1316 dL_law_1317 dL_law_1319 dL_law_1320 dL_law_1321 ?_
  refine R_scr (k := 2) C hd hX hbl hbA (lv_at hl 2 rfl) (lv_at hl 1 rfl) hi hL (by decide) rfl dL_law_1322 dL_law_1323 dL_law_1325 dL_law_1326 dL_law_1327 ?_
  refine R_scr (k := 3) C hd hX hbl hbA (lv_at hl 2 rfl) (lv_at hl 1 rfl) hi hL (by decide) rfl dL_law_1328 dL_law_1329 dL_law_1331 dL_law_1332 dL_law_1333 ?_
  refine R_cVi (rest := []) (As := [.int (xs (6 * i + 1)), .int (xs (6 * i + 2)), .int (xs (6 * i + 3))]) C hd (ccX10_trespasses l G e2) kL_176 rfl (by decide) (rfl : kd 142 = 10) hl.1 ⟨by decide, by decide⟩ rfl rfl (Nat.le_of_ble_eq_true rfl) dL_law_1334 (lfit2 hB (by decide) (by decide)) (fun H locs hd => ?_)
  refine lv_istore hx hb dL_law_1337 hl (by decide) rfl (fun ls hl => ?_)
  refine lv_aload_n hx hb dL_law_1339 rfl (lv_at hl 5 rfl) ?_
  refine R_cVi (rest := []) (As := []) C hd (ccX10_thrown l G rfl) kL_117 rfl (by decide) (rfl : kd 142 = 10) hl.1 ⟨by decide, by decide⟩ rfl rfl (Nat.le_of_ble_eq_true rfl) dL_law_1340 (lfit2 hB (by decide) (by decide)) (fun H locs hd => ?_)
  refine lv_iload hx hb dL_law_1343 (lv_at hl 1 rfl) ?_
  refine lv_icmp_eq (tgt := 1350) hx hb dL_law_1345 (by decide) (fun _ => ?_) (fun q => absurd e3 q)
  refine lv_iload hx hb dL_law_1350 (lv_at hl 1 rfl) ?_
  refine lv_if_ne (tgt := 1367) hx hb dL_law_1352 (by decide) (fun _ => ?_) (fun ck => ?_)
  · refine lv_goto (tgt := 2278) hx hb dL_law_1367 (by decide) ?_
    exact hnext S2 H locs ls _ _ (by omega) (by omega) hd hR2 (lv_sbs hl (fun q hq => List.mem_cons_of_mem _ (List.mem_cons_of_mem _ hq)))
  · have e5 := e4 ck
    refine lv_aload_n hx hb dL_law_1355 rfl (lv_at hl 6 rfl) ?_
    refine lv_iconst hx hb dL_law_1356 rfl ?_
    refine R_lald C hd dL_law_1357 ?_
    refine lv_iload hx hb dL_law_1358 (lv_at hl 0 rfl) ?_
    refine lv_i2l hx hb dL_law_1360 rfl ?_
    refine W.lcmp hx hb dL_law_1361 ?_
    rw [show (S2 186 0).toInt64 = bb.toInt64 by rw [e5]; rfl, lcmp_eq]
    refine lv_if_eq (tgt := 1367) hx hb dL_law_1362 (by decide) (fun _ => ?_) (fun q => absurd rfl q)
    refine lv_goto (tgt := 2278) hx hb dL_law_1367 (by decide) ?_
    exact hnext S2 H locs ls _ _ (by omega) (by omega) hd hR2 (lv_sbs hl (fun q hq => List.mem_cons_of_mem _ (List.mem_cons_of_mem _ hq)))
set_option maxHeartbeats 4000000 in
set_option maxRecDepth 20000 in
theorem lc_allKnow (C : Cx p s m #[.ref b] meth c cL_law 7 RL G) (hst : l.stackTraces = false) (hX : va_X b L xs s s.heap) (hbl : b < s.heap.size) (hbA : ¬ Ab G b) (hi : 6 * i + 5 < L) (hL : L ≤ 3072) (hd : Dy G S s H locs) (hR : Rel S) (hl : lv_has ls 7 [(4, .int (nI (6 * i))), (0, .ref b), (1, .ref (gR G 0)), (2, .ref (gR G 142)), (3, .ref (gR G 186))]) (hB : cells + 20 ≤ 601024 ∧ slots + 120 ≤ 7293034) (hnext : ∀ (S : St) (H : Heap) (locs : List Loc) (ls : Array Slot) (k n : Nat), k ≤ cells + 20 → n ≤ slots + 120 → Dy G S s H locs → Rel S → lv_has ls 7 [(4, .int (nI (6 * i))), (0, .ref b), (1, .ref (gR G 0)), (2, .ref (gR G 142)), (3, .ref (gR G 186))] → W p l e room_1 s m #[.ref b] below meth c H locs k n Q (F0 m 2278 ls [])) : W p l e room_1 s m #[.ref b] below meth c H locs cells slots Q (F0 m 1370 ls []) := by
  have hx := C.1.1
  have hb := C.1.2.1
  obtain ⟨k, S1, bb, S2, e1, e2, hR2, e3, e4⟩ := useC (A_allKnow (nX := 1) (xs (6 * i + 1))) (some 1) none false (Or.inl rfl) (Or.inr ⟨rfl, no2 (fun _ => A_allKnow (xs (6 * i + 1)))⟩) (by decide) (fun _ _ _ h => n6_fX10_allKnow rfl _ h) hR
  refine lv_aload_n hx hb dL_law_1370 rfl (lv_at hl 2 rfl) ?_
  refine R_scr (k := 1) C hd hX hbl hbA (lv_at hl 1 rfl) (lv_at hl 0 rfl) hi hL (by decide) rfl dL_law_1371 dL_law_1372 dL_law_1374 dL_law_1375 dL_law_1376 ?_
  refine lv_aload_n hx hb dL_law_1377 rfl (lv_at hl 4 rfl) ?_
  refine R_cHi (rest := []) (As := [.ref (gR G 0), .int (xs (6 * i + 1)), .ref (gR G 186)]) C hd (ccL_allKnow l G hst e1) kH_177 hl.1 ⟨by decide, by decide⟩ rfl rfl (Nat.le_of_ble_eq_true rfl) dL_law_1378 (lfit hB (by decide) (by decide)) (fun H locs hd => ?_)
  refine lv_istore hx hb dL_law_1381 hl (by decide) rfl (fun ls hl => ?_)
  refine lv_aload_n hx hb dL_law_1383 rfl (lv_at hl 4 rfl) ?_
  refine R_scr (k := 1) C hd hX hbl hbA (lv_at hl 2 rfl) (lv_at hl 1 rfl) hi hL (by decide) rfl dL_law_1384 dL_law_1385 dL_law_1387 dL_law_1388 dL_law_1389 ?_
  refine R_cVi (rest := []) (As := [.int (xs (6 * i + 1))]) C hd (ccX10_allKnow l G e2) kL_179 rfl (by decide) (rfl : kd 142 = 10) hl.1 ⟨by decide, by decide⟩ rfl rfl (Nat.le_of_ble_eq_true rfl) dL_law_1390 (lfit2 hB (by decide) (by decide)) (fun H locs hd => ?_)
  refine lv_istore hx hb dL_law_1393 hl (by decide) rfl (fun ls hl => ?_)
  refine lv_aload_n hx hb dL_law_1395 rfl (lv_at hl 5 rfl) ?_
  refine R_cVi (rest := []) (As := []) C hd (ccX10_thrown l G rfl) kL_117 rfl (by decide) (rfl : kd 142 = 10) hl.1 ⟨by decide, by decide⟩ rfl rfl (Nat.le_of_ble_eq_true rfl) dL_law_1396 (lfit2 hB (by decide) (by decide)) (fun H locs hd => ?_)
  refine lv_iload hx hb dL_law_1399 (lv_at hl 1 rfl) ?_
  refine lv_icmp_eq (tgt := 1406) hx hb dL_law_1401 (by decide) (fun _ => ?_) (fun q => absurd e3 q)
  refine lv_iload hx hb dL_law_1406 (lv_at hl 1 rfl) ?_
  refine lv_if_ne (tgt := 1423) hx hb dL_law_1408 (by decide) (fun _ => ?_) (fun ck => ?_)
  · refine lv_goto (tgt := 2278) hx hb dL_law_1423 (by decide) ?_
    exact hnext S2 H locs ls _ _ (by omega) (by omega) hd hR2 (lv_sbs hl (fun q hq => List.mem_cons_of_mem _ (List.mem_cons_of_mem _ hq)))
  · have e5 := e4 ck
    refine lv_aload_n hx hb dL_law_1411 rfl (lv_at hl 6 rfl) ?_
    refine lv_iconst hx hb dL_law_1412 rfl ?_
    refine R_lald C hd dL_law_1413 ?_
    refine lv_iload hx hb dL_law_1414 (lv_at hl 0 rfl) ?_
    refine lv_i2l hx hb dL_law_1416 rfl ?_
    refine W.lcmp hx hb dL_law_1417 ?_
    rw [show (S2 186 0).toInt64 = bb.toInt64 by rw [e5]; rfl, lcmp_eq]
    refine lv_if_eq (tgt := 1423) hx hb dL_law_1418 (by decide) (fun _ => ?_) (fun q => absurd rfl q)
    refine lv_goto (tgt := 2278) hx hb dL_law_1423 (by decide) ?_
    exact hnext S2 H locs ls _ _ (by omega) (by omega) hd hR2 (lv_sbs hl (fun q hq => List.mem_cons_of_mem _ (List.mem_cons_of_mem _ hq)))
set_option maxHeartbeats 4000000 in
set_option maxRecDepth 20000 in
theorem lc_lost (C : Cx p s m #[.ref b] meth c cL_law 7 RL G) (hst : l.stackTraces = false) (hX : va_X b L xs s s.heap) (hbl : b < s.heap.size) (hbA : ¬ Ab G b) (hi : 6 * i + 5 < L) (hL : L ≤ 3072) (hd : Dy G S s H locs) (hR : Rel S) (hl : lv_has ls 7 [(4, .int (nI (6 * i))), (0, .ref b), (1, .ref (gR G 0)), (2, .ref (gR G 142)), (3, .ref (gR G 186))]) (hB : cells + 20 ≤ 601024 ∧ slots + 120 ≤ 7293034) (hnext : ∀ (S : St) (H : Heap) (locs : List Loc) (ls : Array Slot) (k n : Nat), k ≤ cells + 20 → n ≤ slots + 120 → Dy G S s H locs → Rel S → lv_has ls 7 [(4, .int (nI (6 * i))), (0, .ref b), (1, .ref (gR G 0)), (2, .ref (gR G 142)), (3, .ref (gR G 186))] → W p l e room_1 s m #[.ref b] below meth c H locs k n Q (F0 m 2278 ls [])) : W p l e room_1 s m #[.ref b] below meth c H locs cells slots Q (F0 m 1426 ls []) := by
  have hx := C.1.1
  have hb := C.1.2.1
  obtain ⟨k, S1, bb, S2, e1, e2, hR2, e3, e4⟩ := useC (A_lost (nX := 1) (xs (6 * i + 1))) (some 1) none false (Or.inl rfl) (Or.inr ⟨rfl, no2 (fun _ => A_lost (xs (6 * i + 1)))⟩) (by decide) (fun _ _ _ h => n6_fX10_lost rfl _ h) hR
  refine lv_aload_n hx hb dL_law_1426 rfl (lv_at hl 2 rfl) ?_
  refine R_scr (k := 1) C hd hX hbl hbA (lv_at hl 1 rfl) (lv_at hl 0 rfl) hi hL (by decide) rfl dL_law_1427 dL_law_1428 dL_law_1430 dL_law_1431 dL_law_1432 ?_
  refine lv_aload_n hx hb dL_law_1433 rfl (lv_at hl 4 rfl) ?_
  refine R_cHi (rest := []) (As := [.ref (gR G 0), .int (xs (6 * i + 1)), .ref (gR G 186)]) C hd (ccL_lost l G hst e1) kH_180 hl.1 ⟨by decide, by decide⟩ rfl rfl (Nat.le_of_ble_eq_true rfl) dL_law_1434 (lfit hB (by decide) (by decide)) (fun H locs hd => ?_)
  refine lv_istore hx hb dL_law_1437 hl (by decide) rfl (fun ls hl => ?_)
  refine lv_aload_n hx hb dL_law_1439 rfl (lv_at hl 4 rfl) ?_
  refine R_scr (k := 1) C hd hX hbl hbA (lv_at hl 2 rfl) (lv_at hl 1 rfl) hi hL (by decide) rfl dL_law_1440 dL_law_1441 dL_law_1443 dL_law_1444 dL_law_1445 ?_
  refine R_cVi (rest := []) (As := [.int (xs (6 * i + 1))]) C hd (ccX10_lost l G e2) kL_182 rfl (by decide) (rfl : kd 142 = 10) hl.1 ⟨by decide, by decide⟩ rfl rfl (Nat.le_of_ble_eq_true rfl) dL_law_1446 (lfit2 hB (by decide) (by decide)) (fun H locs hd => ?_)
  refine lv_istore hx hb dL_law_1449 hl (by decide) rfl (fun ls hl => ?_)
  refine lv_aload_n hx hb dL_law_1451 rfl (lv_at hl 5 rfl) ?_
  refine R_cVi (rest := []) (As := []) C hd (ccX10_thrown l G rfl) kL_117 rfl (by decide) (rfl : kd 142 = 10) hl.1 ⟨by decide, by decide⟩ rfl rfl (Nat.le_of_ble_eq_true rfl) dL_law_1452 (lfit2 hB (by decide) (by decide)) (fun H locs hd => ?_)
  refine lv_iload hx hb dL_law_1455 (lv_at hl 1 rfl) ?_
  refine lv_icmp_eq (tgt := 1462) hx hb dL_law_1457 (by decide) (fun _ => ?_) (fun q => absurd e3 q)
  refine lv_iload hx hb dL_law_1462 (lv_at hl 1 rfl) ?_
  refine lv_if_ne (tgt := 1479) hx hb dL_law_1464 (by decide) (fun _ => ?_) (fun ck => ?_)
  · refine lv_goto (tgt := 2278) hx hb dL_law_1479 (by decide) ?_
    exact hnext S2 H locs ls _ _ (by omega) (by omega) hd hR2 (lv_sbs hl (fun q hq => List.mem_cons_of_mem _ (List.mem_cons_of_mem _ hq)))
  · have e5 := e4 ck
    refine lv_aload_n hx hb dL_law_1467 rfl (lv_at hl 6 rfl) ?_
    refine lv_iconst hx hb dL_law_1468 rfl ?_
    refine R_lald C hd dL_law_1469 ?_
    refine lv_iload hx hb dL_law_1470 (lv_at hl 0 rfl) ?_
    refine lv_i2l hx hb dL_law_1472 rfl ?_
    refine W.lcmp hx hb dL_law_1473 ?_
    rw [show (S2 186 0).toInt64 = bb.toInt64 by rw [e5]; rfl, lcmp_eq]
    refine lv_if_eq (tgt := 1479) hx hb dL_law_1474 (by decide) (fun _ => ?_) (fun q => absurd rfl q)
    refine lv_goto (tgt := 2278) hx hb dL_law_1479 (by decide) ?_
    exact hnext S2 H locs ls _ _ (by omega) (by omega) hd hR2 (lv_sbs hl (fun q hq => List.mem_cons_of_mem _ (List.mem_cons_of_mem _ hq)))
end LC
