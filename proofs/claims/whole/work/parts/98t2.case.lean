section LT
variable {p : Program} {l : Launch} {e : Env} {s : State} {m : MethodId} {below : List Frame} {meth : Method} {c : Code} {H : Heap} {locs : List Loc} {cells slots : Nat} {Q : State → Prop}
variable {D : va_G} {cy : Nat → ClassId} {tt : Nat → Nat} {b L : Nat} {xs : Nat → Int32} {a a' : Nat → Nat} {o o' bo : Nat} {ls : Array Slot} {i : Int32} {S : SX11} {T : SX12} {f : Nat → Int64}
theorem lawC_withdraw (C : lX p l s m c b L xs D cy tt) (hc : lC cells slots) (hGG : GG S T) (g1 : vp_in (i + 1) L) (g2 : vp_in (i + 2) L) (g3 : vp_in (i + 3) L) (hP : va_P D vwCl (oC cy bo f :: (wX11 cy a o S ++ wX12 cy a' o' T)) H) (hD : va_D (fun q => s.heap.size ≤ q) (oC cy bo f :: (wX11 cy a o S ++ wX12 cy a' o' T))) (hS : va_S (fun q => s.heap.size ≤ q) s.heap H locs) (hl : lv_has ls 7 [(4, .int i), (0, .ref b), (1, .ref (a o)), (2, .ref (a' o')), (3, .ref bo)]) (kk : lK p l e s m below meth c D cy b a o a' o' bo i cells slots Q) : W p l e room_1 s m #[Value.ref b] below meth c H locs cells slots Q (F0 m 1271 ls []) := by
  have C0 := C
  obtain ⟨hx, hb, hml, hown, hts, hX, hbl, hl9, hG, hGX, hN⟩ := C
  have hA : ∀ q : Nat, s.heap.size ≤ q → (fun q : Nat => s.heap.size ≤ q) q := fun _ h => h
  obtain ⟨w1, e1, l1, u1⟩ := i32 (xs (i + 1).toNatClampNeg)
  have hk := K_withdraw hGG l1 u1
  rw [← e1] at hk
  obtain ⟨res, v, T', hw, hr2, hcode, hG', hout⟩ := brO hk (by decide) f
  refine lv_aload_n hx hb dL_law_1271 rfl (lv_at hl 2 rfl) ?_
  refine lRd (k := 1) C0 hS (lv_at hl 1 rfl) (lv_at hl 0 rfl) (by decide) g1 dL_law_1272 dL_law_1273 dL_law_1275 dL_law_1276 dL_law_1277 ?_
  refine lv_aload_n hx hb dL_law_1278 rfl (lv_at hl 4 rfl) ?_
  refine lcW hG hGX hN hP hD hS hA (mc := 3) (ms := 18) (fun h1 h2 => vx_runSX (As := [.ref (a o), .int (xs (i + 1).toNatClampNeg), .ref bo]) (rest := []) ⟨hx, hb, hml, hown, hts⟩ (qL_withdraw l hl9 D cy tt a o bo S (xs (i + 1).toNatClampNeg) f H.size res hw) (vx_cwSW 3 hts gL_law_L_withdraw rfl rfl rfl (by decide +kernel) ⟨Nat.le_of_ble_eq_true rfl, Nat.le_of_ble_eq_true rfl⟩) ⟨h1, h2⟩ rfl rfl hl.1 rfl (lv_room (Nat.le_of_ble_eq_true rfl)) dL_law_1279 (lRm hc (by decide) (by decide))) (c2 := cells + 5) (s2 := slots + 30) (Nat.add_le_add_left (by decide) _) (Nat.add_le_add_left (by decide) _) (fun r u H locs hq hP hD hS => ?_)
  have hq : (r, u) = res := hq
  subst hq
  have hcode : gX12_code T' = r := hcode
  have hG' : GG u.1 T' := hG'
  refine lv_istore (lv' := [(5, .int r), (4, .int i), (0, .ref b), (1, .ref (a o)), (2, .ref (a' o')), (3, .ref bo)]) hx hb dL_law_1282 hl (by decide) rfl (fun ls hl => ?_)
  refine lv_aload_n hx hb dL_law_1284 rfl (lv_at hl 4 rfl) ?_
  refine lRd (k := 1) C0 hS (lv_at hl 2 rfl) (lv_at hl 1 rfl) (by decide) g1 dL_law_1285 dL_law_1286 dL_law_1288 dL_law_1289 dL_law_1290 ?_
  refine smVi (As := [.int (xs (i + 1).toNatClampNeg)]) (rest := []) (ws' := oC cy bo u.2 :: (wX11 cy a o u.1 ++ wX12 cy a' o' T')) (q0 := 0) (ci := 12) (qX12_withdraw l D cy a' o' T (xs (i + 1).toNatClampNeg) H.size (v, T') hr2) ⟨hx, hb, hml, hown, hts⟩ (cwV 1 hts gL_law_X12_withdraw rfl rfl rfl (by decide +kernel) ⟨Nat.le_of_ble_eq_true rfl, Nat.le_of_ble_eq_true rfl⟩) hG hP hD hS hA (pmT cy a o bo u.1 u.2 (wX12 cy a' o' T)) (pmT cy a o bo u.1 u.2 (wX12 cy a' o' T')) rfl rfl rfl hl.1 rfl (Nat.le_of_ble_eq_true rfl) dL_law_1291 hc (fun H locs hP hD hS => ?_)
  refine lv_istore (lv' := [(6, .int v), (5, .int r), (4, .int i), (0, .ref b), (1, .ref (a o)), (2, .ref (a' o')), (3, .ref bo)]) hx hb dL_law_1294 hl (by decide) rfl (fun ls hl => ?_)
  exact lTail C0 hc hcode hout hP hl dL_law_1296 dL_law_1297 dL_law_1300 dL_law_1302 dL_law_1307 dL_law_1309 dL_law_1312 dL_law_1313 dL_law_1314 dL_law_1315 dL_law_1317 dL_law_1318 dL_law_1319 dL_law_1324 (by decide) (fun hl => kk u.1 T' u.2 H locs ls hG' hP hD hS hl)
theorem lawC_info (C : lX p l s m c b L xs D cy tt) (hc : lC cells slots) (hGG : GG S T) (g1 : vp_in (i + 1) L) (g2 : vp_in (i + 2) L) (g3 : vp_in (i + 3) L) (hP : va_P D vwCl (oC cy bo f :: (wX11 cy a o S ++ wX12 cy a' o' T)) H) (hD : va_D (fun q => s.heap.size ≤ q) (oC cy bo f :: (wX11 cy a o S ++ wX12 cy a' o' T))) (hS : va_S (fun q => s.heap.size ≤ q) s.heap H locs) (hl : lv_has ls 7 [(4, .int i), (0, .ref b), (1, .ref (a o)), (2, .ref (a' o')), (3, .ref bo)]) (kk : lK p l e s m below meth c D cy b a o a' o' bo i cells slots Q) : W p l e room_1 s m #[Value.ref b] below meth c H locs cells slots Q (F0 m 1327 ls []) := by
  have C0 := C
  obtain ⟨hx, hb, hml, hown, hts, hX, hbl, hl9, hG, hGX, hN⟩ := C
  have hA : ∀ q : Nat, s.heap.size ≤ q → (fun q : Nat => s.heap.size ≤ q) q := fun _ h => h
  obtain ⟨w1, e1, l1, u1⟩ := i32 (xs (i + 1).toNatClampNeg)
  have hk := K_info hGG l1 u1
  rw [← e1] at hk
  obtain ⟨res, v, T', hw, hr2, hcode, hG', hout⟩ := brR hk (by decide) f
  refine lv_aload_n hx hb dL_law_1327 rfl (lv_at hl 2 rfl) ?_
  refine lRd (k := 1) C0 hS (lv_at hl 1 rfl) (lv_at hl 0 rfl) (by decide) g1 dL_law_1328 dL_law_1329 dL_law_1331 dL_law_1332 dL_law_1333 ?_
  refine lv_aload_n hx hb dL_law_1334 rfl (lv_at hl 4 rfl) ?_
  refine lcW hG hGX hN hP hD hS hA (mc := 1) (ms := 6) (fun h1 h2 => vx_runSX (As := [.ref (a o), .int (xs (i + 1).toNatClampNeg), .ref bo]) (rest := []) ⟨hx, hb, hml, hown, hts⟩ (qL_info l hl9 D cy tt a o bo S (xs (i + 1).toNatClampNeg) f H.size res hw) (vx_cwSW 3 hts gL_law_L_info rfl rfl rfl (by decide +kernel) ⟨Nat.le_of_ble_eq_true rfl, Nat.le_of_ble_eq_true rfl⟩) ⟨h1, h2⟩ rfl rfl hl.1 rfl (lv_room (Nat.le_of_ble_eq_true rfl)) dL_law_1335 (lRm hc (by decide) (by decide))) (c2 := cells + 5) (s2 := slots + 30) (Nat.add_le_add_left (by decide) _) (Nat.add_le_add_left (by decide) _) (fun r u H locs hq hP hD hS => ?_)
  have hq : (r, u) = res := hq
  subst hq
  have hcode : gX12_code T' = r := hcode
  have hG' : GG u.1 T' := hG'
  refine lv_istore (lv' := [(5, .int r), (4, .int i), (0, .ref b), (1, .ref (a o)), (2, .ref (a' o')), (3, .ref bo)]) hx hb dL_law_1338 hl (by decide) rfl (fun ls hl => ?_)
  refine lv_aload_n hx hb dL_law_1340 rfl (lv_at hl 4 rfl) ?_
  refine lRd (k := 1) C0 hS (lv_at hl 2 rfl) (lv_at hl 1 rfl) (by decide) g1 dL_law_1341 dL_law_1342 dL_law_1344 dL_law_1345 dL_law_1346 ?_
  refine smVi (As := [.int (xs (i + 1).toNatClampNeg)]) (rest := []) (ws' := oC cy bo u.2 :: (wX11 cy a o u.1 ++ wX12 cy a' o' T')) (q0 := 0) (ci := 12) (qX12_info l D cy a' o' T (xs (i + 1).toNatClampNeg) H.size (v, T') hr2) ⟨hx, hb, hml, hown, hts⟩ (cwV 1 hts gL_law_X12_info rfl rfl rfl (by decide +kernel) ⟨Nat.le_of_ble_eq_true rfl, Nat.le_of_ble_eq_true rfl⟩) hG hP hD hS hA (pmT cy a o bo u.1 u.2 (wX12 cy a' o' T)) (pmT cy a o bo u.1 u.2 (wX12 cy a' o' T')) rfl rfl rfl hl.1 rfl (Nat.le_of_ble_eq_true rfl) dL_law_1347 hc (fun H locs hP hD hS => ?_)
  refine lv_istore (lv' := [(6, .int v), (5, .int r), (4, .int i), (0, .ref b), (1, .ref (a o)), (2, .ref (a' o')), (3, .ref bo)]) hx hb dL_law_1350 hl (by decide) rfl (fun ls hl => ?_)
  exact lTail C0 hc hcode hout hP hl dL_law_1352 dL_law_1353 dL_law_1356 dL_law_1358 dL_law_1363 dL_law_1365 dL_law_1368 dL_law_1369 dL_law_1370 dL_law_1371 dL_law_1373 dL_law_1374 dL_law_1375 dL_law_1380 (by decide) (fun hl => kk u.1 T' u.2 H locs ls hG' hP hD hS hl)
theorem lawC_entrant (C : lX p l s m c b L xs D cy tt) (hc : lC cells slots) (hGG : GG S T) (g1 : vp_in (i + 1) L) (g2 : vp_in (i + 2) L) (g3 : vp_in (i + 3) L) (hP : va_P D vwCl (oC cy bo f :: (wX11 cy a o S ++ wX12 cy a' o' T)) H) (hD : va_D (fun q => s.heap.size ≤ q) (oC cy bo f :: (wX11 cy a o S ++ wX12 cy a' o' T))) (hS : va_S (fun q => s.heap.size ≤ q) s.heap H locs) (hl : lv_has ls 7 [(4, .int i), (0, .ref b), (1, .ref (a o)), (2, .ref (a' o')), (3, .ref bo)]) (kk : lK p l e s m below meth c D cy b a o a' o' bo i cells slots Q) : W p l e room_1 s m #[Value.ref b] below meth c H locs cells slots Q (F0 m 1383 ls []) := by
  have C0 := C
  obtain ⟨hx, hb, hml, hown, hts, hX, hbl, hl9, hG, hGX, hN⟩ := C
  have hA : ∀ q : Nat, s.heap.size ≤ q → (fun q : Nat => s.heap.size ≤ q) q := fun _ h => h
  obtain ⟨w1, e1, l1, u1⟩ := i32 (xs (i + 1).toNatClampNeg)
  obtain ⟨w2, e2, l2, u2⟩ := i32 (xs (i + 2).toNatClampNeg)
  have hk := K_entrant hGG l1 u1 l2 u2
  rw [← e1, ← e2] at hk
  obtain ⟨res, v, T', hw, hr2, hcode, hG', hout⟩ := brR hk (by decide) f
  refine lv_aload_n hx hb dL_law_1383 rfl (lv_at hl 2 rfl) ?_
  refine lRd (k := 1) C0 hS (lv_at hl 1 rfl) (lv_at hl 0 rfl) (by decide) g1 dL_law_1384 dL_law_1385 dL_law_1387 dL_law_1388 dL_law_1389 ?_
  refine lRd (k := 2) C0 hS (lv_at hl 1 rfl) (lv_at hl 0 rfl) (by decide) g2 dL_law_1390 dL_law_1391 dL_law_1393 dL_law_1394 dL_law_1395 ?_
  refine lv_aload_n hx hb dL_law_1396 rfl (lv_at hl 4 rfl) ?_
  refine lcW hG hGX hN hP hD hS hA (mc := 2) (ms := 12) (fun h1 h2 => vx_runSX (As := [.ref (a o), .int (xs (i + 1).toNatClampNeg), .int (xs (i + 2).toNatClampNeg), .ref bo]) (rest := []) ⟨hx, hb, hml, hown, hts⟩ (qL_entrant l hl9 D cy tt a o bo S (xs (i + 1).toNatClampNeg) (xs (i + 2).toNatClampNeg) f H.size res hw) (vx_cwSW 4 hts gL_law_L_entrant rfl rfl rfl (by decide +kernel) ⟨Nat.le_of_ble_eq_true rfl, Nat.le_of_ble_eq_true rfl⟩) ⟨h1, h2⟩ rfl rfl hl.1 rfl (lv_room (Nat.le_of_ble_eq_true rfl)) dL_law_1397 (lRm hc (by decide) (by decide))) (c2 := cells + 5) (s2 := slots + 30) (Nat.add_le_add_left (by decide) _) (Nat.add_le_add_left (by decide) _) (fun r u H locs hq hP hD hS => ?_)
  have hq : (r, u) = res := hq
  subst hq
  have hcode : gX12_code T' = r := hcode
  have hG' : GG u.1 T' := hG'
  refine lv_istore (lv' := [(5, .int r), (4, .int i), (0, .ref b), (1, .ref (a o)), (2, .ref (a' o')), (3, .ref bo)]) hx hb dL_law_1400 hl (by decide) rfl (fun ls hl => ?_)
  refine lv_aload_n hx hb dL_law_1402 rfl (lv_at hl 4 rfl) ?_
  refine lRd (k := 1) C0 hS (lv_at hl 2 rfl) (lv_at hl 1 rfl) (by decide) g1 dL_law_1403 dL_law_1404 dL_law_1406 dL_law_1407 dL_law_1408 ?_
  refine lRd (k := 2) C0 hS (lv_at hl 2 rfl) (lv_at hl 1 rfl) (by decide) g2 dL_law_1409 dL_law_1410 dL_law_1412 dL_law_1413 dL_law_1414 ?_
  refine smVi (As := [.int (xs (i + 1).toNatClampNeg), .int (xs (i + 2).toNatClampNeg)]) (rest := []) (ws' := oC cy bo u.2 :: (wX11 cy a o u.1 ++ wX12 cy a' o' T')) (q0 := 0) (ci := 12) (qX12_entrant l D cy a' o' T (xs (i + 1).toNatClampNeg) (xs (i + 2).toNatClampNeg) H.size (v, T') hr2) ⟨hx, hb, hml, hown, hts⟩ (cwV 2 hts gL_law_X12_entrant rfl rfl rfl (by decide +kernel) ⟨Nat.le_of_ble_eq_true rfl, Nat.le_of_ble_eq_true rfl⟩) hG hP hD hS hA (pmT cy a o bo u.1 u.2 (wX12 cy a' o' T)) (pmT cy a o bo u.1 u.2 (wX12 cy a' o' T')) rfl rfl rfl hl.1 rfl (Nat.le_of_ble_eq_true rfl) dL_law_1415 hc (fun H locs hP hD hS => ?_)
  refine lv_istore (lv' := [(6, .int v), (5, .int r), (4, .int i), (0, .ref b), (1, .ref (a o)), (2, .ref (a' o')), (3, .ref bo)]) hx hb dL_law_1418 hl (by decide) rfl (fun ls hl => ?_)
  exact lTail C0 hc hcode hout hP hl dL_law_1420 dL_law_1421 dL_law_1424 dL_law_1426 dL_law_1431 dL_law_1433 dL_law_1436 dL_law_1437 dL_law_1438 dL_law_1439 dL_law_1441 dL_law_1442 dL_law_1443 dL_law_1448 (by decide) (fun hl => kk u.1 T' u.2 H locs ls hG' hP hD hS hl)
theorem lawC_marked (C : lX p l s m c b L xs D cy tt) (hc : lC cells slots) (hGG : GG S T) (g1 : vp_in (i + 1) L) (g2 : vp_in (i + 2) L) (g3 : vp_in (i + 3) L) (hP : va_P D vwCl (oC cy bo f :: (wX11 cy a o S ++ wX12 cy a' o' T)) H) (hD : va_D (fun q => s.heap.size ≤ q) (oC cy bo f :: (wX11 cy a o S ++ wX12 cy a' o' T))) (hS : va_S (fun q => s.heap.size ≤ q) s.heap H locs) (hl : lv_has ls 7 [(4, .int i), (0, .ref b), (1, .ref (a o)), (2, .ref (a' o')), (3, .ref bo)]) (kk : lK p l e s m below meth c D cy b a o a' o' bo i cells slots Q) : W p l e room_1 s m #[Value.ref b] below meth c H locs cells slots Q (F0 m 1451 ls []) := by
  have C0 := C
  obtain ⟨hx, hb, hml, hown, hts, hX, hbl, hl9, hG, hGX, hN⟩ := C
  have hA : ∀ q : Nat, s.heap.size ≤ q → (fun q : Nat => s.heap.size ≤ q) q := fun _ h => h
  obtain ⟨w1, e1, l1, u1⟩ := i32 (xs (i + 1).toNatClampNeg)
  obtain ⟨w2, e2, l2, u2⟩ := i32 (xs (i + 2).toNatClampNeg)
  by_cases hz : xs (i + 3).toNatClampNeg = 0
  · have hk := K_marked hGG (β := false) l1 u1 l2 u2
    rw [← e1, ← e2, (by decide : bI false = (0 : Int32))] at hk
    obtain ⟨res, v, T', hw, hr2, hcode, hG', hout⟩ := brR hk (by decide) f
    refine lv_aload_n hx hb dL_law_1451 rfl (lv_at hl 2 rfl) ?_
    refine lRd (k := 1) C0 hS (lv_at hl 1 rfl) (lv_at hl 0 rfl) (by decide) g1 dL_law_1452 dL_law_1453 dL_law_1455 dL_law_1456 dL_law_1457 ?_
    refine lRd (k := 2) C0 hS (lv_at hl 1 rfl) (lv_at hl 0 rfl) (by decide) g2 dL_law_1458 dL_law_1459 dL_law_1461 dL_law_1462 dL_law_1463 ?_
    refine lRd (k := 3) C0 hS (lv_at hl 1 rfl) (lv_at hl 0 rfl) (by decide) g3 dL_law_1464 dL_law_1465 dL_law_1467 dL_law_1468 dL_law_1469 ?_
    refine lv_if_eq (tgt := 1477) hx hb dL_law_1470 (by decide) (fun cc => ?_) (fun cc => absurd hz cc)
    refine lv_iconst (v := (0 : Int32)) hx hb dL_law_1477 (by decide) ?_
    refine lv_aload_n hx hb dL_law_1478 rfl (lv_at hl 4 rfl) ?_
    refine lcW hG hGX hN hP hD hS hA (mc := 2) (ms := 12) (fun h1 h2 => vx_runSX (As := [.ref (a o), .int (xs (i + 1).toNatClampNeg), .int (xs (i + 2).toNatClampNeg), .int (0 : Int32), .ref bo]) (rest := []) ⟨hx, hb, hml, hown, hts⟩ (qL_marked l hl9 D cy tt a o bo S (xs (i + 1).toNatClampNeg) (xs (i + 2).toNatClampNeg) (0 : Int32) f H.size res hw) (vx_cwSW 5 hts gL_law_L_marked rfl rfl rfl (by decide +kernel) ⟨Nat.le_of_ble_eq_true rfl, Nat.le_of_ble_eq_true rfl⟩) ⟨h1, h2⟩ rfl rfl hl.1 rfl (lv_room (Nat.le_of_ble_eq_true rfl)) dL_law_1479 (lRm hc (by decide) (by decide))) (c2 := cells + 5) (s2 := slots + 30) (Nat.add_le_add_left (by decide) _) (Nat.add_le_add_left (by decide) _) (fun r u H locs hq hP hD hS => ?_)
    have hq : (r, u) = res := hq
    subst hq
    have hcode : gX12_code T' = r := hcode
    have hG' : GG u.1 T' := hG'
    refine lv_istore (lv' := [(5, .int r), (4, .int i), (0, .ref b), (1, .ref (a o)), (2, .ref (a' o')), (3, .ref bo)]) hx hb dL_law_1482 hl (by decide) rfl (fun ls hl => ?_)
    refine lv_aload_n hx hb dL_law_1484 rfl (lv_at hl 4 rfl) ?_
    refine lRd (k := 1) C0 hS (lv_at hl 2 rfl) (lv_at hl 1 rfl) (by decide) g1 dL_law_1485 dL_law_1486 dL_law_1488 dL_law_1489 dL_law_1490 ?_
    refine lRd (k := 2) C0 hS (lv_at hl 2 rfl) (lv_at hl 1 rfl) (by decide) g2 dL_law_1491 dL_law_1492 dL_law_1494 dL_law_1495 dL_law_1496 ?_
    refine lRd (k := 3) C0 hS (lv_at hl 2 rfl) (lv_at hl 1 rfl) (by decide) g3 dL_law_1497 dL_law_1498 dL_law_1500 dL_law_1501 dL_law_1502 ?_
    refine lv_if_eq (tgt := 1510) hx hb dL_law_1503 (by decide) (fun cc => ?_) (fun cc => absurd hz cc)
    refine lv_iconst (v := (0 : Int32)) hx hb dL_law_1510 (by decide) ?_
    refine smVi (As := [.int (xs (i + 1).toNatClampNeg), .int (xs (i + 2).toNatClampNeg), .int (0 : Int32)]) (rest := []) (ws' := oC cy bo u.2 :: (wX11 cy a o u.1 ++ wX12 cy a' o' T')) (q0 := 0) (ci := 12) (qX12_marked l D cy a' o' T (xs (i + 1).toNatClampNeg) (xs (i + 2).toNatClampNeg) (0 : Int32) H.size (v, T') hr2) ⟨hx, hb, hml, hown, hts⟩ (cwV 3 hts gL_law_X12_marked rfl rfl rfl (by decide +kernel) ⟨Nat.le_of_ble_eq_true rfl, Nat.le_of_ble_eq_true rfl⟩) hG hP hD hS hA (pmT cy a o bo u.1 u.2 (wX12 cy a' o' T)) (pmT cy a o bo u.1 u.2 (wX12 cy a' o' T')) rfl rfl rfl hl.1 rfl (Nat.le_of_ble_eq_true rfl) dL_law_1511 hc (fun H locs hP hD hS => ?_)
    refine lv_istore (lv' := [(6, .int v), (5, .int r), (4, .int i), (0, .ref b), (1, .ref (a o)), (2, .ref (a' o')), (3, .ref bo)]) hx hb dL_law_1514 hl (by decide) rfl (fun ls hl => ?_)
    exact lTail C0 hc hcode hout hP hl dL_law_1516 dL_law_1517 dL_law_1520 dL_law_1522 dL_law_1527 dL_law_1529 dL_law_1532 dL_law_1533 dL_law_1534 dL_law_1535 dL_law_1537 dL_law_1538 dL_law_1539 dL_law_1544 (by decide) (fun hl => kk u.1 T' u.2 H locs ls hG' hP hD hS hl)
  · have hk := K_marked hGG (β := true) l1 u1 l2 u2
    rw [← e1, ← e2, (by decide : bI true = (1 : Int32))] at hk
    obtain ⟨res, v, T', hw, hr2, hcode, hG', hout⟩ := brR hk (by decide) f
    refine lv_aload_n hx hb dL_law_1451 rfl (lv_at hl 2 rfl) ?_
    refine lRd (k := 1) C0 hS (lv_at hl 1 rfl) (lv_at hl 0 rfl) (by decide) g1 dL_law_1452 dL_law_1453 dL_law_1455 dL_law_1456 dL_law_1457 ?_
    refine lRd (k := 2) C0 hS (lv_at hl 1 rfl) (lv_at hl 0 rfl) (by decide) g2 dL_law_1458 dL_law_1459 dL_law_1461 dL_law_1462 dL_law_1463 ?_
    refine lRd (k := 3) C0 hS (lv_at hl 1 rfl) (lv_at hl 0 rfl) (by decide) g3 dL_law_1464 dL_law_1465 dL_law_1467 dL_law_1468 dL_law_1469 ?_
    refine lv_if_eq (tgt := 1477) hx hb dL_law_1470 (by decide) (fun cc => absurd cc hz) (fun cc => ?_)
    refine lv_iconst (v := (1 : Int32)) hx hb dL_law_1473 (by decide) ?_
    refine lv_goto (tgt := 1478) hx hb dL_law_1474 (by decide) ?_
    refine lv_aload_n hx hb dL_law_1478 rfl (lv_at hl 4 rfl) ?_
    refine lcW hG hGX hN hP hD hS hA (mc := 2) (ms := 12) (fun h1 h2 => vx_runSX (As := [.ref (a o), .int (xs (i + 1).toNatClampNeg), .int (xs (i + 2).toNatClampNeg), .int (1 : Int32), .ref bo]) (rest := []) ⟨hx, hb, hml, hown, hts⟩ (qL_marked l hl9 D cy tt a o bo S (xs (i + 1).toNatClampNeg) (xs (i + 2).toNatClampNeg) (1 : Int32) f H.size res hw) (vx_cwSW 5 hts gL_law_L_marked rfl rfl rfl (by decide +kernel) ⟨Nat.le_of_ble_eq_true rfl, Nat.le_of_ble_eq_true rfl⟩) ⟨h1, h2⟩ rfl rfl hl.1 rfl (lv_room (Nat.le_of_ble_eq_true rfl)) dL_law_1479 (lRm hc (by decide) (by decide))) (c2 := cells + 5) (s2 := slots + 30) (Nat.add_le_add_left (by decide) _) (Nat.add_le_add_left (by decide) _) (fun r u H locs hq hP hD hS => ?_)
    have hq : (r, u) = res := hq
    subst hq
    have hcode : gX12_code T' = r := hcode
    have hG' : GG u.1 T' := hG'
    refine lv_istore (lv' := [(5, .int r), (4, .int i), (0, .ref b), (1, .ref (a o)), (2, .ref (a' o')), (3, .ref bo)]) hx hb dL_law_1482 hl (by decide) rfl (fun ls hl => ?_)
    refine lv_aload_n hx hb dL_law_1484 rfl (lv_at hl 4 rfl) ?_
    refine lRd (k := 1) C0 hS (lv_at hl 2 rfl) (lv_at hl 1 rfl) (by decide) g1 dL_law_1485 dL_law_1486 dL_law_1488 dL_law_1489 dL_law_1490 ?_
    refine lRd (k := 2) C0 hS (lv_at hl 2 rfl) (lv_at hl 1 rfl) (by decide) g2 dL_law_1491 dL_law_1492 dL_law_1494 dL_law_1495 dL_law_1496 ?_
    refine lRd (k := 3) C0 hS (lv_at hl 2 rfl) (lv_at hl 1 rfl) (by decide) g3 dL_law_1497 dL_law_1498 dL_law_1500 dL_law_1501 dL_law_1502 ?_
    refine lv_if_eq (tgt := 1510) hx hb dL_law_1503 (by decide) (fun cc => absurd cc hz) (fun cc => ?_)
    refine lv_iconst (v := (1 : Int32)) hx hb dL_law_1506 (by decide) ?_
    refine lv_goto (tgt := 1511) hx hb dL_law_1507 (by decide) ?_
    refine smVi (As := [.int (xs (i + 1).toNatClampNeg), .int (xs (i + 2).toNatClampNeg), .int (1 : Int32)]) (rest := []) (ws' := oC cy bo u.2 :: (wX11 cy a o u.1 ++ wX12 cy a' o' T')) (q0 := 0) (ci := 12) (qX12_marked l D cy a' o' T (xs (i + 1).toNatClampNeg) (xs (i + 2).toNatClampNeg) (1 : Int32) H.size (v, T') hr2) ⟨hx, hb, hml, hown, hts⟩ (cwV 3 hts gL_law_X12_marked rfl rfl rfl (by decide +kernel) ⟨Nat.le_of_ble_eq_true rfl, Nat.le_of_ble_eq_true rfl⟩) hG hP hD hS hA (pmT cy a o bo u.1 u.2 (wX12 cy a' o' T)) (pmT cy a o bo u.1 u.2 (wX12 cy a' o' T')) rfl rfl rfl hl.1 rfl (Nat.le_of_ble_eq_true rfl) dL_law_1511 hc (fun H locs hP hD hS => ?_)
    refine lv_istore (lv' := [(6, .int v), (5, .int r), (4, .int i), (0, .ref b), (1, .ref (a o)), (2, .ref (a' o')), (3, .ref bo)]) hx hb dL_law_1514 hl (by decide) rfl (fun ls hl => ?_)
    exact lTail C0 hc hcode hout hP hl dL_law_1516 dL_law_1517 dL_law_1520 dL_law_1522 dL_law_1527 dL_law_1529 dL_law_1532 dL_law_1533 dL_law_1534 dL_law_1535 dL_law_1537 dL_law_1538 dL_law_1539 dL_law_1544 (by decide) (fun hl => kk u.1 T' u.2 H locs ls hG' hP hD hS hl)
theorem lawC_history (C : lX p l s m c b L xs D cy tt) (hc : lC cells slots) (hGG : GG S T) (g1 : vp_in (i + 1) L) (g2 : vp_in (i + 2) L) (g3 : vp_in (i + 3) L) (hP : va_P D vwCl (oC cy bo f :: (wX11 cy a o S ++ wX12 cy a' o' T)) H) (hD : va_D (fun q => s.heap.size ≤ q) (oC cy bo f :: (wX11 cy a o S ++ wX12 cy a' o' T))) (hS : va_S (fun q => s.heap.size ≤ q) s.heap H locs) (hl : lv_has ls 7 [(4, .int i), (0, .ref b), (1, .ref (a o)), (2, .ref (a' o')), (3, .ref bo)]) (kk : lK p l e s m below meth c D cy b a o a' o' bo i cells slots Q) : W p l e room_1 s m #[Value.ref b] below meth c H locs cells slots Q (F0 m 1547 ls []) := by
  have C0 := C
  obtain ⟨hx, hb, hml, hown, hts, hX, hbl, hl9, hG, hGX, hN⟩ := C
  have hA : ∀ q : Nat, s.heap.size ≤ q → (fun q : Nat => s.heap.size ≤ q) q := fun _ h => h
  obtain ⟨w1, e1, l1, u1⟩ := i32 (xs (i + 1).toNatClampNeg)
  obtain ⟨w2, e2, l2, u2⟩ := i32 (xs (i + 2).toNatClampNeg)
  have hk := K_history hGG l1 u1 l2 u2
  rw [← e1, ← e2] at hk
  obtain ⟨res, v, T', hw, hr2, hcode, hG', hout⟩ := brR hk (by decide) f
  refine lv_aload_n hx hb dL_law_1547 rfl (lv_at hl 2 rfl) ?_
  refine lRd (k := 1) C0 hS (lv_at hl 1 rfl) (lv_at hl 0 rfl) (by decide) g1 dL_law_1548 dL_law_1549 dL_law_1551 dL_law_1552 dL_law_1553 ?_
  refine lRd (k := 2) C0 hS (lv_at hl 1 rfl) (lv_at hl 0 rfl) (by decide) g2 dL_law_1554 dL_law_1555 dL_law_1557 dL_law_1558 dL_law_1559 ?_
  refine lv_aload_n hx hb dL_law_1560 rfl (lv_at hl 4 rfl) ?_
  refine lcW hG hGX hN hP hD hS hA (mc := 2) (ms := 12) (fun h1 h2 => vx_runSX (As := [.ref (a o), .int (xs (i + 1).toNatClampNeg), .int (xs (i + 2).toNatClampNeg), .ref bo]) (rest := []) ⟨hx, hb, hml, hown, hts⟩ (qL_history l hl9 D cy tt a o bo S (xs (i + 1).toNatClampNeg) (xs (i + 2).toNatClampNeg) f H.size res hw) (vx_cwSW 4 hts gL_law_L_history rfl rfl rfl (by decide +kernel) ⟨Nat.le_of_ble_eq_true rfl, Nat.le_of_ble_eq_true rfl⟩) ⟨h1, h2⟩ rfl rfl hl.1 rfl (lv_room (Nat.le_of_ble_eq_true rfl)) dL_law_1561 (lRm hc (by decide) (by decide))) (c2 := cells + 5) (s2 := slots + 30) (Nat.add_le_add_left (by decide) _) (Nat.add_le_add_left (by decide) _) (fun r u H locs hq hP hD hS => ?_)
  have hq : (r, u) = res := hq
  subst hq
  have hcode : gX12_code T' = r := hcode
  have hG' : GG u.1 T' := hG'
  refine lv_istore (lv' := [(5, .int r), (4, .int i), (0, .ref b), (1, .ref (a o)), (2, .ref (a' o')), (3, .ref bo)]) hx hb dL_law_1564 hl (by decide) rfl (fun ls hl => ?_)
  refine lv_aload_n hx hb dL_law_1566 rfl (lv_at hl 4 rfl) ?_
  refine lRd (k := 1) C0 hS (lv_at hl 2 rfl) (lv_at hl 1 rfl) (by decide) g1 dL_law_1567 dL_law_1568 dL_law_1570 dL_law_1571 dL_law_1572 ?_
  refine lRd (k := 2) C0 hS (lv_at hl 2 rfl) (lv_at hl 1 rfl) (by decide) g2 dL_law_1573 dL_law_1574 dL_law_1576 dL_law_1577 dL_law_1578 ?_
  refine smVi (As := [.int (xs (i + 1).toNatClampNeg), .int (xs (i + 2).toNatClampNeg)]) (rest := []) (ws' := oC cy bo u.2 :: (wX11 cy a o u.1 ++ wX12 cy a' o' T')) (q0 := 0) (ci := 12) (qX12_history l D cy a' o' T (xs (i + 1).toNatClampNeg) (xs (i + 2).toNatClampNeg) H.size (v, T') hr2) ⟨hx, hb, hml, hown, hts⟩ (cwV 2 hts gL_law_X12_history rfl rfl rfl (by decide +kernel) ⟨Nat.le_of_ble_eq_true rfl, Nat.le_of_ble_eq_true rfl⟩) hG hP hD hS hA (pmT cy a o bo u.1 u.2 (wX12 cy a' o' T)) (pmT cy a o bo u.1 u.2 (wX12 cy a' o' T')) rfl rfl rfl hl.1 rfl (Nat.le_of_ble_eq_true rfl) dL_law_1579 hc (fun H locs hP hD hS => ?_)
  refine lv_istore (lv' := [(6, .int v), (5, .int r), (4, .int i), (0, .ref b), (1, .ref (a o)), (2, .ref (a' o')), (3, .ref bo)]) hx hb dL_law_1582 hl (by decide) rfl (fun ls hl => ?_)
  exact lTail C0 hc hcode hout hP hl dL_law_1584 dL_law_1585 dL_law_1588 dL_law_1590 dL_law_1595 dL_law_1597 dL_law_1600 dL_law_1601 dL_law_1602 dL_law_1603 dL_law_1605 dL_law_1606 dL_law_1607 dL_law_1612 (by decide) (fun hl => kk u.1 T' u.2 H locs ls hG' hP hD hS hl)
theorem lawC_stage (C : lX p l s m c b L xs D cy tt) (hc : lC cells slots) (hGG : GG S T) (g1 : vp_in (i + 1) L) (g2 : vp_in (i + 2) L) (g3 : vp_in (i + 3) L) (hP : va_P D vwCl (oC cy bo f :: (wX11 cy a o S ++ wX12 cy a' o' T)) H) (hD : va_D (fun q => s.heap.size ≤ q) (oC cy bo f :: (wX11 cy a o S ++ wX12 cy a' o' T))) (hS : va_S (fun q => s.heap.size ≤ q) s.heap H locs) (hl : lv_has ls 7 [(4, .int i), (0, .ref b), (1, .ref (a o)), (2, .ref (a' o')), (3, .ref bo)]) (kk : lK p l e s m below meth c D cy b a o a' o' bo i cells slots Q) : W p l e room_1 s m #[Value.ref b] below meth c H locs cells slots Q (F0 m 1615 ls []) := by
  have C0 := C
  obtain ⟨hx, hb, hml, hown, hts, hX, hbl, hl9, hG, hGX, hN⟩ := C
  have hA : ∀ q : Nat, s.heap.size ≤ q → (fun q : Nat => s.heap.size ≤ q) q := fun _ h => h
  obtain ⟨w1, e1, l1, u1⟩ := i32 (xs (i + 1).toNatClampNeg)
  have hk := K_stage hGG l1 u1
  rw [← e1] at hk
  obtain ⟨v, T', h1, hr2, hG'⟩ := hk
  refine W.widen (k := cells + 5) (n := slots + 30) (Nat.le_add_right _ _) (Nat.le_add_right _ _) ?_
  refine lv_aload_n hx hb dL_law_1615 rfl (lv_at hl 2 rfl) ?_
  refine lRd (k := 1) C0 hS (lv_at hl 1 rfl) (lv_at hl 0 rfl) (by decide) g1 dL_law_1616 dL_law_1617 dL_law_1619 dL_law_1620 dL_law_1621 ?_
  have hPn : va_P D vwCl (wX11n cy a o (gX11_now S)) H := cutP hP (pmV cy a o bo S f (wX12 cy a' o' T))
  refine pcV (As := [.int (xs (i + 1).toNatClampNeg)]) (rest := []) (q0 := 0) (ci := 11) (qX11_stage l D cy a o (gX11_now S) (xs (i + 1).toNatClampNeg) v h1) ⟨hx, hb, hml, hown, hts⟩ (cwV 1 hts gL_law_X11_stage rfl rfl rfl (by decide +kernel) ⟨Nat.le_of_ble_eq_true rfl, Nat.le_of_ble_eq_true rfl⟩) hG hPn rfl rfl rfl hl.1 rfl (Nat.le_of_ble_eq_true rfl) dL_law_1622 hc ?_
  refine lv_aload_n hx hb dL_law_1625 rfl (lv_at hl 3 rfl) ?_
  refine lRd (k := 1) C0 hS (lv_at hl 1 rfl) (lv_at hl 0 rfl) (by decide) g1 dL_law_1626 dL_law_1627 dL_law_1629 dL_law_1630 dL_law_1631 ?_
  refine smVi (As := [.int (xs (i + 1).toNatClampNeg)]) (rest := [.int v]) (ws' := oC cy bo f :: (wX11 cy a o S ++ wX12 cy a' o' T')) (q0 := 0) (ci := 12) (qX12_stage l D cy a' o' T (xs (i + 1).toNatClampNeg) H.size (v, T') hr2) ⟨hx, hb, hml, hown, hts⟩ (cwV 1 hts gL_law_X12_stage rfl rfl rfl (by decide +kernel) ⟨Nat.le_of_ble_eq_true rfl, Nat.le_of_ble_eq_true rfl⟩) hG hP hD hS hA (pmT cy a o bo S f (wX12 cy a' o' T)) (pmT cy a o bo S f (wX12 cy a' o' T')) rfl rfl rfl hl.1 rfl (Nat.le_of_ble_eq_true rfl) dL_law_1632 hc (fun H locs hP hD hS => ?_)
  exact lv_icmp_eq (tgt := 1929) hx hb dL_law_1635 (by decide) (fun _ => kk S T' f H locs ls hG' hP hD hS hl) (fun cc => absurd rfl cc)
theorem lawC_wouldBe (C : lX p l s m c b L xs D cy tt) (hc : lC cells slots) (hGG : GG S T) (g1 : vp_in (i + 1) L) (g2 : vp_in (i + 2) L) (g3 : vp_in (i + 3) L) (hP : va_P D vwCl (oC cy bo f :: (wX11 cy a o S ++ wX12 cy a' o' T)) H) (hD : va_D (fun q => s.heap.size ≤ q) (oC cy bo f :: (wX11 cy a o S ++ wX12 cy a' o' T))) (hS : va_S (fun q => s.heap.size ≤ q) s.heap H locs) (hl : lv_has ls 7 [(4, .int i), (0, .ref b), (1, .ref (a o)), (2, .ref (a' o')), (3, .ref bo)]) (kk : lK p l e s m below meth c D cy b a o a' o' bo i cells slots Q) : W p l e room_1 s m #[Value.ref b] below meth c H locs cells slots Q (F0 m 1640 ls []) := by
  have C0 := C
  obtain ⟨hx, hb, hml, hown, hts, hX, hbl, hl9, hG, hGX, hN⟩ := C
  have hA : ∀ q : Nat, s.heap.size ≤ q → (fun q : Nat => s.heap.size ≤ q) q := fun _ h => h
  obtain ⟨w1, e1, l1, u1⟩ := i32 (xs (i + 1).toNatClampNeg)
  have hk := brW hGG l1 u1 f
  rw [← e1] at hk
  obtain ⟨res, v, T', hw, hr2, hcode, hG', hout⟩ := hk
  refine lv_aload_n hx hb dL_law_1640 rfl (lv_at hl 2 rfl) ?_
  refine lRd (k := 1) C0 hS (lv_at hl 1 rfl) (lv_at hl 0 rfl) (by decide) g1 dL_law_1641 dL_law_1642 dL_law_1644 dL_law_1645 dL_law_1646 ?_
  refine lv_aload_n hx hb dL_law_1647 rfl (lv_at hl 4 rfl) ?_
  refine lcW hG hGX hN hP hD hS hA (mc := 1) (ms := 6) (fun h1 h2 => vx_runSX (As := [.ref (a o), .int (xs (i + 1).toNatClampNeg), .ref bo]) (rest := []) ⟨hx, hb, hml, hown, hts⟩ (qL_wouldBe l hl9 D cy tt a o bo S (xs (i + 1).toNatClampNeg) f H.size res hw) (vx_cwSW 3 hts gL_law_L_wouldBe rfl rfl rfl (by decide +kernel) ⟨Nat.le_of_ble_eq_true rfl, Nat.le_of_ble_eq_true rfl⟩) ⟨h1, h2⟩ rfl rfl hl.1 rfl (lv_room (Nat.le_of_ble_eq_true rfl)) dL_law_1648 (lRm hc (by decide) (by decide))) (c2 := cells + 5) (s2 := slots + 30) (Nat.add_le_add_left (by decide) _) (Nat.add_le_add_left (by decide) _) (fun r u H locs hq hP hD hS => ?_)
  have hq : (r, u) = res := hq
  subst hq
  have hcode : gX12_code T' = r := hcode
  have hG' : GG u.1 T' := hG'
  refine lv_istore (lv' := [(5, .int r), (4, .int i), (0, .ref b), (1, .ref (a o)), (2, .ref (a' o')), (3, .ref bo)]) hx hb dL_law_1651 hl (by decide) rfl (fun ls hl => ?_)
  refine lv_aload_n hx hb dL_law_1653 rfl (lv_at hl 4 rfl) ?_
  refine lRd (k := 1) C0 hS (lv_at hl 2 rfl) (lv_at hl 1 rfl) (by decide) g1 dL_law_1654 dL_law_1655 dL_law_1657 dL_law_1658 dL_law_1659 ?_
  refine smVi (As := [.int (xs (i + 1).toNatClampNeg)]) (rest := []) (ws' := oC cy bo u.2 :: (wX11 cy a o u.1 ++ wX12 cy a' o' T')) (q0 := 0) (ci := 12) (qX12_wouldBe l D cy a' o' T (xs (i + 1).toNatClampNeg) H.size (v, T') hr2) ⟨hx, hb, hml, hown, hts⟩ (cwV 1 hts gL_law_X12_wouldBe rfl rfl rfl (by decide +kernel) ⟨Nat.le_of_ble_eq_true rfl, Nat.le_of_ble_eq_true rfl⟩) hG hP hD hS hA (pmT cy a o bo u.1 u.2 (wX12 cy a' o' T)) (pmT cy a o bo u.1 u.2 (wX12 cy a' o' T')) rfl rfl rfl hl.1 rfl (Nat.le_of_ble_eq_true rfl) dL_law_1660 hc (fun H locs hP hD hS => ?_)
  refine lv_istore (lv' := [(6, .int v), (5, .int r), (4, .int i), (0, .ref b), (1, .ref (a o)), (2, .ref (a' o')), (3, .ref bo)]) hx hb dL_law_1663 hl (by decide) rfl (fun ls hl => ?_)
  exact lTail C0 hc hcode hout hP hl dL_law_1665 dL_law_1666 dL_law_1669 dL_law_1671 dL_law_1676 dL_law_1678 dL_law_1681 dL_law_1682 dL_law_1683 dL_law_1684 dL_law_1686 dL_law_1687 dL_law_1688 dL_law_1693 (by decide) (fun hl => kk u.1 T' u.2 H locs ls hG' hP hD hS hl)
end LT
