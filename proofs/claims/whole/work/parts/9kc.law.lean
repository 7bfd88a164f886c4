/-! 9kc: the law's cases -/
theorem lc_24 {X : Cx} {K : Kx} {Ln : Nat} {xs : Nat → Int32} {U9 : Nat} (F : Fx X K cL_law RL (some .boolean) 60 U9 false) (hk : K.2.2.2.1 = 9) (hX : LX X K Ln xs) (hL : Ln ≤ 3072) (i : Int) (hi : 0 ≤ i ∧ i + 6 ≤ Ln) (M : Id4 → Int → Int) (b : Bool) (hI : INV M) (u : Nat) (hu : u + 8 ≤ U9) {Q : State → Prop} (head : HDL X K i u Q) : AW X K 1272 (lvH i) [] (M, R0 b) u Q := by
  obtain ⟨st, h8, h9, hp⟩ := hI
  refine aw_aload1 (pc := 1272) F dL_law_1272 ?_
  refine aw_aload0 (pc := 1273) F dL_law_1273 ?_
  refine aw_iload4 (pc := 1274) F dL_law_1274 ?_
  refine aw_iconst (pc := 1276) F dL_law_1276 ?_
  refine aw_iadd (pc := 1277) F dL_law_1277 ?_
  refine aw_sld (pc := 1278) F hX dL_law_1278 (by omega) hL ?_
  refine aw_aload0 (pc := 1279) F dL_law_1279 ?_
  refine aw_iload4 (pc := 1280) F dL_law_1280 ?_
  refine aw_iconst (pc := 1282) F dL_law_1282 ?_
  refine aw_iadd (pc := 1283) F dL_law_1283 ?_
  refine aw_sld (pc := 1284) F hX dL_law_1284 (by omega) hL ?_
  refine aw_aload3 (pc := 1285) F dL_law_1285 ?_
  obtain ⟨U8, t, V, st', hU, htb, hp', cW, cR⟩ := op_cycleSpan M b st (sI xs (i + 1)) (sI xs (i + 2)) sI_in sI_in h8 hp
  refine aw_hcallS (pc := 1286) (as9 := [aR (8, 0, 0, 0), aI (sI xs (i + 1)), aI (sI xs (i + 2)), aR (10, 0, 1, 0)]) F dL_law_1286 mh_L_222 cW (Nat.le_of_ble_eq_true rfl) (Nat.le_of_ble_eq_true rfl) (by omega) (fun r σ9 g9 => ?_)
  obtain ⟨M1, b1, ge, i8, f9, hr, ho⟩ := g9
  subst ge
  rw [hr]
  refine aw_istore5 (pc := 1289) F dL_law_1289 rfl hk.symm ?_
  refine aw_aload2 (pc := 1291) F dL_law_1291 ?_
  refine aw_aload0 (pc := 1292) F dL_law_1292 ?_
  refine aw_iload4 (pc := 1293) F dL_law_1293 ?_
  refine aw_iconst (pc := 1295) F dL_law_1295 ?_
  refine aw_iadd (pc := 1296) F dL_law_1296 ?_
  refine aw_sld (pc := 1297) F hX dL_law_1297 (by omega) hL ?_
  refine aw_aload0 (pc := 1298) F dL_law_1298 ?_
  refine aw_iload4 (pc := 1299) F dL_law_1299 ?_
  refine aw_iconst (pc := 1301) F dL_law_1301 ?_
  refine aw_iadd (pc := 1302) F dL_law_1302 ?_
  refine aw_sld (pc := 1303) F hX dL_law_1303 (by omega) hL ?_
  refine aw_gcallVI (pc := 1304) (as9 := [aI (sI xs (i + 1)), aI (sI xs (i + 2))]) F dL_law_1304 ml_L_224 rfl (by first | decide | (simp only [inB, cnt, rcnt]; omega)) (cR M1 b1 (h9.f9 f9)) (Nat.le_of_ble_eq_true rfl) (Nat.le_of_ble_eq_true rfl) (by omega) (fun v σ9 g9 => ?_)
  obtain ⟨M2, ge, i9, f8, ht, hv⟩ := g9
  subst ge
  refine aw_istore6 (pc := 1307) F dL_law_1307 rfl hk.symm ?_
  refine aw_aload2 (pc := 1309) F dL_law_1309 ?_
  refine aw_pcallV0 (pc := 1310) F dL_law_1310 ml_L_135 rfl (by first | decide | (simp only [inB, cnt, rcnt]; omega)) (ct9_thrown _ _) (Nat.le_of_ble_eq_true rfl) (Nat.le_of_ble_eq_true rfl) (by omega) ?_
  rw [ht]
  refine aw_iload5 (pc := 1313) F dL_law_1313 ?_
  refine aw_icmp_same (tgt := 1320) (pc := 1315) F dL_law_1315 (by decide) ?_
  refine aw_iload5 (pc := 1320) F dL_law_1320 ?_
  refine aw_if_ne (tgt := 1337) (pc := 1322) F dL_law_1322 (by decide) (by unfold inR; omega) (fun c5 => ?_) (fun c5 => ?_)
  · refine aw_goto (tgt := 2535) (pc := 1337) F dL_law_1337 (by decide) ?_
    exact head.fin ⟨_, i8.f8 f8, i9, hp'⟩ (by omega)
  · refine aw_aload3 (pc := 1325) F dL_law_1325 ?_
    refine aw_iconst (pc := 1326) F dL_law_1326 ?_
    refine aw_lald (pc := 1327) F dL_law_1327 rfl (by first | decide | (simp only [inB, cnt, rcnt]; omega)) (by decide) ?_
    rw [show M2 (10, 0, 1, 0) 0 = nrm V from (congrFun (f8 (10, 0, 1, 0) (by decide)) 0).trans (ho c5)]
    refine aw_iload6 (pc := 1328) F dL_law_1328 ?_
    rw [hv c5]
    refine aw_nrm ?_
    refine aw_i2l (pc := 1330) F dL_law_1330 nrm_in ?_
    refine aw_lcmp (pc := 1331) F (by first | exact nrm_in | (unfold inR; decide)) (by first | exact nrm_in | (unfold inR; decide)) dL_law_1331 ?_
    rw [cmp_same (by rfl)]
    refine aw_if_eq (tgt := 1337) (pc := 1332) F dL_law_1332 (by decide) inR0 (fun _ => ?_) (fun c7 => absurd rfl c7)
    refine aw_goto (tgt := 2535) (pc := 1337) F dL_law_1337 (by decide) ?_
    exact head.fin ⟨_, i8.f8 f8, i9, hp'⟩ (by omega)
theorem lc_25 {X : Cx} {K : Kx} {Ln : Nat} {xs : Nat → Int32} {U9 : Nat} (F : Fx X K cL_law RL (some .boolean) 60 U9 false) (hk : K.2.2.2.1 = 9) (hX : LX X K Ln xs) (hL : Ln ≤ 3072) (i : Int) (hi : 0 ≤ i ∧ i + 6 ≤ Ln) (M : Id4 → Int → Int) (b : Bool) (hI : INV M) (u : Nat) (hu : u + 8 ≤ U9) {Q : State → Prop} (head : HDL X K i u Q) : AW X K 1340 (lvH i) [] (M, R0 b) u Q := by
  obtain ⟨st, h8, h9, hp⟩ := hI
  refine aw_aload1 (pc := 1340) F dL_law_1340 ?_
  refine aw_aload0 (pc := 1341) F dL_law_1341 ?_
  refine aw_iload4 (pc := 1342) F dL_law_1342 ?_
  refine aw_iconst (pc := 1344) F dL_law_1344 ?_
  refine aw_iadd (pc := 1345) F dL_law_1345 ?_
  refine aw_sld (pc := 1346) F hX dL_law_1346 (by omega) hL ?_
  refine aw_aload0 (pc := 1347) F dL_law_1347 ?_
  refine aw_iload4 (pc := 1348) F dL_law_1348 ?_
  refine aw_iconst (pc := 1350) F dL_law_1350 ?_
  refine aw_iadd (pc := 1351) F dL_law_1351 ?_
  refine aw_sld (pc := 1352) F hX dL_law_1352 (by omega) hL ?_
  refine aw_aload3 (pc := 1353) F dL_law_1353 ?_
  obtain ⟨U8, t, V, st', hU, htb, hp', hV, cW, cR⟩ := op_isForward M b st (sI xs (i + 1)) (sI xs (i + 2)) sI_in sI_in h8 hp
  refine aw_hcallS (pc := 1354) (as9 := [aR (8, 0, 0, 0), aI (sI xs (i + 1)), aI (sI xs (i + 2)), aR (10, 0, 1, 0)]) F dL_law_1354 mh_L_225 cW (Nat.le_of_ble_eq_true rfl) (Nat.le_of_ble_eq_true rfl) (by omega) (fun r σ9 g9 => ?_)
  obtain ⟨M1, b1, ge, i8, f9, hr, ho⟩ := g9
  subst ge
  rw [hr]
  refine aw_istore5 (pc := 1357) F dL_law_1357 rfl hk.symm ?_
  refine aw_aload2 (pc := 1359) F dL_law_1359 ?_
  refine aw_aload0 (pc := 1360) F dL_law_1360 ?_
  refine aw_iload4 (pc := 1361) F dL_law_1361 ?_
  refine aw_iconst (pc := 1363) F dL_law_1363 ?_
  refine aw_iadd (pc := 1364) F dL_law_1364 ?_
  refine aw_sld (pc := 1365) F hX dL_law_1365 (by omega) hL ?_
  refine aw_aload0 (pc := 1366) F dL_law_1366 ?_
  refine aw_iload4 (pc := 1367) F dL_law_1367 ?_
  refine aw_iconst (pc := 1369) F dL_law_1369 ?_
  refine aw_iadd (pc := 1370) F dL_law_1370 ?_
  refine aw_sld (pc := 1371) F hX dL_law_1371 (by omega) hL ?_
  refine aw_gcallVI (pc := 1372) (as9 := [aI (sI xs (i + 1)), aI (sI xs (i + 2))]) F dL_law_1372 ml_L_227 rfl (by first | decide | (simp only [inB, cnt, rcnt]; omega)) (cR M1 b1 (h9.f9 f9)) (Nat.le_of_ble_eq_true rfl) (Nat.le_of_ble_eq_true rfl) (by omega) (fun v σ9 g9 => ?_)
  obtain ⟨M2, ge, i9, f8, ht, hv⟩ := g9
  subst ge
  refine aw_istore6 (pc := 1375) F dL_law_1375 rfl hk.symm ?_
  refine aw_aload2 (pc := 1377) F dL_law_1377 ?_
  refine aw_pcallV0 (pc := 1378) F dL_law_1378 ml_L_135 rfl (by first | decide | (simp only [inB, cnt, rcnt]; omega)) (ct9_thrown _ _) (Nat.le_of_ble_eq_true rfl) (Nat.le_of_ble_eq_true rfl) (by omega) ?_
  rw [ht]
  refine aw_iload5 (pc := 1381) F dL_law_1381 ?_
  refine aw_icmp_same (tgt := 1388) (pc := 1383) F dL_law_1383 (by decide) ?_
  refine aw_iload5 (pc := 1388) F dL_law_1388 ?_
  refine aw_if_ne (tgt := 1412) (pc := 1390) F dL_law_1390 (by decide) (by unfold inR; omega) (fun c5 => ?_) (fun c5 => ?_)
  · refine aw_goto (tgt := 2535) (pc := 1412) F dL_law_1412 (by decide) ?_
    exact head.fin ⟨_, i8.f8 f8, i9, hp'⟩ (by omega)
  · refine aw_aload3 (pc := 1393) F dL_law_1393 ?_
    refine aw_iconst (pc := 1394) F dL_law_1394 ?_
    refine aw_lald (pc := 1395) F dL_law_1395 rfl (by first | decide | (simp only [inB, cnt, rcnt]; omega)) (by decide) ?_
    rw [show M2 (10, 0, 1, 0) 0 = nrm V from (congrFun (f8 (10, 0, 1, 0) (by decide)) 0).trans (ho c5)]
    refine aw_iload6 (pc := 1396) F dL_law_1396 ?_
    rw [hv c5]
    refine aw_if_eq (tgt := 1405) (pc := 1398) F dL_law_1398 (by decide) (by rcases hV with h | h <;> rw [h] <;> unfold inR <;> decide) (fun c6 => ?_) (fun c6 => ?_)
    · rw [show nrm V = 0 by rw [c6]; rfl]
      refine aw_lconst (pc := 1405) F dL_law_1405 ?_
      refine aw_lcmp (pc := 1406) F (by first | exact nrm_in | (unfold inR; decide)) (by first | exact nrm_in | (unfold inR; decide)) dL_law_1406 ?_
      rw [cmp_same (by rfl)]
      refine aw_if_eq (tgt := 1412) (pc := 1407) F dL_law_1407 (by decide) inR0 (fun _ => ?_) (fun c7 => absurd rfl c7)
      refine aw_goto (tgt := 2535) (pc := 1412) F dL_law_1412 (by decide) ?_
      exact head.fin ⟨_, i8.f8 f8, i9, hp'⟩ (by omega)
    · rw [show nrm V = 1 by rw [hV.resolve_left c6]; rfl]
      refine aw_lconst (pc := 1401) F dL_law_1401 ?_
      refine aw_goto (tgt := 1406) (pc := 1402) F dL_law_1402 (by decide) ?_
      refine aw_lcmp (pc := 1406) F (by first | exact nrm_in | (unfold inR; decide)) (by first | exact nrm_in | (unfold inR; decide)) dL_law_1406 ?_
      rw [cmp_same (by rfl)]
      refine aw_if_eq (tgt := 1412) (pc := 1407) F dL_law_1407 (by decide) inR0 (fun _ => ?_) (fun c7 => absurd rfl c7)
      refine aw_goto (tgt := 2535) (pc := 1412) F dL_law_1412 (by decide) ?_
      exact head.fin ⟨_, i8.f8 f8, i9, hp'⟩ (by omega)
theorem lc_26 {X : Cx} {K : Kx} {Ln : Nat} {xs : Nat → Int32} {U9 : Nat} (F : Fx X K cL_law RL (some .boolean) 60 U9 false) (hk : K.2.2.2.1 = 9) (hX : LX X K Ln xs) (hL : Ln ≤ 3072) (i : Int) (hi : 0 ≤ i ∧ i + 6 ≤ Ln) (M : Id4 → Int → Int) (b : Bool) (hI : INV M) (u : Nat) (hu : u + 8 ≤ U9) {Q : State → Prop} (head : HDL X K i u Q) : AW X K 1415 (lvH i) [] (M, R0 b) u Q := by
  obtain ⟨st, h8, h9, hp⟩ := hI
  refine aw_aload1 (pc := 1415) F dL_law_1415 ?_
  refine aw_aload0 (pc := 1416) F dL_law_1416 ?_
  refine aw_iload4 (pc := 1417) F dL_law_1417 ?_
  refine aw_iconst (pc := 1419) F dL_law_1419 ?_
  refine aw_iadd (pc := 1420) F dL_law_1420 ?_
  refine aw_sld (pc := 1421) F hX dL_law_1421 (by omega) hL ?_
  refine aw_aload0 (pc := 1422) F dL_law_1422 ?_
  refine aw_iload4 (pc := 1423) F dL_law_1423 ?_
  refine aw_iconst (pc := 1425) F dL_law_1425 ?_
  refine aw_iadd (pc := 1426) F dL_law_1426 ?_
  refine aw_sld (pc := 1427) F hX dL_law_1427 (by omega) hL ?_
  refine aw_aload3 (pc := 1428) F dL_law_1428 ?_
  obtain ⟨U8, t, V, st', hU, htb, hp', cW, cR⟩ := op_turns M b st (sI xs (i + 1)) (sI xs (i + 2)) sI_in sI_in h8 hp
  refine aw_hcallS (pc := 1429) (as9 := [aR (8, 0, 0, 0), aI (sI xs (i + 1)), aI (sI xs (i + 2)), aR (10, 0, 1, 0)]) F dL_law_1429 mh_L_228 cW (Nat.le_of_ble_eq_true rfl) (Nat.le_of_ble_eq_true rfl) (by omega) (fun r σ9 g9 => ?_)
  obtain ⟨M1, b1, ge, i8, f9, hr, ho⟩ := g9
  subst ge
  rw [hr]
  refine aw_istore5 (pc := 1432) F dL_law_1432 rfl hk.symm ?_
  refine aw_aload2 (pc := 1434) F dL_law_1434 ?_
  refine aw_aload0 (pc := 1435) F dL_law_1435 ?_
  refine aw_iload4 (pc := 1436) F dL_law_1436 ?_
  refine aw_iconst (pc := 1438) F dL_law_1438 ?_
  refine aw_iadd (pc := 1439) F dL_law_1439 ?_
  refine aw_sld (pc := 1440) F hX dL_law_1440 (by omega) hL ?_
  refine aw_aload0 (pc := 1441) F dL_law_1441 ?_
  refine aw_iload4 (pc := 1442) F dL_law_1442 ?_
  refine aw_iconst (pc := 1444) F dL_law_1444 ?_
  refine aw_iadd (pc := 1445) F dL_law_1445 ?_
  refine aw_sld (pc := 1446) F hX dL_law_1446 (by omega) hL ?_
  refine aw_gcallVI (pc := 1447) (as9 := [aI (sI xs (i + 1)), aI (sI xs (i + 2))]) F dL_law_1447 ml_L_230 rfl (by first | decide | (simp only [inB, cnt, rcnt]; omega)) (cR M1 b1 (h9.f9 f9)) (Nat.le_of_ble_eq_true rfl) (Nat.le_of_ble_eq_true rfl) (by omega) (fun v σ9 g9 => ?_)
  obtain ⟨M2, ge, i9, f8, ht, hv⟩ := g9
  subst ge
  refine aw_istore6 (pc := 1450) F dL_law_1450 rfl hk.symm ?_
  refine aw_aload2 (pc := 1452) F dL_law_1452 ?_
  refine aw_pcallV0 (pc := 1453) F dL_law_1453 ml_L_135 rfl (by first | decide | (simp only [inB, cnt, rcnt]; omega)) (ct9_thrown _ _) (Nat.le_of_ble_eq_true rfl) (Nat.le_of_ble_eq_true rfl) (by omega) ?_
  rw [ht]
  refine aw_iload5 (pc := 1456) F dL_law_1456 ?_
  refine aw_icmp_same (tgt := 1463) (pc := 1458) F dL_law_1458 (by decide) ?_
  refine aw_iload5 (pc := 1463) F dL_law_1463 ?_
  refine aw_if_ne (tgt := 1480) (pc := 1465) F dL_law_1465 (by decide) (by unfold inR; omega) (fun c5 => ?_) (fun c5 => ?_)
  · refine aw_goto (tgt := 2535) (pc := 1480) F dL_law_1480 (by decide) ?_
    exact head.fin ⟨_, i8.f8 f8, i9, hp'⟩ (by omega)
  · refine aw_aload3 (pc := 1468) F dL_law_1468 ?_
    refine aw_iconst (pc := 1469) F dL_law_1469 ?_
    refine aw_lald (pc := 1470) F dL_law_1470 rfl (by first | decide | (simp only [inB, cnt, rcnt]; omega)) (by decide) ?_
    rw [show M2 (10, 0, 1, 0) 0 = nrm V from (congrFun (f8 (10, 0, 1, 0) (by decide)) 0).trans (ho c5)]
    refine aw_iload6 (pc := 1471) F dL_law_1471 ?_
    rw [hv c5]
    refine aw_nrm ?_
    refine aw_i2l (pc := 1473) F dL_law_1473 nrm_in ?_
    refine aw_lcmp (pc := 1474) F (by first | exact nrm_in | (unfold inR; decide)) (by first | exact nrm_in | (unfold inR; decide)) dL_law_1474 ?_
    rw [cmp_same (by rfl)]
    refine aw_if_eq (tgt := 1480) (pc := 1475) F dL_law_1475 (by decide) inR0 (fun _ => ?_) (fun c7 => absurd rfl c7)
    refine aw_goto (tgt := 2535) (pc := 1480) F dL_law_1480 (by decide) ?_
    exact head.fin ⟨_, i8.f8 f8, i9, hp'⟩ (by omega)
theorem lc_27 {X : Cx} {K : Kx} {Ln : Nat} {xs : Nat → Int32} {U9 : Nat} (F : Fx X K cL_law RL (some .boolean) 60 U9 false) (hk : K.2.2.2.1 = 9) (hX : LX X K Ln xs) (hL : Ln ≤ 3072) (i : Int) (hi : 0 ≤ i ∧ i + 6 ≤ Ln) (M : Id4 → Int → Int) (b : Bool) (hI : INV M) (u : Nat) (hu : u + 8 ≤ U9) {Q : State → Prop} (head : HDL X K i u Q) : AW X K 1483 (lvH i) [] (M, R0 b) u Q := by
  obtain ⟨st, h8, h9, hp⟩ := hI
  refine aw_aload1 (pc := 1483) F dL_law_1483 ?_
  refine aw_aload3 (pc := 1484) F dL_law_1484 ?_
  obtain ⟨U8, t, V, st', hU, htb, hp', cW, cR⟩ := op_firstImpossible M b st   h8 hp
  refine aw_hcallS (pc := 1485) (as9 := [aR (8, 0, 0, 0), aR (10, 0, 1, 0)]) F dL_law_1485 mh_L_231 cW (Nat.le_of_ble_eq_true rfl) (Nat.le_of_ble_eq_true rfl) (by omega) (fun r σ9 g9 => ?_)
  obtain ⟨M1, b1, ge, i8, f9, hr, ho⟩ := g9
  subst ge
  rw [hr]
  refine aw_istore5 (pc := 1488) F dL_law_1488 rfl hk.symm ?_
  refine aw_aload2 (pc := 1490) F dL_law_1490 ?_
  refine aw_gcallVI (pc := 1491) (as9 := []) F dL_law_1491 ml_L_233 rfl (by first | decide | (simp only [inB, cnt, rcnt]; omega)) (cR M1 b1 (h9.f9 f9)) (Nat.le_of_ble_eq_true rfl) (Nat.le_of_ble_eq_true rfl) (by omega) (fun v σ9 g9 => ?_)
  obtain ⟨M2, ge, i9, f8, ht, hv⟩ := g9
  subst ge
  refine aw_istore6 (pc := 1494) F dL_law_1494 rfl hk.symm ?_
  refine aw_aload2 (pc := 1496) F dL_law_1496 ?_
  refine aw_pcallV0 (pc := 1497) F dL_law_1497 ml_L_135 rfl (by first | decide | (simp only [inB, cnt, rcnt]; omega)) (ct9_thrown _ _) (Nat.le_of_ble_eq_true rfl) (Nat.le_of_ble_eq_true rfl) (by omega) ?_
  rw [ht]
  refine aw_iload5 (pc := 1500) F dL_law_1500 ?_
  refine aw_icmp_same (tgt := 1507) (pc := 1502) F dL_law_1502 (by decide) ?_
  refine aw_iload5 (pc := 1507) F dL_law_1507 ?_
  refine aw_if_ne (tgt := 1524) (pc := 1509) F dL_law_1509 (by decide) (by unfold inR; omega) (fun c5 => ?_) (fun c5 => ?_)
  · refine aw_goto (tgt := 2535) (pc := 1524) F dL_law_1524 (by decide) ?_
    exact head.fin ⟨_, i8.f8 f8, i9, hp'⟩ (by omega)
  · refine aw_aload3 (pc := 1512) F dL_law_1512 ?_
    refine aw_iconst (pc := 1513) F dL_law_1513 ?_
    refine aw_lald (pc := 1514) F dL_law_1514 rfl (by first | decide | (simp only [inB, cnt, rcnt]; omega)) (by decide) ?_
    rw [show M2 (10, 0, 1, 0) 0 = nrm V from (congrFun (f8 (10, 0, 1, 0) (by decide)) 0).trans (ho c5)]
    refine aw_iload6 (pc := 1515) F dL_law_1515 ?_
    rw [hv c5]
    refine aw_nrm ?_
    refine aw_i2l (pc := 1517) F dL_law_1517 nrm_in ?_
    refine aw_lcmp (pc := 1518) F (by first | exact nrm_in | (unfold inR; decide)) (by first | exact nrm_in | (unfold inR; decide)) dL_law_1518 ?_
    rw [cmp_same (by rfl)]
    refine aw_if_eq (tgt := 1524) (pc := 1519) F dL_law_1519 (by decide) inR0 (fun _ => ?_) (fun c7 => absurd rfl c7)
    refine aw_goto (tgt := 2535) (pc := 1524) F dL_law_1524 (by decide) ?_
    exact head.fin ⟨_, i8.f8 f8, i9, hp'⟩ (by omega)
theorem lc_28 {X : Cx} {K : Kx} {Ln : Nat} {xs : Nat → Int32} {U9 : Nat} (F : Fx X K cL_law RL (some .boolean) 60 U9 false) (hk : K.2.2.2.1 = 9) (hX : LX X K Ln xs) (hL : Ln ≤ 3072) (i : Int) (hi : 0 ≤ i ∧ i + 6 ≤ Ln) (M : Id4 → Int → Int) (b : Bool) (hI : INV M) (u : Nat) (hu : u + 8 ≤ U9) {Q : State → Prop} (head : HDL X K i u Q) : AW X K 1527 (lvH i) [] (M, R0 b) u Q := by
  obtain ⟨st, h8, h9, hp⟩ := hI
  refine aw_aload1 (pc := 1527) F dL_law_1527 ?_
  obtain ⟨V, st', hp', c8, c9⟩ := op_isSolvable M b st   h8 hp
  refine aw_gcallVI (pc := 1528) (as9 := []) F dL_law_1528 ml_L_234 rfl (by first | decide | (simp only [inB, cnt, rcnt]; omega)) c8 (Nat.le_of_ble_eq_true rfl) (Nat.le_of_ble_eq_true rfl) (by omega) (fun v σ9 g9 => ?_)
  obtain ⟨M1, ge, i8, f9, hv⟩ := g9
  subst ge
  rw [hv]
  refine aw_aload2 (pc := 1531) F dL_law_1531 ?_
  refine aw_gcallVI (pc := 1532) (as9 := []) F dL_law_1532 ml_L_237 rfl (by first | decide | (simp only [inB, cnt, rcnt]; omega)) (c9 M1 b (h9.f9 f9)) (Nat.le_of_ble_eq_true rfl) (Nat.le_of_ble_eq_true rfl) (by omega) (fun v σ9 g9 => ?_)
  obtain ⟨M2, ge, i9, f8, -, hv2⟩ := g9
  subst ge
  rw [hv2 rfl]
  refine aw_icmp_same (tgt := 2535) (pc := 1535) F dL_law_1535 (by decide) ?_
  exact head.fin ⟨_, i8.f8 f8, i9, hp'⟩ (by omega)
theorem lc_29 {X : Cx} {K : Kx} {Ln : Nat} {xs : Nat → Int32} {U9 : Nat} (F : Fx X K cL_law RL (some .boolean) 60 U9 false) (hk : K.2.2.2.1 = 9) (hX : LX X K Ln xs) (hL : Ln ≤ 3072) (i : Int) (hi : 0 ≤ i ∧ i + 6 ≤ Ln) (M : Id4 → Int → Int) (b : Bool) (hI : INV M) (u : Nat) (hu : u + 8 ≤ U9) {Q : State → Prop} (head : HDL X K i u Q) : AW X K 1540 (lvH i) [] (M, R0 b) u Q := by
  obtain ⟨st, h8, h9, hp⟩ := hI
  refine aw_aload1 (pc := 1540) F dL_law_1540 ?_
  refine aw_aload3 (pc := 1541) F dL_law_1541 ?_
  obtain ⟨U8, t, V, st', hU, htb, hp', cW, cR⟩ := op_leastCost M b st   h8 hp
  refine aw_hcallS (pc := 1542) (as9 := [aR (8, 0, 0, 0), aR (10, 0, 1, 0)]) F dL_law_1542 mh_L_238 cW (Nat.le_of_ble_eq_true rfl) (Nat.le_of_ble_eq_true rfl) (by omega) (fun r σ9 g9 => ?_)
  obtain ⟨M1, b1, ge, i8, f9, hr, ho⟩ := g9
  subst ge
  rw [hr]
  refine aw_istore5 (pc := 1545) F dL_law_1545 rfl hk.symm ?_
  refine aw_aload2 (pc := 1547) F dL_law_1547 ?_
  refine aw_gcallVI (pc := 1548) (as9 := []) F dL_law_1548 ml_L_240 rfl (by first | decide | (simp only [inB, cnt, rcnt]; omega)) (cR M1 b1 (h9.f9 f9)) (Nat.le_of_ble_eq_true rfl) (Nat.le_of_ble_eq_true rfl) (by omega) (fun v σ9 g9 => ?_)
  obtain ⟨M2, ge, i9, f8, ht, hv⟩ := g9
  subst ge
  refine aw_istore6 (pc := 1551) F dL_law_1551 rfl hk.symm ?_
  refine aw_aload2 (pc := 1553) F dL_law_1553 ?_
  refine aw_pcallV0 (pc := 1554) F dL_law_1554 ml_L_135 rfl (by first | decide | (simp only [inB, cnt, rcnt]; omega)) (ct9_thrown _ _) (Nat.le_of_ble_eq_true rfl) (Nat.le_of_ble_eq_true rfl) (by omega) ?_
  rw [ht]
  refine aw_iload5 (pc := 1557) F dL_law_1557 ?_
  refine aw_icmp_same (tgt := 1564) (pc := 1559) F dL_law_1559 (by decide) ?_
  refine aw_iload5 (pc := 1564) F dL_law_1564 ?_
  refine aw_if_ne (tgt := 1581) (pc := 1566) F dL_law_1566 (by decide) (by unfold inR; omega) (fun c5 => ?_) (fun c5 => ?_)
  · refine aw_goto (tgt := 2535) (pc := 1581) F dL_law_1581 (by decide) ?_
    exact head.fin ⟨_, i8.f8 f8, i9, hp'⟩ (by omega)
  · refine aw_aload3 (pc := 1569) F dL_law_1569 ?_
    refine aw_iconst (pc := 1570) F dL_law_1570 ?_
    refine aw_lald (pc := 1571) F dL_law_1571 rfl (by first | decide | (simp only [inB, cnt, rcnt]; omega)) (by decide) ?_
    rw [show M2 (10, 0, 1, 0) 0 = nrm V from (congrFun (f8 (10, 0, 1, 0) (by decide)) 0).trans (ho c5)]
    refine aw_iload6 (pc := 1572) F dL_law_1572 ?_
    rw [hv c5]
    refine aw_nrm ?_
    refine aw_i2l (pc := 1574) F dL_law_1574 nrm_in ?_
    refine aw_lcmp (pc := 1575) F (by first | exact nrm_in | (unfold inR; decide)) (by first | exact nrm_in | (unfold inR; decide)) dL_law_1575 ?_
    rw [cmp_same (by rfl)]
    refine aw_if_eq (tgt := 1581) (pc := 1576) F dL_law_1576 (by decide) inR0 (fun _ => ?_) (fun c7 => absurd rfl c7)
    refine aw_goto (tgt := 2535) (pc := 1581) F dL_law_1581 (by decide) ?_
    exact head.fin ⟨_, i8.f8 f8, i9, hp'⟩ (by omega)
theorem lc_30 {X : Cx} {K : Kx} {Ln : Nat} {xs : Nat → Int32} {U9 : Nat} (F : Fx X K cL_law RL (some .boolean) 60 U9 false) (hk : K.2.2.2.1 = 9) (hX : LX X K Ln xs) (hL : Ln ≤ 3072) (i : Int) (hi : 0 ≤ i ∧ i + 6 ≤ Ln) (M : Id4 → Int → Int) (b : Bool) (hI : INV M) (u : Nat) (hu : u + 8 ≤ U9) {Q : State → Prop} (head : HDL X K i u Q) : AW X K 1584 (lvH i) [] (M, R0 b) u Q := by
  obtain ⟨st, h8, h9, hp⟩ := hI
  refine aw_aload1 (pc := 1584) F dL_law_1584 ?_
  refine aw_aload0 (pc := 1585) F dL_law_1585 ?_
  refine aw_iload4 (pc := 1586) F dL_law_1586 ?_
  refine aw_iconst (pc := 1588) F dL_law_1588 ?_
  refine aw_iadd (pc := 1589) F dL_law_1589 ?_
  refine aw_sld (pc := 1590) F hX dL_law_1590 (by omega) hL ?_
  refine aw_aload0 (pc := 1591) F dL_law_1591 ?_
  refine aw_iload4 (pc := 1592) F dL_law_1592 ?_
  refine aw_iconst (pc := 1594) F dL_law_1594 ?_
  refine aw_iadd (pc := 1595) F dL_law_1595 ?_
  refine aw_sld (pc := 1596) F hX dL_law_1596 (by omega) hL ?_
  refine aw_aload3 (pc := 1597) F dL_law_1597 ?_
  obtain ⟨U8, t, V, st', hU, htb, hp', cW, cR⟩ := op_costIf M b st (sI xs (i + 1)) (sI xs (i + 2)) sI_in sI_in h8 hp
  refine aw_hcallS (pc := 1598) (as9 := [aR (8, 0, 0, 0), aI (sI xs (i + 1)), aI (sI xs (i + 2)), aR (10, 0, 1, 0)]) F dL_law_1598 mh_L_241 cW (Nat.le_of_ble_eq_true rfl) (Nat.le_of_ble_eq_true rfl) (by omega) (fun r σ9 g9 => ?_)
  obtain ⟨M1, b1, ge, i8, f9, hr, ho⟩ := g9
  subst ge
  rw [hr]
  refine aw_istore5 (pc := 1601) F dL_law_1601 rfl hk.symm ?_
  refine aw_aload2 (pc := 1603) F dL_law_1603 ?_
  refine aw_aload0 (pc := 1604) F dL_law_1604 ?_
  refine aw_iload4 (pc := 1605) F dL_law_1605 ?_
  refine aw_iconst (pc := 1607) F dL_law_1607 ?_
  refine aw_iadd (pc := 1608) F dL_law_1608 ?_
  refine aw_sld (pc := 1609) F hX dL_law_1609 (by omega) hL ?_
  refine aw_aload0 (pc := 1610) F dL_law_1610 ?_
  refine aw_iload4 (pc := 1611) F dL_law_1611 ?_
  refine aw_iconst (pc := 1613) F dL_law_1613 ?_
  refine aw_iadd (pc := 1614) F dL_law_1614 ?_
  refine aw_sld (pc := 1615) F hX dL_law_1615 (by omega) hL ?_
  refine aw_gcallVI (pc := 1616) (as9 := [aI (sI xs (i + 1)), aI (sI xs (i + 2))]) F dL_law_1616 ml_L_243 rfl (by first | decide | (simp only [inB, cnt, rcnt]; omega)) (cR M1 b1 (h9.f9 f9)) (Nat.le_of_ble_eq_true rfl) (Nat.le_of_ble_eq_true rfl) (by omega) (fun v σ9 g9 => ?_)
  obtain ⟨M2, ge, i9, f8, ht, hv⟩ := g9
  subst ge
  refine aw_istore6 (pc := 1619) F dL_law_1619 rfl hk.symm ?_
  refine aw_aload2 (pc := 1621) F dL_law_1621 ?_
  refine aw_pcallV0 (pc := 1622) F dL_law_1622 ml_L_135 rfl (by first | decide | (simp only [inB, cnt, rcnt]; omega)) (ct9_thrown _ _) (Nat.le_of_ble_eq_true rfl) (Nat.le_of_ble_eq_true rfl) (by omega) ?_
  rw [ht]
  refine aw_iload5 (pc := 1625) F dL_law_1625 ?_
  refine aw_icmp_same (tgt := 1632) (pc := 1627) F dL_law_1627 (by decide) ?_
  refine aw_iload5 (pc := 1632) F dL_law_1632 ?_
  refine aw_if_ne (tgt := 1649) (pc := 1634) F dL_law_1634 (by decide) (by unfold inR; omega) (fun c5 => ?_) (fun c5 => ?_)
  · refine aw_goto (tgt := 2535) (pc := 1649) F dL_law_1649 (by decide) ?_
    exact head.fin ⟨_, i8.f8 f8, i9, hp'⟩ (by omega)
  · refine aw_aload3 (pc := 1637) F dL_law_1637 ?_
    refine aw_iconst (pc := 1638) F dL_law_1638 ?_
    refine aw_lald (pc := 1639) F dL_law_1639 rfl (by first | decide | (simp only [inB, cnt, rcnt]; omega)) (by decide) ?_
    rw [show M2 (10, 0, 1, 0) 0 = nrm V from (congrFun (f8 (10, 0, 1, 0) (by decide)) 0).trans (ho c5)]
    refine aw_iload6 (pc := 1640) F dL_law_1640 ?_
    rw [hv c5]
    refine aw_nrm ?_
    refine aw_i2l (pc := 1642) F dL_law_1642 nrm_in ?_
    refine aw_lcmp (pc := 1643) F (by first | exact nrm_in | (unfold inR; decide)) (by first | exact nrm_in | (unfold inR; decide)) dL_law_1643 ?_
    rw [cmp_same (by rfl)]
    refine aw_if_eq (tgt := 1649) (pc := 1644) F dL_law_1644 (by decide) inR0 (fun _ => ?_) (fun c7 => absurd rfl c7)
    refine aw_goto (tgt := 2535) (pc := 1649) F dL_law_1649 (by decide) ?_
    exact head.fin ⟨_, i8.f8 f8, i9, hp'⟩ (by omega)
theorem lc_31 {X : Cx} {K : Kx} {Ln : Nat} {xs : Nat → Int32} {U9 : Nat} (F : Fx X K cL_law RL (some .boolean) 60 U9 false) (hk : K.2.2.2.1 = 9) (hX : LX X K Ln xs) (hL : Ln ≤ 3072) (i : Int) (hi : 0 ≤ i ∧ i + 6 ≤ Ln) (M : Id4 → Int → Int) (b : Bool) (hI : INV M) (u : Nat) (hu : u + 8 ≤ U9) {Q : State → Prop} (head : HDL X K i u Q) : AW X K 1652 (lvH i) [] (M, R0 b) u Q := by
  obtain ⟨st, h8, h9, hp⟩ := hI
  refine aw_aload1 (pc := 1652) F dL_law_1652 ?_
  refine aw_aload0 (pc := 1653) F dL_law_1653 ?_
  refine aw_iload4 (pc := 1654) F dL_law_1654 ?_
  refine aw_iconst (pc := 1656) F dL_law_1656 ?_
  refine aw_iadd (pc := 1657) F dL_law_1657 ?_
  refine aw_sld (pc := 1658) F hX dL_law_1658 (by omega) hL ?_
  refine aw_aload3 (pc := 1659) F dL_law_1659 ?_
  obtain ⟨U8, t, V, st', hU, htb, hp', cW, cR⟩ := op_canRaise M b st (sI xs (i + 1)) sI_in h8 hp
  refine aw_hcallS (pc := 1660) (as9 := [aR (8, 0, 0, 0), aI (sI xs (i + 1)), aR (10, 0, 1, 0)]) F dL_law_1660 mh_L_244 cW (Nat.le_of_ble_eq_true rfl) (Nat.le_of_ble_eq_true rfl) (by omega) (fun r σ9 g9 => ?_)
  obtain ⟨M1, b1, ge, i8, f9, hr, ho⟩ := g9
  subst ge
  rw [hr]
  refine aw_istore5 (pc := 1663) F dL_law_1663 rfl hk.symm ?_
  refine aw_aload2 (pc := 1665) F dL_law_1665 ?_
  refine aw_aload0 (pc := 1666) F dL_law_1666 ?_
  refine aw_iload4 (pc := 1667) F dL_law_1667 ?_
  refine aw_iconst (pc := 1669) F dL_law_1669 ?_
  refine aw_iadd (pc := 1670) F dL_law_1670 ?_
  refine aw_sld (pc := 1671) F hX dL_law_1671 (by omega) hL ?_
  refine aw_gcallVI (pc := 1672) (as9 := [aI (sI xs (i + 1))]) F dL_law_1672 ml_L_246 rfl (by first | decide | (simp only [inB, cnt, rcnt]; omega)) (cR M1 b1 (h9.f9 f9)) (Nat.le_of_ble_eq_true rfl) (Nat.le_of_ble_eq_true rfl) (by omega) (fun v σ9 g9 => ?_)
  obtain ⟨M2, ge, i9, f8, ht, hv⟩ := g9
  subst ge
  refine aw_istore6 (pc := 1675) F dL_law_1675 rfl hk.symm ?_
  refine aw_aload2 (pc := 1677) F dL_law_1677 ?_
  refine aw_pcallV0 (pc := 1678) F dL_law_1678 ml_L_135 rfl (by first | decide | (simp only [inB, cnt, rcnt]; omega)) (ct9_thrown _ _) (Nat.le_of_ble_eq_true rfl) (Nat.le_of_ble_eq_true rfl) (by omega) ?_
  rw [ht]
  refine aw_iload5 (pc := 1681) F dL_law_1681 ?_
  refine aw_icmp_same (tgt := 1688) (pc := 1683) F dL_law_1683 (by decide) ?_
  refine aw_iload5 (pc := 1688) F dL_law_1688 ?_
  refine aw_if_ne (tgt := 1705) (pc := 1690) F dL_law_1690 (by decide) (by unfold inR; omega) (fun c5 => ?_) (fun c5 => ?_)
  · refine aw_goto (tgt := 2535) (pc := 1705) F dL_law_1705 (by decide) ?_
    exact head.fin ⟨_, i8.f8 f8, i9, hp'⟩ (by omega)
  · refine aw_aload3 (pc := 1693) F dL_law_1693 ?_
    refine aw_iconst (pc := 1694) F dL_law_1694 ?_
    refine aw_lald (pc := 1695) F dL_law_1695 rfl (by first | decide | (simp only [inB, cnt, rcnt]; omega)) (by decide) ?_
    rw [show M2 (10, 0, 1, 0) 0 = nrm V from (congrFun (f8 (10, 0, 1, 0) (by decide)) 0).trans (ho c5)]
    refine aw_iload6 (pc := 1696) F dL_law_1696 ?_
    rw [hv c5]
    refine aw_nrm ?_
    refine aw_i2l (pc := 1698) F dL_law_1698 nrm_in ?_
    refine aw_lcmp (pc := 1699) F (by first | exact nrm_in | (unfold inR; decide)) (by first | exact nrm_in | (unfold inR; decide)) dL_law_1699 ?_
    rw [cmp_same (by rfl)]
    refine aw_if_eq (tgt := 1705) (pc := 1700) F dL_law_1700 (by decide) inR0 (fun _ => ?_) (fun c7 => absurd rfl c7)
    refine aw_goto (tgt := 2535) (pc := 1705) F dL_law_1705 (by decide) ?_
    exact head.fin ⟨_, i8.f8 f8, i9, hp'⟩ (by omega)
theorem lc_32 {X : Cx} {K : Kx} {Ln : Nat} {xs : Nat → Int32} {U9 : Nat} (F : Fx X K cL_law RL (some .boolean) 60 U9 false) (hk : K.2.2.2.1 = 9) (hX : LX X K Ln xs) (hL : Ln ≤ 3072) (i : Int) (hi : 0 ≤ i ∧ i + 6 ≤ Ln) (M : Id4 → Int → Int) (b : Bool) (hI : INV M) (u : Nat) (hu : u + 8 ≤ U9) {Q : State → Prop} (head : HDL X K i u Q) : AW X K 1708 (lvH i) [] (M, R0 b) u Q := by
  obtain ⟨st, h8, h9, hp⟩ := hI
  refine aw_aload1 (pc := 1708) F dL_law_1708 ?_
  refine aw_aload0 (pc := 1709) F dL_law_1709 ?_
  refine aw_iload4 (pc := 1710) F dL_law_1710 ?_
  refine aw_iconst (pc := 1712) F dL_law_1712 ?_
  refine aw_iadd (pc := 1713) F dL_law_1713 ?_
  refine aw_sld (pc := 1714) F hX dL_law_1714 (by omega) hL ?_
  refine aw_aload3 (pc := 1715) F dL_law_1715 ?_
  obtain ⟨U8, t, V, st', hU, htb, hp', hV, cW, cR⟩ := op_isCritical M b st (sI xs (i + 1)) sI_in h8 hp
  refine aw_hcallS (pc := 1716) (as9 := [aR (8, 0, 0, 0), aI (sI xs (i + 1)), aR (10, 0, 1, 0)]) F dL_law_1716 mh_L_247 cW (Nat.le_of_ble_eq_true rfl) (Nat.le_of_ble_eq_true rfl) (by omega) (fun r σ9 g9 => ?_)
  obtain ⟨M1, b1, ge, i8, f9, hr, ho⟩ := g9
  subst ge
  rw [hr]
  refine aw_istore5 (pc := 1719) F dL_law_1719 rfl hk.symm ?_
  refine aw_aload2 (pc := 1721) F dL_law_1721 ?_
  refine aw_aload0 (pc := 1722) F dL_law_1722 ?_
  refine aw_iload4 (pc := 1723) F dL_law_1723 ?_
  refine aw_iconst (pc := 1725) F dL_law_1725 ?_
  refine aw_iadd (pc := 1726) F dL_law_1726 ?_
  refine aw_sld (pc := 1727) F hX dL_law_1727 (by omega) hL ?_
  refine aw_gcallVI (pc := 1728) (as9 := [aI (sI xs (i + 1))]) F dL_law_1728 ml_L_249 rfl (by first | decide | (simp only [inB, cnt, rcnt]; omega)) (cR M1 b1 (h9.f9 f9)) (Nat.le_of_ble_eq_true rfl) (Nat.le_of_ble_eq_true rfl) (by omega) (fun v σ9 g9 => ?_)
  obtain ⟨M2, ge, i9, f8, ht, hv⟩ := g9
  subst ge
  refine aw_istore6 (pc := 1731) F dL_law_1731 rfl hk.symm ?_
  refine aw_aload2 (pc := 1733) F dL_law_1733 ?_
  refine aw_pcallV0 (pc := 1734) F dL_law_1734 ml_L_135 rfl (by first | decide | (simp only [inB, cnt, rcnt]; omega)) (ct9_thrown _ _) (Nat.le_of_ble_eq_true rfl) (Nat.le_of_ble_eq_true rfl) (by omega) ?_
  rw [ht]
  refine aw_iload5 (pc := 1737) F dL_law_1737 ?_
  refine aw_icmp_same (tgt := 1744) (pc := 1739) F dL_law_1739 (by decide) ?_
  refine aw_iload5 (pc := 1744) F dL_law_1744 ?_
  refine aw_if_ne (tgt := 1768) (pc := 1746) F dL_law_1746 (by decide) (by unfold inR; omega) (fun c5 => ?_) (fun c5 => ?_)
  · refine aw_goto (tgt := 2535) (pc := 1768) F dL_law_1768 (by decide) ?_
    exact head.fin ⟨_, i8.f8 f8, i9, hp'⟩ (by omega)
  · refine aw_aload3 (pc := 1749) F dL_law_1749 ?_
    refine aw_iconst (pc := 1750) F dL_law_1750 ?_
    refine aw_lald (pc := 1751) F dL_law_1751 rfl (by first | decide | (simp only [inB, cnt, rcnt]; omega)) (by decide) ?_
    rw [show M2 (10, 0, 1, 0) 0 = nrm V from (congrFun (f8 (10, 0, 1, 0) (by decide)) 0).trans (ho c5)]
    refine aw_iload6 (pc := 1752) F dL_law_1752 ?_
    rw [hv c5]
    refine aw_if_eq (tgt := 1761) (pc := 1754) F dL_law_1754 (by decide) (by rcases hV with h | h <;> rw [h] <;> unfold inR <;> decide) (fun c6 => ?_) (fun c6 => ?_)
    · rw [show nrm V = 0 by rw [c6]; rfl]
      refine aw_lconst (pc := 1761) F dL_law_1761 ?_
      refine aw_lcmp (pc := 1762) F (by first | exact nrm_in | (unfold inR; decide)) (by first | exact nrm_in | (unfold inR; decide)) dL_law_1762 ?_
      rw [cmp_same (by rfl)]
      refine aw_if_eq (tgt := 1768) (pc := 1763) F dL_law_1763 (by decide) inR0 (fun _ => ?_) (fun c7 => absurd rfl c7)
      refine aw_goto (tgt := 2535) (pc := 1768) F dL_law_1768 (by decide) ?_
      exact head.fin ⟨_, i8.f8 f8, i9, hp'⟩ (by omega)
    · rw [show nrm V = 1 by rw [hV.resolve_left c6]; rfl]
      refine aw_lconst (pc := 1757) F dL_law_1757 ?_
      refine aw_goto (tgt := 1762) (pc := 1758) F dL_law_1758 (by decide) ?_
      refine aw_lcmp (pc := 1762) F (by first | exact nrm_in | (unfold inR; decide)) (by first | exact nrm_in | (unfold inR; decide)) dL_law_1762 ?_
      rw [cmp_same (by rfl)]
      refine aw_if_eq (tgt := 1768) (pc := 1763) F dL_law_1763 (by decide) inR0 (fun _ => ?_) (fun c7 => absurd rfl c7)
      refine aw_goto (tgt := 2535) (pc := 1768) F dL_law_1768 (by decide) ?_
      exact head.fin ⟨_, i8.f8 f8, i9, hp'⟩ (by omega)
theorem lc_33 {X : Cx} {K : Kx} {Ln : Nat} {xs : Nat → Int32} {U9 : Nat} (F : Fx X K cL_law RL (some .boolean) 60 U9 false) (hk : K.2.2.2.1 = 9) (hX : LX X K Ln xs) (hL : Ln ≤ 3072) (i : Int) (hi : 0 ≤ i ∧ i + 6 ≤ Ln) (M : Id4 → Int → Int) (b : Bool) (hI : INV M) (u : Nat) (hu : u + 8 ≤ U9) {Q : State → Prop} (head : HDL X K i u Q) : AW X K 1771 (lvH i) [] (M, R0 b) u Q := by
  obtain ⟨st, h8, h9, hp⟩ := hI
  refine aw_aload1 (pc := 1771) F dL_law_1771 ?_
  refine aw_aload0 (pc := 1772) F dL_law_1772 ?_
  refine aw_iload4 (pc := 1773) F dL_law_1773 ?_
  refine aw_iconst (pc := 1775) F dL_law_1775 ?_
  refine aw_iadd (pc := 1776) F dL_law_1776 ?_
  refine aw_sld (pc := 1777) F hX dL_law_1777 (by omega) hL ?_
  refine aw_aload0 (pc := 1778) F dL_law_1778 ?_
  refine aw_iload4 (pc := 1779) F dL_law_1779 ?_
  refine aw_iconst (pc := 1781) F dL_law_1781 ?_
  refine aw_iadd (pc := 1782) F dL_law_1782 ?_
  refine aw_sld (pc := 1783) F hX dL_law_1783 (by omega) hL ?_
  refine aw_aload3 (pc := 1784) F dL_law_1784 ?_
  obtain ⟨U8, t, V, st', hU, htb, hp', cW, cR⟩ := op_share M b st (sI xs (i + 1)) (sI xs (i + 2)) sI_in sI_in h8 hp
  refine aw_hcallS (pc := 1785) (as9 := [aR (8, 0, 0, 0), aI (sI xs (i + 1)), aI (sI xs (i + 2)), aR (10, 0, 1, 0)]) F dL_law_1785 mh_L_250 cW (Nat.le_of_ble_eq_true rfl) (Nat.le_of_ble_eq_true rfl) (by omega) (fun r σ9 g9 => ?_)
  obtain ⟨M1, b1, ge, i8, f9, hr, ho⟩ := g9
  subst ge
  rw [hr]
  refine aw_istore5 (pc := 1788) F dL_law_1788 rfl hk.symm ?_
  refine aw_aload2 (pc := 1790) F dL_law_1790 ?_
  refine aw_aload0 (pc := 1791) F dL_law_1791 ?_
  refine aw_iload4 (pc := 1792) F dL_law_1792 ?_
  refine aw_iconst (pc := 1794) F dL_law_1794 ?_
  refine aw_iadd (pc := 1795) F dL_law_1795 ?_
  refine aw_sld (pc := 1796) F hX dL_law_1796 (by omega) hL ?_
  refine aw_aload0 (pc := 1797) F dL_law_1797 ?_
  refine aw_iload4 (pc := 1798) F dL_law_1798 ?_
  refine aw_iconst (pc := 1800) F dL_law_1800 ?_
  refine aw_iadd (pc := 1801) F dL_law_1801 ?_
  refine aw_sld (pc := 1802) F hX dL_law_1802 (by omega) hL ?_
  refine aw_gcallVI (pc := 1803) (as9 := [aI (sI xs (i + 1)), aI (sI xs (i + 2))]) F dL_law_1803 ml_L_252 rfl (by first | decide | (simp only [inB, cnt, rcnt]; omega)) (cR M1 b1 (h9.f9 f9)) (Nat.le_of_ble_eq_true rfl) (Nat.le_of_ble_eq_true rfl) (by omega) (fun v σ9 g9 => ?_)
  obtain ⟨M2, ge, i9, f8, ht, hv⟩ := g9
  subst ge
  refine aw_istore6 (pc := 1806) F dL_law_1806 rfl hk.symm ?_
  refine aw_aload2 (pc := 1808) F dL_law_1808 ?_
  refine aw_pcallV0 (pc := 1809) F dL_law_1809 ml_L_135 rfl (by first | decide | (simp only [inB, cnt, rcnt]; omega)) (ct9_thrown _ _) (Nat.le_of_ble_eq_true rfl) (Nat.le_of_ble_eq_true rfl) (by omega) ?_
  rw [ht]
  refine aw_iload5 (pc := 1812) F dL_law_1812 ?_
  refine aw_icmp_same (tgt := 1819) (pc := 1814) F dL_law_1814 (by decide) ?_
  refine aw_iload5 (pc := 1819) F dL_law_1819 ?_
  refine aw_if_ne (tgt := 1836) (pc := 1821) F dL_law_1821 (by decide) (by unfold inR; omega) (fun c5 => ?_) (fun c5 => ?_)
  · refine aw_goto (tgt := 2535) (pc := 1836) F dL_law_1836 (by decide) ?_
    exact head.fin ⟨_, i8.f8 f8, i9, hp'⟩ (by omega)
  · refine aw_aload3 (pc := 1824) F dL_law_1824 ?_
    refine aw_iconst (pc := 1825) F dL_law_1825 ?_
    refine aw_lald (pc := 1826) F dL_law_1826 rfl (by first | decide | (simp only [inB, cnt, rcnt]; omega)) (by decide) ?_
    rw [show M2 (10, 0, 1, 0) 0 = nrm V from (congrFun (f8 (10, 0, 1, 0) (by decide)) 0).trans (ho c5)]
    refine aw_iload6 (pc := 1827) F dL_law_1827 ?_
    rw [hv c5]
    refine aw_nrm ?_
    refine aw_i2l (pc := 1829) F dL_law_1829 nrm_in ?_
    refine aw_lcmp (pc := 1830) F (by first | exact nrm_in | (unfold inR; decide)) (by first | exact nrm_in | (unfold inR; decide)) dL_law_1830 ?_
    rw [cmp_same (by rfl)]
    refine aw_if_eq (tgt := 1836) (pc := 1831) F dL_law_1831 (by decide) inR0 (fun _ => ?_) (fun c7 => absurd rfl c7)
    refine aw_goto (tgt := 2535) (pc := 1836) F dL_law_1836 (by decide) ?_
    exact head.fin ⟨_, i8.f8 f8, i9, hp'⟩ (by omega)
theorem lc_34 {X : Cx} {K : Kx} {Ln : Nat} {xs : Nat → Int32} {U9 : Nat} (F : Fx X K cL_law RL (some .boolean) 60 U9 false) (hk : K.2.2.2.1 = 9) (hX : LX X K Ln xs) (hL : Ln ≤ 3072) (i : Int) (hi : 0 ≤ i ∧ i + 6 ≤ Ln) (M : Id4 → Int → Int) (b : Bool) (hI : INV M) (u : Nat) (hu : u + 8 ≤ U9) {Q : State → Prop} (head : HDL X K i u Q) : AW X K 1839 (lvH i) [] (M, R0 b) u Q := by
  obtain ⟨st, h8, h9, hp⟩ := hI
  refine aw_aload1 (pc := 1839) F dL_law_1839 ?_
  refine aw_aload0 (pc := 1840) F dL_law_1840 ?_
  refine aw_iload4 (pc := 1841) F dL_law_1841 ?_
  refine aw_iconst (pc := 1843) F dL_law_1843 ?_
  refine aw_iadd (pc := 1844) F dL_law_1844 ?_
  refine aw_sld (pc := 1845) F hX dL_law_1845 (by omega) hL ?_
  refine aw_aload0 (pc := 1846) F dL_law_1846 ?_
  refine aw_iload4 (pc := 1847) F dL_law_1847 ?_
  refine aw_iconst (pc := 1849) F dL_law_1849 ?_
  refine aw_iadd (pc := 1850) F dL_law_1850 ?_
  refine aw_sld (pc := 1851) F hX dL_law_1851 (by omega) hL ?_
  refine aw_aload3 (pc := 1852) F dL_law_1852 ?_
  obtain ⟨U8, t, V, st', hU, htb, hp', cW, cR⟩ := op_move M b st (sI xs (i + 1)) (sI xs (i + 2)) sI_in sI_in h8 hp
  refine aw_hcallS (pc := 1853) (as9 := [aR (8, 0, 0, 0), aI (sI xs (i + 1)), aI (sI xs (i + 2)), aR (10, 0, 1, 0)]) F dL_law_1853 mh_L_253 cW (Nat.le_of_ble_eq_true rfl) (Nat.le_of_ble_eq_true rfl) (by omega) (fun r σ9 g9 => ?_)
  obtain ⟨M1, b1, ge, i8, f9, hr, ho⟩ := g9
  subst ge
  rw [hr]
  refine aw_istore5 (pc := 1856) F dL_law_1856 rfl hk.symm ?_
  refine aw_aload2 (pc := 1858) F dL_law_1858 ?_
  refine aw_aload0 (pc := 1859) F dL_law_1859 ?_
  refine aw_iload4 (pc := 1860) F dL_law_1860 ?_
  refine aw_iconst (pc := 1862) F dL_law_1862 ?_
  refine aw_iadd (pc := 1863) F dL_law_1863 ?_
  refine aw_sld (pc := 1864) F hX dL_law_1864 (by omega) hL ?_
  refine aw_aload0 (pc := 1865) F dL_law_1865 ?_
  refine aw_iload4 (pc := 1866) F dL_law_1866 ?_
  refine aw_iconst (pc := 1868) F dL_law_1868 ?_
  refine aw_iadd (pc := 1869) F dL_law_1869 ?_
  refine aw_sld (pc := 1870) F hX dL_law_1870 (by omega) hL ?_
  refine aw_gcallVI (pc := 1871) (as9 := [aI (sI xs (i + 1)), aI (sI xs (i + 2))]) F dL_law_1871 ml_L_255 rfl (by first | decide | (simp only [inB, cnt, rcnt]; omega)) (cR M1 b1 (h9.f9 f9)) (Nat.le_of_ble_eq_true rfl) (Nat.le_of_ble_eq_true rfl) (by omega) (fun v σ9 g9 => ?_)
  obtain ⟨M2, ge, i9, f8, ht, hv⟩ := g9
  subst ge
  refine aw_istore6 (pc := 1874) F dL_law_1874 rfl hk.symm ?_
  refine aw_aload2 (pc := 1876) F dL_law_1876 ?_
  refine aw_pcallV0 (pc := 1877) F dL_law_1877 ml_L_135 rfl (by first | decide | (simp only [inB, cnt, rcnt]; omega)) (ct9_thrown _ _) (Nat.le_of_ble_eq_true rfl) (Nat.le_of_ble_eq_true rfl) (by omega) ?_
  rw [ht]
  refine aw_iload5 (pc := 1880) F dL_law_1880 ?_
  refine aw_icmp_same (tgt := 1887) (pc := 1882) F dL_law_1882 (by decide) ?_
  refine aw_iload5 (pc := 1887) F dL_law_1887 ?_
  refine aw_if_ne (tgt := 1904) (pc := 1889) F dL_law_1889 (by decide) (by unfold inR; omega) (fun c5 => ?_) (fun c5 => ?_)
  · refine aw_goto (tgt := 2535) (pc := 1904) F dL_law_1904 (by decide) ?_
    exact head.fin ⟨_, i8.f8 f8, i9, hp'⟩ (by omega)
  · refine aw_aload3 (pc := 1892) F dL_law_1892 ?_
    refine aw_iconst (pc := 1893) F dL_law_1893 ?_
    refine aw_lald (pc := 1894) F dL_law_1894 rfl (by first | decide | (simp only [inB, cnt, rcnt]; omega)) (by decide) ?_
    rw [show M2 (10, 0, 1, 0) 0 = nrm V from (congrFun (f8 (10, 0, 1, 0) (by decide)) 0).trans (ho c5)]
    refine aw_iload6 (pc := 1895) F dL_law_1895 ?_
    rw [hv c5]
    refine aw_nrm ?_
    refine aw_i2l (pc := 1897) F dL_law_1897 nrm_in ?_
    refine aw_lcmp (pc := 1898) F (by first | exact nrm_in | (unfold inR; decide)) (by first | exact nrm_in | (unfold inR; decide)) dL_law_1898 ?_
    rw [cmp_same (by rfl)]
    refine aw_if_eq (tgt := 1904) (pc := 1899) F dL_law_1899 (by decide) inR0 (fun _ => ?_) (fun c7 => absurd rfl c7)
    refine aw_goto (tgt := 2535) (pc := 1904) F dL_law_1904 (by decide) ?_
    exact head.fin ⟨_, i8.f8 f8, i9, hp'⟩ (by omega)
theorem lc_35 {X : Cx} {K : Kx} {Ln : Nat} {xs : Nat → Int32} {U9 : Nat} (F : Fx X K cL_law RL (some .boolean) 60 U9 false) (hk : K.2.2.2.1 = 9) (hX : LX X K Ln xs) (hL : Ln ≤ 3072) (i : Int) (hi : 0 ≤ i ∧ i + 6 ≤ Ln) (M : Id4 → Int → Int) (b : Bool) (hI : INV M) (u : Nat) (hu : u + 8 ≤ U9) {Q : State → Prop} (head : HDL X K i u Q) : AW X K 1907 (lvH i) [] (M, R0 b) u Q := by
  obtain ⟨st, h8, h9, hp⟩ := hI
  refine aw_aload1 (pc := 1907) F dL_law_1907 ?_
  refine aw_aload0 (pc := 1908) F dL_law_1908 ?_
  refine aw_iload4 (pc := 1909) F dL_law_1909 ?_
  refine aw_iconst (pc := 1911) F dL_law_1911 ?_
  refine aw_iadd (pc := 1912) F dL_law_1912 ?_
  refine aw_sld (pc := 1913) F hX dL_law_1913 (by omega) hL ?_
  obtain ⟨V, st', hp', c8, c9⟩ := op_shift M b st (sI xs (i + 1)) sI_in h8 hp
  refine aw_gcallVI (pc := 1914) (as9 := [aI (sI xs (i + 1))]) F dL_law_1914 ml_L_256 rfl (by first | decide | (simp only [inB, cnt, rcnt]; omega)) c8 (Nat.le_of_ble_eq_true rfl) (Nat.le_of_ble_eq_true rfl) (by omega) (fun v σ9 g9 => ?_)
  obtain ⟨M1, ge, i8, f9, hv⟩ := g9
  subst ge
  rw [hv]
  refine aw_aload2 (pc := 1917) F dL_law_1917 ?_
  refine aw_aload0 (pc := 1918) F dL_law_1918 ?_
  refine aw_iload4 (pc := 1919) F dL_law_1919 ?_
  refine aw_iconst (pc := 1921) F dL_law_1921 ?_
  refine aw_iadd (pc := 1922) F dL_law_1922 ?_
  refine aw_sld (pc := 1923) F hX dL_law_1923 (by omega) hL ?_
  refine aw_gcallVI (pc := 1924) (as9 := [aI (sI xs (i + 1))]) F dL_law_1924 ml_L_259 rfl (by first | decide | (simp only [inB, cnt, rcnt]; omega)) (c9 M1 b (h9.f9 f9)) (Nat.le_of_ble_eq_true rfl) (Nat.le_of_ble_eq_true rfl) (by omega) (fun v σ9 g9 => ?_)
  obtain ⟨M2, ge, i9, f8, -, hv2⟩ := g9
  subst ge
  rw [hv2 rfl]
  refine aw_icmp_same (tgt := 2535) (pc := 1927) F dL_law_1927 (by decide) ?_
  exact head.fin ⟨_, i8.f8 f8, i9, hp'⟩ (by omega)
