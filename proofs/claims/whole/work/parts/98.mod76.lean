section LAWC
variable {p : Program} {l : Launch} {e : Env} {s : State} {m : MethodId} {below : List Frame} {meth : Method} {c : Code} {D : va_G} {cA : Nat → ClassId} {σ : Nat → Nat} {b L : Nat} {xs : Nat → Int32} {i cells slots oA : Nat} {K : Fin 2 → Option Fo} {s0 : Fo} {ρX ρM : Nat → Nat} {v : Value} {μX μM : mm_U} {R : va_W} {H : Heap} {locs : List Loc} {ls : Array Slot} {Q : State → Prop}
theorem law_all (C : LCx D cA σ p s m meth c b L xs) (hL : L ≤ 3072) (hi : i + 6 ≤ L) (hcs : cells ≤ 601024 ∧ slots ≤ 7293034) (hl : lv_has ls 7 [(0, .ref b), (1, .ref (ρX 0)), (2, .ref (ρM 0)), (3, .ref oA), (4, .int (nI i))]) (St : LSt K s0 μX μM) (hW : LWs D cA s ρX ρM v μX μM R H locs) (nxt : ∀ (s1 : Fo) (μX1 μM1 : mm_U) (H1 : Heap) (locs1 : List Loc), LSt K s1 μX1 μM1 → LWs D cA s ρX ρM v μX1 μM1 R H1 locs1 → W p l e room_1 s m #[Value.ref b] below meth c H1 locs1 cells slots Q (F0 m 1773 ls [])) : W p l e room_1 s m #[Value.ref b] below meth c H locs cells slots Q (F0 m 1376 ls []) := by
  obtain ⟨hI, RX, RM, g0, SX, HK⟩ := id St
  have hx := C.1.1
  have hb := C.1.2.1
  refine lv_aload_n hx hb dL_law_1376 rfl (lv_at hl 1 rfl) ?_
  refine law_arg (j := 1) C hW.2.2 (lv_at hl 0 rfl) (lv_at hl 4 rfl) (by omega) hL rfl dL_law_1377 dL_law_1378 dL_law_1380 dL_law_1381 dL_law_1382 ?_
  refine law_x (as := [.int (xs (i + 1))]) (rest := []) C vL_151 (x_all (I := In) (shX_ok v) In_x RX hI _) rfl rfl rfl (by decide) ⟨by decide, by decide⟩ hcs hl.1 (by show (0 : Nat) ≤ 8; omega) dL_law_1383 hW (fun r μX1 H1 locs1 hq hW1 => ?_)
  obtain ⟨rfl, RX1, hI1⟩ := hq
  refine lv_aload_n hx hb dL_law_1386 rfl (lv_at hl 2 rfl) ?_
  refine law_arg (j := 1) C hW1.2.2 (lv_at hl 0 rfl) (lv_at hl 4 rfl) (by omega) hL rfl dL_law_1387 dL_law_1388 dL_law_1390 dL_law_1391 dL_law_1392 ?_
  refine law_m (as := [.int (xs (i + 1))]) C vL_154 (m_all shM_ok RM hI.1 hI.2 g0 _) rfl rfl rfl (by decide) ⟨by decide, by decide⟩ hcs hl.1 (by show (1 : Nat) ≤ 8; omega) dL_law_1393 hW1 (fun r μM1 H2 locs2 hq2 hW2 => ?_)
  have hq3 := hq2
  obtain ⟨rfl, _⟩ := hq2
  refine lv_icmp_eq (tgt := 1773) hx hb dL_law_1396 (by decide) (fun _ => ?_) (fun ne => absurd rfl ne)
  exact nxt _ _ _ _ _ (St.mt hI1 RX1 hq3) hW2
theorem law_easiest (C : LCx D cA σ p s m meth c b L xs) (hL : L ≤ 3072) (hi : i + 6 ≤ L) (hcs : cells ≤ 601024 ∧ slots ≤ 7293034) (hl : lv_has ls 7 [(0, .ref b), (1, .ref (ρX 0)), (2, .ref (ρM 0)), (3, .ref oA), (4, .int (nI i))]) (St : LSt K s0 μX μM) (hW : LWs D cA s ρX ρM v μX μM R H locs) (nxt : ∀ (s1 : Fo) (μX1 μM1 : mm_U) (H1 : Heap) (locs1 : List Loc), LSt K s1 μX1 μM1 → LWs D cA s ρX ρM v μX1 μM1 R H1 locs1 → W p l e room_1 s m #[Value.ref b] below meth c H1 locs1 cells slots Q (F0 m 1773 ls [])) : W p l e room_1 s m #[Value.ref b] below meth c H locs cells slots Q (F0 m 1401 ls []) := by
  obtain ⟨hI, RX, RM, g0, SX, HK⟩ := id St
  have hx := C.1.1
  have hb := C.1.2.1
  refine lv_aload_n hx hb dL_law_1401 rfl (lv_at hl 1 rfl) ?_
  refine law_x (as := []) (rest := []) C vL_155 (x_easiest (I := In) (shX_ok v) In_x RX hI) rfl rfl rfl (by decide) ⟨by decide, by decide⟩ hcs hl.1 (by show (0 : Nat) ≤ 8; omega) dL_law_1402 hW (fun r μX1 H1 locs1 hq hW1 => ?_)
  obtain ⟨rfl, RX1, hI1⟩ := hq
  refine lv_aload_n hx hb dL_law_1405 rfl (lv_at hl 2 rfl) ?_
  refine law_m (as := []) C vL_158 (m_easiest shM_ok RM hI.1 g0) rfl rfl rfl (by decide) ⟨by decide, by decide⟩ hcs hl.1 (by show (1 : Nat) ≤ 8; omega) dL_law_1406 hW1 (fun r μM1 H2 locs2 hq2 hW2 => ?_)
  have hq3 := hq2
  obtain ⟨rfl, _⟩ := hq2
  refine lv_icmp_eq (tgt := 1773) hx hb dL_law_1409 (by decide) (fun _ => ?_) (fun ne => absurd rfl ne)
  exact nxt _ _ _ _ _ (St.mt hI1 RX1 hq3) hW2
theorem law_lowest (C : LCx D cA σ p s m meth c b L xs) (hL : L ≤ 3072) (hi : i + 6 ≤ L) (hcs : cells ≤ 601024 ∧ slots ≤ 7293034) (hl : lv_has ls 7 [(0, .ref b), (1, .ref (ρX 0)), (2, .ref (ρM 0)), (3, .ref oA), (4, .int (nI i))]) (St : LSt K s0 μX μM) (hW : LWs D cA s ρX ρM v μX μM R H locs) (nxt : ∀ (s1 : Fo) (μX1 μM1 : mm_U) (H1 : Heap) (locs1 : List Loc), LSt K s1 μX1 μM1 → LWs D cA s ρX ρM v μX1 μM1 R H1 locs1 → W p l e room_1 s m #[Value.ref b] below meth c H1 locs1 cells slots Q (F0 m 1773 ls [])) : W p l e room_1 s m #[Value.ref b] below meth c H locs cells slots Q (F0 m 1414 ls []) := by
  obtain ⟨hI, RX, RM, g0, SX, HK⟩ := id St
  have hx := C.1.1
  have hb := C.1.2.1
  refine lv_aload_n hx hb dL_law_1414 rfl (lv_at hl 1 rfl) ?_
  refine law_arg (j := 1) C hW.2.2 (lv_at hl 0 rfl) (lv_at hl 4 rfl) (by omega) hL rfl dL_law_1415 dL_law_1416 dL_law_1418 dL_law_1419 dL_law_1420 ?_
  refine law_x (as := [.int (xs (i + 1))]) (rest := []) C vL_159 (x_lowest (I := In) (shX_ok v) In_x RX hI _) rfl rfl rfl (by decide) ⟨by decide, by decide⟩ hcs hl.1 (by show (0 : Nat) ≤ 8; omega) dL_law_1421 hW (fun r μX1 H1 locs1 hq hW1 => ?_)
  obtain ⟨rfl, RX1, hI1⟩ := hq
  refine lv_aload_n hx hb dL_law_1424 rfl (lv_at hl 2 rfl) ?_
  refine law_arg (j := 1) C hW1.2.2 (lv_at hl 0 rfl) (lv_at hl 4 rfl) (by omega) hL rfl dL_law_1425 dL_law_1426 dL_law_1428 dL_law_1429 dL_law_1430 ?_
  refine law_m (as := [.int (xs (i + 1))]) C vL_162 (m_lowest shM_ok RM hI.1 g0 _) rfl rfl rfl (by decide) ⟨by decide, by decide⟩ hcs hl.1 (by show (1 : Nat) ≤ 8; omega) dL_law_1431 hW1 (fun r μM1 H2 locs2 hq2 hW2 => ?_)
  have hq3 := hq2
  obtain ⟨rfl, _⟩ := hq2
  refine lv_icmp_eq (tgt := 1773) hx hb dL_law_1434 (by decide) (fun _ => ?_) (fun ne => absurd rfl ne)
  exact nxt _ _ _ _ _ (St.mt hI1 RX1 hq3) hW2
theorem law_reach (C : LCx D cA σ p s m meth c b L xs) (hL : L ≤ 3072) (hi : i + 6 ≤ L) (hcs : cells ≤ 601024 ∧ slots ≤ 7293034) (hl : lv_has ls 7 [(0, .ref b), (1, .ref (ρX 0)), (2, .ref (ρM 0)), (3, .ref oA), (4, .int (nI i))]) (St : LSt K s0 μX μM) (hW : LWs D cA s ρX ρM v μX μM R H locs) (nxt : ∀ (s1 : Fo) (μX1 μM1 : mm_U) (H1 : Heap) (locs1 : List Loc), LSt K s1 μX1 μM1 → LWs D cA s ρX ρM v μX1 μM1 R H1 locs1 → W p l e room_1 s m #[Value.ref b] below meth c H1 locs1 cells slots Q (F0 m 1773 ls [])) : W p l e room_1 s m #[Value.ref b] below meth c H locs cells slots Q (F0 m 1439 ls []) := by
  obtain ⟨hI, RX, RM, g0, SX, HK⟩ := id St
  have hx := C.1.1
  have hb := C.1.2.1
  refine lv_aload_n hx hb dL_law_1439 rfl (lv_at hl 1 rfl) ?_
  refine law_arg (j := 1) C hW.2.2 (lv_at hl 0 rfl) (lv_at hl 4 rfl) (by omega) hL rfl dL_law_1440 dL_law_1441 dL_law_1443 dL_law_1444 dL_law_1445 ?_
  refine law_arg (j := 2) C hW.2.2 (lv_at hl 0 rfl) (lv_at hl 4 rfl) (by omega) hL rfl dL_law_1446 dL_law_1447 dL_law_1449 dL_law_1450 dL_law_1451 ?_
  refine law_arg (j := 3) C hW.2.2 (lv_at hl 0 rfl) (lv_at hl 4 rfl) (by omega) hL rfl dL_law_1452 dL_law_1453 dL_law_1455 dL_law_1456 dL_law_1457 ?_
  refine law_x (as := [.int (xs (i + 1)), .int (xs (i + 2)), .int (xs (i + 3))]) (rest := []) C vL_163 (x_reach (I := In) (shX_ok v) In_x RX hI _ _ _) rfl rfl rfl (by decide) ⟨by decide, by decide⟩ hcs hl.1 (by show (0 : Nat) ≤ 8; omega) dL_law_1458 hW (fun r μX1 H1 locs1 hq hW1 => ?_)
  obtain ⟨rfl, RX1, hI1⟩ := hq
  refine lv_aload_n hx hb dL_law_1461 rfl (lv_at hl 2 rfl) ?_
  refine law_arg (j := 1) C hW1.2.2 (lv_at hl 0 rfl) (lv_at hl 4 rfl) (by omega) hL rfl dL_law_1462 dL_law_1463 dL_law_1465 dL_law_1466 dL_law_1467 ?_
  refine law_arg (j := 2) C hW1.2.2 (lv_at hl 0 rfl) (lv_at hl 4 rfl) (by omega) hL rfl dL_law_1468 dL_law_1469 dL_law_1471 dL_law_1472 dL_law_1473 ?_
  refine law_arg (j := 3) C hW1.2.2 (lv_at hl 0 rfl) (lv_at hl 4 rfl) (by omega) hL rfl dL_law_1474 dL_law_1475 dL_law_1477 dL_law_1478 dL_law_1479 ?_
  refine law_m (as := [.int (xs (i + 1)), .int (xs (i + 2)), .int (xs (i + 3))]) C vL_166 (m_reach shM_ok RM hI.1 g0 _ _ _) rfl rfl rfl (by decide) ⟨by decide, by decide⟩ hcs hl.1 (by show (1 : Nat) ≤ 8; omega) dL_law_1480 hW1 (fun r μM1 H2 locs2 hq2 hW2 => ?_)
  have hq3 := hq2
  obtain ⟨rfl, _⟩ := hq2
  refine lv_icmp_eq (tgt := 1773) hx hb dL_law_1483 (by decide) (fun _ => ?_) (fun ne => absurd rfl ne)
  exact nxt _ _ _ _ _ (St.mt hI1 RX1 hq3) hW2
theorem law_alike (C : LCx D cA σ p s m meth c b L xs) (hL : L ≤ 3072) (hi : i + 6 ≤ L) (hcs : cells ≤ 601024 ∧ slots ≤ 7293034) (hl : lv_has ls 7 [(0, .ref b), (1, .ref (ρX 0)), (2, .ref (ρM 0)), (3, .ref oA), (4, .int (nI i))]) (St : LSt K s0 μX μM) (hW : LWs D cA s ρX ρM v μX μM R H locs) (nxt : ∀ (s1 : Fo) (μX1 μM1 : mm_U) (H1 : Heap) (locs1 : List Loc), LSt K s1 μX1 μM1 → LWs D cA s ρX ρM v μX1 μM1 R H1 locs1 → W p l e room_1 s m #[Value.ref b] below meth c H1 locs1 cells slots Q (F0 m 1773 ls [])) : W p l e room_1 s m #[Value.ref b] below meth c H locs cells slots Q (F0 m 1488 ls []) := by
  obtain ⟨hI, RX, RM, g0, SX, HK⟩ := id St
  have hx := C.1.1
  have hb := C.1.2.1
  refine lv_aload_n hx hb dL_law_1488 rfl (lv_at hl 1 rfl) ?_
  refine law_x (as := []) (rest := []) C vL_167 (x_alike (I := In) (shX_ok v) In_x RX hI) rfl rfl rfl (by decide) ⟨by decide, by decide⟩ hcs hl.1 (by show (0 : Nat) ≤ 8; omega) dL_law_1489 hW (fun r μX1 H1 locs1 hq hW1 => ?_)
  obtain ⟨rfl, RX1, hI1⟩ := hq
  refine lv_aload_n hx hb dL_law_1492 rfl (lv_at hl 2 rfl) ?_
  refine law_m (as := []) C vL_170 (m_alike shM_ok RM hI.1 g0) rfl rfl rfl (by decide) ⟨by decide, by decide⟩ hcs hl.1 (by show (1 : Nat) ≤ 8; omega) dL_law_1493 hW1 (fun r μM1 H2 locs2 hq2 hW2 => ?_)
  have hq3 := hq2
  obtain ⟨rfl, _⟩ := hq2
  refine lv_icmp_eq (tgt := 1773) hx hb dL_law_1496 (by decide) (fun _ => ?_) (fun ne => absurd rfl ne)
  exact nxt _ _ _ _ _ (St.mt hI1 RX1 hq3) hW2
theorem law_until (C : LCx D cA σ p s m meth c b L xs) (hL : L ≤ 3072) (hi : i + 6 ≤ L) (hcs : cells ≤ 601024 ∧ slots ≤ 7293034) (hl : lv_has ls 7 [(0, .ref b), (1, .ref (ρX 0)), (2, .ref (ρM 0)), (3, .ref oA), (4, .int (nI i))]) (St : LSt K s0 μX μM) (hW : LWs D cA s ρX ρM v μX μM R H locs) (nxt : ∀ (s1 : Fo) (μX1 μM1 : mm_U) (H1 : Heap) (locs1 : List Loc), LSt K s1 μX1 μM1 → LWs D cA s ρX ρM v μX1 μM1 R H1 locs1 → W p l e room_1 s m #[Value.ref b] below meth c H1 locs1 cells slots Q (F0 m 1773 ls [])) : W p l e room_1 s m #[Value.ref b] below meth c H locs cells slots Q (F0 m 1501 ls []) := by
  obtain ⟨hI, RX, RM, g0, SX, HK⟩ := id St
  have hx := C.1.1
  have hb := C.1.2.1
  refine lv_aload_n hx hb dL_law_1501 rfl (lv_at hl 1 rfl) ?_
  refine law_arg (j := 1) C hW.2.2 (lv_at hl 0 rfl) (lv_at hl 4 rfl) (by omega) hL rfl dL_law_1502 dL_law_1503 dL_law_1505 dL_law_1506 dL_law_1507 ?_
  refine law_x (as := [.int (xs (i + 1))]) (rest := []) C vL_171 (x_until (I := In) (shX_ok v) In_x RX hI _) rfl rfl rfl (by decide) ⟨by decide, by decide⟩ hcs hl.1 (by show (0 : Nat) ≤ 8; omega) dL_law_1508 hW (fun r μX1 H1 locs1 hq hW1 => ?_)
  obtain ⟨rfl, RX1, hI1⟩ := hq
  refine lv_aload_n hx hb dL_law_1511 rfl (lv_at hl 2 rfl) ?_
  refine law_arg (j := 1) C hW1.2.2 (lv_at hl 0 rfl) (lv_at hl 4 rfl) (by omega) hL rfl dL_law_1512 dL_law_1513 dL_law_1515 dL_law_1516 dL_law_1517 ?_
  refine law_m (as := [.int (xs (i + 1))]) C vL_174 (m_until shM_ok RM hI.1 g0 _) rfl rfl rfl (by decide) ⟨by decide, by decide⟩ hcs hl.1 (by show (1 : Nat) ≤ 8; omega) dL_law_1518 hW1 (fun r μM1 H2 locs2 hq2 hW2 => ?_)
  have hq3 := hq2
  obtain ⟨rfl, _⟩ := hq2
  refine lv_icmp_eq (tgt := 1773) hx hb dL_law_1521 (by decide) (fun _ => ?_) (fun ne => absurd rfl ne)
  exact nxt _ _ _ _ _ (St.mt hI1 RX1 hq3) hW2
theorem law_rested (C : LCx D cA σ p s m meth c b L xs) (hL : L ≤ 3072) (hi : i + 6 ≤ L) (hcs : cells ≤ 601024 ∧ slots ≤ 7293034) (hl : lv_has ls 7 [(0, .ref b), (1, .ref (ρX 0)), (2, .ref (ρM 0)), (3, .ref oA), (4, .int (nI i))]) (St : LSt K s0 μX μM) (hW : LWs D cA s ρX ρM v μX μM R H locs) (nxt : ∀ (s1 : Fo) (μX1 μM1 : mm_U) (H1 : Heap) (locs1 : List Loc), LSt K s1 μX1 μM1 → LWs D cA s ρX ρM v μX1 μM1 R H1 locs1 → W p l e room_1 s m #[Value.ref b] below meth c H1 locs1 cells slots Q (F0 m 1773 ls [])) : W p l e room_1 s m #[Value.ref b] below meth c H locs cells slots Q (F0 m 1526 ls []) := by
  obtain ⟨hI, RX, RM, g0, SX, HK⟩ := id St
  have hx := C.1.1
  have hb := C.1.2.1
  refine lv_aload_n hx hb dL_law_1526 rfl (lv_at hl 1 rfl) ?_
  refine law_arg (j := 1) C hW.2.2 (lv_at hl 0 rfl) (lv_at hl 4 rfl) (by omega) hL rfl dL_law_1527 dL_law_1528 dL_law_1530 dL_law_1531 dL_law_1532 ?_
  refine law_arg (j := 2) C hW.2.2 (lv_at hl 0 rfl) (lv_at hl 4 rfl) (by omega) hL rfl dL_law_1533 dL_law_1534 dL_law_1536 dL_law_1537 dL_law_1538 ?_
  refine law_arg (j := 3) C hW.2.2 (lv_at hl 0 rfl) (lv_at hl 4 rfl) (by omega) hL rfl dL_law_1539 dL_law_1540 dL_law_1542 dL_law_1543 dL_law_1544 ?_
  refine law_arg (j := 4) C hW.2.2 (lv_at hl 0 rfl) (lv_at hl 4 rfl) (by omega) hL rfl dL_law_1545 dL_law_1546 dL_law_1548 dL_law_1549 dL_law_1550 ?_
  refine law_arg (j := 5) C hW.2.2 (lv_at hl 0 rfl) (lv_at hl 4 rfl) (by omega) hL rfl dL_law_1551 dL_law_1552 dL_law_1554 dL_law_1555 dL_law_1556 ?_
  refine law_x (as := [.int (xs (i + 1)), .int (xs (i + 2)), .int (xs (i + 3)), .int (xs (i + 4)), .int (xs (i + 5))]) (rest := []) C vL_175 (x_rested (I := In) (shX_ok v) In_x RX hI _ _ _ _ _) rfl rfl rfl (by decide) ⟨by decide, by decide⟩ hcs hl.1 (by show (0 : Nat) ≤ 8; omega) dL_law_1557 hW (fun r μX1 H1 locs1 hq hW1 => ?_)
  obtain ⟨rfl, RX1, hI1⟩ := hq
  refine lv_aload_n hx hb dL_law_1560 rfl (lv_at hl 2 rfl) ?_
  refine law_arg (j := 1) C hW1.2.2 (lv_at hl 0 rfl) (lv_at hl 4 rfl) (by omega) hL rfl dL_law_1561 dL_law_1562 dL_law_1564 dL_law_1565 dL_law_1566 ?_
  refine law_arg (j := 2) C hW1.2.2 (lv_at hl 0 rfl) (lv_at hl 4 rfl) (by omega) hL rfl dL_law_1567 dL_law_1568 dL_law_1570 dL_law_1571 dL_law_1572 ?_
  refine law_arg (j := 3) C hW1.2.2 (lv_at hl 0 rfl) (lv_at hl 4 rfl) (by omega) hL rfl dL_law_1573 dL_law_1574 dL_law_1576 dL_law_1577 dL_law_1578 ?_
  refine law_arg (j := 4) C hW1.2.2 (lv_at hl 0 rfl) (lv_at hl 4 rfl) (by omega) hL rfl dL_law_1579 dL_law_1580 dL_law_1582 dL_law_1583 dL_law_1584 ?_
  refine law_arg (j := 5) C hW1.2.2 (lv_at hl 0 rfl) (lv_at hl 4 rfl) (by omega) hL rfl dL_law_1585 dL_law_1586 dL_law_1588 dL_law_1589 dL_law_1590 ?_
  refine law_m (as := [.int (xs (i + 1)), .int (xs (i + 2)), .int (xs (i + 3)), .int (xs (i + 4)), .int (xs (i + 5))]) C vL_179 (m_rested shM_ok RM hI.1 g0 _ _ _ _ _) rfl rfl rfl (by decide) ⟨by decide, by decide⟩ hcs hl.1 (by show (1 : Nat) ≤ 8; omega) dL_law_1591 hW1 (fun r μM1 H2 locs2 hq2 hW2 => ?_)
  have hq3 := hq2
  obtain ⟨rfl, _⟩ := hq2
  refine lv_icmp_eq (tgt := 1773) hx hb dL_law_1594 (by decide) (fun _ => ?_) (fun ne => absurd rfl ne)
  exact nxt _ _ _ _ _ (St.mt hI1 RX1 hq3) hW2
theorem law_resting (C : LCx D cA σ p s m meth c b L xs) (hL : L ≤ 3072) (hi : i + 6 ≤ L) (hcs : cells ≤ 601024 ∧ slots ≤ 7293034) (hl : lv_has ls 7 [(0, .ref b), (1, .ref (ρX 0)), (2, .ref (ρM 0)), (3, .ref oA), (4, .int (nI i))]) (St : LSt K s0 μX μM) (hW : LWs D cA s ρX ρM v μX μM R H locs) (nxt : ∀ (s1 : Fo) (μX1 μM1 : mm_U) (H1 : Heap) (locs1 : List Loc), LSt K s1 μX1 μM1 → LWs D cA s ρX ρM v μX1 μM1 R H1 locs1 → W p l e room_1 s m #[Value.ref b] below meth c H1 locs1 cells slots Q (F0 m 1773 ls [])) : W p l e room_1 s m #[Value.ref b] below meth c H locs cells slots Q (F0 m 1599 ls []) := by
  obtain ⟨hI, RX, RM, g0, SX, HK⟩ := id St
  have hx := C.1.1
  have hb := C.1.2.1
  refine lv_aload_n hx hb dL_law_1599 rfl (lv_at hl 1 rfl) ?_
  refine law_arg (j := 1) C hW.2.2 (lv_at hl 0 rfl) (lv_at hl 4 rfl) (by omega) hL rfl dL_law_1600 dL_law_1601 dL_law_1603 dL_law_1604 dL_law_1605 ?_
  refine law_x (as := [.int (xs (i + 1))]) (rest := []) C vL_180 (x_resting (I := In) (shX_ok v) In_x RX hI _) rfl rfl rfl (by decide) ⟨by decide, by decide⟩ hcs hl.1 (by show (0 : Nat) ≤ 8; omega) dL_law_1606 hW (fun r μX1 H1 locs1 hq hW1 => ?_)
  obtain ⟨rfl, RX1, hI1⟩ := hq
  refine lv_aload_n hx hb dL_law_1609 rfl (lv_at hl 2 rfl) ?_
  refine law_arg (j := 1) C hW1.2.2 (lv_at hl 0 rfl) (lv_at hl 4 rfl) (by omega) hL rfl dL_law_1610 dL_law_1611 dL_law_1613 dL_law_1614 dL_law_1615 ?_
  refine law_m (as := [.int (xs (i + 1))]) C vL_183 (m_resting shM_ok RM hI.1 g0 _) rfl rfl rfl (by decide) ⟨by decide, by decide⟩ hcs hl.1 (by show (1 : Nat) ≤ 8; omega) dL_law_1616 hW1 (fun r μM1 H2 locs2 hq2 hW2 => ?_)
  have hq3 := hq2
  obtain ⟨rfl, _⟩ := hq2
  refine lv_icmp_eq (tgt := 1773) hx hb dL_law_1619 (by decide) (fun _ => ?_) (fun ne => absurd rfl ne)
  exact nxt _ _ _ _ _ (St.mt hI1 RX1 hq3) hW2
theorem law_later (C : LCx D cA σ p s m meth c b L xs) (hL : L ≤ 3072) (hi : i + 6 ≤ L) (hcs : cells ≤ 601024 ∧ slots ≤ 7293034) (hl : lv_has ls 7 [(0, .ref b), (1, .ref (ρX 0)), (2, .ref (ρM 0)), (3, .ref oA), (4, .int (nI i))]) (St : LSt K s0 μX μM) (hW : LWs D cA s ρX ρM v μX μM R H locs) (nxt : ∀ (s1 : Fo) (μX1 μM1 : mm_U) (H1 : Heap) (locs1 : List Loc), LSt K s1 μX1 μM1 → LWs D cA s ρX ρM v μX1 μM1 R H1 locs1 → W p l e room_1 s m #[Value.ref b] below meth c H1 locs1 cells slots Q (F0 m 1773 ls [])) : W p l e room_1 s m #[Value.ref b] below meth c H locs cells slots Q (F0 m 1624 ls []) := by
  obtain ⟨hI, RX, RM, g0, SX, HK⟩ := id St
  have hx := C.1.1
  have hb := C.1.2.1
  refine lv_aload_n hx hb dL_law_1624 rfl (lv_at hl 1 rfl) ?_
  refine law_arg (j := 1) C hW.2.2 (lv_at hl 0 rfl) (lv_at hl 4 rfl) (by omega) hL rfl dL_law_1625 dL_law_1626 dL_law_1628 dL_law_1629 dL_law_1630 ?_
  refine law_arg (j := 2) C hW.2.2 (lv_at hl 0 rfl) (lv_at hl 4 rfl) (by omega) hL rfl dL_law_1631 dL_law_1632 dL_law_1634 dL_law_1635 dL_law_1636 ?_
  refine law_x (as := [.int (xs (i + 1)), .int (xs (i + 2))]) (rest := []) C vL_184 (x_later (I := In) (shX_ok v) In_x RX hI _ _) rfl rfl rfl (by decide) ⟨by decide, by decide⟩ hcs hl.1 (by show (0 : Nat) ≤ 8; omega) dL_law_1637 hW (fun r μX1 H1 locs1 hq hW1 => ?_)
  obtain ⟨rfl, RX1, hI1⟩ := hq
  refine lv_aload_n hx hb dL_law_1640 rfl (lv_at hl 2 rfl) ?_
  refine law_arg (j := 1) C hW1.2.2 (lv_at hl 0 rfl) (lv_at hl 4 rfl) (by omega) hL rfl dL_law_1641 dL_law_1642 dL_law_1644 dL_law_1645 dL_law_1646 ?_
  refine law_arg (j := 2) C hW1.2.2 (lv_at hl 0 rfl) (lv_at hl 4 rfl) (by omega) hL rfl dL_law_1647 dL_law_1648 dL_law_1650 dL_law_1651 dL_law_1652 ?_
  refine law_m (as := [.int (xs (i + 1)), .int (xs (i + 2))]) C vL_187 (m_later shM_ok RM hI.1 g0 _ _) rfl rfl rfl (by decide) ⟨by decide, by decide⟩ hcs hl.1 (by show (1 : Nat) ≤ 8; omega) dL_law_1653 hW1 (fun r μM1 H2 locs2 hq2 hW2 => ?_)
  have hq3 := hq2
  obtain ⟨rfl, _⟩ := hq2
  refine lv_icmp_eq (tgt := 1773) hx hb dL_law_1656 (by decide) (fun _ => ?_) (fun ne => absurd rfl ne)
  exact nxt _ _ _ _ _ (St.mt hI1 RX1 hq3) hW2
theorem law_gone (C : LCx D cA σ p s m meth c b L xs) (hL : L ≤ 3072) (hi : i + 6 ≤ L) (hcs : cells ≤ 601024 ∧ slots ≤ 7293034) (hl : lv_has ls 7 [(0, .ref b), (1, .ref (ρX 0)), (2, .ref (ρM 0)), (3, .ref oA), (4, .int (nI i))]) (St : LSt K s0 μX μM) (hW : LWs D cA s ρX ρM v μX μM R H locs) (nxt : ∀ (s1 : Fo) (μX1 μM1 : mm_U) (H1 : Heap) (locs1 : List Loc), LSt K s1 μX1 μM1 → LWs D cA s ρX ρM v μX1 μM1 R H1 locs1 → W p l e room_1 s m #[Value.ref b] below meth c H1 locs1 cells slots Q (F0 m 1773 ls [])) : W p l e room_1 s m #[Value.ref b] below meth c H locs cells slots Q (F0 m 1661 ls []) := by
  obtain ⟨hI, RX, RM, g0, SX, HK⟩ := id St
  have hx := C.1.1
  have hb := C.1.2.1
  refine lv_aload_n hx hb dL_law_1661 rfl (lv_at hl 1 rfl) ?_
  refine law_arg (j := 1) C hW.2.2 (lv_at hl 0 rfl) (lv_at hl 4 rfl) (by omega) hL rfl dL_law_1662 dL_law_1663 dL_law_1665 dL_law_1666 dL_law_1667 ?_
  refine law_x (as := [.int (xs (i + 1))]) (rest := []) C vL_188 (x_gone (I := In) (shX_ok v) In_x RX hI _) rfl rfl rfl (by decide) ⟨by decide, by decide⟩ hcs hl.1 (by show (0 : Nat) ≤ 8; omega) dL_law_1668 hW (fun r μX1 H1 locs1 hq hW1 => ?_)
  obtain ⟨rfl, RX1, hI1⟩ := hq
  refine lv_aload_n hx hb dL_law_1671 rfl (lv_at hl 2 rfl) ?_
  refine law_arg (j := 1) C hW1.2.2 (lv_at hl 0 rfl) (lv_at hl 4 rfl) (by omega) hL rfl dL_law_1672 dL_law_1673 dL_law_1675 dL_law_1676 dL_law_1677 ?_
  refine law_m (as := [.int (xs (i + 1))]) C vL_191 (m_gone shM_ok RM hI.1 g0 _) rfl rfl rfl (by decide) ⟨by decide, by decide⟩ hcs hl.1 (by show (1 : Nat) ≤ 8; omega) dL_law_1678 hW1 (fun r μM1 H2 locs2 hq2 hW2 => ?_)
  have hq3 := hq2
  obtain ⟨rfl, _⟩ := hq2
  refine lv_icmp_eq (tgt := 1773) hx hb dL_law_1681 (by decide) (fun _ => ?_) (fun ne => absurd rfl ne)
  exact nxt _ _ _ _ _ (St.mt hI1 RX1 hq3) hW2
theorem law_first (C : LCx D cA σ p s m meth c b L xs) (hL : L ≤ 3072) (hi : i + 6 ≤ L) (hcs : cells ≤ 601024 ∧ slots ≤ 7293034) (hl : lv_has ls 7 [(0, .ref b), (1, .ref (ρX 0)), (2, .ref (ρM 0)), (3, .ref oA), (4, .int (nI i))]) (St : LSt K s0 μX μM) (hW : LWs D cA s ρX ρM v μX μM R H locs) (nxt : ∀ (s1 : Fo) (μX1 μM1 : mm_U) (H1 : Heap) (locs1 : List Loc), LSt K s1 μX1 μM1 → LWs D cA s ρX ρM v μX1 μM1 R H1 locs1 → W p l e room_1 s m #[Value.ref b] below meth c H1 locs1 cells slots Q (F0 m 1773 ls [])) : W p l e room_1 s m #[Value.ref b] below meth c H locs cells slots Q (F0 m 1686 ls []) := by
  obtain ⟨hI, RX, RM, g0, SX, HK⟩ := id St
  have hx := C.1.1
  have hb := C.1.2.1
  refine lv_aload_n hx hb dL_law_1686 rfl (lv_at hl 1 rfl) ?_
  refine law_arg (j := 1) C hW.2.2 (lv_at hl 0 rfl) (lv_at hl 4 rfl) (by omega) hL rfl dL_law_1687 dL_law_1688 dL_law_1690 dL_law_1691 dL_law_1692 ?_
  refine law_x (as := [.int (xs (i + 1))]) (rest := []) C vL_192 (x_first (I := In) (shX_ok v) In_x RX hI _) rfl rfl rfl (by decide) ⟨by decide, by decide⟩ hcs hl.1 (by show (0 : Nat) ≤ 8; omega) dL_law_1693 hW (fun r μX1 H1 locs1 hq hW1 => ?_)
  obtain ⟨rfl, RX1, hI1⟩ := hq
  refine lv_aload_n hx hb dL_law_1696 rfl (lv_at hl 2 rfl) ?_
  refine law_arg (j := 1) C hW1.2.2 (lv_at hl 0 rfl) (lv_at hl 4 rfl) (by omega) hL rfl dL_law_1697 dL_law_1698 dL_law_1700 dL_law_1701 dL_law_1702 ?_
  refine law_m (as := [.int (xs (i + 1))]) C vL_195 (m_first shM_ok RM hI.1 g0 _) rfl rfl rfl (by decide) ⟨by decide, by decide⟩ hcs hl.1 (by show (1 : Nat) ≤ 8; omega) dL_law_1703 hW1 (fun r μM1 H2 locs2 hq2 hW2 => ?_)
  have hq3 := hq2
  obtain ⟨rfl, _⟩ := hq2
  refine lv_icmp_eq (tgt := 1773) hx hb dL_law_1706 (by decide) (fun _ => ?_) (fun ne => absurd rfl ne)
  exact nxt _ _ _ _ _ (St.mt hI1 RX1 hq3) hW2
theorem law_log (C : LCx D cA σ p s m meth c b L xs) (hL : L ≤ 3072) (hi : i + 6 ≤ L) (hcs : cells ≤ 601024 ∧ slots ≤ 7293034) (hl : lv_has ls 7 [(0, .ref b), (1, .ref (ρX 0)), (2, .ref (ρM 0)), (3, .ref oA), (4, .int (nI i))]) (St : LSt K s0 μX μM) (hW : LWs D cA s ρX ρM v μX μM R H locs) (nxt : ∀ (s1 : Fo) (μX1 μM1 : mm_U) (H1 : Heap) (locs1 : List Loc), LSt K s1 μX1 μM1 → LWs D cA s ρX ρM v μX1 μM1 R H1 locs1 → W p l e room_1 s m #[Value.ref b] below meth c H1 locs1 cells slots Q (F0 m 1773 ls [])) : W p l e room_1 s m #[Value.ref b] below meth c H locs cells slots Q (F0 m 1711 ls []) := by
  obtain ⟨hI, RX, RM, g0, SX, HK⟩ := id St
  have hx := C.1.1
  have hb := C.1.2.1
  refine lv_aload_n hx hb dL_law_1711 rfl (lv_at hl 1 rfl) ?_
  refine law_arg (j := 1) C hW.2.2 (lv_at hl 0 rfl) (lv_at hl 4 rfl) (by omega) hL rfl dL_law_1712 dL_law_1713 dL_law_1715 dL_law_1716 dL_law_1717 ?_
  refine law_arg (j := 2) C hW.2.2 (lv_at hl 0 rfl) (lv_at hl 4 rfl) (by omega) hL rfl dL_law_1718 dL_law_1719 dL_law_1721 dL_law_1722 dL_law_1723 ?_
  refine law_x (as := [.int (xs (i + 1)), .int (xs (i + 2))]) (rest := []) C vL_196 (x_log (I := In) (shX_ok v) In_x RX hI _ _) rfl rfl rfl (by decide) ⟨by decide, by decide⟩ hcs hl.1 (by show (0 : Nat) ≤ 8; omega) dL_law_1724 hW (fun r μX1 H1 locs1 hq hW1 => ?_)
  obtain ⟨rfl, RX1, hI1⟩ := hq
  refine lv_aload_n hx hb dL_law_1727 rfl (lv_at hl 2 rfl) ?_
  refine law_arg (j := 1) C hW1.2.2 (lv_at hl 0 rfl) (lv_at hl 4 rfl) (by omega) hL rfl dL_law_1728 dL_law_1729 dL_law_1731 dL_law_1732 dL_law_1733 ?_
  refine law_arg (j := 2) C hW1.2.2 (lv_at hl 0 rfl) (lv_at hl 4 rfl) (by omega) hL rfl dL_law_1734 dL_law_1735 dL_law_1737 dL_law_1738 dL_law_1739 ?_
  refine law_m (as := [.int (xs (i + 1)), .int (xs (i + 2))]) C vL_199 (m_log shM_ok RM hI.1 g0 _ _) rfl rfl rfl (by decide) ⟨by decide, by decide⟩ hcs hl.1 (by show (1 : Nat) ≤ 8; omega) dL_law_1740 hW1 (fun r μM1 H2 locs2 hq2 hW2 => ?_)
  have hq3 := hq2
  obtain ⟨rfl, _⟩ := hq2
  refine lv_icmp_eq (tgt := 1773) hx hb dL_law_1743 (by decide) (fun _ => ?_) (fun ne => absurd rfl ne)
  exact nxt _ _ _ _ _ (St.mt hI1 RX1 hq3) hW2
theorem law_count (C : LCx D cA σ p s m meth c b L xs) (hL : L ≤ 3072) (hi : i + 6 ≤ L) (hcs : cells ≤ 601024 ∧ slots ≤ 7293034) (hl : lv_has ls 7 [(0, .ref b), (1, .ref (ρX 0)), (2, .ref (ρM 0)), (3, .ref oA), (4, .int (nI i))]) (St : LSt K s0 μX μM) (hW : LWs D cA s ρX ρM v μX μM R H locs) (nxt : ∀ (s1 : Fo) (μX1 μM1 : mm_U) (H1 : Heap) (locs1 : List Loc), LSt K s1 μX1 μM1 → LWs D cA s ρX ρM v μX1 μM1 R H1 locs1 → W p l e room_1 s m #[Value.ref b] below meth c H1 locs1 cells slots Q (F0 m 1773 ls [])) : W p l e room_1 s m #[Value.ref b] below meth c H locs cells slots Q (F0 m 1748 ls []) := by
  obtain ⟨hI, RX, RM, g0, SX, HK⟩ := id St
  have hx := C.1.1
  have hb := C.1.2.1
  refine lv_aload_n hx hb dL_law_1748 rfl (lv_at hl 1 rfl) ?_
  refine law_arg (j := 1) C hW.2.2 (lv_at hl 0 rfl) (lv_at hl 4 rfl) (by omega) hL rfl dL_law_1749 dL_law_1750 dL_law_1752 dL_law_1753 dL_law_1754 ?_
  refine law_x (as := [.int (xs (i + 1))]) (rest := []) C vL_200 (x_count (I := In) (shX_ok v) In_x RX hI _) rfl rfl rfl (by decide) ⟨by decide, by decide⟩ hcs hl.1 (by show (0 : Nat) ≤ 8; omega) dL_law_1755 hW (fun r μX1 H1 locs1 hq hW1 => ?_)
  obtain ⟨rfl, RX1, hI1⟩ := hq
  refine lv_aload_n hx hb dL_law_1758 rfl (lv_at hl 2 rfl) ?_
  refine law_arg (j := 1) C hW1.2.2 (lv_at hl 0 rfl) (lv_at hl 4 rfl) (by omega) hL rfl dL_law_1759 dL_law_1760 dL_law_1762 dL_law_1763 dL_law_1764 ?_
  refine law_m (as := [.int (xs (i + 1))]) C vL_203 (m_count shM_ok RM hI.1 g0 _) rfl rfl rfl (by decide) ⟨by decide, by decide⟩ hcs hl.1 (by show (1 : Nat) ≤ 8; omega) dL_law_1765 hW1 (fun r μM1 H2 locs2 hq2 hW2 => ?_)
  have hq3 := hq2
  obtain ⟨rfl, _⟩ := hq2
  refine lv_icmp_eq (tgt := 1773) hx hb dL_law_1768 (by decide) (fun _ => ?_) (fun ne => absurd rfl ne)
  exact nxt _ _ _ _ _ (St.mt hI1 RX1 hq3) hW2
end LAWC
