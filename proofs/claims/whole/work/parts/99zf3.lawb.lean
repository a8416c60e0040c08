/-! THE LAW: its branches. -/
section VL9
variable {X : xX} {G : gG} {tb : List ExceptionTableEntry} {Q : State → Prop} {k n b m c : Nat} {i : Int32} {S : sS} {ad : Nat → Nat → Nat} {σ : aS}
theorem lb_came {y : Nat → Int32} (C : Cx X G RL cL_law 7 (some .boolean) room_1 tb) (hl : X.2.1.stackTraces = false) (hs : SC X G b i y) (hk : k + 40 ≤ 601024 ∧ n + 400 ≤ 7293034) (hW : LW S m c ad σ) (hn : cN σ 27 < 512) (kk : ∀ T ad' σ', LW T m c ad' σ' → ad' 8 0 = ad 8 0 → cN σ' 27 ≤ cN σ 27 + 1 → V X G 7 Q (k + 40) (n + 400) 2121 [(4, false, .int i), (3, false, .ref c), (2, false, .ref m), (1, false, .ref (ad 8 0)), (0, false, .ref b)] [] T) : V X G 7 Q k n 1423 [(4, false, .int i), (3, false, .ref c), (2, false, .ref m), (1, false, .ref (ad 8 0)), (0, false, .ref b)] [] S := by
  obtain ⟨hR, hC, hG, hI, hc⟩ := hW
  have hN : NX σ (oCame σ (y 1)) (tCame σ (y 1)) := NX_Came (σ := σ) hI
  refine V_aload_n C dL_law_1423 rfl (isR_r _) ?_
  refine V_arg C hs 1 1 (by decide) dL_law_1424 dL_law_1425 dL_law_1427 dL_law_1428 dL_law_1429 ?_
  refine V_callH C (h_came X.2.1 hl G S ad σ hC hG hI c hc (y 1)) kh_L_185 ⟨by decide, by decide⟩ ⟨Nat.le_trans (Nat.add_le_add_left (by decide) _) hk.1, Nat.le_trans (Nat.add_le_add_left (by decide) _) hk.2⟩ rfl rfl (Nat.le_of_ble_eq_true rfl) dL_law_1430 (fun v T hT => ?_)
  obtain ⟨rfl, hL, hcT⟩ := hT
  refine V_widen (k' := k + 40) (n' := n + 400) (Nat.add_le_add_left (by decide) _) (Nat.add_le_add_left (by decide) _) ?_
  dsimp only [Option.toList_some, Option.toList_none, List.cons_append, List.nil_append]
  have hRT : RelR T m σ := RelR_LH hR hL
  refine V_istore C dL_law_1433 (by decide) rfl ?_
  refine V_aload_n C dL_law_1435 rfl (isR_r _) ?_
  refine V_arg C hs 1 1 (by decide) dL_law_1436 dL_law_1437 dL_law_1439 dL_law_1440 dL_law_1441 ?_
  refine V_callV C (c_X9_came X.2.1 hl G T m σ hRT hI.1 (y 1)) kv_L_188 cf_9 (by decide) rfl hRT.1 ⟨by decide, by decide⟩ ⟨hk.1, hk.2⟩ rfl rfl (Nat.le_of_ble_eq_true rfl) dL_law_1442 (fun w U hU => ?_) (fun _ _ z => z.elim)
  obtain ⟨rfl, hRU, hFU⟩ := hU
  dsimp only [Option.toList_some, Option.toList_none, List.cons_append, List.nil_append]
  refine V_aload_n C dL_law_1445 rfl (isR_r _) ?_
  refine V_callV C (c_X9_thrown X.2.1 hl G U m (oCame σ (y 1)) hRU) kv_L_123 cf_9 (by decide) rfl hRU.1 ⟨by decide, by decide⟩ ⟨hk.1, hk.2⟩ rfl rfl (Nat.le_of_ble_eq_true rfl) dL_law_1446 (fun w W9 hW9 => ?_) (fun _ _ z => z.elim)
  obtain ⟨rfl, hRW, hFW⟩ := hW9
  dsimp only [Option.toList_some, Option.toList_none, List.cons_append, List.nil_append]
  refine V_iload C dL_law_1449 rfl ?_
  refine V_icmp_eq C (tgt := 1456) dL_law_1451 (by decide) (fun _ => ?_) (fun z => absurd hN.2 z)
  have hF := Fr_tr hFU hFW
  have fin : ∀ lo9, lsub [(4, false, .int i), (3, false, .ref c), (2, false, .ref m), (1, false, .ref (ad 8 0)), (0, false, .ref b)] lo9 → V X G 7 Q (k + 40) (n + 400) 2121 lo9 [] W9 := fun lo9 h9 => V_sub h9 (lb_fin hL hcT hF ⟨hRW.1, hRW.2⟩ hN.1 kk)
  exact V_goto C (tgt := 2121) dL_law_1456 (by decide) (fin _ (by repeat first | exact trivial | refine ⟨rfl, ?_⟩))
theorem lb_pay {y : Nat → Int32} (C : Cx X G RL cL_law 7 (some .boolean) room_1 tb) (hl : X.2.1.stackTraces = false) (hs : SC X G b i y) (hk : k + 40 ≤ 601024 ∧ n + 400 ≤ 7293034) (hW : LW S m c ad σ) (hn : cN σ 27 < 512) (kk : ∀ T ad' σ', LW T m c ad' σ' → ad' 8 0 = ad 8 0 → cN σ' 27 ≤ cN σ 27 + 1 → V X G 7 Q (k + 40) (n + 400) 2121 [(4, false, .int i), (3, false, .ref c), (2, false, .ref m), (1, false, .ref (ad 8 0)), (0, false, .ref b)] [] T) : V X G 7 Q k n 1459 [(4, false, .int i), (3, false, .ref c), (2, false, .ref m), (1, false, .ref (ad 8 0)), (0, false, .ref b)] [] S := by
  obtain ⟨hR, hC, hG, hI, hc⟩ := hW
  have hN : NX σ (oPay σ (y 1) (y 2)).2 (tPay σ (y 1) (y 2)) := NX_Pay (σ := σ) hI
  refine V_aload_n C dL_law_1459 rfl (isR_r _) ?_
  refine V_arg C hs 1 1 (by decide) dL_law_1460 dL_law_1461 dL_law_1463 dL_law_1464 dL_law_1465 ?_
  refine V_arg C hs 2 2 (by decide) dL_law_1466 dL_law_1467 dL_law_1469 dL_law_1470 dL_law_1471 ?_
  refine V_aload_n C dL_law_1472 rfl (isR_r _) ?_
  refine V_callH C (h_pay X.2.1 hl G S ad σ hC hG hI c hc (y 1) (y 2)) kh_L_189 ⟨by decide, by decide⟩ ⟨Nat.le_trans (Nat.add_le_add_left (by decide) _) hk.1, Nat.le_trans (Nat.add_le_add_left (by decide) _) hk.2⟩ rfl rfl (Nat.le_of_ble_eq_true rfl) dL_law_1473 (fun v T hT => ?_)
  obtain ⟨rfl, hL, hcT, hJ⟩ := hT
  refine V_widen (k' := k + 40) (n' := n + 400) (Nat.add_le_add_left (by decide) _) (Nat.add_le_add_left (by decide) _) ?_
  dsimp only [Option.toList_some, Option.toList_none, List.cons_append, List.nil_append]
  have hRT : RelR T m σ := RelR_LH hR hL
  refine V_istore C dL_law_1476 (by decide) rfl ?_
  refine V_aload_n C dL_law_1478 rfl (isR_r _) ?_
  refine V_arg C hs 1 1 (by decide) dL_law_1479 dL_law_1480 dL_law_1482 dL_law_1483 dL_law_1484 ?_
  refine V_arg C hs 2 2 (by decide) dL_law_1485 dL_law_1486 dL_law_1488 dL_law_1489 dL_law_1490 ?_
  refine V_callV C (c_X9_pay X.2.1 hl G T m σ hRT hI.1 (y 1) (y 2)) kv_L_191 cf_9 (by decide) rfl hRT.1 ⟨by decide, by decide⟩ ⟨hk.1, hk.2⟩ rfl rfl (Nat.le_of_ble_eq_true rfl) dL_law_1491 (fun w U hU => ?_) (fun _ _ z => z.elim)
  obtain ⟨rfl, hRU, hFU⟩ := hU
  dsimp only [Option.toList_some, Option.toList_none, List.cons_append, List.nil_append]
  refine V_istore C dL_law_1494 (by decide) rfl ?_
  refine V_aload_n C dL_law_1496 rfl (isR_r _) ?_
  refine V_callV C (c_X9_thrown X.2.1 hl G U m (oPay σ (y 1) (y 2)).2 hRU) kv_L_123 cf_9 (by decide) rfl hRU.1 ⟨by decide, by decide⟩ ⟨hk.1, hk.2⟩ rfl rfl (Nat.le_of_ble_eq_true rfl) dL_law_1497 (fun w W9 hW9 => ?_) (fun _ _ z => z.elim)
  obtain ⟨rfl, hRW, hFW⟩ := hW9
  dsimp only [Option.toList_some, Option.toList_none, List.cons_append, List.nil_append]
  refine V_iload C dL_law_1500 rfl ?_
  refine V_icmp_eq C (tgt := 1507) dL_law_1502 (by decide) (fun _ => ?_) (fun z => absurd hN.2 z)
  have hF := Fr_tr hFU hFW
  have fin : ∀ lo9, lsub [(4, false, .int i), (3, false, .ref c), (2, false, .ref m), (1, false, .ref (ad 8 0)), (0, false, .ref b)] lo9 → V X G 7 Q (k + 40) (n + 400) 2121 lo9 [] W9 := fun lo9 h9 => V_sub h9 (lb_fin hL hcT hF ⟨hRW.1, hRW.2⟩ hN.1 kk)
  refine V_iload C dL_law_1507 rfl ?_
  refine V_if_ne C (tgt := 1524) dL_law_1509 (by decide) (fun _ => ?_) (fun h0 => ?_)
  · exact V_goto C (tgt := 2121) dL_law_1524 (by decide) (fin _ (by repeat first | exact trivial | refine ⟨rfl, ?_⟩))
  · refine V_aload_n C dL_law_1512 rfl (isR_r _) ?_
    refine V_iconst C (v := 0) dL_law_1513 (by decide) ?_
    obtain ⟨w1, w2, w3⟩ := row_M hcT hF
    refine V_lald C w1 (by decide) (by rw [w2]; exact (show ¬ ((0 : Int32) < 0 ∨ 1 ≤ Int32.toNatClampNeg 0) by decide)) dL_law_1514 ?_
    rw [show sJ W9 c (Int32.toNatClampNeg 0) = (oPay σ (y 1) (y 2)).1.toInt64 from (w3 0).trans (hJ h0)]
    refine V_iload C dL_law_1515 rfl ?_
    refine V_i2l C dL_law_1517 ?_
    refine V_lcmp C dL_law_1518 ?_
    refine V_if_eq C (tgt := 1524) dL_law_1519 (by decide) (fun _ => ?_) (fun z => absurd (lc_self _) z)
    exact V_goto C (tgt := 2121) dL_law_1524 (by decide) (fin _ (by repeat first | exact trivial | refine ⟨rfl, ?_⟩))
theorem lb_owed {y : Nat → Int32} (C : Cx X G RL cL_law 7 (some .boolean) room_1 tb) (hl : X.2.1.stackTraces = false) (hs : SC X G b i y) (hk : k + 40 ≤ 601024 ∧ n + 400 ≤ 7293034) (hW : LW S m c ad σ) (hn : cN σ 27 < 512) (kk : ∀ T ad' σ', LW T m c ad' σ' → ad' 8 0 = ad 8 0 → cN σ' 27 ≤ cN σ 27 + 1 → V X G 7 Q (k + 40) (n + 400) 2121 [(4, false, .int i), (3, false, .ref c), (2, false, .ref m), (1, false, .ref (ad 8 0)), (0, false, .ref b)] [] T) : V X G 7 Q k n 1527 [(4, false, .int i), (3, false, .ref c), (2, false, .ref m), (1, false, .ref (ad 8 0)), (0, false, .ref b)] [] S := by
  obtain ⟨hR, hC, hG, hI, hc⟩ := hW
  have hN : NX σ (oOwed σ (y 1)).2 (tH σ (y 1)) := NX_Owed (σ := σ) hI
  refine V_aload_n C dL_law_1527 rfl (isR_r _) ?_
  refine V_arg C hs 1 1 (by decide) dL_law_1528 dL_law_1529 dL_law_1531 dL_law_1532 dL_law_1533 ?_
  refine V_aload_n C dL_law_1534 rfl (isR_r _) ?_
  refine V_callH C (h_owed X.2.1 hl G S ad σ hC hG hI c hc (y 1)) kh_L_192 ⟨by decide, by decide⟩ ⟨Nat.le_trans (Nat.add_le_add_left (by decide) _) hk.1, Nat.le_trans (Nat.add_le_add_left (by decide) _) hk.2⟩ rfl rfl (Nat.le_of_ble_eq_true rfl) dL_law_1535 (fun v T hT => ?_)
  obtain ⟨rfl, hL, hcT, hJ⟩ := hT
  refine V_widen (k' := k + 40) (n' := n + 400) (Nat.add_le_add_left (by decide) _) (Nat.add_le_add_left (by decide) _) ?_
  dsimp only [Option.toList_some, Option.toList_none, List.cons_append, List.nil_append]
  have hRT : RelR T m σ := RelR_LH hR hL
  refine V_istore C dL_law_1538 (by decide) rfl ?_
  refine V_aload_n C dL_law_1540 rfl (isR_r _) ?_
  refine V_arg C hs 1 1 (by decide) dL_law_1541 dL_law_1542 dL_law_1544 dL_law_1545 dL_law_1546 ?_
  refine V_callV C (c_X9_owed X.2.1 hl G T m σ hRT hI.1 (y 1)) kv_L_194 cf_9 (by decide) rfl hRT.1 ⟨by decide, by decide⟩ ⟨hk.1, hk.2⟩ rfl rfl (Nat.le_of_ble_eq_true rfl) dL_law_1547 (fun w U hU => ?_) (fun _ _ z => z.elim)
  obtain ⟨rfl, hRU, hFU⟩ := hU
  dsimp only [Option.toList_some, Option.toList_none, List.cons_append, List.nil_append]
  refine V_istore C dL_law_1550 (by decide) rfl ?_
  refine V_aload_n C dL_law_1552 rfl (isR_r _) ?_
  refine V_callV C (c_X9_thrown X.2.1 hl G U m (oOwed σ (y 1)).2 hRU) kv_L_123 cf_9 (by decide) rfl hRU.1 ⟨by decide, by decide⟩ ⟨hk.1, hk.2⟩ rfl rfl (Nat.le_of_ble_eq_true rfl) dL_law_1553 (fun w W9 hW9 => ?_) (fun _ _ z => z.elim)
  obtain ⟨rfl, hRW, hFW⟩ := hW9
  dsimp only [Option.toList_some, Option.toList_none, List.cons_append, List.nil_append]
  refine V_iload C dL_law_1556 rfl ?_
  refine V_icmp_eq C (tgt := 1563) dL_law_1558 (by decide) (fun _ => ?_) (fun z => absurd hN.2 z)
  have hF := Fr_tr hFU hFW
  have fin : ∀ lo9, lsub [(4, false, .int i), (3, false, .ref c), (2, false, .ref m), (1, false, .ref (ad 8 0)), (0, false, .ref b)] lo9 → V X G 7 Q (k + 40) (n + 400) 2121 lo9 [] W9 := fun lo9 h9 => V_sub h9 (lb_fin hL hcT hF ⟨hRW.1, hRW.2⟩ hN.1 kk)
  refine V_iload C dL_law_1563 rfl ?_
  refine V_if_ne C (tgt := 1580) dL_law_1565 (by decide) (fun _ => ?_) (fun h0 => ?_)
  · exact V_goto C (tgt := 2121) dL_law_1580 (by decide) (fin _ (by repeat first | exact trivial | refine ⟨rfl, ?_⟩))
  · refine V_aload_n C dL_law_1568 rfl (isR_r _) ?_
    refine V_iconst C (v := 0) dL_law_1569 (by decide) ?_
    obtain ⟨w1, w2, w3⟩ := row_M hcT hF
    refine V_lald C w1 (by decide) (by rw [w2]; exact (show ¬ ((0 : Int32) < 0 ∨ 1 ≤ Int32.toNatClampNeg 0) by decide)) dL_law_1570 ?_
    rw [show sJ W9 c (Int32.toNatClampNeg 0) = (oOwed σ (y 1)).1.toInt64 from (w3 0).trans (hJ h0)]
    refine V_iload C dL_law_1571 rfl ?_
    refine V_i2l C dL_law_1573 ?_
    refine V_lcmp C dL_law_1574 ?_
    refine V_if_eq C (tgt := 1580) dL_law_1575 (by decide) (fun _ => ?_) (fun z => absurd (lc_self _) z)
    exact V_goto C (tgt := 2121) dL_law_1580 (by decide) (fin _ (by repeat first | exact trivial | refine ⟨rfl, ?_⟩))
theorem lb_handOver {y : Nat → Int32} (C : Cx X G RL cL_law 7 (some .boolean) room_1 tb) (hl : X.2.1.stackTraces = false) (hs : SC X G b i y) (hk : k + 40 ≤ 601024 ∧ n + 400 ≤ 7293034) (hW : LW S m c ad σ) (hn : cN σ 27 < 512) (kk : ∀ T ad' σ', LW T m c ad' σ' → ad' 8 0 = ad 8 0 → cN σ' 27 ≤ cN σ 27 + 1 → V X G 7 Q (k + 40) (n + 400) 2121 [(4, false, .int i), (3, false, .ref c), (2, false, .ref m), (1, false, .ref (ad 8 0)), (0, false, .ref b)] [] T) : V X G 7 Q k n 1583 [(4, false, .int i), (3, false, .ref c), (2, false, .ref m), (1, false, .ref (ad 8 0)), (0, false, .ref b)] [] S := by
  obtain ⟨hR, hC, hG, hI, hc⟩ := hW
  have hN : NX σ (oHand σ (y 1) (y 2)).2 (tHand σ (y 1) (y 2)) := NX_Hand (σ := σ) hI
  refine V_aload_n C dL_law_1583 rfl (isR_r _) ?_
  refine V_arg C hs 1 1 (by decide) dL_law_1584 dL_law_1585 dL_law_1587 dL_law_1588 dL_law_1589 ?_
  refine V_arg C hs 2 2 (by decide) dL_law_1590 dL_law_1591 dL_law_1593 dL_law_1594 dL_law_1595 ?_
  refine V_aload_n C dL_law_1596 rfl (isR_r _) ?_
  refine V_callH C (h_handOver X.2.1 hl G S ad σ hC hG hI c hc (y 1) (y 2)) kh_L_195 ⟨by decide, by decide⟩ ⟨Nat.le_trans (Nat.add_le_add_left (by decide) _) hk.1, Nat.le_trans (Nat.add_le_add_left (by decide) _) hk.2⟩ rfl rfl (Nat.le_of_ble_eq_true rfl) dL_law_1597 (fun v T hT => ?_)
  obtain ⟨rfl, hL, hcT, hJ⟩ := hT
  refine V_widen (k' := k + 40) (n' := n + 400) (Nat.add_le_add_left (by decide) _) (Nat.add_le_add_left (by decide) _) ?_
  dsimp only [Option.toList_some, Option.toList_none, List.cons_append, List.nil_append]
  have hRT : RelR T m σ := RelR_LH hR hL
  refine V_istore C dL_law_1600 (by decide) rfl ?_
  refine V_aload_n C dL_law_1602 rfl (isR_r _) ?_
  refine V_arg C hs 1 1 (by decide) dL_law_1603 dL_law_1604 dL_law_1606 dL_law_1607 dL_law_1608 ?_
  refine V_arg C hs 2 2 (by decide) dL_law_1609 dL_law_1610 dL_law_1612 dL_law_1613 dL_law_1614 ?_
  refine V_callV C (c_X9_handOver X.2.1 hl G T m σ hRT hI.1 (y 1) (y 2)) kv_L_197 cf_9 (by decide) rfl hRT.1 ⟨by decide, by decide⟩ ⟨hk.1, hk.2⟩ rfl rfl (Nat.le_of_ble_eq_true rfl) dL_law_1615 (fun w U hU => ?_) (fun _ _ z => z.elim)
  obtain ⟨rfl, hRU, hFU⟩ := hU
  dsimp only [Option.toList_some, Option.toList_none, List.cons_append, List.nil_append]
  refine V_istore C dL_law_1618 (by decide) rfl ?_
  refine V_aload_n C dL_law_1620 rfl (isR_r _) ?_
  refine V_callV C (c_X9_thrown X.2.1 hl G U m (oHand σ (y 1) (y 2)).2 hRU) kv_L_123 cf_9 (by decide) rfl hRU.1 ⟨by decide, by decide⟩ ⟨hk.1, hk.2⟩ rfl rfl (Nat.le_of_ble_eq_true rfl) dL_law_1621 (fun w W9 hW9 => ?_) (fun _ _ z => z.elim)
  obtain ⟨rfl, hRW, hFW⟩ := hW9
  dsimp only [Option.toList_some, Option.toList_none, List.cons_append, List.nil_append]
  refine V_iload C dL_law_1624 rfl ?_
  refine V_icmp_eq C (tgt := 1631) dL_law_1626 (by decide) (fun _ => ?_) (fun z => absurd hN.2 z)
  have hF := Fr_tr hFU hFW
  have fin : ∀ lo9, lsub [(4, false, .int i), (3, false, .ref c), (2, false, .ref m), (1, false, .ref (ad 8 0)), (0, false, .ref b)] lo9 → V X G 7 Q (k + 40) (n + 400) 2121 lo9 [] W9 := fun lo9 h9 => V_sub h9 (lb_fin hL hcT hF ⟨hRW.1, hRW.2⟩ hN.1 kk)
  refine V_iload C dL_law_1631 rfl ?_
  refine V_if_ne C (tgt := 1648) dL_law_1633 (by decide) (fun _ => ?_) (fun h0 => ?_)
  · exact V_goto C (tgt := 2121) dL_law_1648 (by decide) (fin _ (by repeat first | exact trivial | refine ⟨rfl, ?_⟩))
  · refine V_aload_n C dL_law_1636 rfl (isR_r _) ?_
    refine V_iconst C (v := 0) dL_law_1637 (by decide) ?_
    obtain ⟨w1, w2, w3⟩ := row_M hcT hF
    refine V_lald C w1 (by decide) (by rw [w2]; exact (show ¬ ((0 : Int32) < 0 ∨ 1 ≤ Int32.toNatClampNeg 0) by decide)) dL_law_1638 ?_
    rw [show sJ W9 c (Int32.toNatClampNeg 0) = (oHand σ (y 1) (y 2)).1.toInt64 from (w3 0).trans (hJ h0)]
    refine V_iload C dL_law_1639 rfl ?_
    refine V_i2l C dL_law_1641 ?_
    refine V_lcmp C dL_law_1642 ?_
    refine V_if_eq C (tgt := 1648) dL_law_1643 (by decide) (fun _ => ?_) (fun z => absurd (lc_self _) z)
    exact V_goto C (tgt := 2121) dL_law_1648 (by decide) (fin _ (by repeat first | exact trivial | refine ⟨rfl, ?_⟩))
theorem lb_load {y : Nat → Int32} (C : Cx X G RL cL_law 7 (some .boolean) room_1 tb) (hl : X.2.1.stackTraces = false) (hs : SC X G b i y) (hk : k + 40 ≤ 601024 ∧ n + 400 ≤ 7293034) (hW : LW S m c ad σ) (hn : cN σ 27 < 512) (kk : ∀ T ad' σ', LW T m c ad' σ' → ad' 8 0 = ad 8 0 → cN σ' 27 ≤ cN σ 27 + 1 → V X G 7 Q (k + 40) (n + 400) 2121 [(4, false, .int i), (3, false, .ref c), (2, false, .ref m), (1, false, .ref (ad 8 0)), (0, false, .ref b)] [] T) : V X G 7 Q k n 1651 [(4, false, .int i), (3, false, .ref c), (2, false, .ref m), (1, false, .ref (ad 8 0)), (0, false, .ref b)] [] S := by
  obtain ⟨hR, hC, hG, hI, hc⟩ := hW
  have hN : NX σ (oLoad σ (y 1)).2 (tLoad σ (y 1)) := NX_Load (σ := σ) hI
  refine V_aload_n C dL_law_1651 rfl (isR_r _) ?_
  refine V_arg C hs 1 1 (by decide) dL_law_1652 dL_law_1653 dL_law_1655 dL_law_1656 dL_law_1657 ?_
  refine V_aload_n C dL_law_1658 rfl (isR_r _) ?_
  refine V_callH C (h_load X.2.1 hl G S ad σ hC hG hI c hc (y 1)) kh_L_198 ⟨by decide, by decide⟩ ⟨Nat.le_trans (Nat.add_le_add_left (by decide) _) hk.1, Nat.le_trans (Nat.add_le_add_left (by decide) _) hk.2⟩ rfl rfl (Nat.le_of_ble_eq_true rfl) dL_law_1659 (fun v T hT => ?_)
  obtain ⟨rfl, hL, hcT, hJ⟩ := hT
  refine V_widen (k' := k + 40) (n' := n + 400) (Nat.add_le_add_left (by decide) _) (Nat.add_le_add_left (by decide) _) ?_
  dsimp only [Option.toList_some, Option.toList_none, List.cons_append, List.nil_append]
  have hRT : RelR T m σ := RelR_LH hR hL
  refine V_istore C dL_law_1662 (by decide) rfl ?_
  refine V_aload_n C dL_law_1664 rfl (isR_r _) ?_
  refine V_arg C hs 1 1 (by decide) dL_law_1665 dL_law_1666 dL_law_1668 dL_law_1669 dL_law_1670 ?_
  refine V_callV C (c_X9_load X.2.1 hl G T m σ hRT hI.1 (y 1)) kv_L_200 cf_9 (by decide) rfl hRT.1 ⟨by decide, by decide⟩ ⟨hk.1, hk.2⟩ rfl rfl (Nat.le_of_ble_eq_true rfl) dL_law_1671 (fun w U hU => ?_) (fun _ _ z => z.elim)
  obtain ⟨rfl, hRU, hFU⟩ := hU
  dsimp only [Option.toList_some, Option.toList_none, List.cons_append, List.nil_append]
  refine V_istore C dL_law_1674 (by decide) rfl ?_
  refine V_aload_n C dL_law_1676 rfl (isR_r _) ?_
  refine V_callV C (c_X9_thrown X.2.1 hl G U m (oLoad σ (y 1)).2 hRU) kv_L_123 cf_9 (by decide) rfl hRU.1 ⟨by decide, by decide⟩ ⟨hk.1, hk.2⟩ rfl rfl (Nat.le_of_ble_eq_true rfl) dL_law_1677 (fun w W9 hW9 => ?_) (fun _ _ z => z.elim)
  obtain ⟨rfl, hRW, hFW⟩ := hW9
  dsimp only [Option.toList_some, Option.toList_none, List.cons_append, List.nil_append]
  refine V_iload C dL_law_1680 rfl ?_
  refine V_icmp_eq C (tgt := 1687) dL_law_1682 (by decide) (fun _ => ?_) (fun z => absurd hN.2 z)
  have hF := Fr_tr hFU hFW
  have fin : ∀ lo9, lsub [(4, false, .int i), (3, false, .ref c), (2, false, .ref m), (1, false, .ref (ad 8 0)), (0, false, .ref b)] lo9 → V X G 7 Q (k + 40) (n + 400) 2121 lo9 [] W9 := fun lo9 h9 => V_sub h9 (lb_fin hL hcT hF ⟨hRW.1, hRW.2⟩ hN.1 kk)
  refine V_iload C dL_law_1687 rfl ?_
  refine V_if_ne C (tgt := 1704) dL_law_1689 (by decide) (fun _ => ?_) (fun h0 => ?_)
  · exact V_goto C (tgt := 2121) dL_law_1704 (by decide) (fin _ (by repeat first | exact trivial | refine ⟨rfl, ?_⟩))
  · refine V_aload_n C dL_law_1692 rfl (isR_r _) ?_
    refine V_iconst C (v := 0) dL_law_1693 (by decide) ?_
    obtain ⟨w1, w2, w3⟩ := row_M hcT hF
    refine V_lald C w1 (by decide) (by rw [w2]; exact (show ¬ ((0 : Int32) < 0 ∨ 1 ≤ Int32.toNatClampNeg 0) by decide)) dL_law_1694 ?_
    rw [show sJ W9 c (Int32.toNatClampNeg 0) = (oLoad σ (y 1)).1.toInt64 from (w3 0).trans (hJ h0)]
    refine V_iload C dL_law_1695 rfl ?_
    refine V_i2l C dL_law_1697 ?_
    refine V_lcmp C dL_law_1698 ?_
    refine V_if_eq C (tgt := 1704) dL_law_1699 (by decide) (fun _ => ?_) (fun z => absurd (lc_self _) z)
    exact V_goto C (tgt := 2121) dL_law_1704 (by decide) (fin _ (by repeat first | exact trivial | refine ⟨rfl, ?_⟩))
theorem lb_pass {y : Nat → Int32} (C : Cx X G RL cL_law 7 (some .boolean) room_1 tb) (hl : X.2.1.stackTraces = false) (hs : SC X G b i y) (hk : k + 40 ≤ 601024 ∧ n + 400 ≤ 7293034) (hW : LW S m c ad σ) (hn : cN σ 27 < 512) (kk : ∀ T ad' σ', LW T m c ad' σ' → ad' 8 0 = ad 8 0 → cN σ' 27 ≤ cN σ 27 + 1 → V X G 7 Q (k + 40) (n + 400) 2121 [(4, false, .int i), (3, false, .ref c), (2, false, .ref m), (1, false, .ref (ad 8 0)), (0, false, .ref b)] [] T) : V X G 7 Q k n 1707 [(4, false, .int i), (3, false, .ref c), (2, false, .ref m), (1, false, .ref (ad 8 0)), (0, false, .ref b)] [] S := by
  obtain ⟨hR, hC, hG, hI, hc⟩ := hW
  have hN : NX σ (oPass σ (y 1)).2 (tPass σ (y 1)) := NX_Pass (σ := σ) hI
  refine V_aload_n C dL_law_1707 rfl (isR_r _) ?_
  refine V_arg C hs 1 1 (by decide) dL_law_1708 dL_law_1709 dL_law_1711 dL_law_1712 dL_law_1713 ?_
  refine V_aload_n C dL_law_1714 rfl (isR_r _) ?_
  refine V_callH C (h_pass X.2.1 hl G S ad σ hC hG hI c hc (y 1)) kh_L_201 ⟨by decide, by decide⟩ ⟨Nat.le_trans (Nat.add_le_add_left (by decide) _) hk.1, Nat.le_trans (Nat.add_le_add_left (by decide) _) hk.2⟩ rfl rfl (Nat.le_of_ble_eq_true rfl) dL_law_1715 (fun v T hT => ?_)
  obtain ⟨rfl, hL, hcT, hJ⟩ := hT
  refine V_widen (k' := k + 40) (n' := n + 400) (Nat.add_le_add_left (by decide) _) (Nat.add_le_add_left (by decide) _) ?_
  dsimp only [Option.toList_some, Option.toList_none, List.cons_append, List.nil_append]
  have hRT : RelR T m σ := RelR_LH hR hL
  refine V_istore C dL_law_1718 (by decide) rfl ?_
  refine V_aload_n C dL_law_1720 rfl (isR_r _) ?_
  refine V_arg C hs 1 1 (by decide) dL_law_1721 dL_law_1722 dL_law_1724 dL_law_1725 dL_law_1726 ?_
  refine V_callV C (c_X9_pass X.2.1 hl G T m σ hRT hI.1 hI.2.1 (y 1)) kv_L_203 cf_9 (by decide) rfl hRT.1 ⟨by decide, by decide⟩ ⟨hk.1, hk.2⟩ rfl rfl (Nat.le_of_ble_eq_true rfl) dL_law_1727 (fun w U hU => ?_) (fun _ _ z => z.elim)
  obtain ⟨rfl, hRU, hFU⟩ := hU
  dsimp only [Option.toList_some, Option.toList_none, List.cons_append, List.nil_append]
  refine V_istore C dL_law_1730 (by decide) rfl ?_
  refine V_aload_n C dL_law_1732 rfl (isR_r _) ?_
  refine V_callV C (c_X9_thrown X.2.1 hl G U m (oPass σ (y 1)).2 hRU) kv_L_123 cf_9 (by decide) rfl hRU.1 ⟨by decide, by decide⟩ ⟨hk.1, hk.2⟩ rfl rfl (Nat.le_of_ble_eq_true rfl) dL_law_1733 (fun w W9 hW9 => ?_) (fun _ _ z => z.elim)
  obtain ⟨rfl, hRW, hFW⟩ := hW9
  dsimp only [Option.toList_some, Option.toList_none, List.cons_append, List.nil_append]
  refine V_iload C dL_law_1736 rfl ?_
  refine V_icmp_eq C (tgt := 1743) dL_law_1738 (by decide) (fun _ => ?_) (fun z => absurd hN.2 z)
  have hF := Fr_tr hFU hFW
  have fin : ∀ lo9, lsub [(4, false, .int i), (3, false, .ref c), (2, false, .ref m), (1, false, .ref (ad 8 0)), (0, false, .ref b)] lo9 → V X G 7 Q (k + 40) (n + 400) 2121 lo9 [] W9 := fun lo9 h9 => V_sub h9 (lb_fin hL hcT hF ⟨hRW.1, hRW.2⟩ hN.1 kk)
  refine V_iload C dL_law_1743 rfl ?_
  refine V_if_ne C (tgt := 1760) dL_law_1745 (by decide) (fun _ => ?_) (fun h0 => ?_)
  · exact V_goto C (tgt := 2121) dL_law_1760 (by decide) (fin _ (by repeat first | exact trivial | refine ⟨rfl, ?_⟩))
  · refine V_aload_n C dL_law_1748 rfl (isR_r _) ?_
    refine V_iconst C (v := 0) dL_law_1749 (by decide) ?_
    obtain ⟨w1, w2, w3⟩ := row_M hcT hF
    refine V_lald C w1 (by decide) (by rw [w2]; exact (show ¬ ((0 : Int32) < 0 ∨ 1 ≤ Int32.toNatClampNeg 0) by decide)) dL_law_1750 ?_
    rw [show sJ W9 c (Int32.toNatClampNeg 0) = (oPass σ (y 1)).1.toInt64 from (w3 0).trans (hJ h0)]
    refine V_iload C dL_law_1751 rfl ?_
    refine V_i2l C dL_law_1753 ?_
    refine V_lcmp C dL_law_1754 ?_
    refine V_if_eq C (tgt := 1760) dL_law_1755 (by decide) (fun _ => ?_) (fun z => absurd (lc_self _) z)
    exact V_goto C (tgt := 2121) dL_law_1760 (by decide) (fin _ (by repeat first | exact trivial | refine ⟨rfl, ?_⟩))
end VL9
