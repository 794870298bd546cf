theorem lc_price {g : ac_G} {Q : ac_O → ac_W → Prop} {ce sl : Nat} {i : Int32} {s : ac_m} {τ : Nat → Nat → Int64} (hce : ce + 8 ≤ 601024) (hsl : sl + 48 ≤ 7293034) (hr : rd g i) (hI : Inv s) (hN : ∀ s' τ', Inv s' → lwX g Q (ce + 8) (sl + 48) 2585 i s' τ') : lwX g Q ce sl 1494 i s τ := by
  refine ax_aload_n (pc' := 1495) dL_law__1494 rfl rfl ?_
  refine ax_aload_n (pc' := 1496) dL_law__1495 rfl rfl ?_
  refine ax_iload (pc' := 1498) dL_law__1496 rfl rfl ?_
  refine ax_iconst (pc' := 1499) (v := (1 : Int32)) dL_law__1498 (by decide) rfl ?_
  refine ax_iadd (pc' := 1500) dL_law__1499 rfl ?_
  refine ax_sld (pc' := 1501) dL_law__1500 hr.1 rfl ?_
  refine ax_aload_n (pc' := 1502) dL_law__1501 rfl rfl ?_
  refine ax_iload (pc' := 1504) dL_law__1502 rfl rfl ?_
  refine ax_iconst (pc' := 1505) (v := (2 : Int32)) dL_law__1504 (by decide) rfl ?_
  refine ax_iadd (pc' := 1506) dL_law__1505 rfl ?_
  refine ax_sld (pc' := 1507) dL_law__1506 hr.2.1 rfl ?_
  refine ax_aload_n (pc' := 1508) dL_law__1507 rfl rfl ?_
  refine ax_invSH (pc' := 1511) (ce' := ce + 2) (sl' := sl + 12) (As := [.ref 0, .int (g.2.2.2.2.2.2 (i + 1).toNatClampNeg), .int (g.2.2.2.2.2.2 (i + 2).toNatClampNeg), .ref 585]) (S := []) (mc2 := 2) (ms2 := 12) (I2 := i_L_price) rfl dL_law__1508 ll_194 rfl (by decide) rfl rfl rfl rfl (by omega) (by omega) rfl (ac_M.imp (o_L_price _ (g.2.2.2.2.2.2 (i + 1).toNatClampNeg) (g.2.2.2.2.2.2 (i + 2).toNatClampNeg) (s_price (g.2.2.2.2.2.2 (i + 1).toNatClampNeg) (g.2.2.2.2.2.2 (i + 2).toNatClampNeg) s hI)) ?_)
  rintro _ _ (⟨r, s1, rfl, rfl, H⟩ | ⟨E, c, s1, rfl, rfl, hT, H⟩)
  · show ac_X g i_L_law_ 100 601024 7293034 Q (ce + 2) (sl + 12) 1511 [some (.ref 1000000), some (.ref 0), some (.ref 69), some (.ref 585), some (.int i), none, none, none] [.int 0] (false, 586, SH, s1, (ac_uL τ 585 0 r.toInt64))
    refine ax_istore (pc' := 1513) dL_law__1511 rfl rfl rfl ?_
    refine ax_aload_n (pc' := 1514) dL_law__1513 rfl rfl ?_
    refine ax_aload_n (pc' := 1515) dL_law__1514 rfl rfl ?_
    refine ax_iload (pc' := 1517) dL_law__1515 rfl rfl ?_
    refine ax_iconst (pc' := 1518) (v := (1 : Int32)) dL_law__1517 (by decide) rfl ?_
    refine ax_iadd (pc' := 1519) dL_law__1518 rfl ?_
    refine ax_sld (pc' := 1520) dL_law__1519 hr.1 rfl ?_
    refine ax_aload_n (pc' := 1521) dL_law__1520 rfl rfl ?_
    refine ax_iload (pc' := 1523) dL_law__1521 rfl rfl ?_
    refine ax_iconst (pc' := 1524) (v := (2 : Int32)) dL_law__1523 (by decide) rfl ?_
    refine ax_iadd (pc' := 1525) dL_law__1524 rfl ?_
    refine ax_sld (pc' := 1526) dL_law__1525 hr.2.1 rfl ?_
    refine ax_invVL (pc' := 1529) (ce' := ce + 2) (sl' := sl + 12) (a := 69) (As := [.int (g.2.2.2.2.2.2 (i + 1).toNatClampNeg), .int (g.2.2.2.2.2.2 (i + 2).toNatClampNeg)]) (S := []) (mc2 := 0) (ms2 := 0) (I2 := i_X12_price) rfl dL_law__1526 ll_196 sh_69 (by decide) rfl rfl rfl rfl rfl rfl rfl (by omega) (by omega) rfl (ac_M.imp (o_X12_price _ (g.2.2.2.2.2.2 (i + 1).toNatClampNeg) (g.2.2.2.2.2.2 (i + 2).toNatClampNeg) H) ?_)
    rintro _ _ ⟨b, s2, rfl, rfl, hb, h0, hI2⟩
    show ac_X g i_L_law_ 100 601024 7293034 Q (ce + 2) (sl + 12) 1529 [some (.ref 1000000), some (.ref 0), some (.ref 69), some (.ref 585), some (.int i), some (.int 0), none, none] [.int b] (false, 586, SH, s2, (ac_uL τ 585 0 r.toInt64))
    refine ax_istore (pc' := 1531) dL_law__1529 rfl rfl rfl ?_
    refine ax_aload_n (pc' := 1532) dL_law__1531 rfl rfl ?_
    refine ax_invVL (pc' := 1535) (ce' := ce + 2) (sl' := sl + 12) (a := 69) (As := []) (S := []) (mc2 := 0) (ms2 := 0) (I2 := i_X12_thrown) rfl dL_law__1532 ll_128 sh_69 (by decide) rfl rfl rfl rfl rfl rfl rfl (by omega) (by omega) rfl (ac_M.imp (o_X12_thrown _ (Q := fun r s => r = s2 69 0 ∧ s = s2) ⟨rfl, rfl⟩) ?_)
    rintro _ _ ⟨z, s3, rfl, rfl, rfl, rfl⟩
    show ac_X g i_L_law_ 100 601024 7293034 Q (ce + 2) (sl + 12) 1535 [some (.ref 1000000), some (.ref 0), some (.ref 69), some (.ref 585), some (.int i), some (.int 0), some (.int b), none] [.int (s3 69 0)] (false, 586, SH, s3, (ac_uL τ 585 0 r.toInt64))
    refine ax_iload (pc' := 1537) dL_law__1535 rfl rfl ?_
    refine ax_icmp_eq (pc' := 1540) (tgt := 1542) dL_law__1537 (by decide) rfl (fun _ => ?_) (fun z => absurd h0 z)
    refine ax_iload (pc' := 1544) dL_law__1542 rfl rfl ?_
    refine ax_if_ne (pc' := 1547) (tgt := 1559) dL_law__1544 (by decide) rfl (fun z => absurd rfl z) (fun _ => ?_)
    refine ax_aload_n (pc' := 1548) dL_law__1547 rfl rfl ?_
    refine ax_iconst (pc' := 1549) (v := (0 : Int32)) dL_law__1548 (by decide) rfl ?_
    refine ax_lald (pc' := 1550) dL_law__1549 sh_585 (ac_in (by decide)) rfl rfl ?_
    refine ax_iload (pc' := 1552) dL_law__1550 rfl rfl ?_
    refine ax_i2l (pc' := 1553) dL_law__1552 rfl ?_
    rw [show ac_uL τ 585 0 r.toInt64 585 (0 : Int32).toNatClampNeg = r.toInt64 from uL_eq, hb]
    refine ax_lcmp (pc' := 1554) dL_law__1553 rfl ?_
    refine ax_if_eq (pc' := 1557) (tgt := 1559) dL_law__1554 (by decide) rfl (fun _ => ?_) (fun z => absurd (lg_cmp_self _) z)
    refine ax_goto (tgt := 2585) dL_law__1559 (by decide) ?_
    refine ax_widen (ce' := ce + 8) (sl' := sl + 48) (by omega) (by omega) (ax_fgt (hN _ _ hI2))
  · show ac_X g i_L_law_ 100 601024 7293034 Q (ce + 2) (sl + 12) 1511 [some (.ref 1000000), some (.ref 0), some (.ref 69), some (.ref 585), some (.int i), none, none, none] [.int c] (false, 586, SH, s1, τ)
    refine ax_istore (pc' := 1513) dL_law__1511 rfl rfl rfl ?_
    refine ax_aload_n (pc' := 1514) dL_law__1513 rfl rfl ?_
    refine ax_aload_n (pc' := 1515) dL_law__1514 rfl rfl ?_
    refine ax_iload (pc' := 1517) dL_law__1515 rfl rfl ?_
    refine ax_iconst (pc' := 1518) (v := (1 : Int32)) dL_law__1517 (by decide) rfl ?_
    refine ax_iadd (pc' := 1519) dL_law__1518 rfl ?_
    refine ax_sld (pc' := 1520) dL_law__1519 hr.1 rfl ?_
    refine ax_aload_n (pc' := 1521) dL_law__1520 rfl rfl ?_
    refine ax_iload (pc' := 1523) dL_law__1521 rfl rfl ?_
    refine ax_iconst (pc' := 1524) (v := (2 : Int32)) dL_law__1523 (by decide) rfl ?_
    refine ax_iadd (pc' := 1525) dL_law__1524 rfl ?_
    refine ax_sld (pc' := 1526) dL_law__1525 hr.2.1 rfl ?_
    refine ax_invVL (pc' := 1529) (ce' := ce + 2) (sl' := sl + 12) (a := 69) (As := [.int (g.2.2.2.2.2.2 (i + 1).toNatClampNeg), .int (g.2.2.2.2.2.2 (i + 2).toNatClampNeg)]) (S := []) (mc2 := 0) (ms2 := 0) (I2 := i_X12_price) rfl dL_law__1526 ll_196 sh_69 (by decide) rfl rfl rfl rfl rfl rfl rfl (by omega) (by omega) rfl (ac_M.imp (o_X12_price _ (g.2.2.2.2.2.2 (i + 1).toNatClampNeg) (g.2.2.2.2.2.2 (i + 2).toNatClampNeg) H) ?_)
    rintro _ _ ⟨b, s2, rfl, rfl, hT2, hI2⟩
    show ac_X g i_L_law_ 100 601024 7293034 Q (ce + 2) (sl + 12) 1529 [some (.ref 1000000), some (.ref 0), some (.ref 69), some (.ref 585), some (.int i), some (.int c), none, none] [.int b] (false, 586, SH, s2, τ)
    refine ax_istore (pc' := 1531) dL_law__1529 rfl rfl rfl ?_
    refine ax_aload_n (pc' := 1532) dL_law__1531 rfl rfl ?_
    refine ax_invVL (pc' := 1535) (ce' := ce + 2) (sl' := sl + 12) (a := 69) (As := []) (S := []) (mc2 := 0) (ms2 := 0) (I2 := i_X12_thrown) rfl dL_law__1532 ll_128 sh_69 (by decide) rfl rfl rfl rfl rfl rfl rfl (by omega) (by omega) rfl (ac_M.imp (o_X12_thrown _ (Q := fun r s => r = s2 69 0 ∧ s = s2) ⟨rfl, rfl⟩) ?_)
    rintro _ _ ⟨z, s3, rfl, rfl, rfl, rfl⟩
    show ac_X g i_L_law_ 100 601024 7293034 Q (ce + 2) (sl + 12) 1535 [some (.ref 1000000), some (.ref 0), some (.ref 69), some (.ref 585), some (.int i), some (.int c), some (.int b), none] [.int (s3 69 0)] (false, 586, SH, s3, τ)
    refine ax_iload (pc' := 1537) dL_law__1535 rfl rfl ?_
    refine ax_icmp_eq (pc' := 1540) (tgt := 1542) dL_law__1537 (by decide) rfl (fun _ => ?_) (fun z => absurd (thA_c hT2 hT).1 z)
    refine ax_iload (pc' := 1544) dL_law__1542 rfl rfl ?_
    refine ax_if_ne (pc' := 1547) (tgt := 1559) dL_law__1544 (by decide) rfl (fun _ => ?_) (fun z => absurd z (thA_c hT hT).2)
    refine ax_goto (tgt := 2585) dL_law__1559 (by decide) ?_
    refine ax_widen (ce' := ce + 8) (sl' := sl + 48) (by omega) (by omega) (ax_fgt (hN _ _ hI2))
theorem lc_owing {g : ac_G} {Q : ac_O → ac_W → Prop} {ce sl : Nat} {i : Int32} {s : ac_m} {τ : Nat → Nat → Int64} (hce : ce + 8 ≤ 601024) (hsl : sl + 48 ≤ 7293034) (hr : rd g i) (hI : Inv s) (hN : ∀ s' τ', Inv s' → lwX g Q (ce + 8) (sl + 48) 2585 i s' τ') : lwX g Q ce sl 1562 i s τ := by
  refine ax_aload_n (pc' := 1563) dL_law__1562 rfl rfl ?_
  refine ax_aload_n (pc' := 1564) dL_law__1563 rfl rfl ?_
  refine ax_iload (pc' := 1566) dL_law__1564 rfl rfl ?_
  refine ax_iconst (pc' := 1567) (v := (1 : Int32)) dL_law__1566 (by decide) rfl ?_
  refine ax_iadd (pc' := 1568) dL_law__1567 rfl ?_
  refine ax_sld (pc' := 1569) dL_law__1568 hr.1 rfl ?_
  refine ax_aload_n (pc' := 1570) dL_law__1569 rfl rfl ?_
  refine ax_iload (pc' := 1572) dL_law__1570 rfl rfl ?_
  refine ax_iconst (pc' := 1573) (v := (2 : Int32)) dL_law__1572 (by decide) rfl ?_
  refine ax_iadd (pc' := 1574) dL_law__1573 rfl ?_
  refine ax_sld (pc' := 1575) dL_law__1574 hr.2.1 rfl ?_
  refine ax_aload_n (pc' := 1576) dL_law__1575 rfl rfl ?_
  refine ax_iload (pc' := 1578) dL_law__1576 rfl rfl ?_
  refine ax_iconst (pc' := 1579) (v := (3 : Int32)) dL_law__1578 (by decide) rfl ?_
  refine ax_iadd (pc' := 1580) dL_law__1579 rfl ?_
  refine ax_sld (pc' := 1581) dL_law__1580 hr.2.2.1 rfl ?_
  refine ax_aload_n (pc' := 1582) dL_law__1581 rfl rfl ?_
  refine ax_invSH (pc' := 1585) (ce' := ce + 3) (sl' := sl + 18) (As := [.ref 0, .int (g.2.2.2.2.2.2 (i + 1).toNatClampNeg), .int (g.2.2.2.2.2.2 (i + 2).toNatClampNeg), .int (g.2.2.2.2.2.2 (i + 3).toNatClampNeg), .ref 585]) (S := []) (mc2 := 3) (ms2 := 18) (I2 := i_L_owing) rfl dL_law__1582 ll_197 rfl (by decide) rfl rfl rfl rfl (by omega) (by omega) rfl (ac_M.imp (o_L_owing _ (g.2.2.2.2.2.2 (i + 1).toNatClampNeg) (g.2.2.2.2.2.2 (i + 2).toNatClampNeg) (g.2.2.2.2.2.2 (i + 3).toNatClampNeg) (s_owing (g.2.2.2.2.2.2 (i + 1).toNatClampNeg) (g.2.2.2.2.2.2 (i + 2).toNatClampNeg) (g.2.2.2.2.2.2 (i + 3).toNatClampNeg) s hI)) ?_)
  rintro _ _ (⟨r, s1, rfl, rfl, H⟩ | ⟨E, c, s1, rfl, rfl, hT, H⟩)
  · show ac_X g i_L_law_ 100 601024 7293034 Q (ce + 3) (sl + 18) 1585 [some (.ref 1000000), some (.ref 0), some (.ref 69), some (.ref 585), some (.int i), none, none, none] [.int 0] (false, 586, SH, s1, (ac_uL τ 585 0 r.toInt64))
    refine ax_istore (pc' := 1587) dL_law__1585 rfl rfl rfl ?_
    refine ax_aload_n (pc' := 1588) dL_law__1587 rfl rfl ?_
    refine ax_aload_n (pc' := 1589) dL_law__1588 rfl rfl ?_
    refine ax_iload (pc' := 1591) dL_law__1589 rfl rfl ?_
    refine ax_iconst (pc' := 1592) (v := (1 : Int32)) dL_law__1591 (by decide) rfl ?_
    refine ax_iadd (pc' := 1593) dL_law__1592 rfl ?_
    refine ax_sld (pc' := 1594) dL_law__1593 hr.1 rfl ?_
    refine ax_aload_n (pc' := 1595) dL_law__1594 rfl rfl ?_
    refine ax_iload (pc' := 1597) dL_law__1595 rfl rfl ?_
    refine ax_iconst (pc' := 1598) (v := (2 : Int32)) dL_law__1597 (by decide) rfl ?_
    refine ax_iadd (pc' := 1599) dL_law__1598 rfl ?_
    refine ax_sld (pc' := 1600) dL_law__1599 hr.2.1 rfl ?_
    refine ax_aload_n (pc' := 1601) dL_law__1600 rfl rfl ?_
    refine ax_iload (pc' := 1603) dL_law__1601 rfl rfl ?_
    refine ax_iconst (pc' := 1604) (v := (3 : Int32)) dL_law__1603 (by decide) rfl ?_
    refine ax_iadd (pc' := 1605) dL_law__1604 rfl ?_
    refine ax_sld (pc' := 1606) dL_law__1605 hr.2.2.1 rfl ?_
    refine ax_invVL (pc' := 1609) (ce' := ce + 3) (sl' := sl + 18) (a := 69) (As := [.int (g.2.2.2.2.2.2 (i + 1).toNatClampNeg), .int (g.2.2.2.2.2.2 (i + 2).toNatClampNeg), .int (g.2.2.2.2.2.2 (i + 3).toNatClampNeg)]) (S := []) (mc2 := 0) (ms2 := 0) (I2 := i_X12_owing) rfl dL_law__1606 ll_200 sh_69 (by decide) rfl rfl rfl rfl rfl rfl rfl (by omega) (by omega) rfl (ac_M.imp (o_X12_owing _ (g.2.2.2.2.2.2 (i + 1).toNatClampNeg) (g.2.2.2.2.2.2 (i + 2).toNatClampNeg) (g.2.2.2.2.2.2 (i + 3).toNatClampNeg) H) ?_)
    rintro _ _ ⟨b, s2, rfl, rfl, hb, h0, hI2⟩
    show ac_X g i_L_law_ 100 601024 7293034 Q (ce + 3) (sl + 18) 1609 [some (.ref 1000000), some (.ref 0), some (.ref 69), some (.ref 585), some (.int i), some (.int 0), none, none] [.int b] (false, 586, SH, s2, (ac_uL τ 585 0 r.toInt64))
    refine ax_istore (pc' := 1611) dL_law__1609 rfl rfl rfl ?_
    refine ax_aload_n (pc' := 1612) dL_law__1611 rfl rfl ?_
    refine ax_invVL (pc' := 1615) (ce' := ce + 3) (sl' := sl + 18) (a := 69) (As := []) (S := []) (mc2 := 0) (ms2 := 0) (I2 := i_X12_thrown) rfl dL_law__1612 ll_128 sh_69 (by decide) rfl rfl rfl rfl rfl rfl rfl (by omega) (by omega) rfl (ac_M.imp (o_X12_thrown _ (Q := fun r s => r = s2 69 0 ∧ s = s2) ⟨rfl, rfl⟩) ?_)
    rintro _ _ ⟨z, s3, rfl, rfl, rfl, rfl⟩
    show ac_X g i_L_law_ 100 601024 7293034 Q (ce + 3) (sl + 18) 1615 [some (.ref 1000000), some (.ref 0), some (.ref 69), some (.ref 585), some (.int i), some (.int 0), some (.int b), none] [.int (s3 69 0)] (false, 586, SH, s3, (ac_uL τ 585 0 r.toInt64))
    refine ax_iload (pc' := 1617) dL_law__1615 rfl rfl ?_
    refine ax_icmp_eq (pc' := 1620) (tgt := 1622) dL_law__1617 (by decide) rfl (fun _ => ?_) (fun z => absurd h0 z)
    refine ax_iload (pc' := 1624) dL_law__1622 rfl rfl ?_
    refine ax_if_ne (pc' := 1627) (tgt := 1639) dL_law__1624 (by decide) rfl (fun z => absurd rfl z) (fun _ => ?_)
    refine ax_aload_n (pc' := 1628) dL_law__1627 rfl rfl ?_
    refine ax_iconst (pc' := 1629) (v := (0 : Int32)) dL_law__1628 (by decide) rfl ?_
    refine ax_lald (pc' := 1630) dL_law__1629 sh_585 (ac_in (by decide)) rfl rfl ?_
    refine ax_iload (pc' := 1632) dL_law__1630 rfl rfl ?_
    refine ax_i2l (pc' := 1633) dL_law__1632 rfl ?_
    rw [show ac_uL τ 585 0 r.toInt64 585 (0 : Int32).toNatClampNeg = r.toInt64 from uL_eq, hb]
    refine ax_lcmp (pc' := 1634) dL_law__1633 rfl ?_
    refine ax_if_eq (pc' := 1637) (tgt := 1639) dL_law__1634 (by decide) rfl (fun _ => ?_) (fun z => absurd (lg_cmp_self _) z)
    refine ax_goto (tgt := 2585) dL_law__1639 (by decide) ?_
    refine ax_widen (ce' := ce + 8) (sl' := sl + 48) (by omega) (by omega) (ax_fgt (hN _ _ hI2))
  · show ac_X g i_L_law_ 100 601024 7293034 Q (ce + 3) (sl + 18) 1585 [some (.ref 1000000), some (.ref 0), some (.ref 69), some (.ref 585), some (.int i), none, none, none] [.int c] (false, 586, SH, s1, τ)
    refine ax_istore (pc' := 1587) dL_law__1585 rfl rfl rfl ?_
    refine ax_aload_n (pc' := 1588) dL_law__1587 rfl rfl ?_
    refine ax_aload_n (pc' := 1589) dL_law__1588 rfl rfl ?_
    refine ax_iload (pc' := 1591) dL_law__1589 rfl rfl ?_
    refine ax_iconst (pc' := 1592) (v := (1 : Int32)) dL_law__1591 (by decide) rfl ?_
    refine ax_iadd (pc' := 1593) dL_law__1592 rfl ?_
    refine ax_sld (pc' := 1594) dL_law__1593 hr.1 rfl ?_
    refine ax_aload_n (pc' := 1595) dL_law__1594 rfl rfl ?_
    refine ax_iload (pc' := 1597) dL_law__1595 rfl rfl ?_
    refine ax_iconst (pc' := 1598) (v := (2 : Int32)) dL_law__1597 (by decide) rfl ?_
    refine ax_iadd (pc' := 1599) dL_law__1598 rfl ?_
    refine ax_sld (pc' := 1600) dL_law__1599 hr.2.1 rfl ?_
    refine ax_aload_n (pc' := 1601) dL_law__1600 rfl rfl ?_
    refine ax_iload (pc' := 1603) dL_law__1601 rfl rfl ?_
    refine ax_iconst (pc' := 1604) (v := (3 : Int32)) dL_law__1603 (by decide) rfl ?_
    refine ax_iadd (pc' := 1605) dL_law__1604 rfl ?_
    refine ax_sld (pc' := 1606) dL_law__1605 hr.2.2.1 rfl ?_
    refine ax_invVL (pc' := 1609) (ce' := ce + 3) (sl' := sl + 18) (a := 69) (As := [.int (g.2.2.2.2.2.2 (i + 1).toNatClampNeg), .int (g.2.2.2.2.2.2 (i + 2).toNatClampNeg), .int (g.2.2.2.2.2.2 (i + 3).toNatClampNeg)]) (S := []) (mc2 := 0) (ms2 := 0) (I2 := i_X12_owing) rfl dL_law__1606 ll_200 sh_69 (by decide) rfl rfl rfl rfl rfl rfl rfl (by omega) (by omega) rfl (ac_M.imp (o_X12_owing _ (g.2.2.2.2.2.2 (i + 1).toNatClampNeg) (g.2.2.2.2.2.2 (i + 2).toNatClampNeg) (g.2.2.2.2.2.2 (i + 3).toNatClampNeg) H) ?_)
    rintro _ _ ⟨b, s2, rfl, rfl, hT2, hI2⟩
    show ac_X g i_L_law_ 100 601024 7293034 Q (ce + 3) (sl + 18) 1609 [some (.ref 1000000), some (.ref 0), some (.ref 69), some (.ref 585), some (.int i), some (.int c), none, none] [.int b] (false, 586, SH, s2, τ)
    refine ax_istore (pc' := 1611) dL_law__1609 rfl rfl rfl ?_
    refine ax_aload_n (pc' := 1612) dL_law__1611 rfl rfl ?_
    refine ax_invVL (pc' := 1615) (ce' := ce + 3) (sl' := sl + 18) (a := 69) (As := []) (S := []) (mc2 := 0) (ms2 := 0) (I2 := i_X12_thrown) rfl dL_law__1612 ll_128 sh_69 (by decide) rfl rfl rfl rfl rfl rfl rfl (by omega) (by omega) rfl (ac_M.imp (o_X12_thrown _ (Q := fun r s => r = s2 69 0 ∧ s = s2) ⟨rfl, rfl⟩) ?_)
    rintro _ _ ⟨z, s3, rfl, rfl, rfl, rfl⟩
    show ac_X g i_L_law_ 100 601024 7293034 Q (ce + 3) (sl + 18) 1615 [some (.ref 1000000), some (.ref 0), some (.ref 69), some (.ref 585), some (.int i), some (.int c), some (.int b), none] [.int (s3 69 0)] (false, 586, SH, s3, τ)
    refine ax_iload (pc' := 1617) dL_law__1615 rfl rfl ?_
    refine ax_icmp_eq (pc' := 1620) (tgt := 1622) dL_law__1617 (by decide) rfl (fun _ => ?_) (fun z => absurd (thA_c hT2 hT).1 z)
    refine ax_iload (pc' := 1624) dL_law__1622 rfl rfl ?_
    refine ax_if_ne (pc' := 1627) (tgt := 1639) dL_law__1624 (by decide) rfl (fun _ => ?_) (fun z => absurd z (thA_c hT hT).2)
    refine ax_goto (tgt := 2585) dL_law__1639 (by decide) ?_
    refine ax_widen (ce' := ce + 8) (sl' := sl + 48) (by omega) (by omega) (ax_fgt (hN _ _ hI2))
theorem lc_home {g : ac_G} {Q : ac_O → ac_W → Prop} {ce sl : Nat} {i : Int32} {s : ac_m} {τ : Nat → Nat → Int64} (hce : ce + 8 ≤ 601024) (hsl : sl + 48 ≤ 7293034) (hr : rd g i) (hI : Inv s) (hN : ∀ s' τ', Inv s' → lwX g Q (ce + 8) (sl + 48) 2585 i s' τ') : lwX g Q ce sl 1642 i s τ := by
  refine ax_aload_n (pc' := 1643) dL_law__1642 rfl rfl ?_
  refine ax_aload_n (pc' := 1644) dL_law__1643 rfl rfl ?_
  refine ax_iload (pc' := 1646) dL_law__1644 rfl rfl ?_
  refine ax_iconst (pc' := 1647) (v := (1 : Int32)) dL_law__1646 (by decide) rfl ?_
  refine ax_iadd (pc' := 1648) dL_law__1647 rfl ?_
  refine ax_sld (pc' := 1649) dL_law__1648 hr.1 rfl ?_
  refine ax_aload_n (pc' := 1650) dL_law__1649 rfl rfl ?_
  refine ax_iload (pc' := 1652) dL_law__1650 rfl rfl ?_
  refine ax_iconst (pc' := 1653) (v := (2 : Int32)) dL_law__1652 (by decide) rfl ?_
  refine ax_iadd (pc' := 1654) dL_law__1653 rfl ?_
  refine ax_sld (pc' := 1655) dL_law__1654 hr.2.1 rfl ?_
  refine ax_aload_n (pc' := 1656) dL_law__1655 rfl rfl ?_
  refine ax_iload (pc' := 1658) dL_law__1656 rfl rfl ?_
  refine ax_iconst (pc' := 1659) (v := (3 : Int32)) dL_law__1658 (by decide) rfl ?_
  refine ax_iadd (pc' := 1660) dL_law__1659 rfl ?_
  refine ax_sld (pc' := 1661) dL_law__1660 hr.2.2.1 rfl ?_
  refine ax_aload_n (pc' := 1662) dL_law__1661 rfl rfl ?_
  refine ax_iload (pc' := 1664) dL_law__1662 rfl rfl ?_
  refine ax_iconst (pc' := 1665) (v := (4 : Int32)) dL_law__1664 (by decide) rfl ?_
  refine ax_iadd (pc' := 1666) dL_law__1665 rfl ?_
  refine ax_sld (pc' := 1667) dL_law__1666 hr.2.2.2.1 rfl ?_
  refine ax_aload_n (pc' := 1668) dL_law__1667 rfl rfl ?_
  refine ax_invSH (pc' := 1671) (ce' := ce + 4) (sl' := sl + 24) (As := [.ref 0, .int (g.2.2.2.2.2.2 (i + 1).toNatClampNeg), .int (g.2.2.2.2.2.2 (i + 2).toNatClampNeg), .int (g.2.2.2.2.2.2 (i + 3).toNatClampNeg), .int (g.2.2.2.2.2.2 (i + 4).toNatClampNeg), .ref 585]) (S := []) (mc2 := 4) (ms2 := 24) (I2 := i_L_home) rfl dL_law__1668 ll_201 rfl (by decide) rfl rfl rfl rfl (by omega) (by omega) rfl (ac_M.imp (o_L_home _ (g.2.2.2.2.2.2 (i + 1).toNatClampNeg) (g.2.2.2.2.2.2 (i + 2).toNatClampNeg) (g.2.2.2.2.2.2 (i + 3).toNatClampNeg) (g.2.2.2.2.2.2 (i + 4).toNatClampNeg) (s_home (g.2.2.2.2.2.2 (i + 1).toNatClampNeg) (g.2.2.2.2.2.2 (i + 2).toNatClampNeg) (g.2.2.2.2.2.2 (i + 3).toNatClampNeg) (g.2.2.2.2.2.2 (i + 4).toNatClampNeg) s hI)) ?_)
  rintro _ _ (⟨r, s1, rfl, rfl, H⟩ | ⟨E, c, s1, rfl, rfl, hT, H⟩)
  · show ac_X g i_L_law_ 100 601024 7293034 Q (ce + 4) (sl + 24) 1671 [some (.ref 1000000), some (.ref 0), some (.ref 69), some (.ref 585), some (.int i), none, none, none] [.int 0] (false, 586, SH, s1, (ac_uL τ 585 0 r))
    refine ax_istore (pc' := 1673) dL_law__1671 rfl rfl rfl ?_
    refine ax_aload_n (pc' := 1674) dL_law__1673 rfl rfl ?_
    refine ax_aload_n (pc' := 1675) dL_law__1674 rfl rfl ?_
    refine ax_iload (pc' := 1677) dL_law__1675 rfl rfl ?_
    refine ax_iconst (pc' := 1678) (v := (1 : Int32)) dL_law__1677 (by decide) rfl ?_
    refine ax_iadd (pc' := 1679) dL_law__1678 rfl ?_
    refine ax_sld (pc' := 1680) dL_law__1679 hr.1 rfl ?_
    refine ax_aload_n (pc' := 1681) dL_law__1680 rfl rfl ?_
    refine ax_iload (pc' := 1683) dL_law__1681 rfl rfl ?_
    refine ax_iconst (pc' := 1684) (v := (2 : Int32)) dL_law__1683 (by decide) rfl ?_
    refine ax_iadd (pc' := 1685) dL_law__1684 rfl ?_
    refine ax_sld (pc' := 1686) dL_law__1685 hr.2.1 rfl ?_
    refine ax_aload_n (pc' := 1687) dL_law__1686 rfl rfl ?_
    refine ax_iload (pc' := 1689) dL_law__1687 rfl rfl ?_
    refine ax_iconst (pc' := 1690) (v := (3 : Int32)) dL_law__1689 (by decide) rfl ?_
    refine ax_iadd (pc' := 1691) dL_law__1690 rfl ?_
    refine ax_sld (pc' := 1692) dL_law__1691 hr.2.2.1 rfl ?_
    refine ax_aload_n (pc' := 1693) dL_law__1692 rfl rfl ?_
    refine ax_iload (pc' := 1695) dL_law__1693 rfl rfl ?_
    refine ax_iconst (pc' := 1696) (v := (4 : Int32)) dL_law__1695 (by decide) rfl ?_
    refine ax_iadd (pc' := 1697) dL_law__1696 rfl ?_
    refine ax_sld (pc' := 1698) dL_law__1697 hr.2.2.2.1 rfl ?_
    refine ax_invVL (pc' := 1701) (ce' := ce + 4) (sl' := sl + 24) (a := 69) (As := [.int (g.2.2.2.2.2.2 (i + 1).toNatClampNeg), .int (g.2.2.2.2.2.2 (i + 2).toNatClampNeg), .int (g.2.2.2.2.2.2 (i + 3).toNatClampNeg), .int (g.2.2.2.2.2.2 (i + 4).toNatClampNeg)]) (S := []) (mc2 := 0) (ms2 := 0) (I2 := i_X12_home) rfl dL_law__1698 ll_204 sh_69 (by decide) rfl rfl rfl rfl rfl rfl rfl (by omega) (by omega) rfl (ac_M.imp (o_X12_home _ (g.2.2.2.2.2.2 (i + 1).toNatClampNeg) (g.2.2.2.2.2.2 (i + 2).toNatClampNeg) (g.2.2.2.2.2.2 (i + 3).toNatClampNeg) (g.2.2.2.2.2.2 (i + 4).toNatClampNeg) (H _)) ?_)
    rintro _ _ ⟨b, s2, t2, rfl, rfl, hb, h0, hI2, ht⟩
    show ac_X g i_L_law_ 100 601024 7293034 Q (ce + 4) (sl + 24) 1701 [some (.ref 1000000), some (.ref 0), some (.ref 69), some (.ref 585), some (.int i), some (.int 0), none, none] [.long b] (false, 586, SH, s2, t2)
    refine ax_lstore (pc' := 1703) dL_law__1701 rfl rfl rfl ?_
    refine ax_aload_n (pc' := 1704) dL_law__1703 rfl rfl ?_
    refine ax_invVL (pc' := 1707) (ce' := ce + 4) (sl' := sl + 24) (a := 69) (As := []) (S := []) (mc2 := 0) (ms2 := 0) (I2 := i_X12_thrown) rfl dL_law__1704 ll_128 sh_69 (by decide) rfl rfl rfl rfl rfl rfl rfl (by omega) (by omega) rfl (ac_M.imp (o_X12_thrown _ (Q := fun r s => r = s2 69 0 ∧ s = s2) ⟨rfl, rfl⟩) ?_)
    rintro _ _ ⟨z, s3, rfl, rfl, rfl, rfl⟩
    show ac_X g i_L_law_ 100 601024 7293034 Q (ce + 4) (sl + 24) 1707 [some (.ref 1000000), some (.ref 0), some (.ref 69), some (.ref 585), some (.int i), some (.int 0), some (.long b), none] [.int (s3 69 0)] (false, 586, SH, s3, t2)
    refine ax_iload (pc' := 1709) dL_law__1707 rfl rfl ?_
    refine ax_icmp_eq (pc' := 1712) (tgt := 1714) dL_law__1709 (by decide) rfl (fun _ => ?_) (fun z => absurd h0 z)
    refine ax_iload (pc' := 1716) dL_law__1714 rfl rfl ?_
    refine ax_if_ne (pc' := 1719) (tgt := 1730) dL_law__1716 (by decide) rfl (fun z => absurd rfl z) (fun _ => ?_)
    refine ax_aload_n (pc' := 1720) dL_law__1719 rfl rfl ?_
    refine ax_iconst (pc' := 1721) (v := (0 : Int32)) dL_law__1720 (by decide) rfl ?_
    refine ax_lald (pc' := 1722) dL_law__1721 sh_585 (ac_in (by decide)) rfl rfl ?_
    refine ax_lload (pc' := 1724) dL_law__1722 rfl rfl ?_
    rw [ht 585 (by decide), show ac_uL τ 585 0 r 585 (0 : Int32).toNatClampNeg = r from uL_eq, hb]
    refine ax_lcmp (pc' := 1725) dL_law__1724 rfl ?_
    refine ax_if_eq (pc' := 1728) (tgt := 1730) dL_law__1725 (by decide) rfl (fun _ => ?_) (fun z => absurd (lg_cmp_self _) z)
    refine ax_goto (tgt := 2585) dL_law__1730 (by decide) ?_
    refine ax_widen (ce' := ce + 8) (sl' := sl + 48) (by omega) (by omega) (ax_fgt (hN _ _ hI2))
  · show ac_X g i_L_law_ 100 601024 7293034 Q (ce + 4) (sl + 24) 1671 [some (.ref 1000000), some (.ref 0), some (.ref 69), some (.ref 585), some (.int i), none, none, none] [.int c] (false, 586, SH, s1, τ)
    refine ax_istore (pc' := 1673) dL_law__1671 rfl rfl rfl ?_
    refine ax_aload_n (pc' := 1674) dL_law__1673 rfl rfl ?_
    refine ax_aload_n (pc' := 1675) dL_law__1674 rfl rfl ?_
    refine ax_iload (pc' := 1677) dL_law__1675 rfl rfl ?_
    refine ax_iconst (pc' := 1678) (v := (1 : Int32)) dL_law__1677 (by decide) rfl ?_
    refine ax_iadd (pc' := 1679) dL_law__1678 rfl ?_
    refine ax_sld (pc' := 1680) dL_law__1679 hr.1 rfl ?_
    refine ax_aload_n (pc' := 1681) dL_law__1680 rfl rfl ?_
    refine ax_iload (pc' := 1683) dL_law__1681 rfl rfl ?_
    refine ax_iconst (pc' := 1684) (v := (2 : Int32)) dL_law__1683 (by decide) rfl ?_
    refine ax_iadd (pc' := 1685) dL_law__1684 rfl ?_
    refine ax_sld (pc' := 1686) dL_law__1685 hr.2.1 rfl ?_
    refine ax_aload_n (pc' := 1687) dL_law__1686 rfl rfl ?_
    refine ax_iload (pc' := 1689) dL_law__1687 rfl rfl ?_
    refine ax_iconst (pc' := 1690) (v := (3 : Int32)) dL_law__1689 (by decide) rfl ?_
    refine ax_iadd (pc' := 1691) dL_law__1690 rfl ?_
    refine ax_sld (pc' := 1692) dL_law__1691 hr.2.2.1 rfl ?_
    refine ax_aload_n (pc' := 1693) dL_law__1692 rfl rfl ?_
    refine ax_iload (pc' := 1695) dL_law__1693 rfl rfl ?_
    refine ax_iconst (pc' := 1696) (v := (4 : Int32)) dL_law__1695 (by decide) rfl ?_
    refine ax_iadd (pc' := 1697) dL_law__1696 rfl ?_
    refine ax_sld (pc' := 1698) dL_law__1697 hr.2.2.2.1 rfl ?_
    refine ax_invVL (pc' := 1701) (ce' := ce + 4) (sl' := sl + 24) (a := 69) (As := [.int (g.2.2.2.2.2.2 (i + 1).toNatClampNeg), .int (g.2.2.2.2.2.2 (i + 2).toNatClampNeg), .int (g.2.2.2.2.2.2 (i + 3).toNatClampNeg), .int (g.2.2.2.2.2.2 (i + 4).toNatClampNeg)]) (S := []) (mc2 := 0) (ms2 := 0) (I2 := i_X12_home) rfl dL_law__1698 ll_204 sh_69 (by decide) rfl rfl rfl rfl rfl rfl rfl (by omega) (by omega) rfl (ac_M.imp (o_X12_home _ (g.2.2.2.2.2.2 (i + 1).toNatClampNeg) (g.2.2.2.2.2.2 (i + 2).toNatClampNeg) (g.2.2.2.2.2.2 (i + 3).toNatClampNeg) (g.2.2.2.2.2.2 (i + 4).toNatClampNeg) (H _)) ?_)
    rintro _ _ ⟨b, s2, t2, rfl, rfl, hT2, hI2, ht⟩
    show ac_X g i_L_law_ 100 601024 7293034 Q (ce + 4) (sl + 24) 1701 [some (.ref 1000000), some (.ref 0), some (.ref 69), some (.ref 585), some (.int i), some (.int c), none, none] [.long b] (false, 586, SH, s2, t2)
    refine ax_lstore (pc' := 1703) dL_law__1701 rfl rfl rfl ?_
    refine ax_aload_n (pc' := 1704) dL_law__1703 rfl rfl ?_
    refine ax_invVL (pc' := 1707) (ce' := ce + 4) (sl' := sl + 24) (a := 69) (As := []) (S := []) (mc2 := 0) (ms2 := 0) (I2 := i_X12_thrown) rfl dL_law__1704 ll_128 sh_69 (by decide) rfl rfl rfl rfl rfl rfl rfl (by omega) (by omega) rfl (ac_M.imp (o_X12_thrown _ (Q := fun r s => r = s2 69 0 ∧ s = s2) ⟨rfl, rfl⟩) ?_)
    rintro _ _ ⟨z, s3, rfl, rfl, rfl, rfl⟩
    show ac_X g i_L_law_ 100 601024 7293034 Q (ce + 4) (sl + 24) 1707 [some (.ref 1000000), some (.ref 0), some (.ref 69), some (.ref 585), some (.int i), some (.int c), some (.long b), none] [.int (s3 69 0)] (false, 586, SH, s3, t2)
    refine ax_iload (pc' := 1709) dL_law__1707 rfl rfl ?_
    refine ax_icmp_eq (pc' := 1712) (tgt := 1714) dL_law__1709 (by decide) rfl (fun _ => ?_) (fun z => absurd (thA_c hT2 hT).1 z)
    refine ax_iload (pc' := 1716) dL_law__1714 rfl rfl ?_
    refine ax_if_ne (pc' := 1719) (tgt := 1730) dL_law__1716 (by decide) rfl (fun _ => ?_) (fun z => absurd z (thA_c hT hT).2)
    refine ax_goto (tgt := 2585) dL_law__1730 (by decide) ?_
    refine ax_widen (ce' := ce + 8) (sl' := sl + 48) (by omega) (by omega) (ax_fgt (hN _ _ hI2))
theorem lc_share {g : ac_G} {Q : ac_O → ac_W → Prop} {ce sl : Nat} {i : Int32} {s : ac_m} {τ : Nat → Nat → Int64} (hce : ce + 8 ≤ 601024) (hsl : sl + 48 ≤ 7293034) (hr : rd g i) (hI : Inv s) (hN : ∀ s' τ', Inv s' → lwX g Q (ce + 8) (sl + 48) 2585 i s' τ') : lwX g Q ce sl 1733 i s τ := by
  refine ax_aload_n (pc' := 1734) dL_law__1733 rfl rfl ?_
  refine ax_aload_n (pc' := 1735) dL_law__1734 rfl rfl ?_
  refine ax_iload (pc' := 1737) dL_law__1735 rfl rfl ?_
  refine ax_iconst (pc' := 1738) (v := (1 : Int32)) dL_law__1737 (by decide) rfl ?_
  refine ax_iadd (pc' := 1739) dL_law__1738 rfl ?_
  refine ax_sld (pc' := 1740) dL_law__1739 hr.1 rfl ?_
  refine ax_aload_n (pc' := 1741) dL_law__1740 rfl rfl ?_
  refine ax_iload (pc' := 1743) dL_law__1741 rfl rfl ?_
  refine ax_iconst (pc' := 1744) (v := (2 : Int32)) dL_law__1743 (by decide) rfl ?_
  refine ax_iadd (pc' := 1745) dL_law__1744 rfl ?_
  refine ax_sld (pc' := 1746) dL_law__1745 hr.2.1 rfl ?_
  refine ax_aload_n (pc' := 1747) dL_law__1746 rfl rfl ?_
  refine ax_iload (pc' := 1749) dL_law__1747 rfl rfl ?_
  refine ax_iconst (pc' := 1750) (v := (3 : Int32)) dL_law__1749 (by decide) rfl ?_
  refine ax_iadd (pc' := 1751) dL_law__1750 rfl ?_
  refine ax_sld (pc' := 1752) dL_law__1751 hr.2.2.1 rfl ?_
  refine ax_aload_n (pc' := 1753) dL_law__1752 rfl rfl ?_
  refine ax_invSH (pc' := 1756) (ce' := ce + 3) (sl' := sl + 18) (As := [.ref 0, .int (g.2.2.2.2.2.2 (i + 1).toNatClampNeg), .int (g.2.2.2.2.2.2 (i + 2).toNatClampNeg), .int (g.2.2.2.2.2.2 (i + 3).toNatClampNeg), .ref 585]) (S := []) (mc2 := 3) (ms2 := 18) (I2 := i_L_share) rfl dL_law__1753 ll_205 rfl (by decide) rfl rfl rfl rfl (by omega) (by omega) rfl (ac_M.imp (o_L_share _ (g.2.2.2.2.2.2 (i + 1).toNatClampNeg) (g.2.2.2.2.2.2 (i + 2).toNatClampNeg) (g.2.2.2.2.2.2 (i + 3).toNatClampNeg) (s_share (g.2.2.2.2.2.2 (i + 1).toNatClampNeg) (g.2.2.2.2.2.2 (i + 2).toNatClampNeg) (g.2.2.2.2.2.2 (i + 3).toNatClampNeg) s hI)) ?_)
  rintro _ _ (⟨r, s1, rfl, rfl, H⟩ | ⟨E, c, s1, rfl, rfl, hT, H⟩)
  · show ac_X g i_L_law_ 100 601024 7293034 Q (ce + 3) (sl + 18) 1756 [some (.ref 1000000), some (.ref 0), some (.ref 69), some (.ref 585), some (.int i), none, none, none] [.int 0] (false, 586, SH, s1, (ac_uL τ 585 0 r.toInt64))
    refine ax_istore (pc' := 1758) dL_law__1756 rfl rfl rfl ?_
    refine ax_aload_n (pc' := 1759) dL_law__1758 rfl rfl ?_
    refine ax_aload_n (pc' := 1760) dL_law__1759 rfl rfl ?_
    refine ax_iload (pc' := 1762) dL_law__1760 rfl rfl ?_
    refine ax_iconst (pc' := 1763) (v := (1 : Int32)) dL_law__1762 (by decide) rfl ?_
    refine ax_iadd (pc' := 1764) dL_law__1763 rfl ?_
    refine ax_sld (pc' := 1765) dL_law__1764 hr.1 rfl ?_
    refine ax_aload_n (pc' := 1766) dL_law__1765 rfl rfl ?_
    refine ax_iload (pc' := 1768) dL_law__1766 rfl rfl ?_
    refine ax_iconst (pc' := 1769) (v := (2 : Int32)) dL_law__1768 (by decide) rfl ?_
    refine ax_iadd (pc' := 1770) dL_law__1769 rfl ?_
    refine ax_sld (pc' := 1771) dL_law__1770 hr.2.1 rfl ?_
    refine ax_aload_n (pc' := 1772) dL_law__1771 rfl rfl ?_
    refine ax_iload (pc' := 1774) dL_law__1772 rfl rfl ?_
    refine ax_iconst (pc' := 1775) (v := (3 : Int32)) dL_law__1774 (by decide) rfl ?_
    refine ax_iadd (pc' := 1776) dL_law__1775 rfl ?_
    refine ax_sld (pc' := 1777) dL_law__1776 hr.2.2.1 rfl ?_
    refine ax_invVL (pc' := 1780) (ce' := ce + 3) (sl' := sl + 18) (a := 69) (As := [.int (g.2.2.2.2.2.2 (i + 1).toNatClampNeg), .int (g.2.2.2.2.2.2 (i + 2).toNatClampNeg), .int (g.2.2.2.2.2.2 (i + 3).toNatClampNeg)]) (S := []) (mc2 := 0) (ms2 := 0) (I2 := i_X12_share) rfl dL_law__1777 ll_207 sh_69 (by decide) rfl rfl rfl rfl rfl rfl rfl (by omega) (by omega) rfl (ac_M.imp (o_X12_share _ (g.2.2.2.2.2.2 (i + 1).toNatClampNeg) (g.2.2.2.2.2.2 (i + 2).toNatClampNeg) (g.2.2.2.2.2.2 (i + 3).toNatClampNeg) H) ?_)
    rintro _ _ ⟨b, s2, rfl, rfl, hb, h0, hI2⟩
    show ac_X g i_L_law_ 100 601024 7293034 Q (ce + 3) (sl + 18) 1780 [some (.ref 1000000), some (.ref 0), some (.ref 69), some (.ref 585), some (.int i), some (.int 0), none, none] [.int b] (false, 586, SH, s2, (ac_uL τ 585 0 r.toInt64))
    refine ax_istore (pc' := 1782) dL_law__1780 rfl rfl rfl ?_
    refine ax_aload_n (pc' := 1783) dL_law__1782 rfl rfl ?_
    refine ax_invVL (pc' := 1786) (ce' := ce + 3) (sl' := sl + 18) (a := 69) (As := []) (S := []) (mc2 := 0) (ms2 := 0) (I2 := i_X12_thrown) rfl dL_law__1783 ll_128 sh_69 (by decide) rfl rfl rfl rfl rfl rfl rfl (by omega) (by omega) rfl (ac_M.imp (o_X12_thrown _ (Q := fun r s => r = s2 69 0 ∧ s = s2) ⟨rfl, rfl⟩) ?_)
    rintro _ _ ⟨z, s3, rfl, rfl, rfl, rfl⟩
    show ac_X g i_L_law_ 100 601024 7293034 Q (ce + 3) (sl + 18) 1786 [some (.ref 1000000), some (.ref 0), some (.ref 69), some (.ref 585), some (.int i), some (.int 0), some (.int b), none] [.int (s3 69 0)] (false, 586, SH, s3, (ac_uL τ 585 0 r.toInt64))
    refine ax_iload (pc' := 1788) dL_law__1786 rfl rfl ?_
    refine ax_icmp_eq (pc' := 1791) (tgt := 1793) dL_law__1788 (by decide) rfl (fun _ => ?_) (fun z => absurd h0 z)
    refine ax_iload (pc' := 1795) dL_law__1793 rfl rfl ?_
    refine ax_if_ne (pc' := 1798) (tgt := 1810) dL_law__1795 (by decide) rfl (fun z => absurd rfl z) (fun _ => ?_)
    refine ax_aload_n (pc' := 1799) dL_law__1798 rfl rfl ?_
    refine ax_iconst (pc' := 1800) (v := (0 : Int32)) dL_law__1799 (by decide) rfl ?_
    refine ax_lald (pc' := 1801) dL_law__1800 sh_585 (ac_in (by decide)) rfl rfl ?_
    refine ax_iload (pc' := 1803) dL_law__1801 rfl rfl ?_
    refine ax_i2l (pc' := 1804) dL_law__1803 rfl ?_
    rw [show ac_uL τ 585 0 r.toInt64 585 (0 : Int32).toNatClampNeg = r.toInt64 from uL_eq, hb]
    refine ax_lcmp (pc' := 1805) dL_law__1804 rfl ?_
    refine ax_if_eq (pc' := 1808) (tgt := 1810) dL_law__1805 (by decide) rfl (fun _ => ?_) (fun z => absurd (lg_cmp_self _) z)
    refine ax_goto (tgt := 2585) dL_law__1810 (by decide) ?_
    refine ax_widen (ce' := ce + 8) (sl' := sl + 48) (by omega) (by omega) (ax_fgt (hN _ _ hI2))
  · show ac_X g i_L_law_ 100 601024 7293034 Q (ce + 3) (sl + 18) 1756 [some (.ref 1000000), some (.ref 0), some (.ref 69), some (.ref 585), some (.int i), none, none, none] [.int c] (false, 586, SH, s1, τ)
    refine ax_istore (pc' := 1758) dL_law__1756 rfl rfl rfl ?_
    refine ax_aload_n (pc' := 1759) dL_law__1758 rfl rfl ?_
    refine ax_aload_n (pc' := 1760) dL_law__1759 rfl rfl ?_
    refine ax_iload (pc' := 1762) dL_law__1760 rfl rfl ?_
    refine ax_iconst (pc' := 1763) (v := (1 : Int32)) dL_law__1762 (by decide) rfl ?_
    refine ax_iadd (pc' := 1764) dL_law__1763 rfl ?_
    refine ax_sld (pc' := 1765) dL_law__1764 hr.1 rfl ?_
    refine ax_aload_n (pc' := 1766) dL_law__1765 rfl rfl ?_
    refine ax_iload (pc' := 1768) dL_law__1766 rfl rfl ?_
    refine ax_iconst (pc' := 1769) (v := (2 : Int32)) dL_law__1768 (by decide) rfl ?_
    refine ax_iadd (pc' := 1770) dL_law__1769 rfl ?_
    refine ax_sld (pc' := 1771) dL_law__1770 hr.2.1 rfl ?_
    refine ax_aload_n (pc' := 1772) dL_law__1771 rfl rfl ?_
    refine ax_iload (pc' := 1774) dL_law__1772 rfl rfl ?_
    refine ax_iconst (pc' := 1775) (v := (3 : Int32)) dL_law__1774 (by decide) rfl ?_
    refine ax_iadd (pc' := 1776) dL_law__1775 rfl ?_
    refine ax_sld (pc' := 1777) dL_law__1776 hr.2.2.1 rfl ?_
    refine ax_invVL (pc' := 1780) (ce' := ce + 3) (sl' := sl + 18) (a := 69) (As := [.int (g.2.2.2.2.2.2 (i + 1).toNatClampNeg), .int (g.2.2.2.2.2.2 (i + 2).toNatClampNeg), .int (g.2.2.2.2.2.2 (i + 3).toNatClampNeg)]) (S := []) (mc2 := 0) (ms2 := 0) (I2 := i_X12_share) rfl dL_law__1777 ll_207 sh_69 (by decide) rfl rfl rfl rfl rfl rfl rfl (by omega) (by omega) rfl (ac_M.imp (o_X12_share _ (g.2.2.2.2.2.2 (i + 1).toNatClampNeg) (g.2.2.2.2.2.2 (i + 2).toNatClampNeg) (g.2.2.2.2.2.2 (i + 3).toNatClampNeg) H) ?_)
    rintro _ _ ⟨b, s2, rfl, rfl, hT2, hI2⟩
    show ac_X g i_L_law_ 100 601024 7293034 Q (ce + 3) (sl + 18) 1780 [some (.ref 1000000), some (.ref 0), some (.ref 69), some (.ref 585), some (.int i), some (.int c), none, none] [.int b] (false, 586, SH, s2, τ)
    refine ax_istore (pc' := 1782) dL_law__1780 rfl rfl rfl ?_
    refine ax_aload_n (pc' := 1783) dL_law__1782 rfl rfl ?_
    refine ax_invVL (pc' := 1786) (ce' := ce + 3) (sl' := sl + 18) (a := 69) (As := []) (S := []) (mc2 := 0) (ms2 := 0) (I2 := i_X12_thrown) rfl dL_law__1783 ll_128 sh_69 (by decide) rfl rfl rfl rfl rfl rfl rfl (by omega) (by omega) rfl (ac_M.imp (o_X12_thrown _ (Q := fun r s => r = s2 69 0 ∧ s = s2) ⟨rfl, rfl⟩) ?_)
    rintro _ _ ⟨z, s3, rfl, rfl, rfl, rfl⟩
    show ac_X g i_L_law_ 100 601024 7293034 Q (ce + 3) (sl + 18) 1786 [some (.ref 1000000), some (.ref 0), some (.ref 69), some (.ref 585), some (.int i), some (.int c), some (.int b), none] [.int (s3 69 0)] (false, 586, SH, s3, τ)
    refine ax_iload (pc' := 1788) dL_law__1786 rfl rfl ?_
    refine ax_icmp_eq (pc' := 1791) (tgt := 1793) dL_law__1788 (by decide) rfl (fun _ => ?_) (fun z => absurd (thB_c hT2 hT).1 z)
    refine ax_iload (pc' := 1795) dL_law__1793 rfl rfl ?_
    refine ax_if_ne (pc' := 1798) (tgt := 1810) dL_law__1795 (by decide) rfl (fun _ => ?_) (fun z => absurd z (thB_c hT hT).2)
    refine ax_goto (tgt := 2585) dL_law__1810 (by decide) ?_
    refine ax_widen (ce' := ce + 8) (sl' := sl + 48) (by omega) (by omega) (ax_fgt (hN _ _ hI2))
theorem lc_heaviest {g : ac_G} {Q : ac_O → ac_W → Prop} {ce sl : Nat} {i : Int32} {s : ac_m} {τ : Nat → Nat → Int64} (hce : ce + 8 ≤ 601024) (hsl : sl + 48 ≤ 7293034) (hr : rd g i) (hI : Inv s) (hN : ∀ s' τ', Inv s' → lwX g Q (ce + 8) (sl + 48) 2585 i s' τ') : lwX g Q ce sl 1813 i s τ := by
  refine ax_aload_n (pc' := 1814) dL_law__1813 rfl rfl ?_
  refine ax_aload_n (pc' := 1815) dL_law__1814 rfl rfl ?_
  refine ax_iload (pc' := 1817) dL_law__1815 rfl rfl ?_
  refine ax_iconst (pc' := 1818) (v := (1 : Int32)) dL_law__1817 (by decide) rfl ?_
  refine ax_iadd (pc' := 1819) dL_law__1818 rfl ?_
  refine ax_sld (pc' := 1820) dL_law__1819 hr.1 rfl ?_
  refine ax_aload_n (pc' := 1821) dL_law__1820 rfl rfl ?_
  refine ax_invSH (pc' := 1824) (ce' := ce + 1) (sl' := sl + 6) (As := [.ref 0, .int (g.2.2.2.2.2.2 (i + 1).toNatClampNeg), .ref 585]) (S := []) (mc2 := 1) (ms2 := 6) (I2 := i_L_heaviest) rfl dL_law__1821 ll_208 rfl (by decide) rfl rfl rfl rfl (by omega) (by omega) rfl (ac_M.imp (o_L_heaviest _ (g.2.2.2.2.2.2 (i + 1).toNatClampNeg) (s_heaviest (g.2.2.2.2.2.2 (i + 1).toNatClampNeg) s hI)) ?_)
  rintro _ _ (⟨r, s1, rfl, rfl, H⟩ | ⟨E, c, s1, rfl, rfl, hT, H⟩)
  · show ac_X g i_L_law_ 100 601024 7293034 Q (ce + 1) (sl + 6) 1824 [some (.ref 1000000), some (.ref 0), some (.ref 69), some (.ref 585), some (.int i), none, none, none] [.int 0] (false, 586, SH, s1, (ac_uL τ 585 0 r.toInt64))
    refine ax_istore (pc' := 1826) dL_law__1824 rfl rfl rfl ?_
    refine ax_aload_n (pc' := 1827) dL_law__1826 rfl rfl ?_
    refine ax_aload_n (pc' := 1828) dL_law__1827 rfl rfl ?_
    refine ax_iload (pc' := 1830) dL_law__1828 rfl rfl ?_
    refine ax_iconst (pc' := 1831) (v := (1 : Int32)) dL_law__1830 (by decide) rfl ?_
    refine ax_iadd (pc' := 1832) dL_law__1831 rfl ?_
    refine ax_sld (pc' := 1833) dL_law__1832 hr.1 rfl ?_
    refine ax_invVL (pc' := 1836) (ce' := ce + 1) (sl' := sl + 6) (a := 69) (As := [.int (g.2.2.2.2.2.2 (i + 1).toNatClampNeg)]) (S := []) (mc2 := 0) (ms2 := 0) (I2 := i_X12_heaviest) rfl dL_law__1833 ll_210 sh_69 (by decide) rfl rfl rfl rfl rfl rfl rfl (by omega) (by omega) rfl (ac_M.imp (o_X12_heaviest _ (g.2.2.2.2.2.2 (i + 1).toNatClampNeg) H) ?_)
    rintro _ _ ⟨b, s2, rfl, rfl, hb, h0, hI2⟩
    show ac_X g i_L_law_ 100 601024 7293034 Q (ce + 1) (sl + 6) 1836 [some (.ref 1000000), some (.ref 0), some (.ref 69), some (.ref 585), some (.int i), some (.int 0), none, none] [.int b] (false, 586, SH, s2, (ac_uL τ 585 0 r.toInt64))
    refine ax_istore (pc' := 1838) dL_law__1836 rfl rfl rfl ?_
    refine ax_aload_n (pc' := 1839) dL_law__1838 rfl rfl ?_
    refine ax_invVL (pc' := 1842) (ce' := ce + 1) (sl' := sl + 6) (a := 69) (As := []) (S := []) (mc2 := 0) (ms2 := 0) (I2 := i_X12_thrown) rfl dL_law__1839 ll_128 sh_69 (by decide) rfl rfl rfl rfl rfl rfl rfl (by omega) (by omega) rfl (ac_M.imp (o_X12_thrown _ (Q := fun r s => r = s2 69 0 ∧ s = s2) ⟨rfl, rfl⟩) ?_)
    rintro _ _ ⟨z, s3, rfl, rfl, rfl, rfl⟩
    show ac_X g i_L_law_ 100 601024 7293034 Q (ce + 1) (sl + 6) 1842 [some (.ref 1000000), some (.ref 0), some (.ref 69), some (.ref 585), some (.int i), some (.int 0), some (.int b), none] [.int (s3 69 0)] (false, 586, SH, s3, (ac_uL τ 585 0 r.toInt64))
    refine ax_iload (pc' := 1844) dL_law__1842 rfl rfl ?_
    refine ax_icmp_eq (pc' := 1847) (tgt := 1849) dL_law__1844 (by decide) rfl (fun _ => ?_) (fun z => absurd h0 z)
    refine ax_iload (pc' := 1851) dL_law__1849 rfl rfl ?_
    refine ax_if_ne (pc' := 1854) (tgt := 1866) dL_law__1851 (by decide) rfl (fun z => absurd rfl z) (fun _ => ?_)
    refine ax_aload_n (pc' := 1855) dL_law__1854 rfl rfl ?_
    refine ax_iconst (pc' := 1856) (v := (0 : Int32)) dL_law__1855 (by decide) rfl ?_
    refine ax_lald (pc' := 1857) dL_law__1856 sh_585 (ac_in (by decide)) rfl rfl ?_
    refine ax_iload (pc' := 1859) dL_law__1857 rfl rfl ?_
    refine ax_i2l (pc' := 1860) dL_law__1859 rfl ?_
    rw [show ac_uL τ 585 0 r.toInt64 585 (0 : Int32).toNatClampNeg = r.toInt64 from uL_eq, hb]
    refine ax_lcmp (pc' := 1861) dL_law__1860 rfl ?_
    refine ax_if_eq (pc' := 1864) (tgt := 1866) dL_law__1861 (by decide) rfl (fun _ => ?_) (fun z => absurd (lg_cmp_self _) z)
    refine ax_goto (tgt := 2585) dL_law__1866 (by decide) ?_
    refine ax_widen (ce' := ce + 8) (sl' := sl + 48) (by omega) (by omega) (ax_fgt (hN _ _ hI2))
  · show ac_X g i_L_law_ 100 601024 7293034 Q (ce + 1) (sl + 6) 1824 [some (.ref 1000000), some (.ref 0), some (.ref 69), some (.ref 585), some (.int i), none, none, none] [.int c] (false, 586, SH, s1, τ)
    refine ax_istore (pc' := 1826) dL_law__1824 rfl rfl rfl ?_
    refine ax_aload_n (pc' := 1827) dL_law__1826 rfl rfl ?_
    refine ax_aload_n (pc' := 1828) dL_law__1827 rfl rfl ?_
    refine ax_iload (pc' := 1830) dL_law__1828 rfl rfl ?_
    refine ax_iconst (pc' := 1831) (v := (1 : Int32)) dL_law__1830 (by decide) rfl ?_
    refine ax_iadd (pc' := 1832) dL_law__1831 rfl ?_
    refine ax_sld (pc' := 1833) dL_law__1832 hr.1 rfl ?_
    refine ax_invVL (pc' := 1836) (ce' := ce + 1) (sl' := sl + 6) (a := 69) (As := [.int (g.2.2.2.2.2.2 (i + 1).toNatClampNeg)]) (S := []) (mc2 := 0) (ms2 := 0) (I2 := i_X12_heaviest) rfl dL_law__1833 ll_210 sh_69 (by decide) rfl rfl rfl rfl rfl rfl rfl (by omega) (by omega) rfl (ac_M.imp (o_X12_heaviest _ (g.2.2.2.2.2.2 (i + 1).toNatClampNeg) H) ?_)
    rintro _ _ ⟨b, s2, rfl, rfl, hT2, hI2⟩
    show ac_X g i_L_law_ 100 601024 7293034 Q (ce + 1) (sl + 6) 1836 [some (.ref 1000000), some (.ref 0), some (.ref 69), some (.ref 585), some (.int i), some (.int c), none, none] [.int b] (false, 586, SH, s2, τ)
    refine ax_istore (pc' := 1838) dL_law__1836 rfl rfl rfl ?_
    refine ax_aload_n (pc' := 1839) dL_law__1838 rfl rfl ?_
    refine ax_invVL (pc' := 1842) (ce' := ce + 1) (sl' := sl + 6) (a := 69) (As := []) (S := []) (mc2 := 0) (ms2 := 0) (I2 := i_X12_thrown) rfl dL_law__1839 ll_128 sh_69 (by decide) rfl rfl rfl rfl rfl rfl rfl (by omega) (by omega) rfl (ac_M.imp (o_X12_thrown _ (Q := fun r s => r = s2 69 0 ∧ s = s2) ⟨rfl, rfl⟩) ?_)
    rintro _ _ ⟨z, s3, rfl, rfl, rfl, rfl⟩
    show ac_X g i_L_law_ 100 601024 7293034 Q (ce + 1) (sl + 6) 1842 [some (.ref 1000000), some (.ref 0), some (.ref 69), some (.ref 585), some (.int i), some (.int c), some (.int b), none] [.int (s3 69 0)] (false, 586, SH, s3, τ)
    refine ax_iload (pc' := 1844) dL_law__1842 rfl rfl ?_
    refine ax_icmp_eq (pc' := 1847) (tgt := 1849) dL_law__1844 (by decide) rfl (fun _ => ?_) (fun z => absurd (thA_c hT2 hT).1 z)
    refine ax_iload (pc' := 1851) dL_law__1849 rfl rfl ?_
    refine ax_if_ne (pc' := 1854) (tgt := 1866) dL_law__1851 (by decide) rfl (fun _ => ?_) (fun z => absurd z (thA_c hT hT).2)
    refine ax_goto (tgt := 2585) dL_law__1866 (by decide) ?_
    refine ax_widen (ce' := ce + 8) (sl' := sl + 48) (by omega) (by omega) (ax_fgt (hN _ _ hI2))
theorem lc_oldest {g : ac_G} {Q : ac_O → ac_W → Prop} {ce sl : Nat} {i : Int32} {s : ac_m} {τ : Nat → Nat → Int64} (hce : ce + 8 ≤ 601024) (hsl : sl + 48 ≤ 7293034) (hr : rd g i) (hI : Inv s) (hN : ∀ s' τ', Inv s' → lwX g Q (ce + 8) (sl + 48) 2585 i s' τ') : lwX g Q ce sl 1869 i s τ := by
  refine ax_aload_n (pc' := 1870) dL_law__1869 rfl rfl ?_
  refine ax_aload_n (pc' := 1871) dL_law__1870 rfl rfl ?_
  refine ax_iload (pc' := 1873) dL_law__1871 rfl rfl ?_
  refine ax_iconst (pc' := 1874) (v := (1 : Int32)) dL_law__1873 (by decide) rfl ?_
  refine ax_iadd (pc' := 1875) dL_law__1874 rfl ?_
  refine ax_sld (pc' := 1876) dL_law__1875 hr.1 rfl ?_
  refine ax_aload_n (pc' := 1877) dL_law__1876 rfl rfl ?_
  refine ax_invSH (pc' := 1880) (ce' := ce + 1) (sl' := sl + 6) (As := [.ref 0, .int (g.2.2.2.2.2.2 (i + 1).toNatClampNeg), .ref 585]) (S := []) (mc2 := 1) (ms2 := 6) (I2 := i_L_oldest) rfl dL_law__1877 ll_211 rfl (by decide) rfl rfl rfl rfl (by omega) (by omega) rfl (ac_M.imp (o_L_oldest _ (g.2.2.2.2.2.2 (i + 1).toNatClampNeg) (s_oldest (g.2.2.2.2.2.2 (i + 1).toNatClampNeg) s hI)) ?_)
  rintro _ _ (⟨r, s1, rfl, rfl, H⟩ | ⟨E, c, s1, rfl, rfl, hT, H⟩)
  · show ac_X g i_L_law_ 100 601024 7293034 Q (ce + 1) (sl + 6) 1880 [some (.ref 1000000), some (.ref 0), some (.ref 69), some (.ref 585), some (.int i), none, none, none] [.int 0] (false, 586, SH, s1, (ac_uL τ 585 0 r.toInt64))
    refine ax_istore (pc' := 1882) dL_law__1880 rfl rfl rfl ?_
    refine ax_aload_n (pc' := 1883) dL_law__1882 rfl rfl ?_
    refine ax_aload_n (pc' := 1884) dL_law__1883 rfl rfl ?_
    refine ax_iload (pc' := 1886) dL_law__1884 rfl rfl ?_
    refine ax_iconst (pc' := 1887) (v := (1 : Int32)) dL_law__1886 (by decide) rfl ?_
    refine ax_iadd (pc' := 1888) dL_law__1887 rfl ?_
    refine ax_sld (pc' := 1889) dL_law__1888 hr.1 rfl ?_
    refine ax_invVL (pc' := 1892) (ce' := ce + 1) (sl' := sl + 6) (a := 69) (As := [.int (g.2.2.2.2.2.2 (i + 1).toNatClampNeg)]) (S := []) (mc2 := 0) (ms2 := 0) (I2 := i_X12_oldest) rfl dL_law__1889 ll_213 sh_69 (by decide) rfl rfl rfl rfl rfl rfl rfl (by omega) (by omega) rfl (ac_M.imp (o_X12_oldest _ (g.2.2.2.2.2.2 (i + 1).toNatClampNeg) H) ?_)
    rintro _ _ ⟨b, s2, rfl, rfl, hb, h0, hI2⟩
    show ac_X g i_L_law_ 100 601024 7293034 Q (ce + 1) (sl + 6) 1892 [some (.ref 1000000), some (.ref 0), some (.ref 69), some (.ref 585), some (.int i), some (.int 0), none, none] [.int b] (false, 586, SH, s2, (ac_uL τ 585 0 r.toInt64))
    refine ax_istore (pc' := 1894) dL_law__1892 rfl rfl rfl ?_
    refine ax_aload_n (pc' := 1895) dL_law__1894 rfl rfl ?_
    refine ax_invVL (pc' := 1898) (ce' := ce + 1) (sl' := sl + 6) (a := 69) (As := []) (S := []) (mc2 := 0) (ms2 := 0) (I2 := i_X12_thrown) rfl dL_law__1895 ll_128 sh_69 (by decide) rfl rfl rfl rfl rfl rfl rfl (by omega) (by omega) rfl (ac_M.imp (o_X12_thrown _ (Q := fun r s => r = s2 69 0 ∧ s = s2) ⟨rfl, rfl⟩) ?_)
    rintro _ _ ⟨z, s3, rfl, rfl, rfl, rfl⟩
    show ac_X g i_L_law_ 100 601024 7293034 Q (ce + 1) (sl + 6) 1898 [some (.ref 1000000), some (.ref 0), some (.ref 69), some (.ref 585), some (.int i), some (.int 0), some (.int b), none] [.int (s3 69 0)] (false, 586, SH, s3, (ac_uL τ 585 0 r.toInt64))
    refine ax_iload (pc' := 1900) dL_law__1898 rfl rfl ?_
    refine ax_icmp_eq (pc' := 1903) (tgt := 1905) dL_law__1900 (by decide) rfl (fun _ => ?_) (fun z => absurd h0 z)
    refine ax_iload (pc' := 1907) dL_law__1905 rfl rfl ?_
    refine ax_if_ne (pc' := 1910) (tgt := 1922) dL_law__1907 (by decide) rfl (fun z => absurd rfl z) (fun _ => ?_)
    refine ax_aload_n (pc' := 1911) dL_law__1910 rfl rfl ?_
    refine ax_iconst (pc' := 1912) (v := (0 : Int32)) dL_law__1911 (by decide) rfl ?_
    refine ax_lald (pc' := 1913) dL_law__1912 sh_585 (ac_in (by decide)) rfl rfl ?_
    refine ax_iload (pc' := 1915) dL_law__1913 rfl rfl ?_
    refine ax_i2l (pc' := 1916) dL_law__1915 rfl ?_
    rw [show ac_uL τ 585 0 r.toInt64 585 (0 : Int32).toNatClampNeg = r.toInt64 from uL_eq, hb]
    refine ax_lcmp (pc' := 1917) dL_law__1916 rfl ?_
    refine ax_if_eq (pc' := 1920) (tgt := 1922) dL_law__1917 (by decide) rfl (fun _ => ?_) (fun z => absurd (lg_cmp_self _) z)
    refine ax_goto (tgt := 2585) dL_law__1922 (by decide) ?_
    refine ax_widen (ce' := ce + 8) (sl' := sl + 48) (by omega) (by omega) (ax_fgt (hN _ _ hI2))
  · show ac_X g i_L_law_ 100 601024 7293034 Q (ce + 1) (sl + 6) 1880 [some (.ref 1000000), some (.ref 0), some (.ref 69), some (.ref 585), some (.int i), none, none, none] [.int c] (false, 586, SH, s1, τ)
    refine ax_istore (pc' := 1882) dL_law__1880 rfl rfl rfl ?_
    refine ax_aload_n (pc' := 1883) dL_law__1882 rfl rfl ?_
    refine ax_aload_n (pc' := 1884) dL_law__1883 rfl rfl ?_
    refine ax_iload (pc' := 1886) dL_law__1884 rfl rfl ?_
    refine ax_iconst (pc' := 1887) (v := (1 : Int32)) dL_law__1886 (by decide) rfl ?_
    refine ax_iadd (pc' := 1888) dL_law__1887 rfl ?_
    refine ax_sld (pc' := 1889) dL_law__1888 hr.1 rfl ?_
    refine ax_invVL (pc' := 1892) (ce' := ce + 1) (sl' := sl + 6) (a := 69) (As := [.int (g.2.2.2.2.2.2 (i + 1).toNatClampNeg)]) (S := []) (mc2 := 0) (ms2 := 0) (I2 := i_X12_oldest) rfl dL_law__1889 ll_213 sh_69 (by decide) rfl rfl rfl rfl rfl rfl rfl (by omega) (by omega) rfl (ac_M.imp (o_X12_oldest _ (g.2.2.2.2.2.2 (i + 1).toNatClampNeg) H) ?_)
    rintro _ _ ⟨b, s2, rfl, rfl, hT2, hI2⟩
    show ac_X g i_L_law_ 100 601024 7293034 Q (ce + 1) (sl + 6) 1892 [some (.ref 1000000), some (.ref 0), some (.ref 69), some (.ref 585), some (.int i), some (.int c), none, none] [.int b] (false, 586, SH, s2, τ)
    refine ax_istore (pc' := 1894) dL_law__1892 rfl rfl rfl ?_
    refine ax_aload_n (pc' := 1895) dL_law__1894 rfl rfl ?_
    refine ax_invVL (pc' := 1898) (ce' := ce + 1) (sl' := sl + 6) (a := 69) (As := []) (S := []) (mc2 := 0) (ms2 := 0) (I2 := i_X12_thrown) rfl dL_law__1895 ll_128 sh_69 (by decide) rfl rfl rfl rfl rfl rfl rfl (by omega) (by omega) rfl (ac_M.imp (o_X12_thrown _ (Q := fun r s => r = s2 69 0 ∧ s = s2) ⟨rfl, rfl⟩) ?_)
    rintro _ _ ⟨z, s3, rfl, rfl, rfl, rfl⟩
    show ac_X g i_L_law_ 100 601024 7293034 Q (ce + 1) (sl + 6) 1898 [some (.ref 1000000), some (.ref 0), some (.ref 69), some (.ref 585), some (.int i), some (.int c), some (.int b), none] [.int (s3 69 0)] (false, 586, SH, s3, τ)
    refine ax_iload (pc' := 1900) dL_law__1898 rfl rfl ?_
    refine ax_icmp_eq (pc' := 1903) (tgt := 1905) dL_law__1900 (by decide) rfl (fun _ => ?_) (fun z => absurd (thA_c hT2 hT).1 z)
    refine ax_iload (pc' := 1907) dL_law__1905 rfl rfl ?_
    refine ax_if_ne (pc' := 1910) (tgt := 1922) dL_law__1907 (by decide) rfl (fun _ => ?_) (fun z => absurd z (thA_c hT hT).2)
    refine ax_goto (tgt := 2585) dL_law__1922 (by decide) ?_
    refine ax_widen (ce' := ce + 8) (sl' := sl + 48) (by omega) (by omega) (ax_fgt (hN _ _ hI2))
theorem lc_overrun {g : ac_G} {Q : ac_O → ac_W → Prop} {ce sl : Nat} {i : Int32} {s : ac_m} {τ : Nat → Nat → Int64} (hce : ce + 8 ≤ 601024) (hsl : sl + 48 ≤ 7293034) (hr : rd g i) (hI : Inv s) (hN : ∀ s' τ', Inv s' → lwX g Q (ce + 8) (sl + 48) 2585 i s' τ') : lwX g Q ce sl 1925 i s τ := by
  refine ax_aload_n (pc' := 1926) dL_law__1925 rfl rfl ?_
  refine ax_invVL (pc' := 1929) (ce' := ce + 0) (sl' := sl + 0) (a := 0) (As := []) (S := []) (mc2 := 0) (ms2 := 0) (I2 := i_X11_overrun) rfl dL_law__1926 ll_214 sh_0 (by decide) rfl rfl rfl rfl rfl rfl rfl (by omega) (by omega) rfl (ac_M.imp (o_X11_overrun _  (s_overrun  s hI)) ?_)
  rintro _ _ ⟨r, s1, rfl, rfl, H⟩
  show ac_X g i_L_law_ 100 601024 7293034 Q (ce + 0) (sl + 0) 1929 [some (.ref 1000000), some (.ref 0), some (.ref 69), some (.ref 585), some (.int i), none, none, none] [.int r] (false, 586, SH, s1, τ)
  refine ax_aload_n (pc' := 1930) dL_law__1929 rfl rfl ?_
  refine ax_invVL (pc' := 1933) (ce' := ce + 0) (sl' := sl + 0) (a := 69) (As := []) (S := [.int r]) (mc2 := 0) (ms2 := 0) (I2 := i_X12_overrun) rfl dL_law__1930 ll_217 sh_69 (by decide) rfl rfl rfl rfl rfl rfl rfl (by omega) (by omega) rfl (ac_M.imp (o_X12_overrun _  H) ?_)
  rintro _ _ ⟨b, s2, rfl, rfl, hb, h0, hI2⟩
  show ac_X g i_L_law_ 100 601024 7293034 Q (ce + 0) (sl + 0) 1933 [some (.ref 1000000), some (.ref 0), some (.ref 69), some (.ref 585), some (.int i), none, none, none] [.int b, .int r] (false, 586, SH, s2, τ)
  refine ax_icmp_eq (pc' := 1936) (tgt := 2585) dL_law__1933 (by decide) rfl (fun _ => ?_) (fun z => absurd hb z)
  exact ax_widen (ce' := ce + 8) (sl' := sl + 48) (by omega) (by omega) (hN _ _ hI2)
theorem lc_good {g : ac_G} {Q : ac_O → ac_W → Prop} {ce sl : Nat} {i : Int32} {s : ac_m} {τ : Nat → Nat → Int64} (hce : ce + 8 ≤ 601024) (hsl : sl + 48 ≤ 7293034) (hr : rd g i) (hI : Inv s) (hN : ∀ s' τ', Inv s' → lwX g Q (ce + 8) (sl + 48) 2585 i s' τ') : lwX g Q ce sl 1938 i s τ := by
  refine ax_aload_n (pc' := 1939) dL_law__1938 rfl rfl ?_
  refine ax_aload_n (pc' := 1940) dL_law__1939 rfl rfl ?_
  refine ax_iload (pc' := 1942) dL_law__1940 rfl rfl ?_
  refine ax_iconst (pc' := 1943) (v := (1 : Int32)) dL_law__1942 (by decide) rfl ?_
  refine ax_iadd (pc' := 1944) dL_law__1943 rfl ?_
  refine ax_sld (pc' := 1945) dL_law__1944 hr.1 rfl ?_
  refine ax_aload_n (pc' := 1946) dL_law__1945 rfl rfl ?_
  refine ax_invSH (pc' := 1949) (ce' := ce + 1) (sl' := sl + 6) (As := [.ref 0, .int (g.2.2.2.2.2.2 (i + 1).toNatClampNeg), .ref 585]) (S := []) (mc2 := 1) (ms2 := 6) (I2 := i_L_good) rfl dL_law__1946 ll_218 rfl (by decide) rfl rfl rfl rfl (by omega) (by omega) rfl (ac_M.imp (o_L_good _ (g.2.2.2.2.2.2 (i + 1).toNatClampNeg) (s_good (g.2.2.2.2.2.2 (i + 1).toNatClampNeg) s hI)) ?_)
  rintro _ _ (⟨r, s1, rfl, rfl, H⟩ | ⟨E, c, s1, rfl, rfl, hT, H⟩)
  · show ac_X g i_L_law_ 100 601024 7293034 Q (ce + 1) (sl + 6) 1949 [some (.ref 1000000), some (.ref 0), some (.ref 69), some (.ref 585), some (.int i), none, none, none] [.int 0] (false, 586, SH, s1, (ac_uL τ 585 0 r.toInt64))
    refine ax_istore (pc' := 1951) dL_law__1949 rfl rfl rfl ?_
    refine ax_aload_n (pc' := 1952) dL_law__1951 rfl rfl ?_
    refine ax_aload_n (pc' := 1953) dL_law__1952 rfl rfl ?_
    refine ax_iload (pc' := 1955) dL_law__1953 rfl rfl ?_
    refine ax_iconst (pc' := 1956) (v := (1 : Int32)) dL_law__1955 (by decide) rfl ?_
    refine ax_iadd (pc' := 1957) dL_law__1956 rfl ?_
    refine ax_sld (pc' := 1958) dL_law__1957 hr.1 rfl ?_
    refine ax_invVL (pc' := 1961) (ce' := ce + 1) (sl' := sl + 6) (a := 69) (As := [.int (g.2.2.2.2.2.2 (i + 1).toNatClampNeg)]) (S := []) (mc2 := 0) (ms2 := 0) (I2 := i_X12_good) rfl dL_law__1958 ll_220 sh_69 (by decide) rfl rfl rfl rfl rfl rfl rfl (by omega) (by omega) rfl (ac_M.imp (o_X12_good _ (g.2.2.2.2.2.2 (i + 1).toNatClampNeg) H) ?_)
    rintro _ _ ⟨b, s2, rfl, rfl, hb, h0, hI2⟩
    show ac_X g i_L_law_ 100 601024 7293034 Q (ce + 1) (sl + 6) 1961 [some (.ref 1000000), some (.ref 0), some (.ref 69), some (.ref 585), some (.int i), some (.int 0), none, none] [.int b] (false, 586, SH, s2, (ac_uL τ 585 0 r.toInt64))
    refine ax_istore (pc' := 1963) dL_law__1961 rfl rfl rfl ?_
    refine ax_aload_n (pc' := 1964) dL_law__1963 rfl rfl ?_
    refine ax_invVL (pc' := 1967) (ce' := ce + 1) (sl' := sl + 6) (a := 69) (As := []) (S := []) (mc2 := 0) (ms2 := 0) (I2 := i_X12_thrown) rfl dL_law__1964 ll_128 sh_69 (by decide) rfl rfl rfl rfl rfl rfl rfl (by omega) (by omega) rfl (ac_M.imp (o_X12_thrown _ (Q := fun r s => r = s2 69 0 ∧ s = s2) ⟨rfl, rfl⟩) ?_)
    rintro _ _ ⟨z, s3, rfl, rfl, rfl, rfl⟩
    show ac_X g i_L_law_ 100 601024 7293034 Q (ce + 1) (sl + 6) 1967 [some (.ref 1000000), some (.ref 0), some (.ref 69), some (.ref 585), some (.int i), some (.int 0), some (.int b), none] [.int (s3 69 0)] (false, 586, SH, s3, (ac_uL τ 585 0 r.toInt64))
    refine ax_iload (pc' := 1969) dL_law__1967 rfl rfl ?_
    refine ax_icmp_eq (pc' := 1972) (tgt := 1974) dL_law__1969 (by decide) rfl (fun _ => ?_) (fun z => absurd h0 z)
    refine ax_iload (pc' := 1976) dL_law__1974 rfl rfl ?_
    refine ax_if_ne (pc' := 1979) (tgt := 1991) dL_law__1976 (by decide) rfl (fun z => absurd rfl z) (fun _ => ?_)
    refine ax_aload_n (pc' := 1980) dL_law__1979 rfl rfl ?_
    refine ax_iconst (pc' := 1981) (v := (0 : Int32)) dL_law__1980 (by decide) rfl ?_
    refine ax_lald (pc' := 1982) dL_law__1981 sh_585 (ac_in (by decide)) rfl rfl ?_
    refine ax_iload (pc' := 1984) dL_law__1982 rfl rfl ?_
    refine ax_i2l (pc' := 1985) dL_law__1984 rfl ?_
    rw [show ac_uL τ 585 0 r.toInt64 585 (0 : Int32).toNatClampNeg = r.toInt64 from uL_eq, hb]
    refine ax_lcmp (pc' := 1986) dL_law__1985 rfl ?_
    refine ax_if_eq (pc' := 1989) (tgt := 1991) dL_law__1986 (by decide) rfl (fun _ => ?_) (fun z => absurd (lg_cmp_self _) z)
    refine ax_goto (tgt := 2585) dL_law__1991 (by decide) ?_
    refine ax_widen (ce' := ce + 8) (sl' := sl + 48) (by omega) (by omega) (ax_fgt (hN _ _ hI2))
  · show ac_X g i_L_law_ 100 601024 7293034 Q (ce + 1) (sl + 6) 1949 [some (.ref 1000000), some (.ref 0), some (.ref 69), some (.ref 585), some (.int i), none, none, none] [.int c] (false, 586, SH, s1, τ)
    refine ax_istore (pc' := 1951) dL_law__1949 rfl rfl rfl ?_
    refine ax_aload_n (pc' := 1952) dL_law__1951 rfl rfl ?_
    refine ax_aload_n (pc' := 1953) dL_law__1952 rfl rfl ?_
    refine ax_iload (pc' := 1955) dL_law__1953 rfl rfl ?_
    refine ax_iconst (pc' := 1956) (v := (1 : Int32)) dL_law__1955 (by decide) rfl ?_
    refine ax_iadd (pc' := 1957) dL_law__1956 rfl ?_
    refine ax_sld (pc' := 1958) dL_law__1957 hr.1 rfl ?_
    refine ax_invVL (pc' := 1961) (ce' := ce + 1) (sl' := sl + 6) (a := 69) (As := [.int (g.2.2.2.2.2.2 (i + 1).toNatClampNeg)]) (S := []) (mc2 := 0) (ms2 := 0) (I2 := i_X12_good) rfl dL_law__1958 ll_220 sh_69 (by decide) rfl rfl rfl rfl rfl rfl rfl (by omega) (by omega) rfl (ac_M.imp (o_X12_good _ (g.2.2.2.2.2.2 (i + 1).toNatClampNeg) H) ?_)
    rintro _ _ ⟨b, s2, rfl, rfl, hT2, hI2⟩
    show ac_X g i_L_law_ 100 601024 7293034 Q (ce + 1) (sl + 6) 1961 [some (.ref 1000000), some (.ref 0), some (.ref 69), some (.ref 585), some (.int i), some (.int c), none, none] [.int b] (false, 586, SH, s2, τ)
    refine ax_istore (pc' := 1963) dL_law__1961 rfl rfl rfl ?_
    refine ax_aload_n (pc' := 1964) dL_law__1963 rfl rfl ?_
    refine ax_invVL (pc' := 1967) (ce' := ce + 1) (sl' := sl + 6) (a := 69) (As := []) (S := []) (mc2 := 0) (ms2 := 0) (I2 := i_X12_thrown) rfl dL_law__1964 ll_128 sh_69 (by decide) rfl rfl rfl rfl rfl rfl rfl (by omega) (by omega) rfl (ac_M.imp (o_X12_thrown _ (Q := fun r s => r = s2 69 0 ∧ s = s2) ⟨rfl, rfl⟩) ?_)
    rintro _ _ ⟨z, s3, rfl, rfl, rfl, rfl⟩
    show ac_X g i_L_law_ 100 601024 7293034 Q (ce + 1) (sl + 6) 1967 [some (.ref 1000000), some (.ref 0), some (.ref 69), some (.ref 585), some (.int i), some (.int c), some (.int b), none] [.int (s3 69 0)] (false, 586, SH, s3, τ)
    refine ax_iload (pc' := 1969) dL_law__1967 rfl rfl ?_
    refine ax_icmp_eq (pc' := 1972) (tgt := 1974) dL_law__1969 (by decide) rfl (fun _ => ?_) (fun z => absurd (thA_c hT2 hT).1 z)
    refine ax_iload (pc' := 1976) dL_law__1974 rfl rfl ?_
    refine ax_if_ne (pc' := 1979) (tgt := 1991) dL_law__1976 (by decide) rfl (fun _ => ?_) (fun z => absurd z (thA_c hT hT).2)
    refine ax_goto (tgt := 2585) dL_law__1991 (by decide) ?_
    refine ax_widen (ce' := ce + 8) (sl' := sl + 48) (by omega) (by omega) (ax_fgt (hN _ _ hI2))
theorem lc_kind {g : ac_G} {Q : ac_O → ac_W → Prop} {ce sl : Nat} {i : Int32} {s : ac_m} {τ : Nat → Nat → Int64} (hce : ce + 8 ≤ 601024) (hsl : sl + 48 ≤ 7293034) (hr : rd g i) (hI : Inv s) (hN : ∀ s' τ', Inv s' → lwX g Q (ce + 8) (sl + 48) 2585 i s' τ') : lwX g Q ce sl 1994 i s τ := by
  refine ax_aload_n (pc' := 1995) dL_law__1994 rfl rfl ?_
  refine ax_aload_n (pc' := 1996) dL_law__1995 rfl rfl ?_
  refine ax_iload (pc' := 1998) dL_law__1996 rfl rfl ?_
  refine ax_iconst (pc' := 1999) (v := (1 : Int32)) dL_law__1998 (by decide) rfl ?_
  refine ax_iadd (pc' := 2000) dL_law__1999 rfl ?_
  refine ax_sld (pc' := 2001) dL_law__2000 hr.1 rfl ?_
  refine ax_aload_n (pc' := 2002) dL_law__2001 rfl rfl ?_
  refine ax_invSH (pc' := 2005) (ce' := ce + 1) (sl' := sl + 6) (As := [.ref 0, .int (g.2.2.2.2.2.2 (i + 1).toNatClampNeg), .ref 585]) (S := []) (mc2 := 1) (ms2 := 6) (I2 := i_L_kind) rfl dL_law__2002 ll_221 rfl (by decide) rfl rfl rfl rfl (by omega) (by omega) rfl (ac_M.imp (o_L_kind _ (g.2.2.2.2.2.2 (i + 1).toNatClampNeg) (s_kind (g.2.2.2.2.2.2 (i + 1).toNatClampNeg) s hI)) ?_)
  rintro _ _ (⟨r, s1, rfl, rfl, H⟩ | ⟨E, c, s1, rfl, rfl, hT, H⟩)
  · show ac_X g i_L_law_ 100 601024 7293034 Q (ce + 1) (sl + 6) 2005 [some (.ref 1000000), some (.ref 0), some (.ref 69), some (.ref 585), some (.int i), none, none, none] [.int 0] (false, 586, SH, s1, (ac_uL τ 585 0 r.toInt64))
    refine ax_istore (pc' := 2007) dL_law__2005 rfl rfl rfl ?_
    refine ax_aload_n (pc' := 2008) dL_law__2007 rfl rfl ?_
    refine ax_aload_n (pc' := 2009) dL_law__2008 rfl rfl ?_
    refine ax_iload (pc' := 2011) dL_law__2009 rfl rfl ?_
    refine ax_iconst (pc' := 2012) (v := (1 : Int32)) dL_law__2011 (by decide) rfl ?_
    refine ax_iadd (pc' := 2013) dL_law__2012 rfl ?_
    refine ax_sld (pc' := 2014) dL_law__2013 hr.1 rfl ?_
    refine ax_invVL (pc' := 2017) (ce' := ce + 1) (sl' := sl + 6) (a := 69) (As := [.int (g.2.2.2.2.2.2 (i + 1).toNatClampNeg)]) (S := []) (mc2 := 0) (ms2 := 0) (I2 := i_X12_kind) rfl dL_law__2014 ll_223 sh_69 (by decide) rfl rfl rfl rfl rfl rfl rfl (by omega) (by omega) rfl (ac_M.imp (o_X12_kind _ (g.2.2.2.2.2.2 (i + 1).toNatClampNeg) H) ?_)
    rintro _ _ ⟨b, s2, rfl, rfl, hb, h0, hI2⟩
    show ac_X g i_L_law_ 100 601024 7293034 Q (ce + 1) (sl + 6) 2017 [some (.ref 1000000), some (.ref 0), some (.ref 69), some (.ref 585), some (.int i), some (.int 0), none, none] [.int b] (false, 586, SH, s2, (ac_uL τ 585 0 r.toInt64))
    refine ax_istore (pc' := 2019) dL_law__2017 rfl rfl rfl ?_
    refine ax_aload_n (pc' := 2020) dL_law__2019 rfl rfl ?_
    refine ax_invVL (pc' := 2023) (ce' := ce + 1) (sl' := sl + 6) (a := 69) (As := []) (S := []) (mc2 := 0) (ms2 := 0) (I2 := i_X12_thrown) rfl dL_law__2020 ll_128 sh_69 (by decide) rfl rfl rfl rfl rfl rfl rfl (by omega) (by omega) rfl (ac_M.imp (o_X12_thrown _ (Q := fun r s => r = s2 69 0 ∧ s = s2) ⟨rfl, rfl⟩) ?_)
    rintro _ _ ⟨z, s3, rfl, rfl, rfl, rfl⟩
    show ac_X g i_L_law_ 100 601024 7293034 Q (ce + 1) (sl + 6) 2023 [some (.ref 1000000), some (.ref 0), some (.ref 69), some (.ref 585), some (.int i), some (.int 0), some (.int b), none] [.int (s3 69 0)] (false, 586, SH, s3, (ac_uL τ 585 0 r.toInt64))
    refine ax_iload (pc' := 2025) dL_law__2023 rfl rfl ?_
    refine ax_icmp_eq (pc' := 2028) (tgt := 2030) dL_law__2025 (by decide) rfl (fun _ => ?_) (fun z => absurd h0 z)
    refine ax_iload (pc' := 2032) dL_law__2030 rfl rfl ?_
    refine ax_if_ne (pc' := 2035) (tgt := 2047) dL_law__2032 (by decide) rfl (fun z => absurd rfl z) (fun _ => ?_)
    refine ax_aload_n (pc' := 2036) dL_law__2035 rfl rfl ?_
    refine ax_iconst (pc' := 2037) (v := (0 : Int32)) dL_law__2036 (by decide) rfl ?_
    refine ax_lald (pc' := 2038) dL_law__2037 sh_585 (ac_in (by decide)) rfl rfl ?_
    refine ax_iload (pc' := 2040) dL_law__2038 rfl rfl ?_
    refine ax_i2l (pc' := 2041) dL_law__2040 rfl ?_
    rw [show ac_uL τ 585 0 r.toInt64 585 (0 : Int32).toNatClampNeg = r.toInt64 from uL_eq, hb]
    refine ax_lcmp (pc' := 2042) dL_law__2041 rfl ?_
    refine ax_if_eq (pc' := 2045) (tgt := 2047) dL_law__2042 (by decide) rfl (fun _ => ?_) (fun z => absurd (lg_cmp_self _) z)
    refine ax_goto (tgt := 2585) dL_law__2047 (by decide) ?_
    refine ax_widen (ce' := ce + 8) (sl' := sl + 48) (by omega) (by omega) (ax_fgt (hN _ _ hI2))
  · show ac_X g i_L_law_ 100 601024 7293034 Q (ce + 1) (sl + 6) 2005 [some (.ref 1000000), some (.ref 0), some (.ref 69), some (.ref 585), some (.int i), none, none, none] [.int c] (false, 586, SH, s1, τ)
    refine ax_istore (pc' := 2007) dL_law__2005 rfl rfl rfl ?_
    refine ax_aload_n (pc' := 2008) dL_law__2007 rfl rfl ?_
    refine ax_aload_n (pc' := 2009) dL_law__2008 rfl rfl ?_
    refine ax_iload (pc' := 2011) dL_law__2009 rfl rfl ?_
    refine ax_iconst (pc' := 2012) (v := (1 : Int32)) dL_law__2011 (by decide) rfl ?_
    refine ax_iadd (pc' := 2013) dL_law__2012 rfl ?_
    refine ax_sld (pc' := 2014) dL_law__2013 hr.1 rfl ?_
    refine ax_invVL (pc' := 2017) (ce' := ce + 1) (sl' := sl + 6) (a := 69) (As := [.int (g.2.2.2.2.2.2 (i + 1).toNatClampNeg)]) (S := []) (mc2 := 0) (ms2 := 0) (I2 := i_X12_kind) rfl dL_law__2014 ll_223 sh_69 (by decide) rfl rfl rfl rfl rfl rfl rfl (by omega) (by omega) rfl (ac_M.imp (o_X12_kind _ (g.2.2.2.2.2.2 (i + 1).toNatClampNeg) H) ?_)
    rintro _ _ ⟨b, s2, rfl, rfl, hT2, hI2⟩
    show ac_X g i_L_law_ 100 601024 7293034 Q (ce + 1) (sl + 6) 2017 [some (.ref 1000000), some (.ref 0), some (.ref 69), some (.ref 585), some (.int i), some (.int c), none, none] [.int b] (false, 586, SH, s2, τ)
    refine ax_istore (pc' := 2019) dL_law__2017 rfl rfl rfl ?_
    refine ax_aload_n (pc' := 2020) dL_law__2019 rfl rfl ?_
    refine ax_invVL (pc' := 2023) (ce' := ce + 1) (sl' := sl + 6) (a := 69) (As := []) (S := []) (mc2 := 0) (ms2 := 0) (I2 := i_X12_thrown) rfl dL_law__2020 ll_128 sh_69 (by decide) rfl rfl rfl rfl rfl rfl rfl (by omega) (by omega) rfl (ac_M.imp (o_X12_thrown _ (Q := fun r s => r = s2 69 0 ∧ s = s2) ⟨rfl, rfl⟩) ?_)
    rintro _ _ ⟨z, s3, rfl, rfl, rfl, rfl⟩
    show ac_X g i_L_law_ 100 601024 7293034 Q (ce + 1) (sl + 6) 2023 [some (.ref 1000000), some (.ref 0), some (.ref 69), some (.ref 585), some (.int i), some (.int c), some (.int b), none] [.int (s3 69 0)] (false, 586, SH, s3, τ)
    refine ax_iload (pc' := 2025) dL_law__2023 rfl rfl ?_
    refine ax_icmp_eq (pc' := 2028) (tgt := 2030) dL_law__2025 (by decide) rfl (fun _ => ?_) (fun z => absurd (thA_c hT2 hT).1 z)
    refine ax_iload (pc' := 2032) dL_law__2030 rfl rfl ?_
    refine ax_if_ne (pc' := 2035) (tgt := 2047) dL_law__2032 (by decide) rfl (fun _ => ?_) (fun z => absurd z (thA_c hT hT).2)
    refine ax_goto (tgt := 2585) dL_law__2047 (by decide) ?_
    refine ax_widen (ce' := ce + 8) (sl' := sl + 48) (by omega) (by omega) (ax_fgt (hN _ _ hI2))
theorem lc_driven {g : ac_G} {Q : ac_O → ac_W → Prop} {ce sl : Nat} {i : Int32} {s : ac_m} {τ : Nat → Nat → Int64} (hce : ce + 8 ≤ 601024) (hsl : sl + 48 ≤ 7293034) (hr : rd g i) (hI : Inv s) (hN : ∀ s' τ', Inv s' → lwX g Q (ce + 8) (sl + 48) 2585 i s' τ') : lwX g Q ce sl 2050 i s τ := by
  refine ax_aload_n (pc' := 2051) dL_law__2050 rfl rfl ?_
  refine ax_invVL (pc' := 2054) (ce' := ce + 0) (sl' := sl + 0) (a := 0) (As := []) (S := []) (mc2 := 0) (ms2 := 0) (I2 := i_X11_driven) rfl dL_law__2051 ll_224 sh_0 (by decide) rfl rfl rfl rfl rfl rfl rfl (by omega) (by omega) rfl (ac_M.imp (o_X11_driven _  (s_driven  s hI)) ?_)
  rintro _ _ ⟨r, s1, rfl, rfl, H⟩
  show ac_X g i_L_law_ 100 601024 7293034 Q (ce + 0) (sl + 0) 2054 [some (.ref 1000000), some (.ref 0), some (.ref 69), some (.ref 585), some (.int i), none, none, none] [.int r] (false, 586, SH, s1, τ)
  refine ax_aload_n (pc' := 2055) dL_law__2054 rfl rfl ?_
  refine ax_invVL (pc' := 2058) (ce' := ce + 0) (sl' := sl + 0) (a := 69) (As := []) (S := [.int r]) (mc2 := 0) (ms2 := 0) (I2 := i_X12_driven) rfl dL_law__2055 ll_227 sh_69 (by decide) rfl rfl rfl rfl rfl rfl rfl (by omega) (by omega) rfl (ac_M.imp (o_X12_driven _  H) ?_)
  rintro _ _ ⟨b, s2, rfl, rfl, hb, h0, hI2⟩
  show ac_X g i_L_law_ 100 601024 7293034 Q (ce + 0) (sl + 0) 2058 [some (.ref 1000000), some (.ref 0), some (.ref 69), some (.ref 585), some (.int i), none, none, none] [.int b, .int r] (false, 586, SH, s2, τ)
  refine ax_icmp_eq (pc' := 2061) (tgt := 2585) dL_law__2058 (by decide) rfl (fun _ => ?_) (fun z => absurd hb z)
  exact ax_widen (ce' := ce + 8) (sl' := sl + 48) (by omega) (by omega) (hN _ _ hI2)
theorem lc_weighs {g : ac_G} {Q : ac_O → ac_W → Prop} {ce sl : Nat} {i : Int32} {s : ac_m} {τ : Nat → Nat → Int64} (hce : ce + 8 ≤ 601024) (hsl : sl + 48 ≤ 7293034) (hr : rd g i) (hI : Inv s) (hN : ∀ s' τ', Inv s' → lwX g Q (ce + 8) (sl + 48) 2585 i s' τ') : lwX g Q ce sl 2063 i s τ := by
  refine ax_aload_n (pc' := 2064) dL_law__2063 rfl rfl ?_
  refine ax_aload_n (pc' := 2065) dL_law__2064 rfl rfl ?_
  refine ax_iload (pc' := 2067) dL_law__2065 rfl rfl ?_
  refine ax_iconst (pc' := 2068) (v := (1 : Int32)) dL_law__2067 (by decide) rfl ?_
  refine ax_iadd (pc' := 2069) dL_law__2068 rfl ?_
  refine ax_sld (pc' := 2070) dL_law__2069 hr.1 rfl ?_
  refine ax_aload_n (pc' := 2071) dL_law__2070 rfl rfl ?_
  refine ax_iload (pc' := 2073) dL_law__2071 rfl rfl ?_
  refine ax_iconst (pc' := 2074) (v := (2 : Int32)) dL_law__2073 (by decide) rfl ?_
  refine ax_iadd (pc' := 2075) dL_law__2074 rfl ?_
  refine ax_sld (pc' := 2076) dL_law__2075 hr.2.1 rfl ?_
  refine ax_aload_n (pc' := 2077) dL_law__2076 rfl rfl ?_
  refine ax_invSH (pc' := 2080) (ce' := ce + 2) (sl' := sl + 12) (As := [.ref 0, .int (g.2.2.2.2.2.2 (i + 1).toNatClampNeg), .int (g.2.2.2.2.2.2 (i + 2).toNatClampNeg), .ref 585]) (S := []) (mc2 := 2) (ms2 := 12) (I2 := i_L_weighs) rfl dL_law__2077 ll_228 rfl (by decide) rfl rfl rfl rfl (by omega) (by omega) rfl (ac_M.imp (o_L_weighs _ (g.2.2.2.2.2.2 (i + 1).toNatClampNeg) (g.2.2.2.2.2.2 (i + 2).toNatClampNeg) (s_weighs (g.2.2.2.2.2.2 (i + 1).toNatClampNeg) (g.2.2.2.2.2.2 (i + 2).toNatClampNeg) s hI)) ?_)
  rintro _ _ (⟨r, s1, rfl, rfl, H⟩ | ⟨E, c, s1, rfl, rfl, hT, H⟩)
  · show ac_X g i_L_law_ 100 601024 7293034 Q (ce + 2) (sl + 12) 2080 [some (.ref 1000000), some (.ref 0), some (.ref 69), some (.ref 585), some (.int i), none, none, none] [.int 0] (false, 586, SH, s1, (ac_uL τ 585 0 r.toInt64))
    refine ax_istore (pc' := 2082) dL_law__2080 rfl rfl rfl ?_
    refine ax_aload_n (pc' := 2083) dL_law__2082 rfl rfl ?_
    refine ax_aload_n (pc' := 2084) dL_law__2083 rfl rfl ?_
    refine ax_iload (pc' := 2086) dL_law__2084 rfl rfl ?_
    refine ax_iconst (pc' := 2087) (v := (1 : Int32)) dL_law__2086 (by decide) rfl ?_
    refine ax_iadd (pc' := 2088) dL_law__2087 rfl ?_
    refine ax_sld (pc' := 2089) dL_law__2088 hr.1 rfl ?_
    refine ax_aload_n (pc' := 2090) dL_law__2089 rfl rfl ?_
    refine ax_iload (pc' := 2092) dL_law__2090 rfl rfl ?_
    refine ax_iconst (pc' := 2093) (v := (2 : Int32)) dL_law__2092 (by decide) rfl ?_
    refine ax_iadd (pc' := 2094) dL_law__2093 rfl ?_
    refine ax_sld (pc' := 2095) dL_law__2094 hr.2.1 rfl ?_
    refine ax_invVL (pc' := 2098) (ce' := ce + 2) (sl' := sl + 12) (a := 69) (As := [.int (g.2.2.2.2.2.2 (i + 1).toNatClampNeg), .int (g.2.2.2.2.2.2 (i + 2).toNatClampNeg)]) (S := []) (mc2 := 0) (ms2 := 0) (I2 := i_X12_weighs) rfl dL_law__2095 ll_230 sh_69 (by decide) rfl rfl rfl rfl rfl rfl rfl (by omega) (by omega) rfl (ac_M.imp (o_X12_weighs _ (g.2.2.2.2.2.2 (i + 1).toNatClampNeg) (g.2.2.2.2.2.2 (i + 2).toNatClampNeg) H) ?_)
    rintro _ _ ⟨b, s2, rfl, rfl, hb, h0, hI2⟩
    show ac_X g i_L_law_ 100 601024 7293034 Q (ce + 2) (sl + 12) 2098 [some (.ref 1000000), some (.ref 0), some (.ref 69), some (.ref 585), some (.int i), some (.int 0), none, none] [.int b] (false, 586, SH, s2, (ac_uL τ 585 0 r.toInt64))
    refine ax_istore (pc' := 2100) dL_law__2098 rfl rfl rfl ?_
    refine ax_aload_n (pc' := 2101) dL_law__2100 rfl rfl ?_
    refine ax_invVL (pc' := 2104) (ce' := ce + 2) (sl' := sl + 12) (a := 69) (As := []) (S := []) (mc2 := 0) (ms2 := 0) (I2 := i_X12_thrown) rfl dL_law__2101 ll_128 sh_69 (by decide) rfl rfl rfl rfl rfl rfl rfl (by omega) (by omega) rfl (ac_M.imp (o_X12_thrown _ (Q := fun r s => r = s2 69 0 ∧ s = s2) ⟨rfl, rfl⟩) ?_)
    rintro _ _ ⟨z, s3, rfl, rfl, rfl, rfl⟩
    show ac_X g i_L_law_ 100 601024 7293034 Q (ce + 2) (sl + 12) 2104 [some (.ref 1000000), some (.ref 0), some (.ref 69), some (.ref 585), some (.int i), some (.int 0), some (.int b), none] [.int (s3 69 0)] (false, 586, SH, s3, (ac_uL τ 585 0 r.toInt64))
    refine ax_iload (pc' := 2106) dL_law__2104 rfl rfl ?_
    refine ax_icmp_eq (pc' := 2109) (tgt := 2111) dL_law__2106 (by decide) rfl (fun _ => ?_) (fun z => absurd h0 z)
    refine ax_iload (pc' := 2113) dL_law__2111 rfl rfl ?_
    refine ax_if_ne (pc' := 2116) (tgt := 2128) dL_law__2113 (by decide) rfl (fun z => absurd rfl z) (fun _ => ?_)
    refine ax_aload_n (pc' := 2117) dL_law__2116 rfl rfl ?_
    refine ax_iconst (pc' := 2118) (v := (0 : Int32)) dL_law__2117 (by decide) rfl ?_
    refine ax_lald (pc' := 2119) dL_law__2118 sh_585 (ac_in (by decide)) rfl rfl ?_
    refine ax_iload (pc' := 2121) dL_law__2119 rfl rfl ?_
    refine ax_i2l (pc' := 2122) dL_law__2121 rfl ?_
    rw [show ac_uL τ 585 0 r.toInt64 585 (0 : Int32).toNatClampNeg = r.toInt64 from uL_eq, hb]
    refine ax_lcmp (pc' := 2123) dL_law__2122 rfl ?_
    refine ax_if_eq (pc' := 2126) (tgt := 2128) dL_law__2123 (by decide) rfl (fun _ => ?_) (fun z => absurd (lg_cmp_self _) z)
    refine ax_goto (tgt := 2585) dL_law__2128 (by decide) ?_
    refine ax_widen (ce' := ce + 8) (sl' := sl + 48) (by omega) (by omega) (ax_fgt (hN _ _ hI2))
  · show ac_X g i_L_law_ 100 601024 7293034 Q (ce + 2) (sl + 12) 2080 [some (.ref 1000000), some (.ref 0), some (.ref 69), some (.ref 585), some (.int i), none, none, none] [.int c] (false, 586, SH, s1, τ)
    refine ax_istore (pc' := 2082) dL_law__2080 rfl rfl rfl ?_
    refine ax_aload_n (pc' := 2083) dL_law__2082 rfl rfl ?_
    refine ax_aload_n (pc' := 2084) dL_law__2083 rfl rfl ?_
    refine ax_iload (pc' := 2086) dL_law__2084 rfl rfl ?_
    refine ax_iconst (pc' := 2087) (v := (1 : Int32)) dL_law__2086 (by decide) rfl ?_
    refine ax_iadd (pc' := 2088) dL_law__2087 rfl ?_
    refine ax_sld (pc' := 2089) dL_law__2088 hr.1 rfl ?_
    refine ax_aload_n (pc' := 2090) dL_law__2089 rfl rfl ?_
    refine ax_iload (pc' := 2092) dL_law__2090 rfl rfl ?_
    refine ax_iconst (pc' := 2093) (v := (2 : Int32)) dL_law__2092 (by decide) rfl ?_
    refine ax_iadd (pc' := 2094) dL_law__2093 rfl ?_
    refine ax_sld (pc' := 2095) dL_law__2094 hr.2.1 rfl ?_
    refine ax_invVL (pc' := 2098) (ce' := ce + 2) (sl' := sl + 12) (a := 69) (As := [.int (g.2.2.2.2.2.2 (i + 1).toNatClampNeg), .int (g.2.2.2.2.2.2 (i + 2).toNatClampNeg)]) (S := []) (mc2 := 0) (ms2 := 0) (I2 := i_X12_weighs) rfl dL_law__2095 ll_230 sh_69 (by decide) rfl rfl rfl rfl rfl rfl rfl (by omega) (by omega) rfl (ac_M.imp (o_X12_weighs _ (g.2.2.2.2.2.2 (i + 1).toNatClampNeg) (g.2.2.2.2.2.2 (i + 2).toNatClampNeg) H) ?_)
    rintro _ _ ⟨b, s2, rfl, rfl, hT2, hI2⟩
    show ac_X g i_L_law_ 100 601024 7293034 Q (ce + 2) (sl + 12) 2098 [some (.ref 1000000), some (.ref 0), some (.ref 69), some (.ref 585), some (.int i), some (.int c), none, none] [.int b] (false, 586, SH, s2, τ)
    refine ax_istore (pc' := 2100) dL_law__2098 rfl rfl rfl ?_
    refine ax_aload_n (pc' := 2101) dL_law__2100 rfl rfl ?_
    refine ax_invVL (pc' := 2104) (ce' := ce + 2) (sl' := sl + 12) (a := 69) (As := []) (S := []) (mc2 := 0) (ms2 := 0) (I2 := i_X12_thrown) rfl dL_law__2101 ll_128 sh_69 (by decide) rfl rfl rfl rfl rfl rfl rfl (by omega) (by omega) rfl (ac_M.imp (o_X12_thrown _ (Q := fun r s => r = s2 69 0 ∧ s = s2) ⟨rfl, rfl⟩) ?_)
    rintro _ _ ⟨z, s3, rfl, rfl, rfl, rfl⟩
    show ac_X g i_L_law_ 100 601024 7293034 Q (ce + 2) (sl + 12) 2104 [some (.ref 1000000), some (.ref 0), some (.ref 69), some (.ref 585), some (.int i), some (.int c), some (.int b), none] [.int (s3 69 0)] (false, 586, SH, s3, τ)
    refine ax_iload (pc' := 2106) dL_law__2104 rfl rfl ?_
    refine ax_icmp_eq (pc' := 2109) (tgt := 2111) dL_law__2106 (by decide) rfl (fun _ => ?_) (fun z => absurd (thB_c hT2 hT).1 z)
    refine ax_iload (pc' := 2113) dL_law__2111 rfl rfl ?_
    refine ax_if_ne (pc' := 2116) (tgt := 2128) dL_law__2113 (by decide) rfl (fun _ => ?_) (fun z => absurd z (thB_c hT hT).2)
    refine ax_goto (tgt := 2585) dL_law__2128 (by decide) ?_
    refine ax_widen (ce' := ce + 8) (sl' := sl + 48) (by omega) (by omega) (ax_fgt (hN _ _ hI2))
theorem lc_lightest {g : ac_G} {Q : ac_O → ac_W → Prop} {ce sl : Nat} {i : Int32} {s : ac_m} {τ : Nat → Nat → Int64} (hce : ce + 8 ≤ 601024) (hsl : sl + 48 ≤ 7293034) (hr : rd g i) (hI : Inv s) (hN : ∀ s' τ', Inv s' → lwX g Q (ce + 8) (sl + 48) 2585 i s' τ') : lwX g Q ce sl 2131 i s τ := by
  refine ax_aload_n (pc' := 2132) dL_law__2131 rfl rfl ?_
  refine ax_aload_n (pc' := 2133) dL_law__2132 rfl rfl ?_
  refine ax_iload (pc' := 2135) dL_law__2133 rfl rfl ?_
  refine ax_iconst (pc' := 2136) (v := (1 : Int32)) dL_law__2135 (by decide) rfl ?_
  refine ax_iadd (pc' := 2137) dL_law__2136 rfl ?_
  refine ax_sld (pc' := 2138) dL_law__2137 hr.1 rfl ?_
  refine ax_aload_n (pc' := 2139) dL_law__2138 rfl rfl ?_
  refine ax_invSH (pc' := 2142) (ce' := ce + 1) (sl' := sl + 6) (As := [.ref 0, .int (g.2.2.2.2.2.2 (i + 1).toNatClampNeg), .ref 585]) (S := []) (mc2 := 1) (ms2 := 6) (I2 := i_L_lightest) rfl dL_law__2139 ll_231 rfl (by decide) rfl rfl rfl rfl (by omega) (by omega) rfl (ac_M.imp (o_L_lightest _ (g.2.2.2.2.2.2 (i + 1).toNatClampNeg) (s_lightest (g.2.2.2.2.2.2 (i + 1).toNatClampNeg) s hI)) ?_)
  rintro _ _ (⟨r, s1, rfl, rfl, H⟩ | ⟨E, c, s1, rfl, rfl, hT, H⟩)
  · show ac_X g i_L_law_ 100 601024 7293034 Q (ce + 1) (sl + 6) 2142 [some (.ref 1000000), some (.ref 0), some (.ref 69), some (.ref 585), some (.int i), none, none, none] [.int 0] (false, 586, SH, s1, (ac_uL τ 585 0 r.toInt64))
    refine ax_istore (pc' := 2144) dL_law__2142 rfl rfl rfl ?_
    refine ax_aload_n (pc' := 2145) dL_law__2144 rfl rfl ?_
    refine ax_aload_n (pc' := 2146) dL_law__2145 rfl rfl ?_
    refine ax_iload (pc' := 2148) dL_law__2146 rfl rfl ?_
    refine ax_iconst (pc' := 2149) (v := (1 : Int32)) dL_law__2148 (by decide) rfl ?_
    refine ax_iadd (pc' := 2150) dL_law__2149 rfl ?_
    refine ax_sld (pc' := 2151) dL_law__2150 hr.1 rfl ?_
    refine ax_invVL (pc' := 2154) (ce' := ce + 1) (sl' := sl + 6) (a := 69) (As := [.int (g.2.2.2.2.2.2 (i + 1).toNatClampNeg)]) (S := []) (mc2 := 0) (ms2 := 0) (I2 := i_X12_lightest) rfl dL_law__2151 ll_233 sh_69 (by decide) rfl rfl rfl rfl rfl rfl rfl (by omega) (by omega) rfl (ac_M.imp (o_X12_lightest _ (g.2.2.2.2.2.2 (i + 1).toNatClampNeg) H) ?_)
    rintro _ _ ⟨b, s2, rfl, rfl, hb, h0, hI2⟩
    show ac_X g i_L_law_ 100 601024 7293034 Q (ce + 1) (sl + 6) 2154 [some (.ref 1000000), some (.ref 0), some (.ref 69), some (.ref 585), some (.int i), some (.int 0), none, none] [.int b] (false, 586, SH, s2, (ac_uL τ 585 0 r.toInt64))
    refine ax_istore (pc' := 2156) dL_law__2154 rfl rfl rfl ?_
    refine ax_aload_n (pc' := 2157) dL_law__2156 rfl rfl ?_
    refine ax_invVL (pc' := 2160) (ce' := ce + 1) (sl' := sl + 6) (a := 69) (As := []) (S := []) (mc2 := 0) (ms2 := 0) (I2 := i_X12_thrown) rfl dL_law__2157 ll_128 sh_69 (by decide) rfl rfl rfl rfl rfl rfl rfl (by omega) (by omega) rfl (ac_M.imp (o_X12_thrown _ (Q := fun r s => r = s2 69 0 ∧ s = s2) ⟨rfl, rfl⟩) ?_)
    rintro _ _ ⟨z, s3, rfl, rfl, rfl, rfl⟩
    show ac_X g i_L_law_ 100 601024 7293034 Q (ce + 1) (sl + 6) 2160 [some (.ref 1000000), some (.ref 0), some (.ref 69), some (.ref 585), some (.int i), some (.int 0), some (.int b), none] [.int (s3 69 0)] (false, 586, SH, s3, (ac_uL τ 585 0 r.toInt64))
    refine ax_iload (pc' := 2162) dL_law__2160 rfl rfl ?_
    refine ax_icmp_eq (pc' := 2165) (tgt := 2167) dL_law__2162 (by decide) rfl (fun _ => ?_) (fun z => absurd h0 z)
    refine ax_iload (pc' := 2169) dL_law__2167 rfl rfl ?_
    refine ax_if_ne (pc' := 2172) (tgt := 2184) dL_law__2169 (by decide) rfl (fun z => absurd rfl z) (fun _ => ?_)
    refine ax_aload_n (pc' := 2173) dL_law__2172 rfl rfl ?_
    refine ax_iconst (pc' := 2174) (v := (0 : Int32)) dL_law__2173 (by decide) rfl ?_
    refine ax_lald (pc' := 2175) dL_law__2174 sh_585 (ac_in (by decide)) rfl rfl ?_
    refine ax_iload (pc' := 2177) dL_law__2175 rfl rfl ?_
    refine ax_i2l (pc' := 2178) dL_law__2177 rfl ?_
    rw [show ac_uL τ 585 0 r.toInt64 585 (0 : Int32).toNatClampNeg = r.toInt64 from uL_eq, hb]
    refine ax_lcmp (pc' := 2179) dL_law__2178 rfl ?_
    refine ax_if_eq (pc' := 2182) (tgt := 2184) dL_law__2179 (by decide) rfl (fun _ => ?_) (fun z => absurd (lg_cmp_self _) z)
    refine ax_goto (tgt := 2585) dL_law__2184 (by decide) ?_
    refine ax_widen (ce' := ce + 8) (sl' := sl + 48) (by omega) (by omega) (ax_fgt (hN _ _ hI2))
  · show ac_X g i_L_law_ 100 601024 7293034 Q (ce + 1) (sl + 6) 2142 [some (.ref 1000000), some (.ref 0), some (.ref 69), some (.ref 585), some (.int i), none, none, none] [.int c] (false, 586, SH, s1, τ)
    refine ax_istore (pc' := 2144) dL_law__2142 rfl rfl rfl ?_
    refine ax_aload_n (pc' := 2145) dL_law__2144 rfl rfl ?_
    refine ax_aload_n (pc' := 2146) dL_law__2145 rfl rfl ?_
    refine ax_iload (pc' := 2148) dL_law__2146 rfl rfl ?_
    refine ax_iconst (pc' := 2149) (v := (1 : Int32)) dL_law__2148 (by decide) rfl ?_
    refine ax_iadd (pc' := 2150) dL_law__2149 rfl ?_
    refine ax_sld (pc' := 2151) dL_law__2150 hr.1 rfl ?_
    refine ax_invVL (pc' := 2154) (ce' := ce + 1) (sl' := sl + 6) (a := 69) (As := [.int (g.2.2.2.2.2.2 (i + 1).toNatClampNeg)]) (S := []) (mc2 := 0) (ms2 := 0) (I2 := i_X12_lightest) rfl dL_law__2151 ll_233 sh_69 (by decide) rfl rfl rfl rfl rfl rfl rfl (by omega) (by omega) rfl (ac_M.imp (o_X12_lightest _ (g.2.2.2.2.2.2 (i + 1).toNatClampNeg) H) ?_)
    rintro _ _ ⟨b, s2, rfl, rfl, hT2, hI2⟩
    show ac_X g i_L_law_ 100 601024 7293034 Q (ce + 1) (sl + 6) 2154 [some (.ref 1000000), some (.ref 0), some (.ref 69), some (.ref 585), some (.int i), some (.int c), none, none] [.int b] (false, 586, SH, s2, τ)
    refine ax_istore (pc' := 2156) dL_law__2154 rfl rfl rfl ?_
    refine ax_aload_n (pc' := 2157) dL_law__2156 rfl rfl ?_
    refine ax_invVL (pc' := 2160) (ce' := ce + 1) (sl' := sl + 6) (a := 69) (As := []) (S := []) (mc2 := 0) (ms2 := 0) (I2 := i_X12_thrown) rfl dL_law__2157 ll_128 sh_69 (by decide) rfl rfl rfl rfl rfl rfl rfl (by omega) (by omega) rfl (ac_M.imp (o_X12_thrown _ (Q := fun r s => r = s2 69 0 ∧ s = s2) ⟨rfl, rfl⟩) ?_)
    rintro _ _ ⟨z, s3, rfl, rfl, rfl, rfl⟩
    show ac_X g i_L_law_ 100 601024 7293034 Q (ce + 1) (sl + 6) 2160 [some (.ref 1000000), some (.ref 0), some (.ref 69), some (.ref 585), some (.int i), some (.int c), some (.int b), none] [.int (s3 69 0)] (false, 586, SH, s3, τ)
    refine ax_iload (pc' := 2162) dL_law__2160 rfl rfl ?_
    refine ax_icmp_eq (pc' := 2165) (tgt := 2167) dL_law__2162 (by decide) rfl (fun _ => ?_) (fun z => absurd (thA_c hT2 hT).1 z)
    refine ax_iload (pc' := 2169) dL_law__2167 rfl rfl ?_
    refine ax_if_ne (pc' := 2172) (tgt := 2184) dL_law__2169 (by decide) rfl (fun _ => ?_) (fun z => absurd z (thA_c hT hT).2)
    refine ax_goto (tgt := 2585) dL_law__2184 (by decide) ?_
    refine ax_widen (ce' := ce + 8) (sl' := sl + 48) (by omega) (by omega) (ax_fgt (hN _ _ hI2))
theorem lc_coolest {g : ac_G} {Q : ac_O → ac_W → Prop} {ce sl : Nat} {i : Int32} {s : ac_m} {τ : Nat → Nat → Int64} (hce : ce + 8 ≤ 601024) (hsl : sl + 48 ≤ 7293034) (hr : rd g i) (hI : Inv s) (hN : ∀ s' τ', Inv s' → lwX g Q (ce + 8) (sl + 48) 2585 i s' τ') : lwX g Q ce sl 2187 i s τ := by
  refine ax_aload_n (pc' := 2188) dL_law__2187 rfl rfl ?_
  refine ax_aload_n (pc' := 2189) dL_law__2188 rfl rfl ?_
  refine ax_iload (pc' := 2191) dL_law__2189 rfl rfl ?_
  refine ax_iconst (pc' := 2192) (v := (1 : Int32)) dL_law__2191 (by decide) rfl ?_
  refine ax_iadd (pc' := 2193) dL_law__2192 rfl ?_
  refine ax_sld (pc' := 2194) dL_law__2193 hr.1 rfl ?_
  refine ax_aload_n (pc' := 2195) dL_law__2194 rfl rfl ?_
  refine ax_invSH (pc' := 2198) (ce' := ce + 1) (sl' := sl + 6) (As := [.ref 0, .int (g.2.2.2.2.2.2 (i + 1).toNatClampNeg), .ref 585]) (S := []) (mc2 := 1) (ms2 := 6) (I2 := i_L_coolest) rfl dL_law__2195 ll_234 rfl (by decide) rfl rfl rfl rfl (by omega) (by omega) rfl (ac_M.imp (o_L_coolest _ (g.2.2.2.2.2.2 (i + 1).toNatClampNeg) (s_coolest (g.2.2.2.2.2.2 (i + 1).toNatClampNeg) s hI)) ?_)
  rintro _ _ (⟨r, s1, rfl, rfl, H⟩ | ⟨E, c, s1, rfl, rfl, hT, H⟩)
  · show ac_X g i_L_law_ 100 601024 7293034 Q (ce + 1) (sl + 6) 2198 [some (.ref 1000000), some (.ref 0), some (.ref 69), some (.ref 585), some (.int i), none, none, none] [.int 0] (false, 586, SH, s1, (ac_uL τ 585 0 r.toInt64))
    refine ax_istore (pc' := 2200) dL_law__2198 rfl rfl rfl ?_
    refine ax_aload_n (pc' := 2201) dL_law__2200 rfl rfl ?_
    refine ax_aload_n (pc' := 2202) dL_law__2201 rfl rfl ?_
    refine ax_iload (pc' := 2204) dL_law__2202 rfl rfl ?_
    refine ax_iconst (pc' := 2205) (v := (1 : Int32)) dL_law__2204 (by decide) rfl ?_
    refine ax_iadd (pc' := 2206) dL_law__2205 rfl ?_
    refine ax_sld (pc' := 2207) dL_law__2206 hr.1 rfl ?_
    refine ax_invVL (pc' := 2210) (ce' := ce + 1) (sl' := sl + 6) (a := 69) (As := [.int (g.2.2.2.2.2.2 (i + 1).toNatClampNeg)]) (S := []) (mc2 := 0) (ms2 := 0) (I2 := i_X12_coolest) rfl dL_law__2207 ll_236 sh_69 (by decide) rfl rfl rfl rfl rfl rfl rfl (by omega) (by omega) rfl (ac_M.imp (o_X12_coolest _ (g.2.2.2.2.2.2 (i + 1).toNatClampNeg) H) ?_)
    rintro _ _ ⟨b, s2, rfl, rfl, hb, h0, hI2⟩
    show ac_X g i_L_law_ 100 601024 7293034 Q (ce + 1) (sl + 6) 2210 [some (.ref 1000000), some (.ref 0), some (.ref 69), some (.ref 585), some (.int i), some (.int 0), none, none] [.int b] (false, 586, SH, s2, (ac_uL τ 585 0 r.toInt64))
    refine ax_istore (pc' := 2212) dL_law__2210 rfl rfl rfl ?_
    refine ax_aload_n (pc' := 2213) dL_law__2212 rfl rfl ?_
    refine ax_invVL (pc' := 2216) (ce' := ce + 1) (sl' := sl + 6) (a := 69) (As := []) (S := []) (mc2 := 0) (ms2 := 0) (I2 := i_X12_thrown) rfl dL_law__2213 ll_128 sh_69 (by decide) rfl rfl rfl rfl rfl rfl rfl (by omega) (by omega) rfl (ac_M.imp (o_X12_thrown _ (Q := fun r s => r = s2 69 0 ∧ s = s2) ⟨rfl, rfl⟩) ?_)
    rintro _ _ ⟨z, s3, rfl, rfl, rfl, rfl⟩
    show ac_X g i_L_law_ 100 601024 7293034 Q (ce + 1) (sl + 6) 2216 [some (.ref 1000000), some (.ref 0), some (.ref 69), some (.ref 585), some (.int i), some (.int 0), some (.int b), none] [.int (s3 69 0)] (false, 586, SH, s3, (ac_uL τ 585 0 r.toInt64))
    refine ax_iload (pc' := 2218) dL_law__2216 rfl rfl ?_
    refine ax_icmp_eq (pc' := 2221) (tgt := 2223) dL_law__2218 (by decide) rfl (fun _ => ?_) (fun z => absurd h0 z)
    refine ax_iload (pc' := 2225) dL_law__2223 rfl rfl ?_
    refine ax_if_ne (pc' := 2228) (tgt := 2240) dL_law__2225 (by decide) rfl (fun z => absurd rfl z) (fun _ => ?_)
    refine ax_aload_n (pc' := 2229) dL_law__2228 rfl rfl ?_
    refine ax_iconst (pc' := 2230) (v := (0 : Int32)) dL_law__2229 (by decide) rfl ?_
    refine ax_lald (pc' := 2231) dL_law__2230 sh_585 (ac_in (by decide)) rfl rfl ?_
    refine ax_iload (pc' := 2233) dL_law__2231 rfl rfl ?_
    refine ax_i2l (pc' := 2234) dL_law__2233 rfl ?_
    rw [show ac_uL τ 585 0 r.toInt64 585 (0 : Int32).toNatClampNeg = r.toInt64 from uL_eq, hb]
    refine ax_lcmp (pc' := 2235) dL_law__2234 rfl ?_
    refine ax_if_eq (pc' := 2238) (tgt := 2240) dL_law__2235 (by decide) rfl (fun _ => ?_) (fun z => absurd (lg_cmp_self _) z)
    refine ax_goto (tgt := 2585) dL_law__2240 (by decide) ?_
    refine ax_widen (ce' := ce + 8) (sl' := sl + 48) (by omega) (by omega) (ax_fgt (hN _ _ hI2))
  · show ac_X g i_L_law_ 100 601024 7293034 Q (ce + 1) (sl + 6) 2198 [some (.ref 1000000), some (.ref 0), some (.ref 69), some (.ref 585), some (.int i), none, none, none] [.int c] (false, 586, SH, s1, τ)
    refine ax_istore (pc' := 2200) dL_law__2198 rfl rfl rfl ?_
    refine ax_aload_n (pc' := 2201) dL_law__2200 rfl rfl ?_
    refine ax_aload_n (pc' := 2202) dL_law__2201 rfl rfl ?_
    refine ax_iload (pc' := 2204) dL_law__2202 rfl rfl ?_
    refine ax_iconst (pc' := 2205) (v := (1 : Int32)) dL_law__2204 (by decide) rfl ?_
    refine ax_iadd (pc' := 2206) dL_law__2205 rfl ?_
    refine ax_sld (pc' := 2207) dL_law__2206 hr.1 rfl ?_
    refine ax_invVL (pc' := 2210) (ce' := ce + 1) (sl' := sl + 6) (a := 69) (As := [.int (g.2.2.2.2.2.2 (i + 1).toNatClampNeg)]) (S := []) (mc2 := 0) (ms2 := 0) (I2 := i_X12_coolest) rfl dL_law__2207 ll_236 sh_69 (by decide) rfl rfl rfl rfl rfl rfl rfl (by omega) (by omega) rfl (ac_M.imp (o_X12_coolest _ (g.2.2.2.2.2.2 (i + 1).toNatClampNeg) H) ?_)
    rintro _ _ ⟨b, s2, rfl, rfl, hT2, hI2⟩
    show ac_X g i_L_law_ 100 601024 7293034 Q (ce + 1) (sl + 6) 2210 [some (.ref 1000000), some (.ref 0), some (.ref 69), some (.ref 585), some (.int i), some (.int c), none, none] [.int b] (false, 586, SH, s2, τ)
    refine ax_istore (pc' := 2212) dL_law__2210 rfl rfl rfl ?_
    refine ax_aload_n (pc' := 2213) dL_law__2212 rfl rfl ?_
    refine ax_invVL (pc' := 2216) (ce' := ce + 1) (sl' := sl + 6) (a := 69) (As := []) (S := []) (mc2 := 0) (ms2 := 0) (I2 := i_X12_thrown) rfl dL_law__2213 ll_128 sh_69 (by decide) rfl rfl rfl rfl rfl rfl rfl (by omega) (by omega) rfl (ac_M.imp (o_X12_thrown _ (Q := fun r s => r = s2 69 0 ∧ s = s2) ⟨rfl, rfl⟩) ?_)
    rintro _ _ ⟨z, s3, rfl, rfl, rfl, rfl⟩
    show ac_X g i_L_law_ 100 601024 7293034 Q (ce + 1) (sl + 6) 2216 [some (.ref 1000000), some (.ref 0), some (.ref 69), some (.ref 585), some (.int i), some (.int c), some (.int b), none] [.int (s3 69 0)] (false, 586, SH, s3, τ)
    refine ax_iload (pc' := 2218) dL_law__2216 rfl rfl ?_
    refine ax_icmp_eq (pc' := 2221) (tgt := 2223) dL_law__2218 (by decide) rfl (fun _ => ?_) (fun z => absurd (thA_c hT2 hT).1 z)
    refine ax_iload (pc' := 2225) dL_law__2223 rfl rfl ?_
    refine ax_if_ne (pc' := 2228) (tgt := 2240) dL_law__2225 (by decide) rfl (fun _ => ?_) (fun z => absurd z (thA_c hT hT).2)
    refine ax_goto (tgt := 2585) dL_law__2240 (by decide) ?_
    refine ax_widen (ce' := ce + 8) (sl' := sl + 48) (by omega) (by omega) (ax_fgt (hN _ _ hI2))
theorem lc_round {g : ac_G} {Q : ac_O → ac_W → Prop} {ce sl : Nat} {i : Int32} {s : ac_m} {τ : Nat → Nat → Int64} (hce : ce + 8 ≤ 601024) (hsl : sl + 48 ≤ 7293034) (hr : rd g i) (hI : Inv s) (hN : ∀ s' τ', Inv s' → lwX g Q (ce + 8) (sl + 48) 2585 i s' τ') : lwX g Q ce sl 2243 i s τ := by
  refine ax_aload_n (pc' := 2244) dL_law__2243 rfl rfl ?_
  refine ax_aload_n (pc' := 2245) dL_law__2244 rfl rfl ?_
  refine ax_iload (pc' := 2247) dL_law__2245 rfl rfl ?_
  refine ax_iconst (pc' := 2248) (v := (1 : Int32)) dL_law__2247 (by decide) rfl ?_
  refine ax_iadd (pc' := 2249) dL_law__2248 rfl ?_
  refine ax_sld (pc' := 2250) dL_law__2249 hr.1 rfl ?_
  refine ax_aload_n (pc' := 2251) dL_law__2250 rfl rfl ?_
  refine ax_invSH (pc' := 2254) (ce' := ce + 1) (sl' := sl + 6) (As := [.ref 0, .int (g.2.2.2.2.2.2 (i + 1).toNatClampNeg), .ref 585]) (S := []) (mc2 := 1) (ms2 := 6) (I2 := i_L_round) rfl dL_law__2251 ll_237 rfl (by decide) rfl rfl rfl rfl (by omega) (by omega) rfl (ac_M.imp (o_L_round _ (g.2.2.2.2.2.2 (i + 1).toNatClampNeg) (s_round (g.2.2.2.2.2.2 (i + 1).toNatClampNeg) s hI)) ?_)
  rintro _ _ (⟨r, s1, rfl, rfl, H⟩ | ⟨E, c, s1, rfl, rfl, hT, H⟩)
  · show ac_X g i_L_law_ 100 601024 7293034 Q (ce + 1) (sl + 6) 2254 [some (.ref 1000000), some (.ref 0), some (.ref 69), some (.ref 585), some (.int i), none, none, none] [.int 0] (false, 586, SH, s1, (ac_uL τ 585 0 r.toInt64))
    refine ax_istore (pc' := 2256) dL_law__2254 rfl rfl rfl ?_
    refine ax_aload_n (pc' := 2257) dL_law__2256 rfl rfl ?_
    refine ax_aload_n (pc' := 2258) dL_law__2257 rfl rfl ?_
    refine ax_iload (pc' := 2260) dL_law__2258 rfl rfl ?_
    refine ax_iconst (pc' := 2261) (v := (1 : Int32)) dL_law__2260 (by decide) rfl ?_
    refine ax_iadd (pc' := 2262) dL_law__2261 rfl ?_
    refine ax_sld (pc' := 2263) dL_law__2262 hr.1 rfl ?_
    refine ax_invVL (pc' := 2266) (ce' := ce + 1) (sl' := sl + 6) (a := 69) (As := [.int (g.2.2.2.2.2.2 (i + 1).toNatClampNeg)]) (S := []) (mc2 := 0) (ms2 := 0) (I2 := i_X12_round) rfl dL_law__2263 ll_239 sh_69 (by decide) rfl rfl rfl rfl rfl rfl rfl (by omega) (by omega) rfl (ac_M.imp (o_X12_round _ (g.2.2.2.2.2.2 (i + 1).toNatClampNeg) H) ?_)
    rintro _ _ ⟨b, s2, rfl, rfl, hb, h0, hI2⟩
    show ac_X g i_L_law_ 100 601024 7293034 Q (ce + 1) (sl + 6) 2266 [some (.ref 1000000), some (.ref 0), some (.ref 69), some (.ref 585), some (.int i), some (.int 0), none, none] [.int b] (false, 586, SH, s2, (ac_uL τ 585 0 r.toInt64))
    refine ax_istore (pc' := 2268) dL_law__2266 rfl rfl rfl ?_
    refine ax_aload_n (pc' := 2269) dL_law__2268 rfl rfl ?_
    refine ax_invVL (pc' := 2272) (ce' := ce + 1) (sl' := sl + 6) (a := 69) (As := []) (S := []) (mc2 := 0) (ms2 := 0) (I2 := i_X12_thrown) rfl dL_law__2269 ll_128 sh_69 (by decide) rfl rfl rfl rfl rfl rfl rfl (by omega) (by omega) rfl (ac_M.imp (o_X12_thrown _ (Q := fun r s => r = s2 69 0 ∧ s = s2) ⟨rfl, rfl⟩) ?_)
    rintro _ _ ⟨z, s3, rfl, rfl, rfl, rfl⟩
    show ac_X g i_L_law_ 100 601024 7293034 Q (ce + 1) (sl + 6) 2272 [some (.ref 1000000), some (.ref 0), some (.ref 69), some (.ref 585), some (.int i), some (.int 0), some (.int b), none] [.int (s3 69 0)] (false, 586, SH, s3, (ac_uL τ 585 0 r.toInt64))
    refine ax_iload (pc' := 2274) dL_law__2272 rfl rfl ?_
    refine ax_icmp_eq (pc' := 2277) (tgt := 2279) dL_law__2274 (by decide) rfl (fun _ => ?_) (fun z => absurd h0 z)
    refine ax_iload (pc' := 2281) dL_law__2279 rfl rfl ?_
    refine ax_if_ne (pc' := 2284) (tgt := 2296) dL_law__2281 (by decide) rfl (fun z => absurd rfl z) (fun _ => ?_)
    refine ax_aload_n (pc' := 2285) dL_law__2284 rfl rfl ?_
    refine ax_iconst (pc' := 2286) (v := (0 : Int32)) dL_law__2285 (by decide) rfl ?_
    refine ax_lald (pc' := 2287) dL_law__2286 sh_585 (ac_in (by decide)) rfl rfl ?_
    refine ax_iload (pc' := 2289) dL_law__2287 rfl rfl ?_
    refine ax_i2l (pc' := 2290) dL_law__2289 rfl ?_
    rw [show ac_uL τ 585 0 r.toInt64 585 (0 : Int32).toNatClampNeg = r.toInt64 from uL_eq, hb]
    refine ax_lcmp (pc' := 2291) dL_law__2290 rfl ?_
    refine ax_if_eq (pc' := 2294) (tgt := 2296) dL_law__2291 (by decide) rfl (fun _ => ?_) (fun z => absurd (lg_cmp_self _) z)
    refine ax_goto (tgt := 2585) dL_law__2296 (by decide) ?_
    refine ax_widen (ce' := ce + 8) (sl' := sl + 48) (by omega) (by omega) (ax_fgt (hN _ _ hI2))
  · show ac_X g i_L_law_ 100 601024 7293034 Q (ce + 1) (sl + 6) 2254 [some (.ref 1000000), some (.ref 0), some (.ref 69), some (.ref 585), some (.int i), none, none, none] [.int c] (false, 586, SH, s1, τ)
    refine ax_istore (pc' := 2256) dL_law__2254 rfl rfl rfl ?_
    refine ax_aload_n (pc' := 2257) dL_law__2256 rfl rfl ?_
    refine ax_aload_n (pc' := 2258) dL_law__2257 rfl rfl ?_
    refine ax_iload (pc' := 2260) dL_law__2258 rfl rfl ?_
    refine ax_iconst (pc' := 2261) (v := (1 : Int32)) dL_law__2260 (by decide) rfl ?_
    refine ax_iadd (pc' := 2262) dL_law__2261 rfl ?_
    refine ax_sld (pc' := 2263) dL_law__2262 hr.1 rfl ?_
    refine ax_invVL (pc' := 2266) (ce' := ce + 1) (sl' := sl + 6) (a := 69) (As := [.int (g.2.2.2.2.2.2 (i + 1).toNatClampNeg)]) (S := []) (mc2 := 0) (ms2 := 0) (I2 := i_X12_round) rfl dL_law__2263 ll_239 sh_69 (by decide) rfl rfl rfl rfl rfl rfl rfl (by omega) (by omega) rfl (ac_M.imp (o_X12_round _ (g.2.2.2.2.2.2 (i + 1).toNatClampNeg) H) ?_)
    rintro _ _ ⟨b, s2, rfl, rfl, hT2, hI2⟩
    show ac_X g i_L_law_ 100 601024 7293034 Q (ce + 1) (sl + 6) 2266 [some (.ref 1000000), some (.ref 0), some (.ref 69), some (.ref 585), some (.int i), some (.int c), none, none] [.int b] (false, 586, SH, s2, τ)
    refine ax_istore (pc' := 2268) dL_law__2266 rfl rfl rfl ?_
    refine ax_aload_n (pc' := 2269) dL_law__2268 rfl rfl ?_
    refine ax_invVL (pc' := 2272) (ce' := ce + 1) (sl' := sl + 6) (a := 69) (As := []) (S := []) (mc2 := 0) (ms2 := 0) (I2 := i_X12_thrown) rfl dL_law__2269 ll_128 sh_69 (by decide) rfl rfl rfl rfl rfl rfl rfl (by omega) (by omega) rfl (ac_M.imp (o_X12_thrown _ (Q := fun r s => r = s2 69 0 ∧ s = s2) ⟨rfl, rfl⟩) ?_)
    rintro _ _ ⟨z, s3, rfl, rfl, rfl, rfl⟩
    show ac_X g i_L_law_ 100 601024 7293034 Q (ce + 1) (sl + 6) 2272 [some (.ref 1000000), some (.ref 0), some (.ref 69), some (.ref 585), some (.int i), some (.int c), some (.int b), none] [.int (s3 69 0)] (false, 586, SH, s3, τ)
    refine ax_iload (pc' := 2274) dL_law__2272 rfl rfl ?_
    refine ax_icmp_eq (pc' := 2277) (tgt := 2279) dL_law__2274 (by decide) rfl (fun _ => ?_) (fun z => absurd (thN_c hT2 hT).1 z)
    refine ax_iload (pc' := 2281) dL_law__2279 rfl rfl ?_
    refine ax_if_ne (pc' := 2284) (tgt := 2296) dL_law__2281 (by decide) rfl (fun _ => ?_) (fun z => absurd z (thN_c hT hT).2)
    refine ax_goto (tgt := 2585) dL_law__2296 (by decide) ?_
    refine ax_widen (ce' := ce + 8) (sl' := sl + 48) (by omega) (by omega) (ax_fgt (hN _ _ hI2))
theorem lc_decade {g : ac_G} {Q : ac_O → ac_W → Prop} {ce sl : Nat} {i : Int32} {s : ac_m} {τ : Nat → Nat → Int64} (hce : ce + 8 ≤ 601024) (hsl : sl + 48 ≤ 7293034) (hr : rd g i) (hI : Inv s) (hN : ∀ s' τ', Inv s' → lwX g Q (ce + 8) (sl + 48) 2585 i s' τ') : lwX g Q ce sl 2299 i s τ := by
  refine ax_aload_n (pc' := 2300) dL_law__2299 rfl rfl ?_
  refine ax_aload_n (pc' := 2301) dL_law__2300 rfl rfl ?_
  refine ax_iload (pc' := 2303) dL_law__2301 rfl rfl ?_
  refine ax_iconst (pc' := 2304) (v := (1 : Int32)) dL_law__2303 (by decide) rfl ?_
  refine ax_iadd (pc' := 2305) dL_law__2304 rfl ?_
  refine ax_sld (pc' := 2306) dL_law__2305 hr.1 rfl ?_
  refine ax_aload_n (pc' := 2307) dL_law__2306 rfl rfl ?_
  refine ax_iload (pc' := 2309) dL_law__2307 rfl rfl ?_
  refine ax_iconst (pc' := 2310) (v := (2 : Int32)) dL_law__2309 (by decide) rfl ?_
  refine ax_iadd (pc' := 2311) dL_law__2310 rfl ?_
  refine ax_sld (pc' := 2312) dL_law__2311 hr.2.1 rfl ?_
  refine ax_aload_n (pc' := 2313) dL_law__2312 rfl rfl ?_
  refine ax_iload (pc' := 2315) dL_law__2313 rfl rfl ?_
  refine ax_iconst (pc' := 2316) (v := (3 : Int32)) dL_law__2315 (by decide) rfl ?_
  refine ax_iadd (pc' := 2317) dL_law__2316 rfl ?_
  refine ax_sld (pc' := 2318) dL_law__2317 hr.2.2.1 rfl ?_
  refine ax_aload_n (pc' := 2319) dL_law__2318 rfl rfl ?_
  refine ax_iload (pc' := 2321) dL_law__2319 rfl rfl ?_
  refine ax_iconst (pc' := 2322) (v := (4 : Int32)) dL_law__2321 (by decide) rfl ?_
  refine ax_iadd (pc' := 2323) dL_law__2322 rfl ?_
  refine ax_sld (pc' := 2324) dL_law__2323 hr.2.2.2.1 rfl ?_
  refine ax_aload_n (pc' := 2325) dL_law__2324 rfl rfl ?_
  refine ax_invSH (pc' := 2328) (ce' := ce + 3) (sl' := sl + 18) (As := [.ref 0, .int (g.2.2.2.2.2.2 (i + 1).toNatClampNeg), .int (g.2.2.2.2.2.2 (i + 2).toNatClampNeg), .int (g.2.2.2.2.2.2 (i + 3).toNatClampNeg), .int (g.2.2.2.2.2.2 (i + 4).toNatClampNeg), .ref 585]) (S := []) (mc2 := 3) (ms2 := 18) (I2 := i_L_decade) rfl dL_law__2325 ll_240 rfl (by decide) rfl rfl rfl rfl (by omega) (by omega) rfl (ac_M.imp (o_L_decade _ (g.2.2.2.2.2.2 (i + 1).toNatClampNeg) (g.2.2.2.2.2.2 (i + 2).toNatClampNeg) (g.2.2.2.2.2.2 (i + 3).toNatClampNeg) (g.2.2.2.2.2.2 (i + 4).toNatClampNeg) (s_decade (g.2.2.2.2.2.2 (i + 1).toNatClampNeg) (g.2.2.2.2.2.2 (i + 2).toNatClampNeg) (g.2.2.2.2.2.2 (i + 3).toNatClampNeg) (g.2.2.2.2.2.2 (i + 4).toNatClampNeg) s hI)) ?_)
  rintro _ _ (⟨r, s1, rfl, rfl, H⟩ | ⟨E, c, s1, rfl, rfl, hT, H⟩)
  · show ac_X g i_L_law_ 100 601024 7293034 Q (ce + 3) (sl + 18) 2328 [some (.ref 1000000), some (.ref 0), some (.ref 69), some (.ref 585), some (.int i), none, none, none] [.int 0] (false, 586, SH, s1, (ac_uL τ 585 0 r.toInt64))
    refine ax_istore (pc' := 2330) dL_law__2328 rfl rfl rfl ?_
    refine ax_aload_n (pc' := 2331) dL_law__2330 rfl rfl ?_
    refine ax_aload_n (pc' := 2332) dL_law__2331 rfl rfl ?_
    refine ax_iload (pc' := 2334) dL_law__2332 rfl rfl ?_
    refine ax_iconst (pc' := 2335) (v := (1 : Int32)) dL_law__2334 (by decide) rfl ?_
    refine ax_iadd (pc' := 2336) dL_law__2335 rfl ?_
    refine ax_sld (pc' := 2337) dL_law__2336 hr.1 rfl ?_
    refine ax_aload_n (pc' := 2338) dL_law__2337 rfl rfl ?_
    refine ax_iload (pc' := 2340) dL_law__2338 rfl rfl ?_
    refine ax_iconst (pc' := 2341) (v := (2 : Int32)) dL_law__2340 (by decide) rfl ?_
    refine ax_iadd (pc' := 2342) dL_law__2341 rfl ?_
    refine ax_sld (pc' := 2343) dL_law__2342 hr.2.1 rfl ?_
    refine ax_aload_n (pc' := 2344) dL_law__2343 rfl rfl ?_
    refine ax_iload (pc' := 2346) dL_law__2344 rfl rfl ?_
    refine ax_iconst (pc' := 2347) (v := (3 : Int32)) dL_law__2346 (by decide) rfl ?_
    refine ax_iadd (pc' := 2348) dL_law__2347 rfl ?_
    refine ax_sld (pc' := 2349) dL_law__2348 hr.2.2.1 rfl ?_
    refine ax_aload_n (pc' := 2350) dL_law__2349 rfl rfl ?_
    refine ax_iload (pc' := 2352) dL_law__2350 rfl rfl ?_
    refine ax_iconst (pc' := 2353) (v := (4 : Int32)) dL_law__2352 (by decide) rfl ?_
    refine ax_iadd (pc' := 2354) dL_law__2353 rfl ?_
    refine ax_sld (pc' := 2355) dL_law__2354 hr.2.2.2.1 rfl ?_
    refine ax_invVL (pc' := 2358) (ce' := ce + 3) (sl' := sl + 18) (a := 69) (As := [.int (g.2.2.2.2.2.2 (i + 1).toNatClampNeg), .int (g.2.2.2.2.2.2 (i + 2).toNatClampNeg), .int (g.2.2.2.2.2.2 (i + 3).toNatClampNeg), .int (g.2.2.2.2.2.2 (i + 4).toNatClampNeg)]) (S := []) (mc2 := 0) (ms2 := 0) (I2 := i_X12_decade) rfl dL_law__2355 ll_242 sh_69 (by decide) rfl rfl rfl rfl rfl rfl rfl (by omega) (by omega) rfl (ac_M.imp (o_X12_decade _ (g.2.2.2.2.2.2 (i + 1).toNatClampNeg) (g.2.2.2.2.2.2 (i + 2).toNatClampNeg) (g.2.2.2.2.2.2 (i + 3).toNatClampNeg) (g.2.2.2.2.2.2 (i + 4).toNatClampNeg) H) ?_)
    rintro _ _ ⟨b, s2, rfl, rfl, hb, h0, hI2⟩
    show ac_X g i_L_law_ 100 601024 7293034 Q (ce + 3) (sl + 18) 2358 [some (.ref 1000000), some (.ref 0), some (.ref 69), some (.ref 585), some (.int i), some (.int 0), none, none] [.int b] (false, 586, SH, s2, (ac_uL τ 585 0 r.toInt64))
    refine ax_istore (pc' := 2360) dL_law__2358 rfl rfl rfl ?_
    refine ax_aload_n (pc' := 2361) dL_law__2360 rfl rfl ?_
    refine ax_invVL (pc' := 2364) (ce' := ce + 3) (sl' := sl + 18) (a := 69) (As := []) (S := []) (mc2 := 0) (ms2 := 0) (I2 := i_X12_thrown) rfl dL_law__2361 ll_128 sh_69 (by decide) rfl rfl rfl rfl rfl rfl rfl (by omega) (by omega) rfl (ac_M.imp (o_X12_thrown _ (Q := fun r s => r = s2 69 0 ∧ s = s2) ⟨rfl, rfl⟩) ?_)
    rintro _ _ ⟨z, s3, rfl, rfl, rfl, rfl⟩
    show ac_X g i_L_law_ 100 601024 7293034 Q (ce + 3) (sl + 18) 2364 [some (.ref 1000000), some (.ref 0), some (.ref 69), some (.ref 585), some (.int i), some (.int 0), some (.int b), none] [.int (s3 69 0)] (false, 586, SH, s3, (ac_uL τ 585 0 r.toInt64))
    refine ax_iload (pc' := 2366) dL_law__2364 rfl rfl ?_
    refine ax_icmp_eq (pc' := 2369) (tgt := 2371) dL_law__2366 (by decide) rfl (fun _ => ?_) (fun z => absurd h0 z)
    refine ax_iload (pc' := 2373) dL_law__2371 rfl rfl ?_
    refine ax_if_ne (pc' := 2376) (tgt := 2388) dL_law__2373 (by decide) rfl (fun z => absurd rfl z) (fun _ => ?_)
    refine ax_aload_n (pc' := 2377) dL_law__2376 rfl rfl ?_
    refine ax_iconst (pc' := 2378) (v := (0 : Int32)) dL_law__2377 (by decide) rfl ?_
    refine ax_lald (pc' := 2379) dL_law__2378 sh_585 (ac_in (by decide)) rfl rfl ?_
    refine ax_iload (pc' := 2381) dL_law__2379 rfl rfl ?_
    refine ax_i2l (pc' := 2382) dL_law__2381 rfl ?_
    rw [show ac_uL τ 585 0 r.toInt64 585 (0 : Int32).toNatClampNeg = r.toInt64 from uL_eq, hb]
    refine ax_lcmp (pc' := 2383) dL_law__2382 rfl ?_
    refine ax_if_eq (pc' := 2386) (tgt := 2388) dL_law__2383 (by decide) rfl (fun _ => ?_) (fun z => absurd (lg_cmp_self _) z)
    refine ax_goto (tgt := 2585) dL_law__2388 (by decide) ?_
    refine ax_widen (ce' := ce + 8) (sl' := sl + 48) (by omega) (by omega) (ax_fgt (hN _ _ hI2))
  · show ac_X g i_L_law_ 100 601024 7293034 Q (ce + 3) (sl + 18) 2328 [some (.ref 1000000), some (.ref 0), some (.ref 69), some (.ref 585), some (.int i), none, none, none] [.int c] (false, 586, SH, s1, τ)
    refine ax_istore (pc' := 2330) dL_law__2328 rfl rfl rfl ?_
    refine ax_aload_n (pc' := 2331) dL_law__2330 rfl rfl ?_
    refine ax_aload_n (pc' := 2332) dL_law__2331 rfl rfl ?_
    refine ax_iload (pc' := 2334) dL_law__2332 rfl rfl ?_
    refine ax_iconst (pc' := 2335) (v := (1 : Int32)) dL_law__2334 (by decide) rfl ?_
    refine ax_iadd (pc' := 2336) dL_law__2335 rfl ?_
    refine ax_sld (pc' := 2337) dL_law__2336 hr.1 rfl ?_
    refine ax_aload_n (pc' := 2338) dL_law__2337 rfl rfl ?_
    refine ax_iload (pc' := 2340) dL_law__2338 rfl rfl ?_
    refine ax_iconst (pc' := 2341) (v := (2 : Int32)) dL_law__2340 (by decide) rfl ?_
    refine ax_iadd (pc' := 2342) dL_law__2341 rfl ?_
    refine ax_sld (pc' := 2343) dL_law__2342 hr.2.1 rfl ?_
    refine ax_aload_n (pc' := 2344) dL_law__2343 rfl rfl ?_
    refine ax_iload (pc' := 2346) dL_law__2344 rfl rfl ?_
    refine ax_iconst (pc' := 2347) (v := (3 : Int32)) dL_law__2346 (by decide) rfl ?_
    refine ax_iadd (pc' := 2348) dL_law__2347 rfl ?_
    refine ax_sld (pc' := 2349) dL_law__2348 hr.2.2.1 rfl ?_
    refine ax_aload_n (pc' := 2350) dL_law__2349 rfl rfl ?_
    refine ax_iload (pc' := 2352) dL_law__2350 rfl rfl ?_
    refine ax_iconst (pc' := 2353) (v := (4 : Int32)) dL_law__2352 (by decide) rfl ?_
    refine ax_iadd (pc' := 2354) dL_law__2353 rfl ?_
    refine ax_sld (pc' := 2355) dL_law__2354 hr.2.2.2.1 rfl ?_
    refine ax_invVL (pc' := 2358) (ce' := ce + 3) (sl' := sl + 18) (a := 69) (As := [.int (g.2.2.2.2.2.2 (i + 1).toNatClampNeg), .int (g.2.2.2.2.2.2 (i + 2).toNatClampNeg), .int (g.2.2.2.2.2.2 (i + 3).toNatClampNeg), .int (g.2.2.2.2.2.2 (i + 4).toNatClampNeg)]) (S := []) (mc2 := 0) (ms2 := 0) (I2 := i_X12_decade) rfl dL_law__2355 ll_242 sh_69 (by decide) rfl rfl rfl rfl rfl rfl rfl (by omega) (by omega) rfl (ac_M.imp (o_X12_decade _ (g.2.2.2.2.2.2 (i + 1).toNatClampNeg) (g.2.2.2.2.2.2 (i + 2).toNatClampNeg) (g.2.2.2.2.2.2 (i + 3).toNatClampNeg) (g.2.2.2.2.2.2 (i + 4).toNatClampNeg) H) ?_)
    rintro _ _ ⟨b, s2, rfl, rfl, hT2, hI2⟩
    show ac_X g i_L_law_ 100 601024 7293034 Q (ce + 3) (sl + 18) 2358 [some (.ref 1000000), some (.ref 0), some (.ref 69), some (.ref 585), some (.int i), some (.int c), none, none] [.int b] (false, 586, SH, s2, τ)
    refine ax_istore (pc' := 2360) dL_law__2358 rfl rfl rfl ?_
    refine ax_aload_n (pc' := 2361) dL_law__2360 rfl rfl ?_
    refine ax_invVL (pc' := 2364) (ce' := ce + 3) (sl' := sl + 18) (a := 69) (As := []) (S := []) (mc2 := 0) (ms2 := 0) (I2 := i_X12_thrown) rfl dL_law__2361 ll_128 sh_69 (by decide) rfl rfl rfl rfl rfl rfl rfl (by omega) (by omega) rfl (ac_M.imp (o_X12_thrown _ (Q := fun r s => r = s2 69 0 ∧ s = s2) ⟨rfl, rfl⟩) ?_)
    rintro _ _ ⟨z, s3, rfl, rfl, rfl, rfl⟩
    show ac_X g i_L_law_ 100 601024 7293034 Q (ce + 3) (sl + 18) 2364 [some (.ref 1000000), some (.ref 0), some (.ref 69), some (.ref 585), some (.int i), some (.int c), some (.int b), none] [.int (s3 69 0)] (false, 586, SH, s3, τ)
    refine ax_iload (pc' := 2366) dL_law__2364 rfl rfl ?_
    refine ax_icmp_eq (pc' := 2369) (tgt := 2371) dL_law__2366 (by decide) rfl (fun _ => ?_) (fun z => absurd (thA_c hT2 hT).1 z)
    refine ax_iload (pc' := 2373) dL_law__2371 rfl rfl ?_
    refine ax_if_ne (pc' := 2376) (tgt := 2388) dL_law__2373 (by decide) rfl (fun _ => ?_) (fun z => absurd z (thA_c hT hT).2)
    refine ax_goto (tgt := 2585) dL_law__2388 (by decide) ?_
    refine ax_widen (ce' := ce + 8) (sl' := sl + 48) (by omega) (by omega) (ax_fgt (hN _ _ hI2))
theorem lc_span {g : ac_G} {Q : ac_O → ac_W → Prop} {ce sl : Nat} {i : Int32} {s : ac_m} {τ : Nat → Nat → Int64} (hce : ce + 8 ≤ 601024) (hsl : sl + 48 ≤ 7293034) (hr : rd g i) (hI : Inv s) (hN : ∀ s' τ', Inv s' → lwX g Q (ce + 8) (sl + 48) 2585 i s' τ') : lwX g Q ce sl 2391 i s τ := by
  refine ax_aload_n (pc' := 2392) dL_law__2391 rfl rfl ?_
  refine ax_aload_n (pc' := 2393) dL_law__2392 rfl rfl ?_
  refine ax_iload (pc' := 2395) dL_law__2393 rfl rfl ?_
  refine ax_iconst (pc' := 2396) (v := (1 : Int32)) dL_law__2395 (by decide) rfl ?_
  refine ax_iadd (pc' := 2397) dL_law__2396 rfl ?_
  refine ax_sld (pc' := 2398) dL_law__2397 hr.1 rfl ?_
  refine ax_aload_n (pc' := 2399) dL_law__2398 rfl rfl ?_
  refine ax_iload (pc' := 2401) dL_law__2399 rfl rfl ?_
  refine ax_iconst (pc' := 2402) (v := (2 : Int32)) dL_law__2401 (by decide) rfl ?_
  refine ax_iadd (pc' := 2403) dL_law__2402 rfl ?_
  refine ax_sld (pc' := 2404) dL_law__2403 hr.2.1 rfl ?_
  refine ax_aload_n (pc' := 2405) dL_law__2404 rfl rfl ?_
  refine ax_iload (pc' := 2407) dL_law__2405 rfl rfl ?_
  refine ax_iconst (pc' := 2408) (v := (3 : Int32)) dL_law__2407 (by decide) rfl ?_
  refine ax_iadd (pc' := 2409) dL_law__2408 rfl ?_
  refine ax_sld (pc' := 2410) dL_law__2409 hr.2.2.1 rfl ?_
  refine ax_aload_n (pc' := 2411) dL_law__2410 rfl rfl ?_
  refine ax_iload (pc' := 2413) dL_law__2411 rfl rfl ?_
  refine ax_iconst (pc' := 2414) (v := (4 : Int32)) dL_law__2413 (by decide) rfl ?_
  refine ax_iadd (pc' := 2415) dL_law__2414 rfl ?_
  refine ax_sld (pc' := 2416) dL_law__2415 hr.2.2.2.1 rfl ?_
  refine ax_aload_n (pc' := 2417) dL_law__2416 rfl rfl ?_
  refine ax_iload (pc' := 2419) dL_law__2417 rfl rfl ?_
  refine ax_iconst (pc' := 2420) (v := (5 : Int32)) dL_law__2419 (by decide) rfl ?_
  refine ax_iadd (pc' := 2421) dL_law__2420 rfl ?_
  refine ax_sld (pc' := 2422) dL_law__2421 hr.2.2.2.2.1 rfl ?_
  refine ax_aload_n (pc' := 2423) dL_law__2422 rfl rfl ?_
  refine ax_iload (pc' := 2425) dL_law__2423 rfl rfl ?_
  refine ax_bipush (pc' := 2427) (v := (6 : Int32)) dL_law__2425 (by decide) rfl ?_
  refine ax_iadd (pc' := 2428) dL_law__2427 rfl ?_
  refine ax_sld (pc' := 2429) dL_law__2428 hr.2.2.2.2.2.1 rfl ?_
  refine ax_aload_n (pc' := 2430) dL_law__2429 rfl rfl ?_
  refine ax_invSH (pc' := 2433) (ce' := ce + 5) (sl' := sl + 30) (As := [.ref 0, .int (g.2.2.2.2.2.2 (i + 1).toNatClampNeg), .int (g.2.2.2.2.2.2 (i + 2).toNatClampNeg), .int (g.2.2.2.2.2.2 (i + 3).toNatClampNeg), .int (g.2.2.2.2.2.2 (i + 4).toNatClampNeg), .int (g.2.2.2.2.2.2 (i + 5).toNatClampNeg), .int (g.2.2.2.2.2.2 (i + 6).toNatClampNeg), .ref 585]) (S := []) (mc2 := 5) (ms2 := 30) (I2 := i_L_span) rfl dL_law__2430 ll_243 rfl (by decide) rfl rfl rfl rfl (by omega) (by omega) rfl (ac_M.imp (o_L_span _ (g.2.2.2.2.2.2 (i + 1).toNatClampNeg) (g.2.2.2.2.2.2 (i + 2).toNatClampNeg) (g.2.2.2.2.2.2 (i + 3).toNatClampNeg) (g.2.2.2.2.2.2 (i + 4).toNatClampNeg) (g.2.2.2.2.2.2 (i + 5).toNatClampNeg) (g.2.2.2.2.2.2 (i + 6).toNatClampNeg) (s_span (g.2.2.2.2.2.2 (i + 1).toNatClampNeg) (g.2.2.2.2.2.2 (i + 2).toNatClampNeg) (g.2.2.2.2.2.2 (i + 3).toNatClampNeg) (g.2.2.2.2.2.2 (i + 4).toNatClampNeg) (g.2.2.2.2.2.2 (i + 5).toNatClampNeg) (g.2.2.2.2.2.2 (i + 6).toNatClampNeg) s hI)) ?_)
  rintro _ _ (⟨r, s1, rfl, rfl, H⟩ | ⟨E, c, s1, rfl, rfl, hT, H⟩)
  · show ac_X g i_L_law_ 100 601024 7293034 Q (ce + 5) (sl + 30) 2433 [some (.ref 1000000), some (.ref 0), some (.ref 69), some (.ref 585), some (.int i), none, none, none] [.int 0] (false, 586, SH, s1, (ac_uL τ 585 0 r.toInt64))
    refine ax_istore (pc' := 2435) dL_law__2433 rfl rfl rfl ?_
    refine ax_aload_n (pc' := 2436) dL_law__2435 rfl rfl ?_
    refine ax_aload_n (pc' := 2437) dL_law__2436 rfl rfl ?_
    refine ax_iload (pc' := 2439) dL_law__2437 rfl rfl ?_
    refine ax_iconst (pc' := 2440) (v := (1 : Int32)) dL_law__2439 (by decide) rfl ?_
    refine ax_iadd (pc' := 2441) dL_law__2440 rfl ?_
    refine ax_sld (pc' := 2442) dL_law__2441 hr.1 rfl ?_
    refine ax_aload_n (pc' := 2443) dL_law__2442 rfl rfl ?_
    refine ax_iload (pc' := 2445) dL_law__2443 rfl rfl ?_
    refine ax_iconst (pc' := 2446) (v := (2 : Int32)) dL_law__2445 (by decide) rfl ?_
    refine ax_iadd (pc' := 2447) dL_law__2446 rfl ?_
    refine ax_sld (pc' := 2448) dL_law__2447 hr.2.1 rfl ?_
    refine ax_aload_n (pc' := 2449) dL_law__2448 rfl rfl ?_
    refine ax_iload (pc' := 2451) dL_law__2449 rfl rfl ?_
    refine ax_iconst (pc' := 2452) (v := (3 : Int32)) dL_law__2451 (by decide) rfl ?_
    refine ax_iadd (pc' := 2453) dL_law__2452 rfl ?_
    refine ax_sld (pc' := 2454) dL_law__2453 hr.2.2.1 rfl ?_
    refine ax_aload_n (pc' := 2455) dL_law__2454 rfl rfl ?_
    refine ax_iload (pc' := 2457) dL_law__2455 rfl rfl ?_
    refine ax_iconst (pc' := 2458) (v := (4 : Int32)) dL_law__2457 (by decide) rfl ?_
    refine ax_iadd (pc' := 2459) dL_law__2458 rfl ?_
    refine ax_sld (pc' := 2460) dL_law__2459 hr.2.2.2.1 rfl ?_
    refine ax_aload_n (pc' := 2461) dL_law__2460 rfl rfl ?_
    refine ax_iload (pc' := 2463) dL_law__2461 rfl rfl ?_
    refine ax_iconst (pc' := 2464) (v := (5 : Int32)) dL_law__2463 (by decide) rfl ?_
    refine ax_iadd (pc' := 2465) dL_law__2464 rfl ?_
    refine ax_sld (pc' := 2466) dL_law__2465 hr.2.2.2.2.1 rfl ?_
    refine ax_aload_n (pc' := 2467) dL_law__2466 rfl rfl ?_
    refine ax_iload (pc' := 2469) dL_law__2467 rfl rfl ?_
    refine ax_bipush (pc' := 2471) (v := (6 : Int32)) dL_law__2469 (by decide) rfl ?_
    refine ax_iadd (pc' := 2472) dL_law__2471 rfl ?_
    refine ax_sld (pc' := 2473) dL_law__2472 hr.2.2.2.2.2.1 rfl ?_
    refine ax_invVL (pc' := 2476) (ce' := ce + 5) (sl' := sl + 30) (a := 69) (As := [.int (g.2.2.2.2.2.2 (i + 1).toNatClampNeg), .int (g.2.2.2.2.2.2 (i + 2).toNatClampNeg), .int (g.2.2.2.2.2.2 (i + 3).toNatClampNeg), .int (g.2.2.2.2.2.2 (i + 4).toNatClampNeg), .int (g.2.2.2.2.2.2 (i + 5).toNatClampNeg), .int (g.2.2.2.2.2.2 (i + 6).toNatClampNeg)]) (S := []) (mc2 := 0) (ms2 := 0) (I2 := i_X12_span) rfl dL_law__2473 ll_246 sh_69 (by decide) rfl rfl rfl rfl rfl rfl rfl (by omega) (by omega) rfl (ac_M.imp (o_X12_span _ (g.2.2.2.2.2.2 (i + 1).toNatClampNeg) (g.2.2.2.2.2.2 (i + 2).toNatClampNeg) (g.2.2.2.2.2.2 (i + 3).toNatClampNeg) (g.2.2.2.2.2.2 (i + 4).toNatClampNeg) (g.2.2.2.2.2.2 (i + 5).toNatClampNeg) (g.2.2.2.2.2.2 (i + 6).toNatClampNeg) H) ?_)
    rintro _ _ ⟨b, s2, rfl, rfl, hb, h0, hI2⟩
    show ac_X g i_L_law_ 100 601024 7293034 Q (ce + 5) (sl + 30) 2476 [some (.ref 1000000), some (.ref 0), some (.ref 69), some (.ref 585), some (.int i), some (.int 0), none, none] [.int b] (false, 586, SH, s2, (ac_uL τ 585 0 r.toInt64))
    refine ax_istore (pc' := 2478) dL_law__2476 rfl rfl rfl ?_
    refine ax_aload_n (pc' := 2479) dL_law__2478 rfl rfl ?_
    refine ax_invVL (pc' := 2482) (ce' := ce + 5) (sl' := sl + 30) (a := 69) (As := []) (S := []) (mc2 := 0) (ms2 := 0) (I2 := i_X12_thrown) rfl dL_law__2479 ll_128 sh_69 (by decide) rfl rfl rfl rfl rfl rfl rfl (by omega) (by omega) rfl (ac_M.imp (o_X12_thrown _ (Q := fun r s => r = s2 69 0 ∧ s = s2) ⟨rfl, rfl⟩) ?_)
    rintro _ _ ⟨z, s3, rfl, rfl, rfl, rfl⟩
    show ac_X g i_L_law_ 100 601024 7293034 Q (ce + 5) (sl + 30) 2482 [some (.ref 1000000), some (.ref 0), some (.ref 69), some (.ref 585), some (.int i), some (.int 0), some (.int b), none] [.int (s3 69 0)] (false, 586, SH, s3, (ac_uL τ 585 0 r.toInt64))
    refine ax_iload (pc' := 2484) dL_law__2482 rfl rfl ?_
    refine ax_icmp_eq (pc' := 2487) (tgt := 2489) dL_law__2484 (by decide) rfl (fun _ => ?_) (fun z => absurd h0 z)
    refine ax_iload (pc' := 2491) dL_law__2489 rfl rfl ?_
    refine ax_if_ne (pc' := 2494) (tgt := 2506) dL_law__2491 (by decide) rfl (fun z => absurd rfl z) (fun _ => ?_)
    refine ax_aload_n (pc' := 2495) dL_law__2494 rfl rfl ?_
    refine ax_iconst (pc' := 2496) (v := (0 : Int32)) dL_law__2495 (by decide) rfl ?_
    refine ax_lald (pc' := 2497) dL_law__2496 sh_585 (ac_in (by decide)) rfl rfl ?_
    refine ax_iload (pc' := 2499) dL_law__2497 rfl rfl ?_
    refine ax_i2l (pc' := 2500) dL_law__2499 rfl ?_
    rw [show ac_uL τ 585 0 r.toInt64 585 (0 : Int32).toNatClampNeg = r.toInt64 from uL_eq, hb]
    refine ax_lcmp (pc' := 2501) dL_law__2500 rfl ?_
    refine ax_if_eq (pc' := 2504) (tgt := 2506) dL_law__2501 (by decide) rfl (fun _ => ?_) (fun z => absurd (lg_cmp_self _) z)
    refine ax_goto (tgt := 2585) dL_law__2506 (by decide) ?_
    refine ax_widen (ce' := ce + 8) (sl' := sl + 48) (by omega) (by omega) (ax_fgt (hN _ _ hI2))
  · show ac_X g i_L_law_ 100 601024 7293034 Q (ce + 5) (sl + 30) 2433 [some (.ref 1000000), some (.ref 0), some (.ref 69), some (.ref 585), some (.int i), none, none, none] [.int c] (false, 586, SH, s1, τ)
    refine ax_istore (pc' := 2435) dL_law__2433 rfl rfl rfl ?_
    refine ax_aload_n (pc' := 2436) dL_law__2435 rfl rfl ?_
    refine ax_aload_n (pc' := 2437) dL_law__2436 rfl rfl ?_
    refine ax_iload (pc' := 2439) dL_law__2437 rfl rfl ?_
    refine ax_iconst (pc' := 2440) (v := (1 : Int32)) dL_law__2439 (by decide) rfl ?_
    refine ax_iadd (pc' := 2441) dL_law__2440 rfl ?_
    refine ax_sld (pc' := 2442) dL_law__2441 hr.1 rfl ?_
    refine ax_aload_n (pc' := 2443) dL_law__2442 rfl rfl ?_
    refine ax_iload (pc' := 2445) dL_law__2443 rfl rfl ?_
    refine ax_iconst (pc' := 2446) (v := (2 : Int32)) dL_law__2445 (by decide) rfl ?_
    refine ax_iadd (pc' := 2447) dL_law__2446 rfl ?_
    refine ax_sld (pc' := 2448) dL_law__2447 hr.2.1 rfl ?_
    refine ax_aload_n (pc' := 2449) dL_law__2448 rfl rfl ?_
    refine ax_iload (pc' := 2451) dL_law__2449 rfl rfl ?_
    refine ax_iconst (pc' := 2452) (v := (3 : Int32)) dL_law__2451 (by decide) rfl ?_
    refine ax_iadd (pc' := 2453) dL_law__2452 rfl ?_
    refine ax_sld (pc' := 2454) dL_law__2453 hr.2.2.1 rfl ?_
    refine ax_aload_n (pc' := 2455) dL_law__2454 rfl rfl ?_
    refine ax_iload (pc' := 2457) dL_law__2455 rfl rfl ?_
    refine ax_iconst (pc' := 2458) (v := (4 : Int32)) dL_law__2457 (by decide) rfl ?_
    refine ax_iadd (pc' := 2459) dL_law__2458 rfl ?_
    refine ax_sld (pc' := 2460) dL_law__2459 hr.2.2.2.1 rfl ?_
    refine ax_aload_n (pc' := 2461) dL_law__2460 rfl rfl ?_
    refine ax_iload (pc' := 2463) dL_law__2461 rfl rfl ?_
    refine ax_iconst (pc' := 2464) (v := (5 : Int32)) dL_law__2463 (by decide) rfl ?_
    refine ax_iadd (pc' := 2465) dL_law__2464 rfl ?_
    refine ax_sld (pc' := 2466) dL_law__2465 hr.2.2.2.2.1 rfl ?_
    refine ax_aload_n (pc' := 2467) dL_law__2466 rfl rfl ?_
    refine ax_iload (pc' := 2469) dL_law__2467 rfl rfl ?_
    refine ax_bipush (pc' := 2471) (v := (6 : Int32)) dL_law__2469 (by decide) rfl ?_
    refine ax_iadd (pc' := 2472) dL_law__2471 rfl ?_
    refine ax_sld (pc' := 2473) dL_law__2472 hr.2.2.2.2.2.1 rfl ?_
    refine ax_invVL (pc' := 2476) (ce' := ce + 5) (sl' := sl + 30) (a := 69) (As := [.int (g.2.2.2.2.2.2 (i + 1).toNatClampNeg), .int (g.2.2.2.2.2.2 (i + 2).toNatClampNeg), .int (g.2.2.2.2.2.2 (i + 3).toNatClampNeg), .int (g.2.2.2.2.2.2 (i + 4).toNatClampNeg), .int (g.2.2.2.2.2.2 (i + 5).toNatClampNeg), .int (g.2.2.2.2.2.2 (i + 6).toNatClampNeg)]) (S := []) (mc2 := 0) (ms2 := 0) (I2 := i_X12_span) rfl dL_law__2473 ll_246 sh_69 (by decide) rfl rfl rfl rfl rfl rfl rfl (by omega) (by omega) rfl (ac_M.imp (o_X12_span _ (g.2.2.2.2.2.2 (i + 1).toNatClampNeg) (g.2.2.2.2.2.2 (i + 2).toNatClampNeg) (g.2.2.2.2.2.2 (i + 3).toNatClampNeg) (g.2.2.2.2.2.2 (i + 4).toNatClampNeg) (g.2.2.2.2.2.2 (i + 5).toNatClampNeg) (g.2.2.2.2.2.2 (i + 6).toNatClampNeg) H) ?_)
    rintro _ _ ⟨b, s2, rfl, rfl, hT2, hI2⟩
    show ac_X g i_L_law_ 100 601024 7293034 Q (ce + 5) (sl + 30) 2476 [some (.ref 1000000), some (.ref 0), some (.ref 69), some (.ref 585), some (.int i), some (.int c), none, none] [.int b] (false, 586, SH, s2, τ)
    refine ax_istore (pc' := 2478) dL_law__2476 rfl rfl rfl ?_
    refine ax_aload_n (pc' := 2479) dL_law__2478 rfl rfl ?_
    refine ax_invVL (pc' := 2482) (ce' := ce + 5) (sl' := sl + 30) (a := 69) (As := []) (S := []) (mc2 := 0) (ms2 := 0) (I2 := i_X12_thrown) rfl dL_law__2479 ll_128 sh_69 (by decide) rfl rfl rfl rfl rfl rfl rfl (by omega) (by omega) rfl (ac_M.imp (o_X12_thrown _ (Q := fun r s => r = s2 69 0 ∧ s = s2) ⟨rfl, rfl⟩) ?_)
    rintro _ _ ⟨z, s3, rfl, rfl, rfl, rfl⟩
    show ac_X g i_L_law_ 100 601024 7293034 Q (ce + 5) (sl + 30) 2482 [some (.ref 1000000), some (.ref 0), some (.ref 69), some (.ref 585), some (.int i), some (.int c), some (.int b), none] [.int (s3 69 0)] (false, 586, SH, s3, τ)
    refine ax_iload (pc' := 2484) dL_law__2482 rfl rfl ?_
    refine ax_icmp_eq (pc' := 2487) (tgt := 2489) dL_law__2484 (by decide) rfl (fun _ => ?_) (fun z => absurd (thA_c hT2 hT).1 z)
    refine ax_iload (pc' := 2491) dL_law__2489 rfl rfl ?_
    refine ax_if_ne (pc' := 2494) (tgt := 2506) dL_law__2491 (by decide) rfl (fun _ => ?_) (fun z => absurd z (thA_c hT hT).2)
    refine ax_goto (tgt := 2585) dL_law__2506 (by decide) ?_
    refine ax_widen (ce' := ce + 8) (sl' := sl + 48) (by omega) (by omega) (ax_fgt (hN _ _ hI2))
theorem lc_image {g : ac_G} {Q : ac_O → ac_W → Prop} {ce sl : Nat} {i : Int32} {s : ac_m} {τ : Nat → Nat → Int64} (hce : ce + 8 ≤ 601024) (hsl : sl + 48 ≤ 7293034) (hr : rd g i) (hI : Inv s) (hN : ∀ s' τ', Inv s' → lwX g Q (ce + 8) (sl + 48) 2585 i s' τ') : lwX g Q ce sl 2509 i s τ := by
  refine ax_aload_n (pc' := 2510) dL_law__2509 rfl rfl ?_
  refine ax_invVL (pc' := 2513) (ce' := ce + 0) (sl' := sl + 0) (a := 0) (As := []) (S := []) (mc2 := 0) (ms2 := 0) (I2 := i_X11_image) rfl dL_law__2510 ll_247 sh_0 (by decide) rfl rfl rfl rfl rfl rfl rfl (by omega) (by omega) rfl (ac_M.imp (o_X11_image _  (s_image  s hI)) ?_)
  rintro _ _ ⟨r, s1, rfl, rfl, H⟩
  show ac_X g i_L_law_ 100 601024 7293034 Q (ce + 0) (sl + 0) 2513 [some (.ref 1000000), some (.ref 0), some (.ref 69), some (.ref 585), some (.int i), none, none, none] [.int r] (false, 586, SH, s1, τ)
  refine ax_aload_n (pc' := 2514) dL_law__2513 rfl rfl ?_
  refine ax_invVL (pc' := 2517) (ce' := ce + 0) (sl' := sl + 0) (a := 69) (As := []) (S := [.int r]) (mc2 := 0) (ms2 := 0) (I2 := i_X12_image) rfl dL_law__2514 ll_250 sh_69 (by decide) rfl rfl rfl rfl rfl rfl rfl (by omega) (by omega) rfl (ac_M.imp (o_X12_image _  H) ?_)
  rintro _ _ ⟨b, s2, rfl, rfl, hb, h0, hI2⟩
  show ac_X g i_L_law_ 100 601024 7293034 Q (ce + 0) (sl + 0) 2517 [some (.ref 1000000), some (.ref 0), some (.ref 69), some (.ref 585), some (.int i), none, none, none] [.int b, .int r] (false, 586, SH, s2, τ)
  refine ax_icmp_eq (pc' := 2520) (tgt := 2585) dL_law__2517 (by decide) rfl (fun _ => ?_) (fun z => absurd hb z)
  exact ax_widen (ce' := ce + 8) (sl' := sl + 48) (by omega) (by omega) (hN _ _ hI2)
theorem lc_restore {g : ac_G} {Q : ac_O → ac_W → Prop} {ce sl : Nat} {i : Int32} {s : ac_m} {τ : Nat → Nat → Int64} (hce : ce + 8 ≤ 601024) (hsl : sl + 48 ≤ 7293034) (hr : rd g i) (hI : Inv s) (hN : ∀ s' τ', Inv s' → lwX g Q (ce + 8) (sl + 48) 2585 i s' τ') : lwX g Q ce sl 2522 i s τ := by
  refine ax_aload_n (pc' := 2523) dL_law__2522 rfl rfl ?_
  refine ax_invVL (pc' := 2526) (ce' := ce + 0) (sl' := sl + 0) (a := 0) (As := []) (S := []) (mc2 := 0) (ms2 := 0) (I2 := i_X11_restore) rfl dL_law__2523 ll_251 sh_0 (by decide) rfl rfl rfl rfl rfl rfl rfl (by omega) (by omega) rfl (ac_M.imp (o_X11_restore _  (s_restore  s hI)) ?_)
  rintro _ _ ⟨r, s1, rfl, rfl, H⟩
  show ac_X g i_L_law_ 100 601024 7293034 Q (ce + 0) (sl + 0) 2526 [some (.ref 1000000), some (.ref 0), some (.ref 69), some (.ref 585), some (.int i), none, none, none] [.int r] (false, 586, SH, s1, τ)
  refine ax_aload_n (pc' := 2527) dL_law__2526 rfl rfl ?_
  refine ax_invVL (pc' := 2530) (ce' := ce + 0) (sl' := sl + 0) (a := 69) (As := []) (S := [.int r]) (mc2 := 0) (ms2 := 0) (I2 := i_X12_restore) rfl dL_law__2527 ll_254 sh_69 (by decide) rfl rfl rfl rfl rfl rfl rfl (by omega) (by omega) rfl (ac_M.imp (o_X12_restore _  H) ?_)
  rintro _ _ ⟨b, s2, rfl, rfl, hb, h0, hI2⟩
  show ac_X g i_L_law_ 100 601024 7293034 Q (ce + 0) (sl + 0) 2530 [some (.ref 1000000), some (.ref 0), some (.ref 69), some (.ref 585), some (.int i), none, none, none] [.int b, .int r] (false, 586, SH, s2, τ)
  refine ax_icmp_eq (pc' := 2533) (tgt := 2585) dL_law__2530 (by decide) rfl (fun _ => ?_) (fun z => absurd hb z)
  exact ax_widen (ce' := ce + 8) (sl' := sl + 48) (by omega) (by omega) (hN _ _ hI2)
theorem lc_status {g : ac_G} {Q : ac_O → ac_W → Prop} {ce sl : Nat} {i : Int32} {s : ac_m} {τ : Nat → Nat → Int64} (hce : ce + 8 ≤ 601024) (hsl : sl + 48 ≤ 7293034) (hr : rd g i) (hI : Inv s) (hN : ∀ s' τ', Inv s' → lwX g Q (ce + 8) (sl + 48) 2585 i s' τ') : lwX g Q ce sl 2535 i s τ := by
  refine ax_aload_n (pc' := 2536) dL_law__2535 rfl rfl ?_
  refine ax_aload_n (pc' := 2537) dL_law__2536 rfl rfl ?_
  refine ax_iload (pc' := 2539) dL_law__2537 rfl rfl ?_
  refine ax_iconst (pc' := 2540) (v := (1 : Int32)) dL_law__2539 (by decide) rfl ?_
  refine ax_iadd (pc' := 2541) dL_law__2540 rfl ?_
  refine ax_sld (pc' := 2542) dL_law__2541 hr.1 rfl ?_
  refine ax_invVL (pc' := 2545) (ce' := ce + 0) (sl' := sl + 0) (a := 0) (As := [.int (g.2.2.2.2.2.2 (i + 1).toNatClampNeg)]) (S := []) (mc2 := 0) (ms2 := 0) (I2 := i_X11_status) rfl dL_law__2542 ll_255 sh_0 (by decide) rfl rfl rfl rfl rfl rfl rfl (by omega) (by omega) rfl (ac_M.imp (o_X11_status _ (g.2.2.2.2.2.2 (i + 1).toNatClampNeg) (s_status (g.2.2.2.2.2.2 (i + 1).toNatClampNeg) s hI)) ?_)
  rintro _ _ ⟨r, s1, rfl, rfl, H⟩
  show ac_X g i_L_law_ 100 601024 7293034 Q (ce + 0) (sl + 0) 2545 [some (.ref 1000000), some (.ref 0), some (.ref 69), some (.ref 585), some (.int i), none, none, none] [.int r] (false, 586, SH, s1, τ)
  refine ax_aload_n (pc' := 2546) dL_law__2545 rfl rfl ?_
  refine ax_aload_n (pc' := 2547) dL_law__2546 rfl rfl ?_
  refine ax_iload (pc' := 2549) dL_law__2547 rfl rfl ?_
  refine ax_iconst (pc' := 2550) (v := (1 : Int32)) dL_law__2549 (by decide) rfl ?_
  refine ax_iadd (pc' := 2551) dL_law__2550 rfl ?_
  refine ax_sld (pc' := 2552) dL_law__2551 hr.1 rfl ?_
  refine ax_invVL (pc' := 2555) (ce' := ce + 0) (sl' := sl + 0) (a := 69) (As := [.int (g.2.2.2.2.2.2 (i + 1).toNatClampNeg)]) (S := [.int r]) (mc2 := 0) (ms2 := 0) (I2 := i_X12_status) rfl dL_law__2552 ll_258 sh_69 (by decide) rfl rfl rfl rfl rfl rfl rfl (by omega) (by omega) rfl (ac_M.imp (o_X12_status _ (g.2.2.2.2.2.2 (i + 1).toNatClampNeg) H) ?_)
  rintro _ _ ⟨b, s2, rfl, rfl, hb, h0, hI2⟩
  show ac_X g i_L_law_ 100 601024 7293034 Q (ce + 0) (sl + 0) 2555 [some (.ref 1000000), some (.ref 0), some (.ref 69), some (.ref 585), some (.int i), none, none, none] [.int b, .int r] (false, 586, SH, s2, τ)
  refine ax_icmp_eq (pc' := 2558) (tgt := 2585) dL_law__2555 (by decide) rfl (fun _ => ?_) (fun z => absurd hb z)
  exact ax_widen (ce' := ce + 8) (sl' := sl + 48) (by omega) (by omega) (hN _ _ hI2)
theorem lc_count {g : ac_G} {Q : ac_O → ac_W → Prop} {ce sl : Nat} {i : Int32} {s : ac_m} {τ : Nat → Nat → Int64} (hce : ce + 8 ≤ 601024) (hsl : sl + 48 ≤ 7293034) (hr : rd g i) (hI : Inv s) (hN : ∀ s' τ', Inv s' → lwX g Q (ce + 8) (sl + 48) 2585 i s' τ') : lwX g Q ce sl 2560 i s τ := by
  refine ax_aload_n (pc' := 2561) dL_law__2560 rfl rfl ?_
  refine ax_aload_n (pc' := 2562) dL_law__2561 rfl rfl ?_
  refine ax_iload (pc' := 2564) dL_law__2562 rfl rfl ?_
  refine ax_iconst (pc' := 2565) (v := (1 : Int32)) dL_law__2564 (by decide) rfl ?_
  refine ax_iadd (pc' := 2566) dL_law__2565 rfl ?_
  refine ax_sld (pc' := 2567) dL_law__2566 hr.1 rfl ?_
  refine ax_invVL (pc' := 2570) (ce' := ce + 0) (sl' := sl + 0) (a := 0) (As := [.int (g.2.2.2.2.2.2 (i + 1).toNatClampNeg)]) (S := []) (mc2 := 0) (ms2 := 0) (I2 := i_X11_count) rfl dL_law__2567 ll_259 sh_0 (by decide) rfl rfl rfl rfl rfl rfl rfl (by omega) (by omega) rfl (ac_M.imp (o_X11_count _ (g.2.2.2.2.2.2 (i + 1).toNatClampNeg) (s_count (g.2.2.2.2.2.2 (i + 1).toNatClampNeg) s hI)) ?_)
  rintro _ _ ⟨r, s1, rfl, rfl, H⟩
  show ac_X g i_L_law_ 100 601024 7293034 Q (ce + 0) (sl + 0) 2570 [some (.ref 1000000), some (.ref 0), some (.ref 69), some (.ref 585), some (.int i), none, none, none] [.int r] (false, 586, SH, s1, τ)
  refine ax_aload_n (pc' := 2571) dL_law__2570 rfl rfl ?_
  refine ax_aload_n (pc' := 2572) dL_law__2571 rfl rfl ?_
  refine ax_iload (pc' := 2574) dL_law__2572 rfl rfl ?_
  refine ax_iconst (pc' := 2575) (v := (1 : Int32)) dL_law__2574 (by decide) rfl ?_
  refine ax_iadd (pc' := 2576) dL_law__2575 rfl ?_
  refine ax_sld (pc' := 2577) dL_law__2576 hr.1 rfl ?_
  refine ax_invVL (pc' := 2580) (ce' := ce + 0) (sl' := sl + 0) (a := 69) (As := [.int (g.2.2.2.2.2.2 (i + 1).toNatClampNeg)]) (S := [.int r]) (mc2 := 0) (ms2 := 0) (I2 := i_X12_count) rfl dL_law__2577 ll_262 sh_69 (by decide) rfl rfl rfl rfl rfl rfl rfl (by omega) (by omega) rfl (ac_M.imp (o_X12_count _ (g.2.2.2.2.2.2 (i + 1).toNatClampNeg) H) ?_)
  rintro _ _ ⟨b, s2, rfl, rfl, hb, h0, hI2⟩
  show ac_X g i_L_law_ 100 601024 7293034 Q (ce + 0) (sl + 0) 2580 [some (.ref 1000000), some (.ref 0), some (.ref 69), some (.ref 585), some (.int i), none, none, none] [.int b, .int r] (false, 586, SH, s2, τ)
  refine ax_icmp_eq (pc' := 2583) (tgt := 2585) dL_law__2580 (by decide) rfl (fun _ => ?_) (fun z => absurd hb z)
  exact ax_widen (ce' := ce + 8) (sl' := sl + 48) (by omega) (by omega) (hN _ _ hI2)
