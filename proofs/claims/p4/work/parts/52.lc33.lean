set_option maxHeartbeats 4000000 in
set_option maxRecDepth 100000 in
theorem lc_32 {p : Program} {l : Launch} {e : Env} {s : State} {m : MethodId} {below : List Frame} {meth : Method} {c : Code} {Q : State → Prop} {D : va_G} {tk : Nat → ClassId} {sa ad : Nat → Nat} {b L uo mo M0 : Nat} {xs : Nat → Int32} {w0 : Cond} (hlst : l.stackTraces = false) (E : CallFix p m c cL_law 7 s #[.ref b] (w0 :: GW) "BestratiosLaw") (hr : meth.sig.returnType = some .boolean) (hC : Ctx D tk s.heap.size sa s) (hN : NCx s) (hX : va_X b L xs s s.heap) (hbl : b < s.heap.size) (hAD : ADok s.heap.size ad) (huo : s.heap.size ≤ uo) (hM0 : s.heap.size ≤ M0) (had : ∀ k, k < 22 → ad k < M0) (hL : L ≤ 320) {i : Nat} (hi : i + 5 ≤ L) {cells slots : Nat} {H : Heap} {locs : List Loc} {ls : Array Slot} (hc9 : cells + 7000 ≤ 844753) (hs9 : slots + 101000 ≤ 6567222) (hz0 : M0 ≤ H.size) (hS : va_S (NA s.heap.size) s.heap H locs) (hB : LR D tk sa ad uo mo (PL M0 uo) H) (hl : lv_has ls 7 [(0, .ref b), (1, .ref (ad 15)), (2, .ref mo), (3, .ref uo), (4, .int (nI i))])
    (K : ∀ (H1 : Heap) (locs1 : List Loc) (ls1 : Array Slot), M0 ≤ H1.size → va_S (NA s.heap.size) s.heap H1 locs1 → LR D tk sa ad uo mo (PL M0 uo) H1 → lv_has ls1 7 [(0, .ref b), (1, .ref (ad 15)), (2, .ref mo), (3, .ref uo), (4, .int (nI i))] → W p l e room_1 s m #[.ref b] below meth c H1 locs1 (cells + 7000) (slots + 101000) Q (F0 m 1813 ls1 [])) : W p l e room_1 s m #[.ref b] below meth c H locs cells slots Q (F0 m 1526 ls []) := by
  obtain ⟨hx, hb, -⟩ := id E
  have hbA : ¬ NA s.heap.size b := Nat.not_le.mpr hbl
  have hA : ∀ q, NA s.heap.size q → s.heap.size ≤ q := fun q h => h
  have hn : ∀ q, s.heap.size ≤ q → NA s.heap.size q := fun q h => h
  have hPN : ∀ q, PL M0 uo q → s.heap.size ≤ q := fun q h => Nat.le_trans hM0 h.1
  obtain ⟨g, kn, tt, bb, eT, eB, oT, oB, pk, ca, rf, vs, n9, th, ox, ov, hV, hW, fu, hM⟩ := hB
  refine lv_aload_n (pc := 1526) hx hb dL_law_1526 rfl (lv_at hl 1 rfl) ?_
  refine lv_aload_n (pc := 1527) hx hb dL_law_1527 rfl (lv_at hl 0 rfl) ?_
  refine lv_iload (pc := 1528) hx hb dL_law_1528 (lv_at hl 4 rfl) ?_
  refine lv_iconst (pc := 1530) (v := 1) hx hb dL_law_1530 (by decide) ?_
  refine lv_iadd (pc := 1531) hx hb dL_law_1531 ?_
  refine va_sld (pc := 1532) hx hb hX hbl hbA hS (lw_in (j := 1) (by omega) hL rfl) dL_law_1532 ?_
  refine lv_aload_n (pc := 1533) hx hb dL_law_1533 rfl (lv_at hl 0 rfl) ?_
  refine lv_iload (pc := 1534) hx hb dL_law_1534 (lv_at hl 4 rfl) ?_
  refine lv_iconst (pc := 1536) (v := 2) hx hb dL_law_1536 (by decide) ?_
  refine lv_iadd (pc := 1537) hx hb dL_law_1537 ?_
  refine va_sld (pc := 1538) hx hb hX hbl hbA hS (lw_in (j := 2) (by omega) hL rfl) dL_law_1538 ?_
  refine lv_aload_n (pc := 1539) hx hb dL_law_1539 rfl (lv_at hl 0 rfl) ?_
  refine lv_iload (pc := 1540) hx hb dL_law_1540 (lv_at hl 4 rfl) ?_
  refine lv_iconst (pc := 1542) (v := 3) hx hb dL_law_1542 (by decide) ?_
  refine lv_iadd (pc := 1543) hx hb dL_law_1543 ?_
  refine va_sld (pc := 1544) hx hb hX hbl hbA hS (lw_in (j := 3) (by omega) hL rfl) dL_law_1544 ?_
  refine lv_aload_n (pc := 1545) hx hb dL_law_1545 rfl (lv_at hl 3 rfl) ?_
  have hz1 := hS.1
  have hne := cwC hC hW (Or.inl fu.cl)
  refine k_i (pc := 1546) (k_SW E hC hN hS hA hl.1 (c_L_cut l hlst D tk s.heap.size sa hAD huo H.size g kn hV.ci ((xs (nI i + 1).toNatClampNeg)) ((xs (nI i + 2).toNatClampNeg)) ((xs (nI i + 3).toNatClampNeg))) kw_1117 kw_1118 kw_0 wh_cut (n := 5) (by decide +kernel) rfl ⟨⟨rfl, rfl⟩, ⟨Nat.le_of_ble_eq_true rfl, Nat.le_of_ble_eq_true rfl⟩, (by dsimp only [room_1]; omega), (by dsimp only [room_1]; omega)⟩ rfl (Nat.le_of_ble_eq_true rfl) ⟨hW, _, _, fu⟩ dL_law_1546) hS (fun q _ w => lwA.ge hAD huo hS.1 q w) hn (fun rk H locs hR hz hk hS => ?_)
  have hM := hM.wrap hC hW fu had hk
  obtain ⟨g1, ox, ov, hW, fu, hw9⟩ := hR
  have hz0 := Nat.le_trans hz0 hz
  refine lv_istore (pc := 1549) (lv' := [(5, .int rk), (0, .ref b), (1, .ref (ad 15)), (2, .ref mo), (3, .ref uo), (4, .int (nI i))]) hx hb dL_law_1549 hl (by decide) rfl (fun ls hl => ?_)
  refine lv_aload_n (pc := 1551) hx hb dL_law_1551 rfl (lv_at hl 3 rfl) ?_
  refine lv_aload_n (pc := 1552) hx hb dL_law_1552 rfl (lv_at hl 1 rfl) ?_
  refine lv_iload (pc := 1553) hx hb dL_law_1553 (lv_at hl 5 rfl) ?_
  refine lv_iconst (pc := 1555) (v := 1) hx hb dL_law_1555 (by decide) ?_
  refine lv_iadd (pc := 1556) hx hb dL_law_1556 ?_
  refine va_sld (pc := 1557) hx hb hX hbl hbA hS (lw_in (j := 1) (by omega) hL rfl) dL_law_1557 ?_
  refine lv_aload_n (pc := 1558) hx hb dL_law_1558 rfl (lv_at hl 1 rfl) ?_
  refine lv_iload (pc := 1559) hx hb dL_law_1559 (lv_at hl 5 rfl) ?_
  refine lv_iconst (pc := 1561) (v := 2) hx hb dL_law_1561 (by decide) ?_
  refine lv_iadd (pc := 1562) hx hb dL_law_1562 ?_
  refine va_sld (pc := 1563) hx hb hX hbl hbA hS (lw_in (j := 2) (by omega) hL rfl) dL_law_1563 ?_
  refine lv_aload_n (pc := 1564) hx hb dL_law_1564 rfl (lv_at hl 1 rfl) ?_
  refine lv_iload (pc := 1565) hx hb dL_law_1565 (lv_at hl 5 rfl) ?_
  refine lv_iconst (pc := 1567) (v := 3) hx hb dL_law_1567 (by decide) ?_
  refine lv_iadd (pc := 1568) hx hb dL_law_1568 ?_
  refine va_sld (pc := 1569) hx hb hX hbl hbA hS (lw_in (j := 3) (by omega) hL rfl) dL_law_1569 ?_
  have hz1 := hS.1
  have t_fu := fu.lt
  have hpl0 := hM.tl
  obtain ⟨fsm, fom⟩ := hM.obj
  have hPs : ∀ q, H.size ≤ q → PL M0 uo q := fun q h => ⟨Nat.le_trans hz0 h, by have := fu.lt; omega⟩
  refine k_r (pc := 1570) (k_V E hC hS hA hl.1 (c1.recv hC fom rfl) rfl (c_X5_cut l D tk s.heap.size sa H.size (PL M0 uo) hPN hPs mo n9 kn th tt bb eT eB oT oB pk ca rf vs ((xs (nI i + 1).toNatClampNeg)) ((xs (nI i + 2).toNatClampNeg)) ((xs (nI i + 3).toNatClampNeg))) kw_1696 kw_1697 kw_1698 kw_5 kw_1699 (n := 3) (by decide +kernel) rfl ⟨⟨rfl, rfl⟩, ⟨Nat.le_of_ble_eq_true rfl, Nat.le_of_ble_eq_true rfl⟩, (by dsimp only [room_1]; omega), (by dsimp only [room_1]; omega)⟩ rfl (Nat.le_of_ble_eq_true rfl) hM dL_law_1570) hS (fun q _ w => hPN q w) hn (fun rm_ H locs hR hz hk hS => ?_)
  have hW := hW.kept (fun k hk9 => hk _ (hW k hk9).lt (fun z9 => Nat.not_le.mpr (had k hk9) z9.1))
  have fu := fu.kept (hk _ fu.lt (fun z9 => z9.2 rfl))
  obtain ⟨th1, hM⟩ := hR
  have hV := l_txt hV (fun _ => lz_rf g) hw9
  have hz0 := Nat.le_trans hz0 hz
  refine lv_astore (pc := 1573) (lv' := [(6, .ref rm_), (5, .int rk), (0, .ref b), (1, .ref (ad 15)), (2, .ref mo), (3, .ref uo), (4, .int (nI i))]) hx hb dL_law_1573 hl (by decide) rfl (fun ls hl => ?_)
  refine lv_goto (pc := 1575) (tgt := 1813) hx hb dL_law_1575 (by decide) ?_
  refine W.widen (k := cells + 7000) (n := slots + 101000) (by omega) (by omega) ?_
  exact K _ _ _ hz0 hS ⟨_, _, _, _, _, _, _, _, _, _, _, _, _, _, _, _, hV, hW, fu, hM⟩ (lv_sub hl [2, 3, 4, 5, 6] rfl)
set_option maxHeartbeats 4000000 in
set_option maxRecDepth 100000 in
theorem lc_33 {p : Program} {l : Launch} {e : Env} {s : State} {m : MethodId} {below : List Frame} {meth : Method} {c : Code} {Q : State → Prop} {D : va_G} {tk : Nat → ClassId} {sa ad : Nat → Nat} {b L uo mo M0 : Nat} {xs : Nat → Int32} {w0 : Cond} (hlst : l.stackTraces = false) (E : CallFix p m c cL_law 7 s #[.ref b] (w0 :: GW) "BestratiosLaw") (hr : meth.sig.returnType = some .boolean) (hC : Ctx D tk s.heap.size sa s) (hN : NCx s) (hX : va_X b L xs s s.heap) (hbl : b < s.heap.size) (hAD : ADok s.heap.size ad) (huo : s.heap.size ≤ uo) (hM0 : s.heap.size ≤ M0) (had : ∀ k, k < 22 → ad k < M0) (hL : L ≤ 320) {i : Nat} (hi : i + 5 ≤ L) {cells slots : Nat} {H : Heap} {locs : List Loc} {ls : Array Slot} (hc9 : cells + 7000 ≤ 844753) (hs9 : slots + 101000 ≤ 6567222) (hz0 : M0 ≤ H.size) (hS : va_S (NA s.heap.size) s.heap H locs) (hB : LR D tk sa ad uo mo (PL M0 uo) H) (hl : lv_has ls 7 [(0, .ref b), (1, .ref (ad 15)), (2, .ref mo), (3, .ref uo), (4, .int (nI i))])
    (K : ∀ (H1 : Heap) (locs1 : List Loc) (ls1 : Array Slot), M0 ≤ H1.size → va_S (NA s.heap.size) s.heap H1 locs1 → LR D tk sa ad uo mo (PL M0 uo) H1 → lv_has ls1 7 [(0, .ref b), (1, .ref (ad 15)), (2, .ref mo), (3, .ref uo), (4, .int (nI i))] → W p l e room_1 s m #[.ref b] below meth c H1 locs1 (cells + 7000) (slots + 101000) Q (F0 m 1813 ls1 [])) : W p l e room_1 s m #[.ref b] below meth c H locs cells slots Q (F0 m 1578 ls []) := by
  obtain ⟨hx, hb, -⟩ := id E
  have hbA : ¬ NA s.heap.size b := Nat.not_le.mpr hbl
  have hA : ∀ q, NA s.heap.size q → s.heap.size ≤ q := fun q h => h
  have hn : ∀ q, s.heap.size ≤ q → NA s.heap.size q := fun q h => h
  have hPN : ∀ q, PL M0 uo q → s.heap.size ≤ q := fun q h => Nat.le_trans hM0 h.1
  obtain ⟨g, kn, tt, bb, eT, eB, oT, oB, pk, ca, rf, vs, n9, th, ox, ov, hV, hW, fu, hM⟩ := hB
  refine lv_aload_n (pc := 1578) hx hb dL_law_1578 rfl (lv_at hl 1 rfl) ?_
  refine lv_aload_n (pc := 1579) hx hb dL_law_1579 rfl (lv_at hl 0 rfl) ?_
  refine lv_iload (pc := 1580) hx hb dL_law_1580 (lv_at hl 4 rfl) ?_
  refine lv_iconst (pc := 1582) (v := 1) hx hb dL_law_1582 (by decide) ?_
  refine lv_iadd (pc := 1583) hx hb dL_law_1583 ?_
  refine va_sld (pc := 1584) hx hb hX hbl hbA hS (lw_in (j := 1) (by omega) hL rfl) dL_law_1584 ?_
  refine lv_aload_n (pc := 1585) hx hb dL_law_1585 rfl (lv_at hl 0 rfl) ?_
  refine lv_iload (pc := 1586) hx hb dL_law_1586 (lv_at hl 4 rfl) ?_
  refine lv_iconst (pc := 1588) (v := 2) hx hb dL_law_1588 (by decide) ?_
  refine lv_iadd (pc := 1589) hx hb dL_law_1589 ?_
  refine va_sld (pc := 1590) hx hb hX hbl hbA hS (lw_in (j := 2) (by omega) hL rfl) dL_law_1590 ?_
  refine lv_aload_n (pc := 1591) hx hb dL_law_1591 rfl (lv_at hl 0 rfl) ?_
  refine lv_iload (pc := 1592) hx hb dL_law_1592 (lv_at hl 4 rfl) ?_
  refine lv_iconst (pc := 1594) (v := 3) hx hb dL_law_1594 (by decide) ?_
  refine lv_iadd (pc := 1595) hx hb dL_law_1595 ?_
  refine va_sld (pc := 1596) hx hb hX hbl hbA hS (lw_in (j := 3) (by omega) hL rfl) dL_law_1596 ?_
  refine lv_aload_n (pc := 1597) hx hb dL_law_1597 rfl (lv_at hl 0 rfl) ?_
  refine lv_iload (pc := 1598) hx hb dL_law_1598 (lv_at hl 4 rfl) ?_
  refine lv_iconst (pc := 1600) (v := 4) hx hb dL_law_1600 (by decide) ?_
  refine lv_iadd (pc := 1601) hx hb dL_law_1601 ?_
  refine va_sld (pc := 1602) hx hb hX hbl hbA hS (lw_in (j := 4) (by omega) hL rfl) dL_law_1602 ?_
  refine lv_aload_n (pc := 1603) hx hb dL_law_1603 rfl (lv_at hl 3 rfl) ?_
  have hz1 := hS.1
  have hne := cwC hC hW (Or.inl fu.cl)
  refine k_i (pc := 1604) (k_SW E hC hN hS hA hl.1 (c_L_simplest l hlst D tk s.heap.size sa hAD huo H.size g kn hV.ci ((xs (nI i + 1).toNatClampNeg)) ((xs (nI i + 2).toNatClampNeg)) ((xs (nI i + 3).toNatClampNeg)) ((xs (nI i + 4).toNatClampNeg))) kw_1124 kw_1125 kw_0 wh_simplest (n := 6) (by decide +kernel) rfl ⟨⟨rfl, rfl⟩, ⟨Nat.le_of_ble_eq_true rfl, Nat.le_of_ble_eq_true rfl⟩, (by dsimp only [room_1]; omega), (by dsimp only [room_1]; omega)⟩ rfl (Nat.le_of_ble_eq_true rfl) ⟨hW, _, _, fu⟩ dL_law_1604) hS (fun q _ w => lwA.ge hAD huo hS.1 q w) hn (fun rk H locs hR hz hk hS => ?_)
  have hM := hM.wrap hC hW fu had hk
  obtain ⟨g1, ox, ov, hW, fu, hw9⟩ := hR
  have hz0 := Nat.le_trans hz0 hz
  refine lv_istore (pc := 1607) (lv' := [(5, .int rk), (0, .ref b), (1, .ref (ad 15)), (2, .ref mo), (3, .ref uo), (4, .int (nI i))]) hx hb dL_law_1607 hl (by decide) rfl (fun ls hl => ?_)
  refine lv_aload_n (pc := 1609) hx hb dL_law_1609 rfl (lv_at hl 3 rfl) ?_
  refine lv_aload_n (pc := 1610) hx hb dL_law_1610 rfl (lv_at hl 1 rfl) ?_
  refine lv_iload (pc := 1611) hx hb dL_law_1611 (lv_at hl 5 rfl) ?_
  refine lv_iconst (pc := 1613) (v := 1) hx hb dL_law_1613 (by decide) ?_
  refine lv_iadd (pc := 1614) hx hb dL_law_1614 ?_
  refine va_sld (pc := 1615) hx hb hX hbl hbA hS (lw_in (j := 1) (by omega) hL rfl) dL_law_1615 ?_
  refine lv_aload_n (pc := 1616) hx hb dL_law_1616 rfl (lv_at hl 1 rfl) ?_
  refine lv_iload (pc := 1617) hx hb dL_law_1617 (lv_at hl 5 rfl) ?_
  refine lv_iconst (pc := 1619) (v := 2) hx hb dL_law_1619 (by decide) ?_
  refine lv_iadd (pc := 1620) hx hb dL_law_1620 ?_
  refine va_sld (pc := 1621) hx hb hX hbl hbA hS (lw_in (j := 2) (by omega) hL rfl) dL_law_1621 ?_
  refine lv_aload_n (pc := 1622) hx hb dL_law_1622 rfl (lv_at hl 1 rfl) ?_
  refine lv_iload (pc := 1623) hx hb dL_law_1623 (lv_at hl 5 rfl) ?_
  refine lv_iconst (pc := 1625) (v := 3) hx hb dL_law_1625 (by decide) ?_
  refine lv_iadd (pc := 1626) hx hb dL_law_1626 ?_
  refine va_sld (pc := 1627) hx hb hX hbl hbA hS (lw_in (j := 3) (by omega) hL rfl) dL_law_1627 ?_
  refine lv_aload_n (pc := 1628) hx hb dL_law_1628 rfl (lv_at hl 1 rfl) ?_
  refine lv_iload (pc := 1629) hx hb dL_law_1629 (lv_at hl 5 rfl) ?_
  refine lv_iconst (pc := 1631) (v := 4) hx hb dL_law_1631 (by decide) ?_
  refine lv_iadd (pc := 1632) hx hb dL_law_1632 ?_
  refine va_sld (pc := 1633) hx hb hX hbl hbA hS (lw_in (j := 4) (by omega) hL rfl) dL_law_1633 ?_
  have hz1 := hS.1
  have t_fu := fu.lt
  have hpl0 := hM.tl
  obtain ⟨fsm, fom⟩ := hM.obj
  have hPs : ∀ q, H.size ≤ q → PL M0 uo q := fun q h => ⟨Nat.le_trans hz0 h, by have := fu.lt; omega⟩
  refine k_i (pc := 1634) (k_V E hC hS hA hl.1 (c1.recv hC fom rfl) rfl (c_X5_simplest l D tk s.heap.size sa H.size (PL M0 uo) hPN hPs mo n9 kn th tt bb eT eB oT oB pk ca rf vs ((xs (nI i + 1).toNatClampNeg)) ((xs (nI i + 2).toNatClampNeg)) ((xs (nI i + 3).toNatClampNeg)) ((xs (nI i + 4).toNatClampNeg))) kw_1747 kw_1748 kw_1749 kw_5 kw_1750 (n := 4) (by decide +kernel) rfl ⟨⟨rfl, rfl⟩, ⟨Nat.le_of_ble_eq_true rfl, Nat.le_of_ble_eq_true rfl⟩, (by dsimp only [room_1]; omega), (by dsimp only [room_1]; omega)⟩ rfl (Nat.le_of_ble_eq_true rfl) hM dL_law_1634) hS (fun q _ w => hPN q w) hn (fun rm_ H locs hR hz hk hS => ?_)
  have hW := hW.kept (fun k hk9 => hk _ (hW k hk9).lt (fun z9 => Nat.not_le.mpr (had k hk9) z9.1))
  have fu := fu.kept (hk _ fu.lt (fun z9 => z9.2 rfl))
  obtain ⟨th1, tt1, bb1, rf1, o_, hM, hm9, ho9⟩ := hR
  obtain ⟨e_th, e_n, hV⟩ := l_simplest hV hw9 hm9 ho9
  have hz0 := Nat.le_trans hz0 hz
  refine lv_istore (pc := 1637) (lv' := [(6, .int rm_), (5, .int rk), (0, .ref b), (1, .ref (ad 15)), (2, .ref mo), (3, .ref uo), (4, .int (nI i))]) hx hb dL_law_1637 hl (by decide) rfl (fun ls hl => ?_)
  refine lv_goto (pc := 1639) (tgt := 1813) hx hb dL_law_1639 (by decide) ?_
  refine W.widen (k := cells + 7000) (n := slots + 101000) (by omega) (by omega) ?_
  exact K _ _ _ hz0 hS ⟨_, _, _, _, _, _, _, _, _, _, _, _, _, _, _, _, hV, hW, fu, hM⟩ (lv_sub hl [2, 3, 4, 5, 6] rfl)
set_option maxHeartbeats 4000000 in
set_option maxRecDepth 100000 in
theorem lc_34 {p : Program} {l : Launch} {e : Env} {s : State} {m : MethodId} {below : List Frame} {meth : Method} {c : Code} {Q : State → Prop} {D : va_G} {tk : Nat → ClassId} {sa ad : Nat → Nat} {b L uo mo M0 : Nat} {xs : Nat → Int32} {w0 : Cond} (hlst : l.stackTraces = false) (E : CallFix p m c cL_law 7 s #[.ref b] (w0 :: GW) "BestratiosLaw") (hr : meth.sig.returnType = some .boolean) (hC : Ctx D tk s.heap.size sa s) (hN : NCx s) (hX : va_X b L xs s s.heap) (hbl : b < s.heap.size) (hAD : ADok s.heap.size ad) (huo : s.heap.size ≤ uo) (hM0 : s.heap.size ≤ M0) (had : ∀ k, k < 22 → ad k < M0) (hL : L ≤ 320) {i : Nat} (hi : i + 5 ≤ L) {cells slots : Nat} {H : Heap} {locs : List Loc} {ls : Array Slot} (hc9 : cells + 7000 ≤ 844753) (hs9 : slots + 101000 ≤ 6567222) (hz0 : M0 ≤ H.size) (hS : va_S (NA s.heap.size) s.heap H locs) (hB : LR D tk sa ad uo mo (PL M0 uo) H) (hl : lv_has ls 7 [(0, .ref b), (1, .ref (ad 15)), (2, .ref mo), (3, .ref uo), (4, .int (nI i))])
    (K : ∀ (H1 : Heap) (locs1 : List Loc) (ls1 : Array Slot), M0 ≤ H1.size → va_S (NA s.heap.size) s.heap H1 locs1 → LR D tk sa ad uo mo (PL M0 uo) H1 → lv_has ls1 7 [(0, .ref b), (1, .ref (ad 15)), (2, .ref mo), (3, .ref uo), (4, .int (nI i))] → W p l e room_1 s m #[.ref b] below meth c H1 locs1 (cells + 7000) (slots + 101000) Q (F0 m 1813 ls1 [])) : W p l e room_1 s m #[.ref b] below meth c H locs cells slots Q (F0 m 1642 ls []) := by
  obtain ⟨hx, hb, -⟩ := id E
  have hbA : ¬ NA s.heap.size b := Nat.not_le.mpr hbl
  have hA : ∀ q, NA s.heap.size q → s.heap.size ≤ q := fun q h => h
  have hn : ∀ q, s.heap.size ≤ q → NA s.heap.size q := fun q h => h
  have hPN : ∀ q, PL M0 uo q → s.heap.size ≤ q := fun q h => Nat.le_trans hM0 h.1
  obtain ⟨g, kn, tt, bb, eT, eB, oT, oB, pk, ca, rf, vs, n9, th, ox, ov, hV, hW, fu, hM⟩ := hB
  refine lv_aload_n (pc := 1642) hx hb dL_law_1642 rfl (lv_at hl 1 rfl) ?_
  refine lv_aload_n (pc := 1643) hx hb dL_law_1643 rfl (lv_at hl 0 rfl) ?_
  refine lv_iload (pc := 1644) hx hb dL_law_1644 (lv_at hl 4 rfl) ?_
  refine lv_iconst (pc := 1646) (v := 1) hx hb dL_law_1646 (by decide) ?_
  refine lv_iadd (pc := 1647) hx hb dL_law_1647 ?_
  refine va_sld (pc := 1648) hx hb hX hbl hbA hS (lw_in (j := 1) (by omega) hL rfl) dL_law_1648 ?_
  refine lv_aload_n (pc := 1649) hx hb dL_law_1649 rfl (lv_at hl 0 rfl) ?_
  refine lv_iload (pc := 1650) hx hb dL_law_1650 (lv_at hl 4 rfl) ?_
  refine lv_iconst (pc := 1652) (v := 2) hx hb dL_law_1652 (by decide) ?_
  refine lv_iadd (pc := 1653) hx hb dL_law_1653 ?_
  refine va_sld (pc := 1654) hx hb hX hbl hbA hS (lw_in (j := 2) (by omega) hL rfl) dL_law_1654 ?_
  refine lv_aload_n (pc := 1655) hx hb dL_law_1655 rfl (lv_at hl 0 rfl) ?_
  refine lv_iload (pc := 1656) hx hb dL_law_1656 (lv_at hl 4 rfl) ?_
  refine lv_iconst (pc := 1658) (v := 3) hx hb dL_law_1658 (by decide) ?_
  refine lv_iadd (pc := 1659) hx hb dL_law_1659 ?_
  refine va_sld (pc := 1660) hx hb hX hbl hbA hS (lw_in (j := 3) (by omega) hL rfl) dL_law_1660 ?_
  refine lv_aload_n (pc := 1661) hx hb dL_law_1661 rfl (lv_at hl 3 rfl) ?_
  have hz1 := hS.1
  have hne := cwC hC hW (Or.inl fu.cl)
  refine k_i (pc := 1662) (k_SW E hC hN hS hA hl.1 (c_L_tally l hlst D tk s.heap.size sa hAD huo H.size g kn hV.ci ((xs (nI i + 1).toNatClampNeg)) ((xs (nI i + 2).toNatClampNeg)) ((xs (nI i + 3).toNatClampNeg))) kw_1137 kw_1138 kw_0 wh_tally (n := 5) (by decide +kernel) rfl ⟨⟨rfl, rfl⟩, ⟨Nat.le_of_ble_eq_true rfl, Nat.le_of_ble_eq_true rfl⟩, (by dsimp only [room_1]; omega), (by dsimp only [room_1]; omega)⟩ rfl (Nat.le_of_ble_eq_true rfl) ⟨hW, _, _, fu⟩ dL_law_1662) hS (fun q _ w => lwA.ge hAD huo hS.1 q w) hn (fun rk H locs hR hz hk hS => ?_)
  have hM := hM.wrap hC hW fu had hk
  obtain ⟨g1, ox, ov, hW, fu, hw9⟩ := hR
  have hz0 := Nat.le_trans hz0 hz
  refine lv_istore (pc := 1665) (lv' := [(5, .int rk), (0, .ref b), (1, .ref (ad 15)), (2, .ref mo), (3, .ref uo), (4, .int (nI i))]) hx hb dL_law_1665 hl (by decide) rfl (fun ls hl => ?_)
  refine lv_aload_n (pc := 1667) hx hb dL_law_1667 rfl (lv_at hl 3 rfl) ?_
  refine lv_aload_n (pc := 1668) hx hb dL_law_1668 rfl (lv_at hl 1 rfl) ?_
  refine lv_iload (pc := 1669) hx hb dL_law_1669 (lv_at hl 5 rfl) ?_
  refine lv_iconst (pc := 1671) (v := 1) hx hb dL_law_1671 (by decide) ?_
  refine lv_iadd (pc := 1672) hx hb dL_law_1672 ?_
  refine va_sld (pc := 1673) hx hb hX hbl hbA hS (lw_in (j := 1) (by omega) hL rfl) dL_law_1673 ?_
  refine lv_aload_n (pc := 1674) hx hb dL_law_1674 rfl (lv_at hl 1 rfl) ?_
  refine lv_iload (pc := 1675) hx hb dL_law_1675 (lv_at hl 5 rfl) ?_
  refine lv_iconst (pc := 1677) (v := 2) hx hb dL_law_1677 (by decide) ?_
  refine lv_iadd (pc := 1678) hx hb dL_law_1678 ?_
  refine va_sld (pc := 1679) hx hb hX hbl hbA hS (lw_in (j := 2) (by omega) hL rfl) dL_law_1679 ?_
  refine lv_aload_n (pc := 1680) hx hb dL_law_1680 rfl (lv_at hl 1 rfl) ?_
  refine lv_iload (pc := 1681) hx hb dL_law_1681 (lv_at hl 5 rfl) ?_
  refine lv_iconst (pc := 1683) (v := 3) hx hb dL_law_1683 (by decide) ?_
  refine lv_iadd (pc := 1684) hx hb dL_law_1684 ?_
  refine va_sld (pc := 1685) hx hb hX hbl hbA hS (lw_in (j := 3) (by omega) hL rfl) dL_law_1685 ?_
  have hz1 := hS.1
  have t_fu := fu.lt
  have hpl0 := hM.tl
  obtain ⟨fsm, fom⟩ := hM.obj
  have hPs : ∀ q, H.size ≤ q → PL M0 uo q := fun q h => ⟨Nat.le_trans hz0 h, by have := fu.lt; omega⟩
  refine k_i (pc := 1686) (k_V E hC hS hA hl.1 (c1.recv hC fom rfl) rfl (c_X5_tally l D tk s.heap.size sa H.size (PL M0 uo) hPN hPs mo n9 kn th tt bb eT eB oT oB pk ca rf vs ((xs (nI i + 1).toNatClampNeg)) ((xs (nI i + 2).toNatClampNeg)) ((xs (nI i + 3).toNatClampNeg))) kw_1754 kw_1755 kw_1756 kw_5 kw_1757 (n := 3) (by decide +kernel) rfl ⟨⟨rfl, rfl⟩, ⟨Nat.le_of_ble_eq_true rfl, Nat.le_of_ble_eq_true rfl⟩, (by dsimp only [room_1]; omega), (by dsimp only [room_1]; omega)⟩ rfl (Nat.le_of_ble_eq_true rfl) hM dL_law_1686) hS (fun q _ w => hPN q w) hn (fun rm_ H locs hR hz hk hS => ?_)
  have hW := hW.kept (fun k hk9 => hk _ (hW k hk9).lt (fun z9 => Nat.not_le.mpr (had k hk9) z9.1))
  have fu := fu.kept (hk _ fu.lt (fun z9 => z9.2 rfl))
  obtain ⟨th1, eT1, eB1, oT1, oB1, pk1, ca1, rf1, hM, hm9⟩ := hR
  obtain ⟨e_th, e_n, hV⟩ := l_tally hV hpl0.1 hM.tl.2 hw9 hm9
  have hz0 := Nat.le_trans hz0 hz
  refine lv_istore (pc := 1689) (lv' := [(6, .int rm_), (5, .int rk), (0, .ref b), (1, .ref (ad 15)), (2, .ref mo), (3, .ref uo), (4, .int (nI i))]) hx hb dL_law_1689 hl (by decide) rfl (fun ls hl => ?_)
  refine lv_goto (pc := 1691) (tgt := 1813) hx hb dL_law_1691 (by decide) ?_
  refine W.widen (k := cells + 7000) (n := slots + 101000) (by omega) (by omega) ?_
  exact K _ _ _ hz0 hS ⟨_, _, _, _, _, _, _, _, _, _, _, _, _, _, _, _, hV, hW, fu, hM⟩ (lv_sub hl [2, 3, 4, 5, 6] rfl)
set_option maxHeartbeats 4000000 in
set_option maxRecDepth 100000 in
theorem lc_35 {p : Program} {l : Launch} {e : Env} {s : State} {m : MethodId} {below : List Frame} {meth : Method} {c : Code} {Q : State → Prop} {D : va_G} {tk : Nat → ClassId} {sa ad : Nat → Nat} {b L uo mo M0 : Nat} {xs : Nat → Int32} {w0 : Cond} (hlst : l.stackTraces = false) (E : CallFix p m c cL_law 7 s #[.ref b] (w0 :: GW) "BestratiosLaw") (hr : meth.sig.returnType = some .boolean) (hC : Ctx D tk s.heap.size sa s) (hN : NCx s) (hX : va_X b L xs s s.heap) (hbl : b < s.heap.size) (hAD : ADok s.heap.size ad) (huo : s.heap.size ≤ uo) (hM0 : s.heap.size ≤ M0) (had : ∀ k, k < 22 → ad k < M0) (hL : L ≤ 320) {i : Nat} (hi : i + 5 ≤ L) {cells slots : Nat} {H : Heap} {locs : List Loc} {ls : Array Slot} (hc9 : cells + 7000 ≤ 844753) (hs9 : slots + 101000 ≤ 6567222) (hz0 : M0 ≤ H.size) (hS : va_S (NA s.heap.size) s.heap H locs) (hB : LR D tk sa ad uo mo (PL M0 uo) H) (hl : lv_has ls 7 [(0, .ref b), (1, .ref (ad 15)), (2, .ref mo), (3, .ref uo), (4, .int (nI i))])
    (K : ∀ (H1 : Heap) (locs1 : List Loc) (ls1 : Array Slot), M0 ≤ H1.size → va_S (NA s.heap.size) s.heap H1 locs1 → LR D tk sa ad uo mo (PL M0 uo) H1 → lv_has ls1 7 [(0, .ref b), (1, .ref (ad 15)), (2, .ref mo), (3, .ref uo), (4, .int (nI i))] → W p l e room_1 s m #[.ref b] below meth c H1 locs1 (cells + 7000) (slots + 101000) Q (F0 m 1813 ls1 [])) : W p l e room_1 s m #[.ref b] below meth c H locs cells slots Q (F0 m 1694 ls []) := by
  obtain ⟨hx, hb, -⟩ := id E
  have hbA : ¬ NA s.heap.size b := Nat.not_le.mpr hbl
  have hA : ∀ q, NA s.heap.size q → s.heap.size ≤ q := fun q h => h
  have hn : ∀ q, s.heap.size ≤ q → NA s.heap.size q := fun q h => h
  have hPN : ∀ q, PL M0 uo q → s.heap.size ≤ q := fun q h => Nat.le_trans hM0 h.1
  obtain ⟨g, kn, tt, bb, eT, eB, oT, oB, pk, ca, rf, vs, n9, th, ox, ov, hV, hW, fu, hM⟩ := hB
  refine lv_aload_n (pc := 1694) hx hb dL_law_1694 rfl (lv_at hl 1 rfl) ?_
  have hI := hV.ci
  have hz1 := hS.1
  have hne := cwC hC hW (Or.inl fu.cl)
  refine k_i (pc := 1695) (k_V E hC hS hA hl.1 (c1.recv hC hW.obj rfl) rfl (c_X3_wipe l D tk s.heap.size sa hAD H.size g ) kw_486 kw_487 kw_488 kw_1 kw_489 (n := 0) (by decide +kernel) rfl ⟨⟨rfl, rfl⟩, ⟨Nat.le_of_ble_eq_true rfl, Nat.le_of_ble_eq_true rfl⟩, (by dsimp only [room_1]; omega), (by dsimp only [room_1]; omega)⟩ rfl (Nat.le_of_ble_eq_true rfl) hW dL_law_1695) hS (fun q _ w => cwA.ge hAD hS.1 q w) hn (fun rk H locs hR hz hk hS => ?_)
  have hM := hM.wrap hC hW fu had (fun q h1 h2 => hk q h1 (fun z9 => h2 (Or.inl z9)))
  have fu := fu.kept (hk _ fu.lt (cwN hne fu.lt))
  obtain ⟨e_k, hW⟩ := hR
  rw [hV.2.2.2.1.2.2.1] at e_k
  have hV := s_clr hV
  have hz0 := Nat.le_trans hz0 hz
  refine lv_pop (pc := 1698) hx hb dL_law_1698 rfl ?_
  refine lv_aload_n (pc := 1699) hx hb dL_law_1699 rfl (lv_at hl 2 rfl) ?_
  have hz1 := hS.1
  have t_fu := fu.lt
  have hpl0 := hM.tl
  obtain ⟨fsm, fom⟩ := hM.obj
  have hPs : ∀ q, H.size ≤ q → PL M0 uo q := fun q h => ⟨Nat.le_trans hz0 h, by have := fu.lt; omega⟩
  refine k_i (pc := 1700) (k_V E hC hS hA hl.1 (c1.recv hC fom rfl) rfl (c_X5_wipe l D tk s.heap.size sa H.size (PL M0 uo) hPN hPs mo n9 kn th tt bb eT eB oT oB pk ca rf vs ) kw_1759 kw_1760 kw_1761 kw_5 kw_1762 (n := 0) (by decide +kernel) rfl ⟨⟨rfl, rfl⟩, ⟨Nat.le_of_ble_eq_true rfl, Nat.le_of_ble_eq_true rfl⟩, (by dsimp only [room_1]; omega), (by dsimp only [room_1]; omega)⟩ rfl (Nat.le_of_ble_eq_true rfl) hM dL_law_1700) hS (fun q _ w => hPN q w) hn (fun rm_ H locs hR hz hk hS => ?_)
  have hW := hW.kept (fun k hk9 => hk _ (hW k hk9).lt (fun z9 => Nat.not_le.mpr (had k hk9) z9.1))
  have fu := fu.kept (hk _ fu.lt (fun z9 => z9.2 rfl))
  obtain ⟨e_m, hM⟩ := hR
  have hz0 := Nat.le_trans hz0 hz
  refine lv_pop (pc := 1703) hx hb dL_law_1703 rfl ?_
  refine lv_goto (pc := 1704) (tgt := 1813) hx hb dL_law_1704 (by decide) ?_
  refine W.widen (k := cells + 7000) (n := slots + 101000) (by omega) (by omega) ?_
  exact K _ _ _ hz0 hS ⟨_, _, _, _, _, _, _, _, _, _, _, _, _, _, _, _, hV, hW, fu, hM⟩ (lv_sub hl [0, 1, 2, 3, 4] rfl)
set_option maxHeartbeats 4000000 in
set_option maxRecDepth 100000 in
theorem lc_36 {p : Program} {l : Launch} {e : Env} {s : State} {m : MethodId} {below : List Frame} {meth : Method} {c : Code} {Q : State → Prop} {D : va_G} {tk : Nat → ClassId} {sa ad : Nat → Nat} {b L uo mo M0 : Nat} {xs : Nat → Int32} {w0 : Cond} (hlst : l.stackTraces = false) (E : CallFix p m c cL_law 7 s #[.ref b] (w0 :: GW) "BestratiosLaw") (hr : meth.sig.returnType = some .boolean) (hC : Ctx D tk s.heap.size sa s) (hN : NCx s) (hX : va_X b L xs s s.heap) (hbl : b < s.heap.size) (hAD : ADok s.heap.size ad) (huo : s.heap.size ≤ uo) (hM0 : s.heap.size ≤ M0) (had : ∀ k, k < 22 → ad k < M0) (hL : L ≤ 320) {i : Nat} (hi : i + 5 ≤ L) {cells slots : Nat} {H : Heap} {locs : List Loc} {ls : Array Slot} (hc9 : cells + 7000 ≤ 844753) (hs9 : slots + 101000 ≤ 6567222) (hz0 : M0 ≤ H.size) (hS : va_S (NA s.heap.size) s.heap H locs) (hB : LR D tk sa ad uo mo (PL M0 uo) H) (hl : lv_has ls 7 [(0, .ref b), (1, .ref (ad 15)), (2, .ref mo), (3, .ref uo), (4, .int (nI i))])
    (K : ∀ (H1 : Heap) (locs1 : List Loc) (ls1 : Array Slot), M0 ≤ H1.size → va_S (NA s.heap.size) s.heap H1 locs1 → LR D tk sa ad uo mo (PL M0 uo) H1 → lv_has ls1 7 [(0, .ref b), (1, .ref (ad 15)), (2, .ref mo), (3, .ref uo), (4, .int (nI i))] → W p l e room_1 s m #[.ref b] below meth c H1 locs1 (cells + 7000) (slots + 101000) Q (F0 m 1813 ls1 [])) : W p l e room_1 s m #[.ref b] below meth c H locs cells slots Q (F0 m 1707 ls []) := by
  obtain ⟨hx, hb, -⟩ := id E
  have hbA : ¬ NA s.heap.size b := Nat.not_le.mpr hbl
  have hA : ∀ q, NA s.heap.size q → s.heap.size ≤ q := fun q h => h
  have hn : ∀ q, s.heap.size ≤ q → NA s.heap.size q := fun q h => h
  have hPN : ∀ q, PL M0 uo q → s.heap.size ≤ q := fun q h => Nat.le_trans hM0 h.1
  obtain ⟨g, kn, tt, bb, eT, eB, oT, oB, pk, ca, rf, vs, n9, th, ox, ov, hV, hW, fu, hM⟩ := hB
  refine lv_aload_n (pc := 1707) hx hb dL_law_1707 rfl (lv_at hl 1 rfl) ?_
  have hI := hV.ci
  have hw := tx_wf_ok (tT g 9) (tB g 9) (q := (0, 16)) (Nat.zero_le _)
  unfold tx_ok at hw
  dsimp only at hw
  have hz1 := hS.1
  have hne := cwC hC hW (Or.inl fu.cl)
  refine k_r (pc := 1708) (k_V E hC hS hA hl.1 (c1.recv hC hW.obj rfl) rfl (c_X3_exact l D tk s.heap.size sa hAD H.size g ) kw_507 kw_508 kw_509 kw_1 kw_510 (n := 0) (by decide +kernel) rfl ⟨⟨rfl, rfl⟩, ⟨Nat.le_of_ble_eq_true rfl, Nat.le_of_ble_eq_true rfl⟩, (by dsimp only [room_1]; omega), (by dsimp only [room_1]; omega)⟩ rfl (Nat.le_of_ble_eq_true rfl) hW dL_law_1708) hS (fun q z w => absurd w (Nat.not_le.mpr z)) hn (fun rk H locs hR hz hk hS => ?_)
  have hM := hM.new hk
  have hW := hW.new hk
  have fu := fu.new hk
  have hz0 := Nat.le_trans hz0 hz
  refine lv_pop (pc := 1711) hx hb dL_law_1711 rfl ?_
  refine lv_aload_n (pc := 1712) hx hb dL_law_1712 rfl (lv_at hl 2 rfl) ?_
  have hz1 := hS.1
  have t_fu := fu.lt
  have hpl0 := hM.tl
  obtain ⟨fsm, fom⟩ := hM.obj
  have hPs : ∀ q, H.size ≤ q → PL M0 uo q := fun q h => ⟨Nat.le_trans hz0 h, by have := fu.lt; omega⟩
  refine k_r (pc := 1713) (k_V E hC hS hA hl.1 (c1.recv hC fom rfl) rfl (c_X5_exact l D tk s.heap.size sa H.size (PL M0 uo) hPN hPs mo n9 kn th tt bb eT eB oT oB pk ca rf vs ) kw_1763 kw_1764 kw_1765 kw_5 kw_1766 (n := 0) (by decide +kernel) rfl ⟨⟨rfl, rfl⟩, ⟨Nat.le_of_ble_eq_true rfl, Nat.le_of_ble_eq_true rfl⟩, (by dsimp only [room_1]; omega), (by dsimp only [room_1]; omega)⟩ rfl (Nat.le_of_ble_eq_true rfl) hM dL_law_1713) hS (fun q _ w => hPN q w) hn (fun rm_ H locs hR hz hk hS => ?_)
  have hW := hW.kept (fun k hk9 => hk _ (hW k hk9).lt (fun z9 => Nat.not_le.mpr (had k hk9) z9.1))
  have fu := fu.kept (hk _ fu.lt (fun z9 => z9.2 rfl))
  obtain ⟨th1, hM⟩ := hR
  have hz0 := Nat.le_trans hz0 hz
  refine lv_pop (pc := 1716) hx hb dL_law_1716 rfl ?_
  refine lv_goto (pc := 1717) (tgt := 1813) hx hb dL_law_1717 (by decide) ?_
  refine W.widen (k := cells + 7000) (n := slots + 101000) (by omega) (by omega) ?_
  exact K _ _ _ hz0 hS ⟨_, _, _, _, _, _, _, _, _, _, _, _, _, _, _, _, hV, hW, fu, hM⟩ (lv_sub hl [0, 1, 2, 3, 4] rfl)
set_option maxHeartbeats 4000000 in
set_option maxRecDepth 100000 in
theorem lc_37 {p : Program} {l : Launch} {e : Env} {s : State} {m : MethodId} {below : List Frame} {meth : Method} {c : Code} {Q : State → Prop} {D : va_G} {tk : Nat → ClassId} {sa ad : Nat → Nat} {b L uo mo M0 : Nat} {xs : Nat → Int32} {w0 : Cond} (hlst : l.stackTraces = false) (E : CallFix p m c cL_law 7 s #[.ref b] (w0 :: GW) "BestratiosLaw") (hr : meth.sig.returnType = some .boolean) (hC : Ctx D tk s.heap.size sa s) (hN : NCx s) (hX : va_X b L xs s s.heap) (hbl : b < s.heap.size) (hAD : ADok s.heap.size ad) (huo : s.heap.size ≤ uo) (hM0 : s.heap.size ≤ M0) (had : ∀ k, k < 22 → ad k < M0) (hL : L ≤ 320) {i : Nat} (hi : i + 5 ≤ L) {cells slots : Nat} {H : Heap} {locs : List Loc} {ls : Array Slot} (hc9 : cells + 7000 ≤ 844753) (hs9 : slots + 101000 ≤ 6567222) (hz0 : M0 ≤ H.size) (hS : va_S (NA s.heap.size) s.heap H locs) (hB : LR D tk sa ad uo mo (PL M0 uo) H) (hl : lv_has ls 7 [(0, .ref b), (1, .ref (ad 15)), (2, .ref mo), (3, .ref uo), (4, .int (nI i))])
    (K : ∀ (H1 : Heap) (locs1 : List Loc) (ls1 : Array Slot), M0 ≤ H1.size → va_S (NA s.heap.size) s.heap H1 locs1 → LR D tk sa ad uo mo (PL M0 uo) H1 → lv_has ls1 7 [(0, .ref b), (1, .ref (ad 15)), (2, .ref mo), (3, .ref uo), (4, .int (nI i))] → W p l e room_1 s m #[.ref b] below meth c H1 locs1 (cells + 7000) (slots + 101000) Q (F0 m 1813 ls1 [])) : W p l e room_1 s m #[.ref b] below meth c H locs cells slots Q (F0 m 1720 ls []) := by
  obtain ⟨hx, hb, -⟩ := id E
  have hbA : ¬ NA s.heap.size b := Nat.not_le.mpr hbl
  have hA : ∀ q, NA s.heap.size q → s.heap.size ≤ q := fun q h => h
  have hn : ∀ q, s.heap.size ≤ q → NA s.heap.size q := fun q h => h
  have hPN : ∀ q, PL M0 uo q → s.heap.size ≤ q := fun q h => Nat.le_trans hM0 h.1
  obtain ⟨g, kn, tt, bb, eT, eB, oT, oB, pk, ca, rf, vs, n9, th, ox, ov, hV, hW, fu, hM⟩ := hB
  refine lv_aload_n (pc := 1720) hx hb dL_law_1720 rfl (lv_at hl 1 rfl) ?_
  have hI := hV.ci
  obtain ⟨kp, hkp, hpl⟩ := id hI.2.2.2
  have hw := tx_wd_ok (f_cutNum (tT g 10) (tB g 10) (tI g 3) 0) kp (q := (0, 16)) (Nat.zero_le _)
  unfold tx_ok at hw
  dsimp only at hw
  have hz1 := hS.1
  have hne := cwC hC hW (Or.inl fu.cl)
  refine k_r (pc := 1721) (k_V E hC hS hA hl.1 (c1.recv hC hW.obj rfl) rfl (c_X3_rounded l D tk s.heap.size sa hAD H.size g kp hpl (by omega) (CI_tx hI (Or.inr rfl) _ _ kp)) kw_517 kw_518 kw_519 kw_1 kw_520 (n := 0) (by decide +kernel) rfl ⟨⟨rfl, rfl⟩, ⟨Nat.le_of_ble_eq_true rfl, Nat.le_of_ble_eq_true rfl⟩, (by dsimp only [room_1]; omega), (by dsimp only [room_1]; omega)⟩ rfl (Nat.le_of_ble_eq_true rfl) hW dL_law_1721) hS (fun q z w => absurd w (Nat.not_le.mpr z)) hn (fun rk H locs hR hz hk hS => ?_)
  have hM := hM.new hk
  have hW := hW.new hk
  have fu := fu.new hk
  have hz0 := Nat.le_trans hz0 hz
  refine lv_pop (pc := 1724) hx hb dL_law_1724 rfl ?_
  refine lv_aload_n (pc := 1725) hx hb dL_law_1725 rfl (lv_at hl 2 rfl) ?_
  have hz1 := hS.1
  have t_fu := fu.lt
  have hpl0 := hM.tl
  obtain ⟨fsm, fom⟩ := hM.obj
  have hPs : ∀ q, H.size ≤ q → PL M0 uo q := fun q h => ⟨Nat.le_trans hz0 h, by have := fu.lt; omega⟩
  refine k_r (pc := 1726) (k_V E hC hS hA hl.1 (c1.recv hC fom rfl) rfl (c_X5_rounded l D tk s.heap.size sa H.size (PL M0 uo) hPN hPs mo n9 kn th tt bb eT eB oT oB pk ca rf vs ) kw_1767 kw_1768 kw_1769 kw_5 kw_1770 (n := 0) (by decide +kernel) rfl ⟨⟨rfl, rfl⟩, ⟨Nat.le_of_ble_eq_true rfl, Nat.le_of_ble_eq_true rfl⟩, (by dsimp only [room_1]; omega), (by dsimp only [room_1]; omega)⟩ rfl (Nat.le_of_ble_eq_true rfl) hM dL_law_1726) hS (fun q _ w => hPN q w) hn (fun rm_ H locs hR hz hk hS => ?_)
  have hW := hW.kept (fun k hk9 => hk _ (hW k hk9).lt (fun z9 => Nat.not_le.mpr (had k hk9) z9.1))
  have fu := fu.kept (hk _ fu.lt (fun z9 => z9.2 rfl))
  obtain ⟨th1, hM⟩ := hR
  have hz0 := Nat.le_trans hz0 hz
  refine lv_pop (pc := 1729) hx hb dL_law_1729 rfl ?_
  refine lv_goto (pc := 1730) (tgt := 1813) hx hb dL_law_1730 (by decide) ?_
  refine W.widen (k := cells + 7000) (n := slots + 101000) (by omega) (by omega) ?_
  exact K _ _ _ hz0 hS ⟨_, _, _, _, _, _, _, _, _, _, _, _, _, _, _, _, hV, hW, fu, hM⟩ (lv_sub hl [0, 1, 2, 3, 4] rfl)
set_option maxHeartbeats 4000000 in
set_option maxRecDepth 100000 in
theorem lc_38 {p : Program} {l : Launch} {e : Env} {s : State} {m : MethodId} {below : List Frame} {meth : Method} {c : Code} {Q : State → Prop} {D : va_G} {tk : Nat → ClassId} {sa ad : Nat → Nat} {b L uo mo M0 : Nat} {xs : Nat → Int32} {w0 : Cond} (hlst : l.stackTraces = false) (E : CallFix p m c cL_law 7 s #[.ref b] (w0 :: GW) "BestratiosLaw") (hr : meth.sig.returnType = some .boolean) (hC : Ctx D tk s.heap.size sa s) (hN : NCx s) (hX : va_X b L xs s s.heap) (hbl : b < s.heap.size) (hAD : ADok s.heap.size ad) (huo : s.heap.size ≤ uo) (hM0 : s.heap.size ≤ M0) (had : ∀ k, k < 22 → ad k < M0) (hL : L ≤ 320) {i : Nat} (hi : i + 5 ≤ L) {cells slots : Nat} {H : Heap} {locs : List Loc} {ls : Array Slot} (hc9 : cells + 7000 ≤ 844753) (hs9 : slots + 101000 ≤ 6567222) (hz0 : M0 ≤ H.size) (hS : va_S (NA s.heap.size) s.heap H locs) (hB : LR D tk sa ad uo mo (PL M0 uo) H) (hl : lv_has ls 7 [(0, .ref b), (1, .ref (ad 15)), (2, .ref mo), (3, .ref uo), (4, .int (nI i))])
    (K : ∀ (H1 : Heap) (locs1 : List Loc) (ls1 : Array Slot), M0 ≤ H1.size → va_S (NA s.heap.size) s.heap H1 locs1 → LR D tk sa ad uo mo (PL M0 uo) H1 → lv_has ls1 7 [(0, .ref b), (1, .ref (ad 15)), (2, .ref mo), (3, .ref uo), (4, .int (nI i))] → W p l e room_1 s m #[.ref b] below meth c H1 locs1 (cells + 7000) (slots + 101000) Q (F0 m 1813 ls1 [])) : W p l e room_1 s m #[.ref b] below meth c H locs cells slots Q (F0 m 1733 ls []) := by
  obtain ⟨hx, hb, -⟩ := id E
  have hbA : ¬ NA s.heap.size b := Nat.not_le.mpr hbl
  have hA : ∀ q, NA s.heap.size q → s.heap.size ≤ q := fun q h => h
  have hn : ∀ q, s.heap.size ≤ q → NA s.heap.size q := fun q h => h
  have hPN : ∀ q, PL M0 uo q → s.heap.size ≤ q := fun q h => Nat.le_trans hM0 h.1
  obtain ⟨g, kn, tt, bb, eT, eB, oT, oB, pk, ca, rf, vs, n9, th, ox, ov, hV, hW, fu, hM⟩ := hB
  refine lv_aload_n (pc := 1733) hx hb dL_law_1733 rfl (lv_at hl 1 rfl) ?_
  have hI := hV.ci
  have hw := tx_wf_ok (tT g 11) (tB g 11) (q := (0, 16)) (Nat.zero_le _)
  unfold tx_ok at hw
  dsimp only at hw
  have hz1 := hS.1
  have hne := cwC hC hW (Or.inl fu.cl)
  refine k_r (pc := 1734) (k_V E hC hS hA hl.1 (c1.recv hC hW.obj rfl) rfl (c_X3_error l D tk s.heap.size sa hAD H.size g ) kw_547 kw_548 kw_549 kw_1 kw_550 (n := 0) (by decide +kernel) rfl ⟨⟨rfl, rfl⟩, ⟨Nat.le_of_ble_eq_true rfl, Nat.le_of_ble_eq_true rfl⟩, (by dsimp only [room_1]; omega), (by dsimp only [room_1]; omega)⟩ rfl (Nat.le_of_ble_eq_true rfl) hW dL_law_1734) hS (fun q z w => absurd w (Nat.not_le.mpr z)) hn (fun rk H locs hR hz hk hS => ?_)
  have hM := hM.new hk
  have hW := hW.new hk
  have fu := fu.new hk
  have hz0 := Nat.le_trans hz0 hz
  refine lv_pop (pc := 1737) hx hb dL_law_1737 rfl ?_
  refine lv_aload_n (pc := 1738) hx hb dL_law_1738 rfl (lv_at hl 2 rfl) ?_
  have hz1 := hS.1
  have t_fu := fu.lt
  have hpl0 := hM.tl
  obtain ⟨fsm, fom⟩ := hM.obj
  have hPs : ∀ q, H.size ≤ q → PL M0 uo q := fun q h => ⟨Nat.le_trans hz0 h, by have := fu.lt; omega⟩
  refine k_r (pc := 1739) (k_V E hC hS hA hl.1 (c1.recv hC fom rfl) rfl (c_X5_error l D tk s.heap.size sa H.size (PL M0 uo) hPN hPs mo n9 kn th tt bb eT eB oT oB pk ca rf vs ) kw_1775 kw_1776 kw_1777 kw_5 kw_1778 (n := 0) (by decide +kernel) rfl ⟨⟨rfl, rfl⟩, ⟨Nat.le_of_ble_eq_true rfl, Nat.le_of_ble_eq_true rfl⟩, (by dsimp only [room_1]; omega), (by dsimp only [room_1]; omega)⟩ rfl (Nat.le_of_ble_eq_true rfl) hM dL_law_1739) hS (fun q _ w => hPN q w) hn (fun rm_ H locs hR hz hk hS => ?_)
  have hW := hW.kept (fun k hk9 => hk _ (hW k hk9).lt (fun z9 => Nat.not_le.mpr (had k hk9) z9.1))
  have fu := fu.kept (hk _ fu.lt (fun z9 => z9.2 rfl))
  obtain ⟨th1, hM⟩ := hR
  have hz0 := Nat.le_trans hz0 hz
  refine lv_pop (pc := 1742) hx hb dL_law_1742 rfl ?_
  refine lv_goto (pc := 1743) (tgt := 1813) hx hb dL_law_1743 (by decide) ?_
  refine W.widen (k := cells + 7000) (n := slots + 101000) (by omega) (by omega) ?_
  exact K _ _ _ hz0 hS ⟨_, _, _, _, _, _, _, _, _, _, _, _, _, _, _, _, hV, hW, fu, hM⟩ (lv_sub hl [0, 1, 2, 3, 4] rfl)
set_option maxHeartbeats 4000000 in
set_option maxRecDepth 100000 in
theorem lc_39 {p : Program} {l : Launch} {e : Env} {s : State} {m : MethodId} {below : List Frame} {meth : Method} {c : Code} {Q : State → Prop} {D : va_G} {tk : Nat → ClassId} {sa ad : Nat → Nat} {b L uo mo M0 : Nat} {xs : Nat → Int32} {w0 : Cond} (hlst : l.stackTraces = false) (E : CallFix p m c cL_law 7 s #[.ref b] (w0 :: GW) "BestratiosLaw") (hr : meth.sig.returnType = some .boolean) (hC : Ctx D tk s.heap.size sa s) (hN : NCx s) (hX : va_X b L xs s s.heap) (hbl : b < s.heap.size) (hAD : ADok s.heap.size ad) (huo : s.heap.size ≤ uo) (hM0 : s.heap.size ≤ M0) (had : ∀ k, k < 22 → ad k < M0) (hL : L ≤ 320) {i : Nat} (hi : i + 5 ≤ L) {cells slots : Nat} {H : Heap} {locs : List Loc} {ls : Array Slot} (hc9 : cells + 7000 ≤ 844753) (hs9 : slots + 101000 ≤ 6567222) (hz0 : M0 ≤ H.size) (hS : va_S (NA s.heap.size) s.heap H locs) (hB : LR D tk sa ad uo mo (PL M0 uo) H) (hl : lv_has ls 7 [(0, .ref b), (1, .ref (ad 15)), (2, .ref mo), (3, .ref uo), (4, .int (nI i))])
    (K : ∀ (H1 : Heap) (locs1 : List Loc) (ls1 : Array Slot), M0 ≤ H1.size → va_S (NA s.heap.size) s.heap H1 locs1 → LR D tk sa ad uo mo (PL M0 uo) H1 → lv_has ls1 7 [(0, .ref b), (1, .ref (ad 15)), (2, .ref mo), (3, .ref uo), (4, .int (nI i))] → W p l e room_1 s m #[.ref b] below meth c H1 locs1 (cells + 7000) (slots + 101000) Q (F0 m 1813 ls1 [])) : W p l e room_1 s m #[.ref b] below meth c H locs cells slots Q (F0 m 1746 ls []) := by
  obtain ⟨hx, hb, -⟩ := id E
  have hbA : ¬ NA s.heap.size b := Nat.not_le.mpr hbl
  have hA : ∀ q, NA s.heap.size q → s.heap.size ≤ q := fun q h => h
  have hn : ∀ q, s.heap.size ≤ q → NA s.heap.size q := fun q h => h
  have hPN : ∀ q, PL M0 uo q → s.heap.size ≤ q := fun q h => Nat.le_trans hM0 h.1
  obtain ⟨g, kn, tt, bb, eT, eB, oT, oB, pk, ca, rf, vs, n9, th, ox, ov, hV, hW, fu, hM⟩ := hB
  refine lv_aload_n (pc := 1746) hx hb dL_law_1746 rfl (lv_at hl 1 rfl) ?_
  have hI := hV.ci
  have hz1 := hS.1
  have hne := cwC hC hW (Or.inl fu.cl)
  refine k_i (pc := 1747) (k_V E hC hS hA hl.1 (c1.recv hC hW.obj rfl) rfl (c_X3_knock l D tk s.heap.size sa hAD H.size g ) kw_551 kw_552 kw_553 kw_1 kw_554 (n := 0) (by decide +kernel) rfl ⟨⟨rfl, rfl⟩, ⟨Nat.le_of_ble_eq_true rfl, Nat.le_of_ble_eq_true rfl⟩, (by dsimp only [room_1]; omega), (by dsimp only [room_1]; omega)⟩ rfl (Nat.le_of_ble_eq_true rfl) hW dL_law_1747) hS (fun q _ w => cwA.ge hAD hS.1 q w) hn (fun rk H locs hR hz hk hS => ?_)
  have hM := hM.wrap hC hW fu had (fun q h1 h2 => hk q h1 (fun z9 => h2 (Or.inl z9)))
  have fu := fu.kept (hk _ fu.lt (cwN hne fu.lt))
  obtain ⟨e_k, hW⟩ := hR
  rw [hV.2.2.2.1.2.1] at e_k
  have hV := s_kno hV
  have hz0 := Nat.le_trans hz0 hz
  refine lv_pop (pc := 1750) hx hb dL_law_1750 rfl ?_
  refine lv_aload_n (pc := 1751) hx hb dL_law_1751 rfl (lv_at hl 2 rfl) ?_
  have hz1 := hS.1
  have t_fu := fu.lt
  have hpl0 := hM.tl
  obtain ⟨fsm, fom⟩ := hM.obj
  have hPs : ∀ q, H.size ≤ q → PL M0 uo q := fun q h => ⟨Nat.le_trans hz0 h, by have := fu.lt; omega⟩
  refine k_i (pc := 1752) (k_V E hC hS hA hl.1 (c1.recv hC fom rfl) rfl (c_X5_knock l D tk s.heap.size sa H.size (PL M0 uo) hPN hPs mo n9 kn th tt bb eT eB oT oB pk ca rf vs ) kw_1783 kw_1784 kw_1785 kw_5 kw_1786 (n := 0) (by decide +kernel) rfl ⟨⟨rfl, rfl⟩, ⟨Nat.le_of_ble_eq_true rfl, Nat.le_of_ble_eq_true rfl⟩, (by dsimp only [room_1]; omega), (by dsimp only [room_1]; omega)⟩ rfl (Nat.le_of_ble_eq_true rfl) hM dL_law_1752) hS (fun q _ w => hPN q w) hn (fun rm_ H locs hR hz hk hS => ?_)
  have hW := hW.kept (fun k hk9 => hk _ (hW k hk9).lt (fun z9 => Nat.not_le.mpr (had k hk9) z9.1))
  have fu := fu.kept (hk _ fu.lt (fun z9 => z9.2 rfl))
  obtain ⟨e_m, hM⟩ := hR
  have hz0 := Nat.le_trans hz0 hz
  refine lv_pop (pc := 1755) hx hb dL_law_1755 rfl ?_
  refine lv_goto (pc := 1756) (tgt := 1813) hx hb dL_law_1756 (by decide) ?_
  refine W.widen (k := cells + 7000) (n := slots + 101000) (by omega) (by omega) ?_
  exact K _ _ _ hz0 hS ⟨_, _, _, _, _, _, _, _, _, _, _, _, _, _, _, _, hV, hW, fu, hM⟩ (lv_sub hl [0, 1, 2, 3, 4] rfl)
set_option maxHeartbeats 4000000 in
set_option maxRecDepth 100000 in
theorem lc_40 {p : Program} {l : Launch} {e : Env} {s : State} {m : MethodId} {below : List Frame} {meth : Method} {c : Code} {Q : State → Prop} {D : va_G} {tk : Nat → ClassId} {sa ad : Nat → Nat} {b L uo mo M0 : Nat} {xs : Nat → Int32} {w0 : Cond} (hlst : l.stackTraces = false) (E : CallFix p m c cL_law 7 s #[.ref b] (w0 :: GW) "BestratiosLaw") (hr : meth.sig.returnType = some .boolean) (hC : Ctx D tk s.heap.size sa s) (hN : NCx s) (hX : va_X b L xs s s.heap) (hbl : b < s.heap.size) (hAD : ADok s.heap.size ad) (huo : s.heap.size ≤ uo) (hM0 : s.heap.size ≤ M0) (had : ∀ k, k < 22 → ad k < M0) (hL : L ≤ 320) {i : Nat} (hi : i + 5 ≤ L) {cells slots : Nat} {H : Heap} {locs : List Loc} {ls : Array Slot} (hc9 : cells + 7000 ≤ 844753) (hs9 : slots + 101000 ≤ 6567222) (hz0 : M0 ≤ H.size) (hS : va_S (NA s.heap.size) s.heap H locs) (hB : LR D tk sa ad uo mo (PL M0 uo) H) (hl : lv_has ls 7 [(0, .ref b), (1, .ref (ad 15)), (2, .ref mo), (3, .ref uo), (4, .int (nI i))])
    (K : ∀ (H1 : Heap) (locs1 : List Loc) (ls1 : Array Slot), M0 ≤ H1.size → va_S (NA s.heap.size) s.heap H1 locs1 → LR D tk sa ad uo mo (PL M0 uo) H1 → lv_has ls1 7 [(0, .ref b), (1, .ref (ad 15)), (2, .ref mo), (3, .ref uo), (4, .int (nI i))] → W p l e room_1 s m #[.ref b] below meth c H1 locs1 (cells + 7000) (slots + 101000) Q (F0 m 1813 ls1 [])) : W p l e room_1 s m #[.ref b] below meth c H locs cells slots Q (F0 m 1759 ls []) := by
  obtain ⟨hx, hb, -⟩ := id E
  have hbA : ¬ NA s.heap.size b := Nat.not_le.mpr hbl
  have hA : ∀ q, NA s.heap.size q → s.heap.size ≤ q := fun q h => h
  have hn : ∀ q, s.heap.size ≤ q → NA s.heap.size q := fun q h => h
  have hPN : ∀ q, PL M0 uo q → s.heap.size ≤ q := fun q h => Nat.le_trans hM0 h.1
  obtain ⟨g, kn, tt, bb, eT, eB, oT, oB, pk, ca, rf, vs, n9, th, ox, ov, hV, hW, fu, hM⟩ := hB
  refine lv_aload_n (pc := 1759) hx hb dL_law_1759 rfl (lv_at hl 1 rfl) ?_
  refine lv_aload_n (pc := 1760) hx hb dL_law_1760 rfl (lv_at hl 0 rfl) ?_
  refine lv_iload (pc := 1761) hx hb dL_law_1761 (lv_at hl 4 rfl) ?_
  refine lv_iconst (pc := 1763) (v := 1) hx hb dL_law_1763 (by decide) ?_
  refine lv_iadd (pc := 1764) hx hb dL_law_1764 ?_
  refine va_sld (pc := 1765) hx hb hX hbl hbA hS (lw_in (j := 1) (by omega) hL rfl) dL_law_1765 ?_
  refine lv_aload_n (pc := 1766) hx hb dL_law_1766 rfl (lv_at hl 3 rfl) ?_
  have hz1 := hS.1
  have hne := cwC hC hW (Or.inl fu.cl)
  refine k_i (pc := 1767) (k_SW E hC hN hS hA hl.1 (c_L_house l hlst D tk s.heap.size sa hAD huo H.size g kn hV.ci ((xs (nI i + 1).toNatClampNeg))) kw_1155 kw_1156 kw_0 wh_house (n := 3) (by decide +kernel) rfl ⟨⟨rfl, rfl⟩, ⟨Nat.le_of_ble_eq_true rfl, Nat.le_of_ble_eq_true rfl⟩, (by dsimp only [room_1]; omega), (by dsimp only [room_1]; omega)⟩ rfl (Nat.le_of_ble_eq_true rfl) ⟨hW, _, _, fu⟩ dL_law_1767) hS (fun q _ w => lwA.ge hAD huo hS.1 q w) hn (fun rk H locs hR hz hk hS => ?_)
  have hM := hM.wrap hC hW fu had hk
  obtain ⟨g1, ox, ov, hW, fu, hw9⟩ := hR
  have hz0 := Nat.le_trans hz0 hz
  refine lv_istore (pc := 1770) (lv' := [(5, .int rk), (0, .ref b), (1, .ref (ad 15)), (2, .ref mo), (3, .ref uo), (4, .int (nI i))]) hx hb dL_law_1770 hl (by decide) rfl (fun ls hl => ?_)
  refine lv_aload_n (pc := 1772) hx hb dL_law_1772 rfl (lv_at hl 3 rfl) ?_
  refine lv_aload_n (pc := 1773) hx hb dL_law_1773 rfl (lv_at hl 1 rfl) ?_
  refine lv_iload (pc := 1774) hx hb dL_law_1774 (lv_at hl 5 rfl) ?_
  refine lv_iconst (pc := 1776) (v := 1) hx hb dL_law_1776 (by decide) ?_
  refine lv_iadd (pc := 1777) hx hb dL_law_1777 ?_
  refine va_sld (pc := 1778) hx hb hX hbl hbA hS (lw_in (j := 1) (by omega) hL rfl) dL_law_1778 ?_
  have hz1 := hS.1
  have t_fu := fu.lt
  have hpl0 := hM.tl
  obtain ⟨fsm, fom⟩ := hM.obj
  have hPs : ∀ q, H.size ≤ q → PL M0 uo q := fun q h => ⟨Nat.le_trans hz0 h, by have := fu.lt; omega⟩
  refine k_i (pc := 1779) (k_V E hC hS hA hl.1 (c1.recv hC fom rfl) rfl (c_X5_house l D tk s.heap.size sa H.size (PL M0 uo) hPN hPs mo n9 kn th tt bb eT eB oT oB pk ca rf vs ((xs (nI i + 1).toNatClampNeg))) kw_1787 kw_1788 kw_1789 kw_5 kw_1790 (n := 1) (by decide +kernel) rfl ⟨⟨rfl, rfl⟩, ⟨Nat.le_of_ble_eq_true rfl, Nat.le_of_ble_eq_true rfl⟩, (by dsimp only [room_1]; omega), (by dsimp only [room_1]; omega)⟩ rfl (Nat.le_of_ble_eq_true rfl) hM dL_law_1779) hS (fun q _ w => hPN q w) hn (fun rm_ H locs hR hz hk hS => ?_)
  have hW := hW.kept (fun k hk9 => hk _ (hW k hk9).lt (fun z9 => Nat.not_le.mpr (had k hk9) z9.1))
  have fu := fu.kept (hk _ fu.lt (fun z9 => z9.2 rfl))
  obtain ⟨th1, hM, hm9⟩ := hR
  obtain ⟨e_th, e_n, hV⟩ := l_house hV hw9 hm9
  have hz0 := Nat.le_trans hz0 hz
  refine lv_istore (pc := 1782) (lv' := [(6, .int rm_), (5, .int rk), (0, .ref b), (1, .ref (ad 15)), (2, .ref mo), (3, .ref uo), (4, .int (nI i))]) hx hb dL_law_1782 hl (by decide) rfl (fun ls hl => ?_)
  refine lv_goto (pc := 1784) (tgt := 1813) hx hb dL_law_1784 (by decide) ?_
  refine W.widen (k := cells + 7000) (n := slots + 101000) (by omega) (by omega) ?_
  exact K _ _ _ hz0 hS ⟨_, _, _, _, _, _, _, _, _, _, _, _, _, _, _, _, hV, hW, fu, hM⟩ (lv_sub hl [2, 3, 4, 5, 6] rfl)
set_option maxHeartbeats 4000000 in
set_option maxRecDepth 100000 in
theorem lc_41 {p : Program} {l : Launch} {e : Env} {s : State} {m : MethodId} {below : List Frame} {meth : Method} {c : Code} {Q : State → Prop} {D : va_G} {tk : Nat → ClassId} {sa ad : Nat → Nat} {b L uo mo M0 : Nat} {xs : Nat → Int32} {w0 : Cond} (hlst : l.stackTraces = false) (E : CallFix p m c cL_law 7 s #[.ref b] (w0 :: GW) "BestratiosLaw") (hr : meth.sig.returnType = some .boolean) (hC : Ctx D tk s.heap.size sa s) (hN : NCx s) (hX : va_X b L xs s s.heap) (hbl : b < s.heap.size) (hAD : ADok s.heap.size ad) (huo : s.heap.size ≤ uo) (hM0 : s.heap.size ≤ M0) (had : ∀ k, k < 22 → ad k < M0) (hL : L ≤ 320) {i : Nat} (hi : i + 5 ≤ L) {cells slots : Nat} {H : Heap} {locs : List Loc} {ls : Array Slot} (hc9 : cells + 7000 ≤ 844753) (hs9 : slots + 101000 ≤ 6567222) (hz0 : M0 ≤ H.size) (hS : va_S (NA s.heap.size) s.heap H locs) (hB : LR D tk sa ad uo mo (PL M0 uo) H) (hl : lv_has ls 7 [(0, .ref b), (1, .ref (ad 15)), (2, .ref mo), (3, .ref uo), (4, .int (nI i))])
    (K : ∀ (H1 : Heap) (locs1 : List Loc) (ls1 : Array Slot), M0 ≤ H1.size → va_S (NA s.heap.size) s.heap H1 locs1 → LR D tk sa ad uo mo (PL M0 uo) H1 → lv_has ls1 7 [(0, .ref b), (1, .ref (ad 15)), (2, .ref mo), (3, .ref uo), (4, .int (nI i))] → W p l e room_1 s m #[.ref b] below meth c H1 locs1 (cells + 7000) (slots + 101000) Q (F0 m 1813 ls1 [])) : W p l e room_1 s m #[.ref b] below meth c H locs cells slots Q (F0 m 1787 ls []) := by
  obtain ⟨hx, hb, -⟩ := id E
  have hbA : ¬ NA s.heap.size b := Nat.not_le.mpr hbl
  have hA : ∀ q, NA s.heap.size q → s.heap.size ≤ q := fun q h => h
  have hn : ∀ q, s.heap.size ≤ q → NA s.heap.size q := fun q h => h
  have hPN : ∀ q, PL M0 uo q → s.heap.size ≤ q := fun q h => Nat.le_trans hM0 h.1
  obtain ⟨g, kn, tt, bb, eT, eB, oT, oB, pk, ca, rf, vs, n9, th, ox, ov, hV, hW, fu, hM⟩ := hB
  refine lv_aload_n (pc := 1787) hx hb dL_law_1787 rfl (lv_at hl 1 rfl) ?_
  have hI := hV.ci
  have hz1 := hS.1
  have hne := cwC hC hW (Or.inl fu.cl)
  refine k_i (pc := 1788) (k_V E hC hS hA hl.1 (c1.recv hC hW.obj rfl) rfl (c_X3_isSound l D tk s.heap.size sa hAD H.size g ) kw_555 kw_556 kw_557 kw_1 kw_558 (n := 0) (by decide +kernel) rfl ⟨⟨rfl, rfl⟩, ⟨Nat.le_of_ble_eq_true rfl, Nat.le_of_ble_eq_true rfl⟩, (by dsimp only [room_1]; omega), (by dsimp only [room_1]; omega)⟩ rfl (Nat.le_of_ble_eq_true rfl) hW dL_law_1788) hS (fun q _ w => cwA.ge hAD hS.1 q w) hn (fun rk H locs hR hz hk hS => ?_)
  have hM := hM.wrap hC hW fu had (fun q h1 h2 => hk q h1 (fun z9 => h2 (Or.inl z9)))
  have fu := fu.kept (hk _ fu.lt (cwN hne fu.lt))
  obtain ⟨e_k, hW⟩ := hR
  have hV := hV.lzv (lz_isS g)
  have hz0 := Nat.le_trans hz0 hz
  refine lv_pop (pc := 1791) hx hb dL_law_1791 rfl ?_
  refine lv_aload_n (pc := 1792) hx hb dL_law_1792 rfl (lv_at hl 2 rfl) ?_
  have hz1 := hS.1
  have t_fu := fu.lt
  have hpl0 := hM.tl
  obtain ⟨fsm, fom⟩ := hM.obj
  have hPs : ∀ q, H.size ≤ q → PL M0 uo q := fun q h => ⟨Nat.le_trans hz0 h, by have := fu.lt; omega⟩
  refine k_i (pc := 1793) (k_V E hC hS hA hl.1 (c1.recv hC fom rfl) rfl (c_X5_isSound l D tk s.heap.size sa H.size (PL M0 uo) hPN hPs mo n9 kn th tt bb eT eB oT oB pk ca rf vs ) kw_1796 kw_1797 kw_1798 kw_5 kw_1799 (n := 0) (by decide +kernel) rfl ⟨⟨rfl, rfl⟩, ⟨Nat.le_of_ble_eq_true rfl, Nat.le_of_ble_eq_true rfl⟩, (by dsimp only [room_1]; omega), (by dsimp only [room_1]; omega)⟩ rfl (Nat.le_of_ble_eq_true rfl) hM dL_law_1793) hS (fun q _ w => hPN q w) hn (fun rm_ H locs hR hz hk hS => ?_)
  have hW := hW.kept (fun k hk9 => hk _ (hW k hk9).lt (fun z9 => Nat.not_le.mpr (had k hk9) z9.1))
  have fu := fu.kept (hk _ fu.lt (fun z9 => z9.2 rfl))
  obtain ⟨e_m, hM⟩ := hR
  have hz0 := Nat.le_trans hz0 hz
  refine lv_pop (pc := 1796) hx hb dL_law_1796 rfl ?_
  refine lv_goto (pc := 1797) (tgt := 1813) hx hb dL_law_1797 (by decide) ?_
  refine W.widen (k := cells + 7000) (n := slots + 101000) (by omega) (by omega) ?_
  exact K _ _ _ hz0 hS ⟨_, _, _, _, _, _, _, _, _, _, _, _, _, _, _, _, hV, hW, fu, hM⟩ (lv_sub hl [0, 1, 2, 3, 4] rfl)
set_option maxHeartbeats 4000000 in
set_option maxRecDepth 100000 in
theorem lc_42 {p : Program} {l : Launch} {e : Env} {s : State} {m : MethodId} {below : List Frame} {meth : Method} {c : Code} {Q : State → Prop} {D : va_G} {tk : Nat → ClassId} {sa ad : Nat → Nat} {b L uo mo M0 : Nat} {xs : Nat → Int32} {w0 : Cond} (hlst : l.stackTraces = false) (E : CallFix p m c cL_law 7 s #[.ref b] (w0 :: GW) "BestratiosLaw") (hr : meth.sig.returnType = some .boolean) (hC : Ctx D tk s.heap.size sa s) (hN : NCx s) (hX : va_X b L xs s s.heap) (hbl : b < s.heap.size) (hAD : ADok s.heap.size ad) (huo : s.heap.size ≤ uo) (hM0 : s.heap.size ≤ M0) (had : ∀ k, k < 22 → ad k < M0) (hL : L ≤ 320) {i : Nat} (hi : i + 5 ≤ L) {cells slots : Nat} {H : Heap} {locs : List Loc} {ls : Array Slot} (hc9 : cells + 7000 ≤ 844753) (hs9 : slots + 101000 ≤ 6567222) (hz0 : M0 ≤ H.size) (hS : va_S (NA s.heap.size) s.heap H locs) (hB : LR D tk sa ad uo mo (PL M0 uo) H) (hl : lv_has ls 7 [(0, .ref b), (1, .ref (ad 15)), (2, .ref mo), (3, .ref uo), (4, .int (nI i))])
    (K : ∀ (H1 : Heap) (locs1 : List Loc) (ls1 : Array Slot), M0 ≤ H1.size → va_S (NA s.heap.size) s.heap H1 locs1 → LR D tk sa ad uo mo (PL M0 uo) H1 → lv_has ls1 7 [(0, .ref b), (1, .ref (ad 15)), (2, .ref mo), (3, .ref uo), (4, .int (nI i))] → W p l e room_1 s m #[.ref b] below meth c H1 locs1 (cells + 7000) (slots + 101000) Q (F0 m 1813 ls1 [])) : W p l e room_1 s m #[.ref b] below meth c H locs cells slots Q (F0 m 1800 ls []) := by
  obtain ⟨hx, hb, -⟩ := id E
  have hbA : ¬ NA s.heap.size b := Nat.not_le.mpr hbl
  have hA : ∀ q, NA s.heap.size q → s.heap.size ≤ q := fun q h => h
  have hn : ∀ q, s.heap.size ≤ q → NA s.heap.size q := fun q h => h
  have hPN : ∀ q, PL M0 uo q → s.heap.size ≤ q := fun q h => Nat.le_trans hM0 h.1
  obtain ⟨g, kn, tt, bb, eT, eB, oT, oB, pk, ca, rf, vs, n9, th, ox, ov, hV, hW, fu, hM⟩ := hB
  refine lv_aload_n (pc := 1800) hx hb dL_law_1800 rfl (lv_at hl 1 rfl) ?_
  have hI := hV.ci
  obtain ⟨kp, hkp, hpl⟩ := id hI.2.2.2
  have hz1 := hS.1
  have hne := cwC hC hW (Or.inl fu.cl)
  refine k_l (pc := 1801) (k_V E hC hS hA hl.1 (c1.recv hC hW.obj rfl) rfl (c_X3_digest l D tk s.heap.size sa hAD H.size g (fun i9 hi9 md => CI_tx hI (Or.inl hi9) 3 md 3) kp hpl (by omega) (CI_tx hI (Or.inr rfl) _ _ kp)) kw_669 kw_670 kw_671 kw_1 kw_672 (n := 0) (by decide +kernel) rfl ⟨⟨rfl, rfl⟩, ⟨Nat.le_of_ble_eq_true rfl, Nat.le_of_ble_eq_true rfl⟩, (by dsimp only [room_1]; omega), (by dsimp only [room_1]; omega)⟩ rfl (Nat.le_of_ble_eq_true rfl) hW dL_law_1801) hS (fun q _ w => cwA.ge hAD hS.1 q w) hn (fun rk H locs hR hz hk hS => ?_)
  have hM := hM.wrap hC hW fu had (fun q h1 h2 => hk q h1 (fun z9 => h2 (Or.inl z9)))
  have fu := fu.kept (hk _ fu.lt (cwN hne fu.lt))
  have hW := hR
  have hV := hV.lzv (lz_dgW g)
  have hz0 := Nat.le_trans hz0 hz
  refine lv_pop2_2 (pc := 1804) hx hb dL_law_1804 rfl ?_
  refine lv_aload_n (pc := 1805) hx hb dL_law_1805 rfl (lv_at hl 2 rfl) ?_
  have hz1 := hS.1
  have t_fu := fu.lt
  have hpl0 := hM.tl
  obtain ⟨fsm, fom⟩ := hM.obj
  have hPs : ∀ q, H.size ≤ q → PL M0 uo q := fun q h => ⟨Nat.le_trans hz0 h, by have := fu.lt; omega⟩
  refine k_l (pc := 1806) (k_V E hC hS hA hl.1 (c1.recv hC fom rfl) rfl (c_X5_digest l D tk s.heap.size sa H.size (PL M0 uo) hPN hPs mo n9 kn th tt bb eT eB oT oB pk ca rf vs ) kw_1800 kw_1801 kw_1802 kw_5 kw_1803 (n := 0) (by decide +kernel) rfl ⟨⟨rfl, rfl⟩, ⟨Nat.le_of_ble_eq_true rfl, Nat.le_of_ble_eq_true rfl⟩, (by dsimp only [room_1]; omega), (by dsimp only [room_1]; omega)⟩ rfl (Nat.le_of_ble_eq_true rfl) hM dL_law_1806) hS (fun q _ w => hPN q w) hn (fun rm_ H locs hR hz hk hS => ?_)
  have hW := hW.kept (fun k hk9 => hk _ (hW k hk9).lt (fun z9 => Nat.not_le.mpr (had k hk9) z9.1))
  have fu := fu.kept (hk _ fu.lt (fun z9 => z9.2 rfl))
  obtain ⟨th1, hM⟩ := hR
  have hz0 := Nat.le_trans hz0 hz
  refine lv_pop2_2 (pc := 1809) hx hb dL_law_1809 rfl ?_
  refine lv_goto (pc := 1810) (tgt := 1813) hx hb dL_law_1810 (by decide) ?_
  refine W.widen (k := cells + 7000) (n := slots + 101000) (by omega) (by omega) ?_
  exact K _ _ _ hz0 hS ⟨_, _, _, _, _, _, _, _, _, _, _, _, _, _, _, _, hV, hW, fu, hM⟩ (lv_sub hl [0, 1, 2, 3, 4] rfl)
