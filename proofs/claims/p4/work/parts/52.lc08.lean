set_option maxHeartbeats 4000000 in
set_option maxRecDepth 100000 in
theorem lc_7 {p : Program} {l : Launch} {e : Env} {s : State} {m : MethodId} {below : List Frame} {meth : Method} {c : Code} {Q : State → Prop} {D : va_G} {tk : Nat → ClassId} {sa ad : Nat → Nat} {b L uo mo M0 : Nat} {xs : Nat → Int32} {w0 : Cond} (hlst : l.stackTraces = false) (E : CallFix p m c cL_law 7 s #[.ref b] (w0 :: GW) "BestratiosLaw") (hr : meth.sig.returnType = some .boolean) (hC : Ctx D tk s.heap.size sa s) (hN : NCx s) (hX : va_X b L xs s s.heap) (hbl : b < s.heap.size) (hAD : ADok s.heap.size ad) (huo : s.heap.size ≤ uo) (hM0 : s.heap.size ≤ M0) (had : ∀ k, k < 22 → ad k < M0) (hL : L ≤ 320) {i : Nat} (hi : i + 5 ≤ L) {cells slots : Nat} {H : Heap} {locs : List Loc} {ls : Array Slot} (hc9 : cells + 7000 ≤ 844753) (hs9 : slots + 101000 ≤ 6567222) (hz0 : M0 ≤ H.size) (hS : va_S (NA s.heap.size) s.heap H locs) (hB : LR D tk sa ad uo mo (PL M0 uo) H) (hl : lv_has ls 7 [(0, .ref b), (1, .ref (ad 15)), (2, .ref mo), (3, .ref uo), (4, .int (nI i))])
    (K : ∀ (H1 : Heap) (locs1 : List Loc) (ls1 : Array Slot), M0 ≤ H1.size → va_S (NA s.heap.size) s.heap H1 locs1 → LR D tk sa ad uo mo (PL M0 uo) H1 → lv_has ls1 7 [(0, .ref b), (1, .ref (ad 15)), (2, .ref mo), (3, .ref uo), (4, .int (nI i))] → W p l e room_1 s m #[.ref b] below meth c H1 locs1 (cells + 7000) (slots + 101000) Q (F0 m 1813 ls1 [])) : W p l e room_1 s m #[.ref b] below meth c H locs cells slots Q (F0 m 597 ls []) := by
  obtain ⟨hx, hb, -⟩ := id E
  have hbA : ¬ NA s.heap.size b := Nat.not_le.mpr hbl
  have hA : ∀ q, NA s.heap.size q → s.heap.size ≤ q := fun q h => h
  have hn : ∀ q, s.heap.size ≤ q → NA s.heap.size q := fun q h => h
  have hPN : ∀ q, PL M0 uo q → s.heap.size ≤ q := fun q h => Nat.le_trans hM0 h.1
  obtain ⟨g, kn, tt, bb, eT, eB, oT, oB, pk, ca, rf, vs, n9, th, ox, ov, hV, hW, fu, hM⟩ := hB
  refine lv_aload_n (pc := 597) hx hb dL_law_597 rfl (lv_at hl 1 rfl) ?_
  refine lv_aload_n (pc := 598) hx hb dL_law_598 rfl (lv_at hl 0 rfl) ?_
  refine lv_iload (pc := 599) hx hb dL_law_599 (lv_at hl 4 rfl) ?_
  refine lv_iconst (pc := 601) (v := 1) hx hb dL_law_601 (by decide) ?_
  refine lv_iadd (pc := 602) hx hb dL_law_602 ?_
  refine va_sld (pc := 603) hx hb hX hbl hbA hS (lw_in (j := 1) (by omega) hL rfl) dL_law_603 ?_
  refine lv_aload_n (pc := 604) hx hb dL_law_604 rfl (lv_at hl 0 rfl) ?_
  refine lv_iload (pc := 605) hx hb dL_law_605 (lv_at hl 4 rfl) ?_
  refine lv_iconst (pc := 607) (v := 2) hx hb dL_law_607 (by decide) ?_
  refine lv_iadd (pc := 608) hx hb dL_law_608 ?_
  refine va_sld (pc := 609) hx hb hX hbl hbA hS (lw_in (j := 2) (by omega) hL rfl) dL_law_609 ?_
  refine lv_aload_n (pc := 610) hx hb dL_law_610 rfl (lv_at hl 0 rfl) ?_
  refine lv_iload (pc := 611) hx hb dL_law_611 (lv_at hl 4 rfl) ?_
  refine lv_iconst (pc := 613) (v := 3) hx hb dL_law_613 (by decide) ?_
  refine lv_iadd (pc := 614) hx hb dL_law_614 ?_
  refine va_sld (pc := 615) hx hb hX hbl hbA hS (lw_in (j := 3) (by omega) hL rfl) dL_law_615 ?_
  refine lv_aload_n (pc := 616) hx hb dL_law_616 rfl (lv_at hl 3 rfl) ?_
  have hz1 := hS.1
  have hne := cwC hC hW (Or.inl fu.cl)
  refine k_i (pc := 617) (k_SW E hC hN hS hA hl.1 (c_L_over l hlst D tk s.heap.size sa hAD huo H.size g kn hV.ci ((xs (nI i + 1).toNatClampNeg)) ((xs (nI i + 2).toNatClampNeg)) ((xs (nI i + 3).toNatClampNeg))) kw_894 kw_895 kw_0 wh_over (n := 5) (by decide +kernel) rfl ⟨⟨rfl, rfl⟩, ⟨Nat.le_of_ble_eq_true rfl, Nat.le_of_ble_eq_true rfl⟩, (by dsimp only [room_1]; omega), (by dsimp only [room_1]; omega)⟩ rfl (Nat.le_of_ble_eq_true rfl) ⟨hW, _, _, fu⟩ dL_law_617) hS (fun q _ w => lwA.ge hAD huo hS.1 q w) hn (fun rk H locs hR hz hk hS => ?_)
  have hM := hM.wrap hC hW fu had hk
  obtain ⟨g1, ox, ov, hW, fu, hw9⟩ := hR
  have hz0 := Nat.le_trans hz0 hz
  refine lv_istore (pc := 620) (lv' := [(5, .int rk), (0, .ref b), (1, .ref (ad 15)), (2, .ref mo), (3, .ref uo), (4, .int (nI i))]) hx hb dL_law_620 hl (by decide) rfl (fun ls hl => ?_)
  refine lv_aload_n (pc := 622) hx hb dL_law_622 rfl (lv_at hl 3 rfl) ?_
  refine lv_aload_n (pc := 623) hx hb dL_law_623 rfl (lv_at hl 1 rfl) ?_
  refine lv_iload (pc := 624) hx hb dL_law_624 (lv_at hl 5 rfl) ?_
  refine lv_iconst (pc := 626) (v := 1) hx hb dL_law_626 (by decide) ?_
  refine lv_iadd (pc := 627) hx hb dL_law_627 ?_
  refine va_sld (pc := 628) hx hb hX hbl hbA hS (lw_in (j := 1) (by omega) hL rfl) dL_law_628 ?_
  refine lv_aload_n (pc := 629) hx hb dL_law_629 rfl (lv_at hl 1 rfl) ?_
  refine lv_iload (pc := 630) hx hb dL_law_630 (lv_at hl 5 rfl) ?_
  refine lv_iconst (pc := 632) (v := 2) hx hb dL_law_632 (by decide) ?_
  refine lv_iadd (pc := 633) hx hb dL_law_633 ?_
  refine va_sld (pc := 634) hx hb hX hbl hbA hS (lw_in (j := 2) (by omega) hL rfl) dL_law_634 ?_
  refine lv_aload_n (pc := 635) hx hb dL_law_635 rfl (lv_at hl 1 rfl) ?_
  refine lv_iload (pc := 636) hx hb dL_law_636 (lv_at hl 5 rfl) ?_
  refine lv_iconst (pc := 638) (v := 3) hx hb dL_law_638 (by decide) ?_
  refine lv_iadd (pc := 639) hx hb dL_law_639 ?_
  refine va_sld (pc := 640) hx hb hX hbl hbA hS (lw_in (j := 3) (by omega) hL rfl) dL_law_640 ?_
  have hz1 := hS.1
  have t_fu := fu.lt
  have hpl0 := hM.tl
  obtain ⟨fsm, fom⟩ := hM.obj
  have hPs : ∀ q, H.size ≤ q → PL M0 uo q := fun q h => ⟨Nat.le_trans hz0 h, by have := fu.lt; omega⟩
  refine k_i (pc := 641) (k_V E hC hS hA hl.1 (c1.recv hC fom rfl) rfl (c_X5_over l D tk s.heap.size sa H.size (PL M0 uo) hPN hPs mo n9 kn th tt bb eT eB oT oB pk ca rf vs ((xs (nI i + 1).toNatClampNeg)) ((xs (nI i + 2).toNatClampNeg)) ((xs (nI i + 3).toNatClampNeg))) kw_1311 kw_1312 kw_1313 kw_5 kw_1314 (n := 3) (by decide +kernel) rfl ⟨⟨rfl, rfl⟩, ⟨Nat.le_of_ble_eq_true rfl, Nat.le_of_ble_eq_true rfl⟩, (by dsimp only [room_1]; omega), (by dsimp only [room_1]; omega)⟩ rfl (Nat.le_of_ble_eq_true rfl) hM dL_law_641) hS (fun q _ w => hPN q w) hn (fun rm_ H locs hR hz hk hS => ?_)
  have hW := hW.kept (fun k hk9 => hk _ (hW k hk9).lt (fun z9 => Nat.not_le.mpr (had k hk9) z9.1))
  have fu := fu.kept (hk _ fu.lt (fun z9 => z9.2 rfl))
  obtain ⟨th1, tt1, bb1, rf1, hM, hm9⟩ := hR
  obtain ⟨e_th, e_n, hV⟩ := l_over hV hw9 hm9
  have hz0 := Nat.le_trans hz0 hz
  refine lv_istore (pc := 644) (lv' := [(6, .int rm_), (5, .int rk), (0, .ref b), (1, .ref (ad 15)), (2, .ref mo), (3, .ref uo), (4, .int (nI i))]) hx hb dL_law_644 hl (by decide) rfl (fun ls hl => ?_)
  refine lv_goto (pc := 646) (tgt := 1813) hx hb dL_law_646 (by decide) ?_
  refine W.widen (k := cells + 7000) (n := slots + 101000) (by omega) (by omega) ?_
  exact K _ _ _ hz0 hS ⟨_, _, _, _, _, _, _, _, _, _, _, _, _, _, _, _, hV, hW, fu, hM⟩ (lv_sub hl [2, 3, 4, 5, 6] rfl)
set_option maxHeartbeats 4000000 in
set_option maxRecDepth 100000 in
theorem lc_8 {p : Program} {l : Launch} {e : Env} {s : State} {m : MethodId} {below : List Frame} {meth : Method} {c : Code} {Q : State → Prop} {D : va_G} {tk : Nat → ClassId} {sa ad : Nat → Nat} {b L uo mo M0 : Nat} {xs : Nat → Int32} {w0 : Cond} (hlst : l.stackTraces = false) (E : CallFix p m c cL_law 7 s #[.ref b] (w0 :: GW) "BestratiosLaw") (hr : meth.sig.returnType = some .boolean) (hC : Ctx D tk s.heap.size sa s) (hN : NCx s) (hX : va_X b L xs s s.heap) (hbl : b < s.heap.size) (hAD : ADok s.heap.size ad) (huo : s.heap.size ≤ uo) (hM0 : s.heap.size ≤ M0) (had : ∀ k, k < 22 → ad k < M0) (hL : L ≤ 320) {i : Nat} (hi : i + 5 ≤ L) {cells slots : Nat} {H : Heap} {locs : List Loc} {ls : Array Slot} (hc9 : cells + 7000 ≤ 844753) (hs9 : slots + 101000 ≤ 6567222) (hz0 : M0 ≤ H.size) (hS : va_S (NA s.heap.size) s.heap H locs) (hB : LR D tk sa ad uo mo (PL M0 uo) H) (hl : lv_has ls 7 [(0, .ref b), (1, .ref (ad 15)), (2, .ref mo), (3, .ref uo), (4, .int (nI i))])
    (K : ∀ (H1 : Heap) (locs1 : List Loc) (ls1 : Array Slot), M0 ≤ H1.size → va_S (NA s.heap.size) s.heap H1 locs1 → LR D tk sa ad uo mo (PL M0 uo) H1 → lv_has ls1 7 [(0, .ref b), (1, .ref (ad 15)), (2, .ref mo), (3, .ref uo), (4, .int (nI i))] → W p l e room_1 s m #[.ref b] below meth c H1 locs1 (cells + 7000) (slots + 101000) Q (F0 m 1813 ls1 [])) : W p l e room_1 s m #[.ref b] below meth c H locs cells slots Q (F0 m 649 ls []) := by
  obtain ⟨hx, hb, -⟩ := id E
  have hbA : ¬ NA s.heap.size b := Nat.not_le.mpr hbl
  have hA : ∀ q, NA s.heap.size q → s.heap.size ≤ q := fun q h => h
  have hn : ∀ q, s.heap.size ≤ q → NA s.heap.size q := fun q h => h
  have hPN : ∀ q, PL M0 uo q → s.heap.size ≤ q := fun q h => Nat.le_trans hM0 h.1
  obtain ⟨g, kn, tt, bb, eT, eB, oT, oB, pk, ca, rf, vs, n9, th, ox, ov, hV, hW, fu, hM⟩ := hB
  refine lv_aload_n (pc := 649) hx hb dL_law_649 rfl (lv_at hl 1 rfl) ?_
  refine lv_aload_n (pc := 650) hx hb dL_law_650 rfl (lv_at hl 0 rfl) ?_
  refine lv_iload (pc := 651) hx hb dL_law_651 (lv_at hl 4 rfl) ?_
  refine lv_iconst (pc := 653) (v := 1) hx hb dL_law_653 (by decide) ?_
  refine lv_iadd (pc := 654) hx hb dL_law_654 ?_
  refine va_sld (pc := 655) hx hb hX hbl hbA hS (lw_in (j := 1) (by omega) hL rfl) dL_law_655 ?_
  refine lv_aload_n (pc := 656) hx hb dL_law_656 rfl (lv_at hl 3 rfl) ?_
  have hz1 := hS.1
  have hne := cwC hC hW (Or.inl fu.cl)
  refine k_i (pc := 657) (k_SW E hC hN hS hA hl.1 (c_L_negate l hlst D tk s.heap.size sa hAD huo H.size g kn hV.ci ((xs (nI i + 1).toNatClampNeg))) kw_905 kw_906 kw_0 wh_negate (n := 3) (by decide +kernel) rfl ⟨⟨rfl, rfl⟩, ⟨Nat.le_of_ble_eq_true rfl, Nat.le_of_ble_eq_true rfl⟩, (by dsimp only [room_1]; omega), (by dsimp only [room_1]; omega)⟩ rfl (Nat.le_of_ble_eq_true rfl) ⟨hW, _, _, fu⟩ dL_law_657) hS (fun q _ w => lwA.ge hAD huo hS.1 q w) hn (fun rk H locs hR hz hk hS => ?_)
  have hM := hM.wrap hC hW fu had hk
  obtain ⟨g1, ox, ov, hW, fu, hw9⟩ := hR
  have hz0 := Nat.le_trans hz0 hz
  refine lv_istore (pc := 660) (lv' := [(5, .int rk), (0, .ref b), (1, .ref (ad 15)), (2, .ref mo), (3, .ref uo), (4, .int (nI i))]) hx hb dL_law_660 hl (by decide) rfl (fun ls hl => ?_)
  refine lv_aload_n (pc := 662) hx hb dL_law_662 rfl (lv_at hl 3 rfl) ?_
  refine lv_aload_n (pc := 663) hx hb dL_law_663 rfl (lv_at hl 1 rfl) ?_
  refine lv_iload (pc := 664) hx hb dL_law_664 (lv_at hl 5 rfl) ?_
  refine lv_iconst (pc := 666) (v := 1) hx hb dL_law_666 (by decide) ?_
  refine lv_iadd (pc := 667) hx hb dL_law_667 ?_
  refine va_sld (pc := 668) hx hb hX hbl hbA hS (lw_in (j := 1) (by omega) hL rfl) dL_law_668 ?_
  have hz1 := hS.1
  have t_fu := fu.lt
  have hpl0 := hM.tl
  obtain ⟨fsm, fom⟩ := hM.obj
  have hPs : ∀ q, H.size ≤ q → PL M0 uo q := fun q h => ⟨Nat.le_trans hz0 h, by have := fu.lt; omega⟩
  refine k_i (pc := 669) (k_V E hC hS hA hl.1 (c1.recv hC fom rfl) rfl (c_X5_negate l D tk s.heap.size sa H.size (PL M0 uo) hPN hPs mo n9 kn th tt bb eT eB oT oB pk ca rf vs ((xs (nI i + 1).toNatClampNeg))) kw_1318 kw_1319 kw_1320 kw_5 kw_1321 (n := 1) (by decide +kernel) rfl ⟨⟨rfl, rfl⟩, ⟨Nat.le_of_ble_eq_true rfl, Nat.le_of_ble_eq_true rfl⟩, (by dsimp only [room_1]; omega), (by dsimp only [room_1]; omega)⟩ rfl (Nat.le_of_ble_eq_true rfl) hM dL_law_669) hS (fun q _ w => hPN q w) hn (fun rm_ H locs hR hz hk hS => ?_)
  have hW := hW.kept (fun k hk9 => hk _ (hW k hk9).lt (fun z9 => Nat.not_le.mpr (had k hk9) z9.1))
  have fu := fu.kept (hk _ fu.lt (fun z9 => z9.2 rfl))
  obtain ⟨th1, tt1, bb1, rf1, hM, hm9⟩ := hR
  obtain ⟨e_th, e_n, hV⟩ := l_negate hV hw9 hm9
  have hz0 := Nat.le_trans hz0 hz
  refine lv_istore (pc := 672) (lv' := [(6, .int rm_), (5, .int rk), (0, .ref b), (1, .ref (ad 15)), (2, .ref mo), (3, .ref uo), (4, .int (nI i))]) hx hb dL_law_672 hl (by decide) rfl (fun ls hl => ?_)
  refine lv_goto (pc := 674) (tgt := 1813) hx hb dL_law_674 (by decide) ?_
  refine W.widen (k := cells + 7000) (n := slots + 101000) (by omega) (by omega) ?_
  exact K _ _ _ hz0 hS ⟨_, _, _, _, _, _, _, _, _, _, _, _, _, _, _, _, hV, hW, fu, hM⟩ (lv_sub hl [2, 3, 4, 5, 6] rfl)
set_option maxHeartbeats 4000000 in
set_option maxRecDepth 100000 in
theorem lc_9 {p : Program} {l : Launch} {e : Env} {s : State} {m : MethodId} {below : List Frame} {meth : Method} {c : Code} {Q : State → Prop} {D : va_G} {tk : Nat → ClassId} {sa ad : Nat → Nat} {b L uo mo M0 : Nat} {xs : Nat → Int32} {w0 : Cond} (hlst : l.stackTraces = false) (E : CallFix p m c cL_law 7 s #[.ref b] (w0 :: GW) "BestratiosLaw") (hr : meth.sig.returnType = some .boolean) (hC : Ctx D tk s.heap.size sa s) (hN : NCx s) (hX : va_X b L xs s s.heap) (hbl : b < s.heap.size) (hAD : ADok s.heap.size ad) (huo : s.heap.size ≤ uo) (hM0 : s.heap.size ≤ M0) (had : ∀ k, k < 22 → ad k < M0) (hL : L ≤ 320) {i : Nat} (hi : i + 5 ≤ L) {cells slots : Nat} {H : Heap} {locs : List Loc} {ls : Array Slot} (hc9 : cells + 7000 ≤ 844753) (hs9 : slots + 101000 ≤ 6567222) (hz0 : M0 ≤ H.size) (hS : va_S (NA s.heap.size) s.heap H locs) (hB : LR D tk sa ad uo mo (PL M0 uo) H) (hl : lv_has ls 7 [(0, .ref b), (1, .ref (ad 15)), (2, .ref mo), (3, .ref uo), (4, .int (nI i))])
    (K : ∀ (H1 : Heap) (locs1 : List Loc) (ls1 : Array Slot), M0 ≤ H1.size → va_S (NA s.heap.size) s.heap H1 locs1 → LR D tk sa ad uo mo (PL M0 uo) H1 → lv_has ls1 7 [(0, .ref b), (1, .ref (ad 15)), (2, .ref mo), (3, .ref uo), (4, .int (nI i))] → W p l e room_1 s m #[.ref b] below meth c H1 locs1 (cells + 7000) (slots + 101000) Q (F0 m 1813 ls1 [])) : W p l e room_1 s m #[.ref b] below meth c H locs cells slots Q (F0 m 677 ls []) := by
  obtain ⟨hx, hb, -⟩ := id E
  have hbA : ¬ NA s.heap.size b := Nat.not_le.mpr hbl
  have hA : ∀ q, NA s.heap.size q → s.heap.size ≤ q := fun q h => h
  have hn : ∀ q, s.heap.size ≤ q → NA s.heap.size q := fun q h => h
  have hPN : ∀ q, PL M0 uo q → s.heap.size ≤ q := fun q h => Nat.le_trans hM0 h.1
  obtain ⟨g, kn, tt, bb, eT, eB, oT, oB, pk, ca, rf, vs, n9, th, ox, ov, hV, hW, fu, hM⟩ := hB
  refine lv_aload_n (pc := 677) hx hb dL_law_677 rfl (lv_at hl 1 rfl) ?_
  refine lv_aload_n (pc := 678) hx hb dL_law_678 rfl (lv_at hl 0 rfl) ?_
  refine lv_iload (pc := 679) hx hb dL_law_679 (lv_at hl 4 rfl) ?_
  refine lv_iconst (pc := 681) (v := 1) hx hb dL_law_681 (by decide) ?_
  refine lv_iadd (pc := 682) hx hb dL_law_682 ?_
  refine va_sld (pc := 683) hx hb hX hbl hbA hS (lw_in (j := 1) (by omega) hL rfl) dL_law_683 ?_
  refine lv_aload_n (pc := 684) hx hb dL_law_684 rfl (lv_at hl 3 rfl) ?_
  have hz1 := hS.1
  have hne := cwC hC hW (Or.inl fu.cl)
  refine k_i (pc := 685) (k_SW E hC hN hS hA hl.1 (c_L_invert l hlst D tk s.heap.size sa hAD huo H.size g kn hV.ci ((xs (nI i + 1).toNatClampNeg))) kw_912 kw_913 kw_0 wh_invert (n := 3) (by decide +kernel) rfl ⟨⟨rfl, rfl⟩, ⟨Nat.le_of_ble_eq_true rfl, Nat.le_of_ble_eq_true rfl⟩, (by dsimp only [room_1]; omega), (by dsimp only [room_1]; omega)⟩ rfl (Nat.le_of_ble_eq_true rfl) ⟨hW, _, _, fu⟩ dL_law_685) hS (fun q _ w => lwA.ge hAD huo hS.1 q w) hn (fun rk H locs hR hz hk hS => ?_)
  have hM := hM.wrap hC hW fu had hk
  obtain ⟨g1, ox, ov, hW, fu, hw9⟩ := hR
  have hz0 := Nat.le_trans hz0 hz
  refine lv_istore (pc := 688) (lv' := [(5, .int rk), (0, .ref b), (1, .ref (ad 15)), (2, .ref mo), (3, .ref uo), (4, .int (nI i))]) hx hb dL_law_688 hl (by decide) rfl (fun ls hl => ?_)
  refine lv_aload_n (pc := 690) hx hb dL_law_690 rfl (lv_at hl 3 rfl) ?_
  refine lv_aload_n (pc := 691) hx hb dL_law_691 rfl (lv_at hl 1 rfl) ?_
  refine lv_iload (pc := 692) hx hb dL_law_692 (lv_at hl 5 rfl) ?_
  refine lv_iconst (pc := 694) (v := 1) hx hb dL_law_694 (by decide) ?_
  refine lv_iadd (pc := 695) hx hb dL_law_695 ?_
  refine va_sld (pc := 696) hx hb hX hbl hbA hS (lw_in (j := 1) (by omega) hL rfl) dL_law_696 ?_
  have hz1 := hS.1
  have t_fu := fu.lt
  have hpl0 := hM.tl
  obtain ⟨fsm, fom⟩ := hM.obj
  have hPs : ∀ q, H.size ≤ q → PL M0 uo q := fun q h => ⟨Nat.le_trans hz0 h, by have := fu.lt; omega⟩
  refine k_i (pc := 697) (k_V E hC hS hA hl.1 (c1.recv hC fom rfl) rfl (c_X5_invert l D tk s.heap.size sa H.size (PL M0 uo) hPN hPs mo n9 kn th tt bb eT eB oT oB pk ca rf vs ((xs (nI i + 1).toNatClampNeg))) kw_1322 kw_1323 kw_1324 kw_5 kw_1325 (n := 1) (by decide +kernel) rfl ⟨⟨rfl, rfl⟩, ⟨Nat.le_of_ble_eq_true rfl, Nat.le_of_ble_eq_true rfl⟩, (by dsimp only [room_1]; omega), (by dsimp only [room_1]; omega)⟩ rfl (Nat.le_of_ble_eq_true rfl) hM dL_law_697) hS (fun q _ w => hPN q w) hn (fun rm_ H locs hR hz hk hS => ?_)
  have hW := hW.kept (fun k hk9 => hk _ (hW k hk9).lt (fun z9 => Nat.not_le.mpr (had k hk9) z9.1))
  have fu := fu.kept (hk _ fu.lt (fun z9 => z9.2 rfl))
  obtain ⟨th1, tt1, bb1, rf1, hM, hm9⟩ := hR
  obtain ⟨e_th, e_n, hV⟩ := l_invert hV hw9 hm9
  have hz0 := Nat.le_trans hz0 hz
  refine lv_istore (pc := 700) (lv' := [(6, .int rm_), (5, .int rk), (0, .ref b), (1, .ref (ad 15)), (2, .ref mo), (3, .ref uo), (4, .int (nI i))]) hx hb dL_law_700 hl (by decide) rfl (fun ls hl => ?_)
  refine lv_goto (pc := 702) (tgt := 1813) hx hb dL_law_702 (by decide) ?_
  refine W.widen (k := cells + 7000) (n := slots + 101000) (by omega) (by omega) ?_
  exact K _ _ _ hz0 hS ⟨_, _, _, _, _, _, _, _, _, _, _, _, _, _, _, _, hV, hW, fu, hM⟩ (lv_sub hl [2, 3, 4, 5, 6] rfl)
set_option maxHeartbeats 4000000 in
set_option maxRecDepth 100000 in
theorem lc_10 {p : Program} {l : Launch} {e : Env} {s : State} {m : MethodId} {below : List Frame} {meth : Method} {c : Code} {Q : State → Prop} {D : va_G} {tk : Nat → ClassId} {sa ad : Nat → Nat} {b L uo mo M0 : Nat} {xs : Nat → Int32} {w0 : Cond} (hlst : l.stackTraces = false) (E : CallFix p m c cL_law 7 s #[.ref b] (w0 :: GW) "BestratiosLaw") (hr : meth.sig.returnType = some .boolean) (hC : Ctx D tk s.heap.size sa s) (hN : NCx s) (hX : va_X b L xs s s.heap) (hbl : b < s.heap.size) (hAD : ADok s.heap.size ad) (huo : s.heap.size ≤ uo) (hM0 : s.heap.size ≤ M0) (had : ∀ k, k < 22 → ad k < M0) (hL : L ≤ 320) {i : Nat} (hi : i + 5 ≤ L) {cells slots : Nat} {H : Heap} {locs : List Loc} {ls : Array Slot} (hc9 : cells + 7000 ≤ 844753) (hs9 : slots + 101000 ≤ 6567222) (hz0 : M0 ≤ H.size) (hS : va_S (NA s.heap.size) s.heap H locs) (hB : LR D tk sa ad uo mo (PL M0 uo) H) (hl : lv_has ls 7 [(0, .ref b), (1, .ref (ad 15)), (2, .ref mo), (3, .ref uo), (4, .int (nI i))])
    (K : ∀ (H1 : Heap) (locs1 : List Loc) (ls1 : Array Slot), M0 ≤ H1.size → va_S (NA s.heap.size) s.heap H1 locs1 → LR D tk sa ad uo mo (PL M0 uo) H1 → lv_has ls1 7 [(0, .ref b), (1, .ref (ad 15)), (2, .ref mo), (3, .ref uo), (4, .int (nI i))] → W p l e room_1 s m #[.ref b] below meth c H1 locs1 (cells + 7000) (slots + 101000) Q (F0 m 1813 ls1 [])) : W p l e room_1 s m #[.ref b] below meth c H locs cells slots Q (F0 m 705 ls []) := by
  obtain ⟨hx, hb, -⟩ := id E
  have hbA : ¬ NA s.heap.size b := Nat.not_le.mpr hbl
  have hA : ∀ q, NA s.heap.size q → s.heap.size ≤ q := fun q h => h
  have hn : ∀ q, s.heap.size ≤ q → NA s.heap.size q := fun q h => h
  have hPN : ∀ q, PL M0 uo q → s.heap.size ≤ q := fun q h => Nat.le_trans hM0 h.1
  obtain ⟨g, kn, tt, bb, eT, eB, oT, oB, pk, ca, rf, vs, n9, th, ox, ov, hV, hW, fu, hM⟩ := hB
  refine lv_aload_n (pc := 705) hx hb dL_law_705 rfl (lv_at hl 1 rfl) ?_
  refine lv_aload_n (pc := 706) hx hb dL_law_706 rfl (lv_at hl 0 rfl) ?_
  refine lv_iload (pc := 707) hx hb dL_law_707 (lv_at hl 4 rfl) ?_
  refine lv_iconst (pc := 709) (v := 1) hx hb dL_law_709 (by decide) ?_
  refine lv_iadd (pc := 710) hx hb dL_law_710 ?_
  refine va_sld (pc := 711) hx hb hX hbl hbA hS (lw_in (j := 1) (by omega) hL rfl) dL_law_711 ?_
  refine lv_aload_n (pc := 712) hx hb dL_law_712 rfl (lv_at hl 0 rfl) ?_
  refine lv_iload (pc := 713) hx hb dL_law_713 (lv_at hl 4 rfl) ?_
  refine lv_iconst (pc := 715) (v := 2) hx hb dL_law_715 (by decide) ?_
  refine lv_iadd (pc := 716) hx hb dL_law_716 ?_
  refine va_sld (pc := 717) hx hb hX hbl hbA hS (lw_in (j := 2) (by omega) hL rfl) dL_law_717 ?_
  refine lv_aload_n (pc := 718) hx hb dL_law_718 rfl (lv_at hl 3 rfl) ?_
  have hz1 := hS.1
  have hne := cwC hC hW (Or.inl fu.cl)
  refine k_i (pc := 719) (k_SW E hC hN hS hA hl.1 (c_L_raise l hlst D tk s.heap.size sa hAD huo H.size g kn hV.ci ((xs (nI i + 1).toNatClampNeg)) ((xs (nI i + 2).toNatClampNeg))) kw_919 kw_920 kw_0 wh_raise (n := 4) (by decide +kernel) rfl ⟨⟨rfl, rfl⟩, ⟨Nat.le_of_ble_eq_true rfl, Nat.le_of_ble_eq_true rfl⟩, (by dsimp only [room_1]; omega), (by dsimp only [room_1]; omega)⟩ rfl (Nat.le_of_ble_eq_true rfl) ⟨hW, _, _, fu⟩ dL_law_719) hS (fun q _ w => lwA.ge hAD huo hS.1 q w) hn (fun rk H locs hR hz hk hS => ?_)
  have hM := hM.wrap hC hW fu had hk
  obtain ⟨g1, ox, ov, hW, fu, hw9⟩ := hR
  have hz0 := Nat.le_trans hz0 hz
  refine lv_istore (pc := 722) (lv' := [(5, .int rk), (0, .ref b), (1, .ref (ad 15)), (2, .ref mo), (3, .ref uo), (4, .int (nI i))]) hx hb dL_law_722 hl (by decide) rfl (fun ls hl => ?_)
  refine lv_aload_n (pc := 724) hx hb dL_law_724 rfl (lv_at hl 3 rfl) ?_
  refine lv_aload_n (pc := 725) hx hb dL_law_725 rfl (lv_at hl 1 rfl) ?_
  refine lv_iload (pc := 726) hx hb dL_law_726 (lv_at hl 5 rfl) ?_
  refine lv_iconst (pc := 728) (v := 1) hx hb dL_law_728 (by decide) ?_
  refine lv_iadd (pc := 729) hx hb dL_law_729 ?_
  refine va_sld (pc := 730) hx hb hX hbl hbA hS (lw_in (j := 1) (by omega) hL rfl) dL_law_730 ?_
  refine lv_aload_n (pc := 731) hx hb dL_law_731 rfl (lv_at hl 1 rfl) ?_
  refine lv_iload (pc := 732) hx hb dL_law_732 (lv_at hl 5 rfl) ?_
  refine lv_iconst (pc := 734) (v := 2) hx hb dL_law_734 (by decide) ?_
  refine lv_iadd (pc := 735) hx hb dL_law_735 ?_
  refine va_sld (pc := 736) hx hb hX hbl hbA hS (lw_in (j := 2) (by omega) hL rfl) dL_law_736 ?_
  have hz1 := hS.1
  have t_fu := fu.lt
  have hpl0 := hM.tl
  obtain ⟨fsm, fom⟩ := hM.obj
  have hPs : ∀ q, H.size ≤ q → PL M0 uo q := fun q h => ⟨Nat.le_trans hz0 h, by have := fu.lt; omega⟩
  refine k_i (pc := 737) (k_V E hC hS hA hl.1 (c1.recv hC fom rfl) rfl (c_X5_raise l D tk s.heap.size sa H.size (PL M0 uo) hPN hPs mo n9 kn th tt bb eT eB oT oB pk ca rf vs ((xs (nI i + 1).toNatClampNeg)) ((xs (nI i + 2).toNatClampNeg))) kw_1326 kw_1327 kw_1328 kw_5 kw_1329 (n := 2) (by decide +kernel) rfl ⟨⟨rfl, rfl⟩, ⟨Nat.le_of_ble_eq_true rfl, Nat.le_of_ble_eq_true rfl⟩, (by dsimp only [room_1]; omega), (by dsimp only [room_1]; omega)⟩ rfl (Nat.le_of_ble_eq_true rfl) hM dL_law_737) hS (fun q _ w => hPN q w) hn (fun rm_ H locs hR hz hk hS => ?_)
  have hW := hW.kept (fun k hk9 => hk _ (hW k hk9).lt (fun z9 => Nat.not_le.mpr (had k hk9) z9.1))
  have fu := fu.kept (hk _ fu.lt (fun z9 => z9.2 rfl))
  obtain ⟨th1, tt1, bb1, rf1, hM, hm9⟩ := hR
  obtain ⟨e_th, e_n, hV⟩ := l_raise hV hw9 hm9
  have hz0 := Nat.le_trans hz0 hz
  refine lv_istore (pc := 740) (lv' := [(6, .int rm_), (5, .int rk), (0, .ref b), (1, .ref (ad 15)), (2, .ref mo), (3, .ref uo), (4, .int (nI i))]) hx hb dL_law_740 hl (by decide) rfl (fun ls hl => ?_)
  refine lv_goto (pc := 742) (tgt := 1813) hx hb dL_law_742 (by decide) ?_
  refine W.widen (k := cells + 7000) (n := slots + 101000) (by omega) (by omega) ?_
  exact K _ _ _ hz0 hS ⟨_, _, _, _, _, _, _, _, _, _, _, _, _, _, _, _, hV, hW, fu, hM⟩ (lv_sub hl [2, 3, 4, 5, 6] rfl)
set_option maxHeartbeats 4000000 in
set_option maxRecDepth 100000 in
theorem lc_11 {p : Program} {l : Launch} {e : Env} {s : State} {m : MethodId} {below : List Frame} {meth : Method} {c : Code} {Q : State → Prop} {D : va_G} {tk : Nat → ClassId} {sa ad : Nat → Nat} {b L uo mo M0 : Nat} {xs : Nat → Int32} {w0 : Cond} (hlst : l.stackTraces = false) (E : CallFix p m c cL_law 7 s #[.ref b] (w0 :: GW) "BestratiosLaw") (hr : meth.sig.returnType = some .boolean) (hC : Ctx D tk s.heap.size sa s) (hN : NCx s) (hX : va_X b L xs s s.heap) (hbl : b < s.heap.size) (hAD : ADok s.heap.size ad) (huo : s.heap.size ≤ uo) (hM0 : s.heap.size ≤ M0) (had : ∀ k, k < 22 → ad k < M0) (hL : L ≤ 320) {i : Nat} (hi : i + 5 ≤ L) {cells slots : Nat} {H : Heap} {locs : List Loc} {ls : Array Slot} (hc9 : cells + 7000 ≤ 844753) (hs9 : slots + 101000 ≤ 6567222) (hz0 : M0 ≤ H.size) (hS : va_S (NA s.heap.size) s.heap H locs) (hB : LR D tk sa ad uo mo (PL M0 uo) H) (hl : lv_has ls 7 [(0, .ref b), (1, .ref (ad 15)), (2, .ref mo), (3, .ref uo), (4, .int (nI i))])
    (K : ∀ (H1 : Heap) (locs1 : List Loc) (ls1 : Array Slot), M0 ≤ H1.size → va_S (NA s.heap.size) s.heap H1 locs1 → LR D tk sa ad uo mo (PL M0 uo) H1 → lv_has ls1 7 [(0, .ref b), (1, .ref (ad 15)), (2, .ref mo), (3, .ref uo), (4, .int (nI i))] → W p l e room_1 s m #[.ref b] below meth c H1 locs1 (cells + 7000) (slots + 101000) Q (F0 m 1813 ls1 [])) : W p l e room_1 s m #[.ref b] below meth c H locs cells slots Q (F0 m 745 ls []) := by
  obtain ⟨hx, hb, -⟩ := id E
  have hbA : ¬ NA s.heap.size b := Nat.not_le.mpr hbl
  have hA : ∀ q, NA s.heap.size q → s.heap.size ≤ q := fun q h => h
  have hn : ∀ q, s.heap.size ≤ q → NA s.heap.size q := fun q h => h
  have hPN : ∀ q, PL M0 uo q → s.heap.size ≤ q := fun q h => Nat.le_trans hM0 h.1
  obtain ⟨g, kn, tt, bb, eT, eB, oT, oB, pk, ca, rf, vs, n9, th, ox, ov, hV, hW, fu, hM⟩ := hB
  refine lv_aload_n (pc := 745) hx hb dL_law_745 rfl (lv_at hl 1 rfl) ?_
  refine lv_aload_n (pc := 746) hx hb dL_law_746 rfl (lv_at hl 0 rfl) ?_
  refine lv_iload (pc := 747) hx hb dL_law_747 (lv_at hl 4 rfl) ?_
  refine lv_iconst (pc := 749) (v := 1) hx hb dL_law_749 (by decide) ?_
  refine lv_iadd (pc := 750) hx hb dL_law_750 ?_
  refine va_sld (pc := 751) hx hb hX hbl hbA hS (lw_in (j := 1) (by omega) hL rfl) dL_law_751 ?_
  refine lv_aload_n (pc := 752) hx hb dL_law_752 rfl (lv_at hl 0 rfl) ?_
  refine lv_iload (pc := 753) hx hb dL_law_753 (lv_at hl 4 rfl) ?_
  refine lv_iconst (pc := 755) (v := 2) hx hb dL_law_755 (by decide) ?_
  refine lv_iadd (pc := 756) hx hb dL_law_756 ?_
  refine va_sld (pc := 757) hx hb hX hbl hbA hS (lw_in (j := 2) (by omega) hL rfl) dL_law_757 ?_
  refine lv_aload_n (pc := 758) hx hb dL_law_758 rfl (lv_at hl 0 rfl) ?_
  refine lv_iload (pc := 759) hx hb dL_law_759 (lv_at hl 4 rfl) ?_
  refine lv_iconst (pc := 761) (v := 3) hx hb dL_law_761 (by decide) ?_
  refine lv_iadd (pc := 762) hx hb dL_law_762 ?_
  refine va_sld (pc := 763) hx hb hX hbl hbA hS (lw_in (j := 3) (by omega) hL rfl) dL_law_763 ?_
  refine lv_aload_n (pc := 764) hx hb dL_law_764 rfl (lv_at hl 3 rfl) ?_
  have hz1 := hS.1
  have hne := cwC hC hW (Or.inl fu.cl)
  refine k_i (pc := 765) (k_SW E hC hN hS hA hl.1 (c_L_mediant l hlst D tk s.heap.size sa hAD huo H.size g kn hV.ci ((xs (nI i + 1).toNatClampNeg)) ((xs (nI i + 2).toNatClampNeg)) ((xs (nI i + 3).toNatClampNeg))) kw_934 kw_935 kw_0 wh_mediant (n := 5) (by decide +kernel) rfl ⟨⟨rfl, rfl⟩, ⟨Nat.le_of_ble_eq_true rfl, Nat.le_of_ble_eq_true rfl⟩, (by dsimp only [room_1]; omega), (by dsimp only [room_1]; omega)⟩ rfl (Nat.le_of_ble_eq_true rfl) ⟨hW, _, _, fu⟩ dL_law_765) hS (fun q _ w => lwA.ge hAD huo hS.1 q w) hn (fun rk H locs hR hz hk hS => ?_)
  have hM := hM.wrap hC hW fu had hk
  obtain ⟨g1, ox, ov, hW, fu, hw9⟩ := hR
  have hz0 := Nat.le_trans hz0 hz
  refine lv_istore (pc := 768) (lv' := [(5, .int rk), (0, .ref b), (1, .ref (ad 15)), (2, .ref mo), (3, .ref uo), (4, .int (nI i))]) hx hb dL_law_768 hl (by decide) rfl (fun ls hl => ?_)
  refine lv_aload_n (pc := 770) hx hb dL_law_770 rfl (lv_at hl 3 rfl) ?_
  refine lv_aload_n (pc := 771) hx hb dL_law_771 rfl (lv_at hl 1 rfl) ?_
  refine lv_iload (pc := 772) hx hb dL_law_772 (lv_at hl 5 rfl) ?_
  refine lv_iconst (pc := 774) (v := 1) hx hb dL_law_774 (by decide) ?_
  refine lv_iadd (pc := 775) hx hb dL_law_775 ?_
  refine va_sld (pc := 776) hx hb hX hbl hbA hS (lw_in (j := 1) (by omega) hL rfl) dL_law_776 ?_
  refine lv_aload_n (pc := 777) hx hb dL_law_777 rfl (lv_at hl 1 rfl) ?_
  refine lv_iload (pc := 778) hx hb dL_law_778 (lv_at hl 5 rfl) ?_
  refine lv_iconst (pc := 780) (v := 2) hx hb dL_law_780 (by decide) ?_
  refine lv_iadd (pc := 781) hx hb dL_law_781 ?_
  refine va_sld (pc := 782) hx hb hX hbl hbA hS (lw_in (j := 2) (by omega) hL rfl) dL_law_782 ?_
  refine lv_aload_n (pc := 783) hx hb dL_law_783 rfl (lv_at hl 1 rfl) ?_
  refine lv_iload (pc := 784) hx hb dL_law_784 (lv_at hl 5 rfl) ?_
  refine lv_iconst (pc := 786) (v := 3) hx hb dL_law_786 (by decide) ?_
  refine lv_iadd (pc := 787) hx hb dL_law_787 ?_
  refine va_sld (pc := 788) hx hb hX hbl hbA hS (lw_in (j := 3) (by omega) hL rfl) dL_law_788 ?_
  have hz1 := hS.1
  have t_fu := fu.lt
  have hpl0 := hM.tl
  obtain ⟨fsm, fom⟩ := hM.obj
  have hPs : ∀ q, H.size ≤ q → PL M0 uo q := fun q h => ⟨Nat.le_trans hz0 h, by have := fu.lt; omega⟩
  refine k_i (pc := 789) (k_V E hC hS hA hl.1 (c1.recv hC fom rfl) rfl (c_X5_mediant l D tk s.heap.size sa H.size (PL M0 uo) hPN hPs mo n9 kn th tt bb eT eB oT oB pk ca rf vs ((xs (nI i + 1).toNatClampNeg)) ((xs (nI i + 2).toNatClampNeg)) ((xs (nI i + 3).toNatClampNeg))) kw_1336 kw_1337 kw_1338 kw_5 kw_1339 (n := 3) (by decide +kernel) rfl ⟨⟨rfl, rfl⟩, ⟨Nat.le_of_ble_eq_true rfl, Nat.le_of_ble_eq_true rfl⟩, (by dsimp only [room_1]; omega), (by dsimp only [room_1]; omega)⟩ rfl (Nat.le_of_ble_eq_true rfl) hM dL_law_789) hS (fun q _ w => hPN q w) hn (fun rm_ H locs hR hz hk hS => ?_)
  have hW := hW.kept (fun k hk9 => hk _ (hW k hk9).lt (fun z9 => Nat.not_le.mpr (had k hk9) z9.1))
  have fu := fu.kept (hk _ fu.lt (fun z9 => z9.2 rfl))
  obtain ⟨th1, tt1, bb1, rf1, hM, hm9⟩ := hR
  obtain ⟨e_th, e_n, hV⟩ := l_mediant hV hw9 hm9
  have hz0 := Nat.le_trans hz0 hz
  refine lv_istore (pc := 792) (lv' := [(6, .int rm_), (5, .int rk), (0, .ref b), (1, .ref (ad 15)), (2, .ref mo), (3, .ref uo), (4, .int (nI i))]) hx hb dL_law_792 hl (by decide) rfl (fun ls hl => ?_)
  refine lv_goto (pc := 794) (tgt := 1813) hx hb dL_law_794 (by decide) ?_
  refine W.widen (k := cells + 7000) (n := slots + 101000) (by omega) (by omega) ?_
  exact K _ _ _ hz0 hS ⟨_, _, _, _, _, _, _, _, _, _, _, _, _, _, _, _, hV, hW, fu, hM⟩ (lv_sub hl [2, 3, 4, 5, 6] rfl)
set_option maxHeartbeats 4000000 in
set_option maxRecDepth 100000 in
theorem lc_12 {p : Program} {l : Launch} {e : Env} {s : State} {m : MethodId} {below : List Frame} {meth : Method} {c : Code} {Q : State → Prop} {D : va_G} {tk : Nat → ClassId} {sa ad : Nat → Nat} {b L uo mo M0 : Nat} {xs : Nat → Int32} {w0 : Cond} (hlst : l.stackTraces = false) (E : CallFix p m c cL_law 7 s #[.ref b] (w0 :: GW) "BestratiosLaw") (hr : meth.sig.returnType = some .boolean) (hC : Ctx D tk s.heap.size sa s) (hN : NCx s) (hX : va_X b L xs s s.heap) (hbl : b < s.heap.size) (hAD : ADok s.heap.size ad) (huo : s.heap.size ≤ uo) (hM0 : s.heap.size ≤ M0) (had : ∀ k, k < 22 → ad k < M0) (hL : L ≤ 320) {i : Nat} (hi : i + 5 ≤ L) {cells slots : Nat} {H : Heap} {locs : List Loc} {ls : Array Slot} (hc9 : cells + 7000 ≤ 844753) (hs9 : slots + 101000 ≤ 6567222) (hz0 : M0 ≤ H.size) (hS : va_S (NA s.heap.size) s.heap H locs) (hB : LR D tk sa ad uo mo (PL M0 uo) H) (hl : lv_has ls 7 [(0, .ref b), (1, .ref (ad 15)), (2, .ref mo), (3, .ref uo), (4, .int (nI i))])
    (K : ∀ (H1 : Heap) (locs1 : List Loc) (ls1 : Array Slot), M0 ≤ H1.size → va_S (NA s.heap.size) s.heap H1 locs1 → LR D tk sa ad uo mo (PL M0 uo) H1 → lv_has ls1 7 [(0, .ref b), (1, .ref (ad 15)), (2, .ref mo), (3, .ref uo), (4, .int (nI i))] → W p l e room_1 s m #[.ref b] below meth c H1 locs1 (cells + 7000) (slots + 101000) Q (F0 m 1813 ls1 [])) : W p l e room_1 s m #[.ref b] below meth c H locs cells slots Q (F0 m 797 ls []) := by
  obtain ⟨hx, hb, -⟩ := id E
  have hbA : ¬ NA s.heap.size b := Nat.not_le.mpr hbl
  have hA : ∀ q, NA s.heap.size q → s.heap.size ≤ q := fun q h => h
  have hn : ∀ q, s.heap.size ≤ q → NA s.heap.size q := fun q h => h
  have hPN : ∀ q, PL M0 uo q → s.heap.size ≤ q := fun q h => Nat.le_trans hM0 h.1
  obtain ⟨g, kn, tt, bb, eT, eB, oT, oB, pk, ca, rf, vs, n9, th, ox, ov, hV, hW, fu, hM⟩ := hB
  refine lv_aload_n (pc := 797) hx hb dL_law_797 rfl (lv_at hl 1 rfl) ?_
  refine lv_aload_n (pc := 798) hx hb dL_law_798 rfl (lv_at hl 0 rfl) ?_
  refine lv_iload (pc := 799) hx hb dL_law_799 (lv_at hl 4 rfl) ?_
  refine lv_iconst (pc := 801) (v := 1) hx hb dL_law_801 (by decide) ?_
  refine lv_iadd (pc := 802) hx hb dL_law_802 ?_
  refine va_sld (pc := 803) hx hb hX hbl hbA hS (lw_in (j := 1) (by omega) hL rfl) dL_law_803 ?_
  refine lv_aload_n (pc := 804) hx hb dL_law_804 rfl (lv_at hl 3 rfl) ?_
  have hz1 := hS.1
  have hne := cwC hC hW (Or.inl fu.cl)
  refine k_i (pc := 805) (k_SW E hC hN hS hA hl.1 (c_L_text l hlst D tk s.heap.size sa hAD huo H.size g kn hV.ci ((xs (nI i + 1).toNatClampNeg))) kw_945 kw_946 kw_0 wh_text (n := 3) (by decide +kernel) rfl ⟨⟨rfl, rfl⟩, ⟨Nat.le_of_ble_eq_true rfl, Nat.le_of_ble_eq_true rfl⟩, (by dsimp only [room_1]; omega), (by dsimp only [room_1]; omega)⟩ rfl (Nat.le_of_ble_eq_true rfl) ⟨hW, _, _, fu⟩ dL_law_805) hS (fun q _ w => lwA.ge hAD huo hS.1 q w) hn (fun rk H locs hR hz hk hS => ?_)
  have hM := hM.wrap hC hW fu had hk
  obtain ⟨g1, ox, ov, hW, fu, hw9⟩ := hR
  have hz0 := Nat.le_trans hz0 hz
  refine lv_istore (pc := 808) (lv' := [(5, .int rk), (0, .ref b), (1, .ref (ad 15)), (2, .ref mo), (3, .ref uo), (4, .int (nI i))]) hx hb dL_law_808 hl (by decide) rfl (fun ls hl => ?_)
  refine lv_aload_n (pc := 810) hx hb dL_law_810 rfl (lv_at hl 3 rfl) ?_
  refine lv_aload_n (pc := 811) hx hb dL_law_811 rfl (lv_at hl 1 rfl) ?_
  refine lv_iload (pc := 812) hx hb dL_law_812 (lv_at hl 5 rfl) ?_
  refine lv_iconst (pc := 814) (v := 1) hx hb dL_law_814 (by decide) ?_
  refine lv_iadd (pc := 815) hx hb dL_law_815 ?_
  refine va_sld (pc := 816) hx hb hX hbl hbA hS (lw_in (j := 1) (by omega) hL rfl) dL_law_816 ?_
  have hz1 := hS.1
  have t_fu := fu.lt
  have hpl0 := hM.tl
  obtain ⟨fsm, fom⟩ := hM.obj
  have hPs : ∀ q, H.size ≤ q → PL M0 uo q := fun q h => ⟨Nat.le_trans hz0 h, by have := fu.lt; omega⟩
  refine k_r (pc := 817) (k_V E hC hS hA hl.1 (c1.recv hC fom rfl) rfl (c_X5_text_ l D tk s.heap.size sa H.size (PL M0 uo) hPN hPs mo n9 kn th tt bb eT eB oT oB pk ca rf vs ((xs (nI i + 1).toNatClampNeg))) kw_1343 kw_1344 kw_1345 kw_5 kw_1346 (n := 1) (by decide +kernel) rfl ⟨⟨rfl, rfl⟩, ⟨Nat.le_of_ble_eq_true rfl, Nat.le_of_ble_eq_true rfl⟩, (by dsimp only [room_1]; omega), (by dsimp only [room_1]; omega)⟩ rfl (Nat.le_of_ble_eq_true rfl) hM dL_law_817) hS (fun q _ w => hPN q w) hn (fun rm_ H locs hR hz hk hS => ?_)
  have hW := hW.kept (fun k hk9 => hk _ (hW k hk9).lt (fun z9 => Nat.not_le.mpr (had k hk9) z9.1))
  have fu := fu.kept (hk _ fu.lt (fun z9 => z9.2 rfl))
  obtain ⟨th1, hM⟩ := hR
  have hV := l_txt hV (fun _ => lz_rf g) hw9
  have hz0 := Nat.le_trans hz0 hz
  refine lv_astore (pc := 820) (lv' := [(6, .ref rm_), (5, .int rk), (0, .ref b), (1, .ref (ad 15)), (2, .ref mo), (3, .ref uo), (4, .int (nI i))]) hx hb dL_law_820 hl (by decide) rfl (fun ls hl => ?_)
  refine lv_goto (pc := 822) (tgt := 1813) hx hb dL_law_822 (by decide) ?_
  refine W.widen (k := cells + 7000) (n := slots + 101000) (by omega) (by omega) ?_
  exact K _ _ _ hz0 hS ⟨_, _, _, _, _, _, _, _, _, _, _, _, _, _, _, _, hV, hW, fu, hM⟩ (lv_sub hl [2, 3, 4, 5, 6] rfl)
set_option maxHeartbeats 4000000 in
set_option maxRecDepth 100000 in
theorem lc_13 {p : Program} {l : Launch} {e : Env} {s : State} {m : MethodId} {below : List Frame} {meth : Method} {c : Code} {Q : State → Prop} {D : va_G} {tk : Nat → ClassId} {sa ad : Nat → Nat} {b L uo mo M0 : Nat} {xs : Nat → Int32} {w0 : Cond} (hlst : l.stackTraces = false) (E : CallFix p m c cL_law 7 s #[.ref b] (w0 :: GW) "BestratiosLaw") (hr : meth.sig.returnType = some .boolean) (hC : Ctx D tk s.heap.size sa s) (hN : NCx s) (hX : va_X b L xs s s.heap) (hbl : b < s.heap.size) (hAD : ADok s.heap.size ad) (huo : s.heap.size ≤ uo) (hM0 : s.heap.size ≤ M0) (had : ∀ k, k < 22 → ad k < M0) (hL : L ≤ 320) {i : Nat} (hi : i + 5 ≤ L) {cells slots : Nat} {H : Heap} {locs : List Loc} {ls : Array Slot} (hc9 : cells + 7000 ≤ 844753) (hs9 : slots + 101000 ≤ 6567222) (hz0 : M0 ≤ H.size) (hS : va_S (NA s.heap.size) s.heap H locs) (hB : LR D tk sa ad uo mo (PL M0 uo) H) (hl : lv_has ls 7 [(0, .ref b), (1, .ref (ad 15)), (2, .ref mo), (3, .ref uo), (4, .int (nI i))])
    (K : ∀ (H1 : Heap) (locs1 : List Loc) (ls1 : Array Slot), M0 ≤ H1.size → va_S (NA s.heap.size) s.heap H1 locs1 → LR D tk sa ad uo mo (PL M0 uo) H1 → lv_has ls1 7 [(0, .ref b), (1, .ref (ad 15)), (2, .ref mo), (3, .ref uo), (4, .int (nI i))] → W p l e room_1 s m #[.ref b] below meth c H1 locs1 (cells + 7000) (slots + 101000) Q (F0 m 1813 ls1 [])) : W p l e room_1 s m #[.ref b] below meth c H locs cells slots Q (F0 m 825 ls []) := by
  obtain ⟨hx, hb, -⟩ := id E
  have hbA : ¬ NA s.heap.size b := Nat.not_le.mpr hbl
  have hA : ∀ q, NA s.heap.size q → s.heap.size ≤ q := fun q h => h
  have hn : ∀ q, s.heap.size ≤ q → NA s.heap.size q := fun q h => h
  have hPN : ∀ q, PL M0 uo q → s.heap.size ≤ q := fun q h => Nat.le_trans hM0 h.1
  obtain ⟨g, kn, tt, bb, eT, eB, oT, oB, pk, ca, rf, vs, n9, th, ox, ov, hV, hW, fu, hM⟩ := hB
  refine lv_aload_n (pc := 825) hx hb dL_law_825 rfl (lv_at hl 1 rfl) ?_
  refine lv_aload_n (pc := 826) hx hb dL_law_826 rfl (lv_at hl 0 rfl) ?_
  refine lv_iload (pc := 827) hx hb dL_law_827 (lv_at hl 4 rfl) ?_
  refine lv_iconst (pc := 829) (v := 1) hx hb dL_law_829 (by decide) ?_
  refine lv_iadd (pc := 830) hx hb dL_law_830 ?_
  refine va_sld (pc := 831) hx hb hX hbl hbA hS (lw_in (j := 1) (by omega) hL rfl) dL_law_831 ?_
  refine lv_aload_n (pc := 832) hx hb dL_law_832 rfl (lv_at hl 0 rfl) ?_
  refine lv_iload (pc := 833) hx hb dL_law_833 (lv_at hl 4 rfl) ?_
  refine lv_iconst (pc := 835) (v := 2) hx hb dL_law_835 (by decide) ?_
  refine lv_iadd (pc := 836) hx hb dL_law_836 ?_
  refine va_sld (pc := 837) hx hb hX hbl hbA hS (lw_in (j := 2) (by omega) hL rfl) dL_law_837 ?_
  refine lv_aload_n (pc := 838) hx hb dL_law_838 rfl (lv_at hl 3 rfl) ?_
  have hz1 := hS.1
  have hne := cwC hC hW (Or.inl fu.cl)
  refine k_i (pc := 839) (k_SW E hC hN hS hA hl.1 (c_L_part l hlst D tk s.heap.size sa hAD huo H.size g kn hV.ci ((xs (nI i + 1).toNatClampNeg)) ((xs (nI i + 2).toNatClampNeg))) kw_952 kw_953 kw_0 wh_part (n := 4) (by decide +kernel) rfl ⟨⟨rfl, rfl⟩, ⟨Nat.le_of_ble_eq_true rfl, Nat.le_of_ble_eq_true rfl⟩, (by dsimp only [room_1]; omega), (by dsimp only [room_1]; omega)⟩ rfl (Nat.le_of_ble_eq_true rfl) ⟨hW, _, _, fu⟩ dL_law_839) hS (fun q _ w => lwA.ge hAD huo hS.1 q w) hn (fun rk H locs hR hz hk hS => ?_)
  have hM := hM.wrap hC hW fu had hk
  obtain ⟨g1, ox, ov, hW, fu, hw9⟩ := hR
  have hz0 := Nat.le_trans hz0 hz
  refine lv_istore (pc := 842) (lv' := [(5, .int rk), (0, .ref b), (1, .ref (ad 15)), (2, .ref mo), (3, .ref uo), (4, .int (nI i))]) hx hb dL_law_842 hl (by decide) rfl (fun ls hl => ?_)
  refine lv_aload_n (pc := 844) hx hb dL_law_844 rfl (lv_at hl 3 rfl) ?_
  refine lv_aload_n (pc := 845) hx hb dL_law_845 rfl (lv_at hl 1 rfl) ?_
  refine lv_iload (pc := 846) hx hb dL_law_846 (lv_at hl 5 rfl) ?_
  refine lv_iconst (pc := 848) (v := 1) hx hb dL_law_848 (by decide) ?_
  refine lv_iadd (pc := 849) hx hb dL_law_849 ?_
  refine va_sld (pc := 850) hx hb hX hbl hbA hS (lw_in (j := 1) (by omega) hL rfl) dL_law_850 ?_
  refine lv_aload_n (pc := 851) hx hb dL_law_851 rfl (lv_at hl 1 rfl) ?_
  refine lv_iload (pc := 852) hx hb dL_law_852 (lv_at hl 5 rfl) ?_
  refine lv_iconst (pc := 854) (v := 2) hx hb dL_law_854 (by decide) ?_
  refine lv_iadd (pc := 855) hx hb dL_law_855 ?_
  refine va_sld (pc := 856) hx hb hX hbl hbA hS (lw_in (j := 2) (by omega) hL rfl) dL_law_856 ?_
  have hz1 := hS.1
  have t_fu := fu.lt
  have hpl0 := hM.tl
  obtain ⟨fsm, fom⟩ := hM.obj
  have hPs : ∀ q, H.size ≤ q → PL M0 uo q := fun q h => ⟨Nat.le_trans hz0 h, by have := fu.lt; omega⟩
  refine k_i (pc := 857) (k_V E hC hS hA hl.1 (c1.recv hC fom rfl) rfl (c_X5_part l D tk s.heap.size sa H.size (PL M0 uo) hPN hPs mo n9 kn th tt bb eT eB oT oB pk ca rf vs ((xs (nI i + 1).toNatClampNeg)) ((xs (nI i + 2).toNatClampNeg))) kw_1383 kw_1384 kw_1385 kw_5 kw_1386 (n := 2) (by decide +kernel) rfl ⟨⟨rfl, rfl⟩, ⟨Nat.le_of_ble_eq_true rfl, Nat.le_of_ble_eq_true rfl⟩, (by dsimp only [room_1]; omega), (by dsimp only [room_1]; omega)⟩ rfl (Nat.le_of_ble_eq_true rfl) hM dL_law_857) hS (fun q _ w => hPN q w) hn (fun rm_ H locs hR hz hk hS => ?_)
  have hW := hW.kept (fun k hk9 => hk _ (hW k hk9).lt (fun z9 => Nat.not_le.mpr (had k hk9) z9.1))
  have fu := fu.kept (hk _ fu.lt (fun z9 => z9.2 rfl))
  obtain ⟨th1, hM, hm9⟩ := hR
  obtain ⟨e_th, e_n, hV⟩ := l_part hV hw9 hm9
  have hz0 := Nat.le_trans hz0 hz
  refine lv_istore (pc := 860) (lv' := [(6, .int rm_), (5, .int rk), (0, .ref b), (1, .ref (ad 15)), (2, .ref mo), (3, .ref uo), (4, .int (nI i))]) hx hb dL_law_860 hl (by decide) rfl (fun ls hl => ?_)
  refine lv_goto (pc := 862) (tgt := 1813) hx hb dL_law_862 (by decide) ?_
  refine W.widen (k := cells + 7000) (n := slots + 101000) (by omega) (by omega) ?_
  exact K _ _ _ hz0 hS ⟨_, _, _, _, _, _, _, _, _, _, _, _, _, _, _, _, hV, hW, fu, hM⟩ (lv_sub hl [2, 3, 4, 5, 6] rfl)
set_option maxHeartbeats 4000000 in
set_option maxRecDepth 100000 in
theorem lc_14 {p : Program} {l : Launch} {e : Env} {s : State} {m : MethodId} {below : List Frame} {meth : Method} {c : Code} {Q : State → Prop} {D : va_G} {tk : Nat → ClassId} {sa ad : Nat → Nat} {b L uo mo M0 : Nat} {xs : Nat → Int32} {w0 : Cond} (hlst : l.stackTraces = false) (E : CallFix p m c cL_law 7 s #[.ref b] (w0 :: GW) "BestratiosLaw") (hr : meth.sig.returnType = some .boolean) (hC : Ctx D tk s.heap.size sa s) (hN : NCx s) (hX : va_X b L xs s s.heap) (hbl : b < s.heap.size) (hAD : ADok s.heap.size ad) (huo : s.heap.size ≤ uo) (hM0 : s.heap.size ≤ M0) (had : ∀ k, k < 22 → ad k < M0) (hL : L ≤ 320) {i : Nat} (hi : i + 5 ≤ L) {cells slots : Nat} {H : Heap} {locs : List Loc} {ls : Array Slot} (hc9 : cells + 7000 ≤ 844753) (hs9 : slots + 101000 ≤ 6567222) (hz0 : M0 ≤ H.size) (hS : va_S (NA s.heap.size) s.heap H locs) (hB : LR D tk sa ad uo mo (PL M0 uo) H) (hl : lv_has ls 7 [(0, .ref b), (1, .ref (ad 15)), (2, .ref mo), (3, .ref uo), (4, .int (nI i))])
    (K : ∀ (H1 : Heap) (locs1 : List Loc) (ls1 : Array Slot), M0 ≤ H1.size → va_S (NA s.heap.size) s.heap H1 locs1 → LR D tk sa ad uo mo (PL M0 uo) H1 → lv_has ls1 7 [(0, .ref b), (1, .ref (ad 15)), (2, .ref mo), (3, .ref uo), (4, .int (nI i))] → W p l e room_1 s m #[.ref b] below meth c H1 locs1 (cells + 7000) (slots + 101000) Q (F0 m 1813 ls1 [])) : W p l e room_1 s m #[.ref b] below meth c H locs cells slots Q (F0 m 865 ls []) := by
  obtain ⟨hx, hb, -⟩ := id E
  have hbA : ¬ NA s.heap.size b := Nat.not_le.mpr hbl
  have hA : ∀ q, NA s.heap.size q → s.heap.size ≤ q := fun q h => h
  have hn : ∀ q, s.heap.size ≤ q → NA s.heap.size q := fun q h => h
  have hPN : ∀ q, PL M0 uo q → s.heap.size ≤ q := fun q h => Nat.le_trans hM0 h.1
  obtain ⟨g, kn, tt, bb, eT, eB, oT, oB, pk, ca, rf, vs, n9, th, ox, ov, hV, hW, fu, hM⟩ := hB
  refine lv_aload_n (pc := 865) hx hb dL_law_865 rfl (lv_at hl 1 rfl) ?_
  refine lv_aload_n (pc := 866) hx hb dL_law_866 rfl (lv_at hl 0 rfl) ?_
  refine lv_iload (pc := 867) hx hb dL_law_867 (lv_at hl 4 rfl) ?_
  refine lv_iconst (pc := 869) (v := 1) hx hb dL_law_869 (by decide) ?_
  refine lv_iadd (pc := 870) hx hb dL_law_870 ?_
  refine va_sld (pc := 871) hx hb hX hbl hbA hS (lw_in (j := 1) (by omega) hL rfl) dL_law_871 ?_
  refine lv_aload_n (pc := 872) hx hb dL_law_872 rfl (lv_at hl 0 rfl) ?_
  refine lv_iload (pc := 873) hx hb dL_law_873 (lv_at hl 4 rfl) ?_
  refine lv_iconst (pc := 875) (v := 2) hx hb dL_law_875 (by decide) ?_
  refine lv_iadd (pc := 876) hx hb dL_law_876 ?_
  refine va_sld (pc := 877) hx hb hX hbl hbA hS (lw_in (j := 2) (by omega) hL rfl) dL_law_877 ?_
  refine lv_aload_n (pc := 878) hx hb dL_law_878 rfl (lv_at hl 3 rfl) ?_
  have hz1 := hS.1
  have hne := cwC hC hW (Or.inl fu.cl)
  refine k_i (pc := 879) (k_SW E hC hN hS hA hl.1 (c_L_compare l hlst D tk s.heap.size sa hAD huo H.size g kn hV.ci ((xs (nI i + 1).toNatClampNeg)) ((xs (nI i + 2).toNatClampNeg))) kw_959 kw_960 kw_0 wh_compare (n := 4) (by decide +kernel) rfl ⟨⟨rfl, rfl⟩, ⟨Nat.le_of_ble_eq_true rfl, Nat.le_of_ble_eq_true rfl⟩, (by dsimp only [room_1]; omega), (by dsimp only [room_1]; omega)⟩ rfl (Nat.le_of_ble_eq_true rfl) ⟨hW, _, _, fu⟩ dL_law_879) hS (fun q _ w => lwA.ge hAD huo hS.1 q w) hn (fun rk H locs hR hz hk hS => ?_)
  have hM := hM.wrap hC hW fu had hk
  obtain ⟨g1, ox, ov, hW, fu, hw9⟩ := hR
  have hz0 := Nat.le_trans hz0 hz
  refine lv_istore (pc := 882) (lv' := [(5, .int rk), (0, .ref b), (1, .ref (ad 15)), (2, .ref mo), (3, .ref uo), (4, .int (nI i))]) hx hb dL_law_882 hl (by decide) rfl (fun ls hl => ?_)
  refine lv_aload_n (pc := 884) hx hb dL_law_884 rfl (lv_at hl 3 rfl) ?_
  refine lv_aload_n (pc := 885) hx hb dL_law_885 rfl (lv_at hl 1 rfl) ?_
  refine lv_iload (pc := 886) hx hb dL_law_886 (lv_at hl 5 rfl) ?_
  refine lv_iconst (pc := 888) (v := 1) hx hb dL_law_888 (by decide) ?_
  refine lv_iadd (pc := 889) hx hb dL_law_889 ?_
  refine va_sld (pc := 890) hx hb hX hbl hbA hS (lw_in (j := 1) (by omega) hL rfl) dL_law_890 ?_
  refine lv_aload_n (pc := 891) hx hb dL_law_891 rfl (lv_at hl 1 rfl) ?_
  refine lv_iload (pc := 892) hx hb dL_law_892 (lv_at hl 5 rfl) ?_
  refine lv_iconst (pc := 894) (v := 2) hx hb dL_law_894 (by decide) ?_
  refine lv_iadd (pc := 895) hx hb dL_law_895 ?_
  refine va_sld (pc := 896) hx hb hX hbl hbA hS (lw_in (j := 2) (by omega) hL rfl) dL_law_896 ?_
  have hz1 := hS.1
  have t_fu := fu.lt
  have hpl0 := hM.tl
  obtain ⟨fsm, fom⟩ := hM.obj
  have hPs : ∀ q, H.size ≤ q → PL M0 uo q := fun q h => ⟨Nat.le_trans hz0 h, by have := fu.lt; omega⟩
  refine k_i (pc := 897) (k_V E hC hS hA hl.1 (c1.recv hC fom rfl) rfl (c_X5_compare l D tk s.heap.size sa H.size (PL M0 uo) hPN hPs mo n9 kn th tt bb eT eB oT oB pk ca rf vs ((xs (nI i + 1).toNatClampNeg)) ((xs (nI i + 2).toNatClampNeg))) kw_1395 kw_1396 kw_1397 kw_5 kw_1398 (n := 2) (by decide +kernel) rfl ⟨⟨rfl, rfl⟩, ⟨Nat.le_of_ble_eq_true rfl, Nat.le_of_ble_eq_true rfl⟩, (by dsimp only [room_1]; omega), (by dsimp only [room_1]; omega)⟩ rfl (Nat.le_of_ble_eq_true rfl) hM dL_law_897) hS (fun q _ w => hPN q w) hn (fun rm_ H locs hR hz hk hS => ?_)
  have hW := hW.kept (fun k hk9 => hk _ (hW k hk9).lt (fun z9 => Nat.not_le.mpr (had k hk9) z9.1))
  have fu := fu.kept (hk _ fu.lt (fun z9 => z9.2 rfl))
  obtain ⟨th1, hM, hm9⟩ := hR
  obtain ⟨e_th, e_n, hV⟩ := l_compare hV hw9 hm9
  have hz0 := Nat.le_trans hz0 hz
  refine lv_istore (pc := 900) (lv' := [(6, .int rm_), (5, .int rk), (0, .ref b), (1, .ref (ad 15)), (2, .ref mo), (3, .ref uo), (4, .int (nI i))]) hx hb dL_law_900 hl (by decide) rfl (fun ls hl => ?_)
  refine lv_goto (pc := 902) (tgt := 1813) hx hb dL_law_902 (by decide) ?_
  refine W.widen (k := cells + 7000) (n := slots + 101000) (by omega) (by omega) ?_
  exact K _ _ _ hz0 hS ⟨_, _, _, _, _, _, _, _, _, _, _, _, _, _, _, _, hV, hW, fu, hM⟩ (lv_sub hl [2, 3, 4, 5, 6] rfl)
set_option maxHeartbeats 4000000 in
set_option maxRecDepth 100000 in
theorem lc_15 {p : Program} {l : Launch} {e : Env} {s : State} {m : MethodId} {below : List Frame} {meth : Method} {c : Code} {Q : State → Prop} {D : va_G} {tk : Nat → ClassId} {sa ad : Nat → Nat} {b L uo mo M0 : Nat} {xs : Nat → Int32} {w0 : Cond} (hlst : l.stackTraces = false) (E : CallFix p m c cL_law 7 s #[.ref b] (w0 :: GW) "BestratiosLaw") (hr : meth.sig.returnType = some .boolean) (hC : Ctx D tk s.heap.size sa s) (hN : NCx s) (hX : va_X b L xs s s.heap) (hbl : b < s.heap.size) (hAD : ADok s.heap.size ad) (huo : s.heap.size ≤ uo) (hM0 : s.heap.size ≤ M0) (had : ∀ k, k < 22 → ad k < M0) (hL : L ≤ 320) {i : Nat} (hi : i + 5 ≤ L) {cells slots : Nat} {H : Heap} {locs : List Loc} {ls : Array Slot} (hc9 : cells + 7000 ≤ 844753) (hs9 : slots + 101000 ≤ 6567222) (hz0 : M0 ≤ H.size) (hS : va_S (NA s.heap.size) s.heap H locs) (hB : LR D tk sa ad uo mo (PL M0 uo) H) (hl : lv_has ls 7 [(0, .ref b), (1, .ref (ad 15)), (2, .ref mo), (3, .ref uo), (4, .int (nI i))])
    (K : ∀ (H1 : Heap) (locs1 : List Loc) (ls1 : Array Slot), M0 ≤ H1.size → va_S (NA s.heap.size) s.heap H1 locs1 → LR D tk sa ad uo mo (PL M0 uo) H1 → lv_has ls1 7 [(0, .ref b), (1, .ref (ad 15)), (2, .ref mo), (3, .ref uo), (4, .int (nI i))] → W p l e room_1 s m #[.ref b] below meth c H1 locs1 (cells + 7000) (slots + 101000) Q (F0 m 1813 ls1 [])) : W p l e room_1 s m #[.ref b] below meth c H locs cells slots Q (F0 m 905 ls []) := by
  obtain ⟨hx, hb, -⟩ := id E
  have hbA : ¬ NA s.heap.size b := Nat.not_le.mpr hbl
  have hA : ∀ q, NA s.heap.size q → s.heap.size ≤ q := fun q h => h
  have hn : ∀ q, s.heap.size ≤ q → NA s.heap.size q := fun q h => h
  have hPN : ∀ q, PL M0 uo q → s.heap.size ≤ q := fun q h => Nat.le_trans hM0 h.1
  obtain ⟨g, kn, tt, bb, eT, eB, oT, oB, pk, ca, rf, vs, n9, th, ox, ov, hV, hW, fu, hM⟩ := hB
  refine lv_aload_n (pc := 905) hx hb dL_law_905 rfl (lv_at hl 1 rfl) ?_
  refine lv_aload_n (pc := 906) hx hb dL_law_906 rfl (lv_at hl 0 rfl) ?_
  refine lv_iload (pc := 907) hx hb dL_law_907 (lv_at hl 4 rfl) ?_
  refine lv_iconst (pc := 909) (v := 1) hx hb dL_law_909 (by decide) ?_
  refine lv_iadd (pc := 910) hx hb dL_law_910 ?_
  refine va_sld (pc := 911) hx hb hX hbl hbA hS (lw_in (j := 1) (by omega) hL rfl) dL_law_911 ?_
  refine lv_aload_n (pc := 912) hx hb dL_law_912 rfl (lv_at hl 0 rfl) ?_
  refine lv_iload (pc := 913) hx hb dL_law_913 (lv_at hl 4 rfl) ?_
  refine lv_iconst (pc := 915) (v := 2) hx hb dL_law_915 (by decide) ?_
  refine lv_iadd (pc := 916) hx hb dL_law_916 ?_
  refine va_sld (pc := 917) hx hb hX hbl hbA hS (lw_in (j := 2) (by omega) hL rfl) dL_law_917 ?_
  refine lv_aload_n (pc := 918) hx hb dL_law_918 rfl (lv_at hl 3 rfl) ?_
  have hz1 := hS.1
  have hne := cwC hC hW (Or.inl fu.cl)
  refine k_i (pc := 919) (k_SW E hC hN hS hA hl.1 (c_L_areNext l hlst D tk s.heap.size sa hAD huo H.size g kn hV.ci ((xs (nI i + 1).toNatClampNeg)) ((xs (nI i + 2).toNatClampNeg))) kw_966 kw_967 kw_0 wh_areNext (n := 4) (by decide +kernel) rfl ⟨⟨rfl, rfl⟩, ⟨Nat.le_of_ble_eq_true rfl, Nat.le_of_ble_eq_true rfl⟩, (by dsimp only [room_1]; omega), (by dsimp only [room_1]; omega)⟩ rfl (Nat.le_of_ble_eq_true rfl) ⟨hW, _, _, fu⟩ dL_law_919) hS (fun q _ w => lwA.ge hAD huo hS.1 q w) hn (fun rk H locs hR hz hk hS => ?_)
  have hM := hM.wrap hC hW fu had hk
  obtain ⟨g1, ox, ov, hW, fu, hw9⟩ := hR
  have hz0 := Nat.le_trans hz0 hz
  refine lv_istore (pc := 922) (lv' := [(5, .int rk), (0, .ref b), (1, .ref (ad 15)), (2, .ref mo), (3, .ref uo), (4, .int (nI i))]) hx hb dL_law_922 hl (by decide) rfl (fun ls hl => ?_)
  refine lv_aload_n (pc := 924) hx hb dL_law_924 rfl (lv_at hl 3 rfl) ?_
  refine lv_aload_n (pc := 925) hx hb dL_law_925 rfl (lv_at hl 1 rfl) ?_
  refine lv_iload (pc := 926) hx hb dL_law_926 (lv_at hl 5 rfl) ?_
  refine lv_iconst (pc := 928) (v := 1) hx hb dL_law_928 (by decide) ?_
  refine lv_iadd (pc := 929) hx hb dL_law_929 ?_
  refine va_sld (pc := 930) hx hb hX hbl hbA hS (lw_in (j := 1) (by omega) hL rfl) dL_law_930 ?_
  refine lv_aload_n (pc := 931) hx hb dL_law_931 rfl (lv_at hl 1 rfl) ?_
  refine lv_iload (pc := 932) hx hb dL_law_932 (lv_at hl 5 rfl) ?_
  refine lv_iconst (pc := 934) (v := 2) hx hb dL_law_934 (by decide) ?_
  refine lv_iadd (pc := 935) hx hb dL_law_935 ?_
  refine va_sld (pc := 936) hx hb hX hbl hbA hS (lw_in (j := 2) (by omega) hL rfl) dL_law_936 ?_
  have hz1 := hS.1
  have t_fu := fu.lt
  have hpl0 := hM.tl
  obtain ⟨fsm, fom⟩ := hM.obj
  have hPs : ∀ q, H.size ≤ q → PL M0 uo q := fun q h => ⟨Nat.le_trans hz0 h, by have := fu.lt; omega⟩
  refine k_i (pc := 937) (k_V E hC hS hA hl.1 (c1.recv hC fom rfl) rfl (c_X5_areNext l D tk s.heap.size sa H.size (PL M0 uo) hPN hPs mo n9 kn th tt bb eT eB oT oB pk ca rf vs ((xs (nI i + 1).toNatClampNeg)) ((xs (nI i + 2).toNatClampNeg))) kw_1399 kw_1400 kw_1401 kw_5 kw_1402 (n := 2) (by decide +kernel) rfl ⟨⟨rfl, rfl⟩, ⟨Nat.le_of_ble_eq_true rfl, Nat.le_of_ble_eq_true rfl⟩, (by dsimp only [room_1]; omega), (by dsimp only [room_1]; omega)⟩ rfl (Nat.le_of_ble_eq_true rfl) hM dL_law_937) hS (fun q _ w => hPN q w) hn (fun rm_ H locs hR hz hk hS => ?_)
  have hW := hW.kept (fun k hk9 => hk _ (hW k hk9).lt (fun z9 => Nat.not_le.mpr (had k hk9) z9.1))
  have fu := fu.kept (hk _ fu.lt (fun z9 => z9.2 rfl))
  obtain ⟨th1, hM, hm9⟩ := hR
  obtain ⟨e_th, e_n, hV⟩ := l_areNext hV hw9 hm9
  have hz0 := Nat.le_trans hz0 hz
  refine lv_istore (pc := 940) (lv' := [(6, .int rm_), (5, .int rk), (0, .ref b), (1, .ref (ad 15)), (2, .ref mo), (3, .ref uo), (4, .int (nI i))]) hx hb dL_law_940 hl (by decide) rfl (fun ls hl => ?_)
  refine lv_goto (pc := 942) (tgt := 1813) hx hb dL_law_942 (by decide) ?_
  refine W.widen (k := cells + 7000) (n := slots + 101000) (by omega) (by omega) ?_
  exact K _ _ _ hz0 hS ⟨_, _, _, _, _, _, _, _, _, _, _, _, _, _, _, _, hV, hW, fu, hM⟩ (lv_sub hl [2, 3, 4, 5, 6] rfl)
set_option maxHeartbeats 4000000 in
set_option maxRecDepth 100000 in
theorem lc_16 {p : Program} {l : Launch} {e : Env} {s : State} {m : MethodId} {below : List Frame} {meth : Method} {c : Code} {Q : State → Prop} {D : va_G} {tk : Nat → ClassId} {sa ad : Nat → Nat} {b L uo mo M0 : Nat} {xs : Nat → Int32} {w0 : Cond} (hlst : l.stackTraces = false) (E : CallFix p m c cL_law 7 s #[.ref b] (w0 :: GW) "BestratiosLaw") (hr : meth.sig.returnType = some .boolean) (hC : Ctx D tk s.heap.size sa s) (hN : NCx s) (hX : va_X b L xs s s.heap) (hbl : b < s.heap.size) (hAD : ADok s.heap.size ad) (huo : s.heap.size ≤ uo) (hM0 : s.heap.size ≤ M0) (had : ∀ k, k < 22 → ad k < M0) (hL : L ≤ 320) {i : Nat} (hi : i + 5 ≤ L) {cells slots : Nat} {H : Heap} {locs : List Loc} {ls : Array Slot} (hc9 : cells + 7000 ≤ 844753) (hs9 : slots + 101000 ≤ 6567222) (hz0 : M0 ≤ H.size) (hS : va_S (NA s.heap.size) s.heap H locs) (hB : LR D tk sa ad uo mo (PL M0 uo) H) (hl : lv_has ls 7 [(0, .ref b), (1, .ref (ad 15)), (2, .ref mo), (3, .ref uo), (4, .int (nI i))])
    (K : ∀ (H1 : Heap) (locs1 : List Loc) (ls1 : Array Slot), M0 ≤ H1.size → va_S (NA s.heap.size) s.heap H1 locs1 → LR D tk sa ad uo mo (PL M0 uo) H1 → lv_has ls1 7 [(0, .ref b), (1, .ref (ad 15)), (2, .ref mo), (3, .ref uo), (4, .int (nI i))] → W p l e room_1 s m #[.ref b] below meth c H1 locs1 (cells + 7000) (slots + 101000) Q (F0 m 1813 ls1 [])) : W p l e room_1 s m #[.ref b] below meth c H locs cells slots Q (F0 m 945 ls []) := by
  obtain ⟨hx, hb, -⟩ := id E
  have hbA : ¬ NA s.heap.size b := Nat.not_le.mpr hbl
  have hA : ∀ q, NA s.heap.size q → s.heap.size ≤ q := fun q h => h
  have hn : ∀ q, s.heap.size ≤ q → NA s.heap.size q := fun q h => h
  have hPN : ∀ q, PL M0 uo q → s.heap.size ≤ q := fun q h => Nat.le_trans hM0 h.1
  obtain ⟨g, kn, tt, bb, eT, eB, oT, oB, pk, ca, rf, vs, n9, th, ox, ov, hV, hW, fu, hM⟩ := hB
  refine lv_aload_n (pc := 945) hx hb dL_law_945 rfl (lv_at hl 1 rfl) ?_
  refine lv_aload_n (pc := 946) hx hb dL_law_946 rfl (lv_at hl 0 rfl) ?_
  refine lv_iload (pc := 947) hx hb dL_law_947 (lv_at hl 4 rfl) ?_
  refine lv_iconst (pc := 949) (v := 1) hx hb dL_law_949 (by decide) ?_
  refine lv_iadd (pc := 950) hx hb dL_law_950 ?_
  refine va_sld (pc := 951) hx hb hX hbl hbA hS (lw_in (j := 1) (by omega) hL rfl) dL_law_951 ?_
  refine lv_aload_n (pc := 952) hx hb dL_law_952 rfl (lv_at hl 3 rfl) ?_
  have hz1 := hS.1
  have hne := cwC hC hW (Or.inl fu.cl)
  refine k_i (pc := 953) (k_SW E hC hN hS hA hl.1 (c_L_terms l hlst D tk s.heap.size sa hAD huo H.size g kn hV.ci ((xs (nI i + 1).toNatClampNeg))) kw_973 kw_974 kw_0 wh_terms (n := 3) (by decide +kernel) rfl ⟨⟨rfl, rfl⟩, ⟨Nat.le_of_ble_eq_true rfl, Nat.le_of_ble_eq_true rfl⟩, (by dsimp only [room_1]; omega), (by dsimp only [room_1]; omega)⟩ rfl (Nat.le_of_ble_eq_true rfl) ⟨hW, _, _, fu⟩ dL_law_953) hS (fun q _ w => lwA.ge hAD huo hS.1 q w) hn (fun rk H locs hR hz hk hS => ?_)
  have hM := hM.wrap hC hW fu had hk
  obtain ⟨g1, ox, ov, hW, fu, hw9⟩ := hR
  have hz0 := Nat.le_trans hz0 hz
  refine lv_istore (pc := 956) (lv' := [(5, .int rk), (0, .ref b), (1, .ref (ad 15)), (2, .ref mo), (3, .ref uo), (4, .int (nI i))]) hx hb dL_law_956 hl (by decide) rfl (fun ls hl => ?_)
  refine lv_aload_n (pc := 958) hx hb dL_law_958 rfl (lv_at hl 3 rfl) ?_
  refine lv_aload_n (pc := 959) hx hb dL_law_959 rfl (lv_at hl 1 rfl) ?_
  refine lv_iload (pc := 960) hx hb dL_law_960 (lv_at hl 5 rfl) ?_
  refine lv_iconst (pc := 962) (v := 1) hx hb dL_law_962 (by decide) ?_
  refine lv_iadd (pc := 963) hx hb dL_law_963 ?_
  refine va_sld (pc := 964) hx hb hX hbl hbA hS (lw_in (j := 1) (by omega) hL rfl) dL_law_964 ?_
  have hz1 := hS.1
  have t_fu := fu.lt
  have hpl0 := hM.tl
  obtain ⟨fsm, fom⟩ := hM.obj
  have hPs : ∀ q, H.size ≤ q → PL M0 uo q := fun q h => ⟨Nat.le_trans hz0 h, by have := fu.lt; omega⟩
  refine k_r (pc := 965) (k_V E hC hS hA hl.1 (c1.recv hC fom rfl) rfl (c_X5_terms l D tk s.heap.size sa H.size (PL M0 uo) hPN hPs mo n9 kn th tt bb eT eB oT oB pk ca rf vs ((xs (nI i + 1).toNatClampNeg))) kw_1407 kw_1408 kw_1409 kw_5 kw_1410 (n := 1) (by decide +kernel) rfl ⟨⟨rfl, rfl⟩, ⟨Nat.le_of_ble_eq_true rfl, Nat.le_of_ble_eq_true rfl⟩, (by dsimp only [room_1]; omega), (by dsimp only [room_1]; omega)⟩ rfl (Nat.le_of_ble_eq_true rfl) hM dL_law_965) hS (fun q _ w => hPN q w) hn (fun rm_ H locs hR hz hk hS => ?_)
  have hW := hW.kept (fun k hk9 => hk _ (hW k hk9).lt (fun z9 => Nat.not_le.mpr (had k hk9) z9.1))
  have fu := fu.kept (hk _ fu.lt (fun z9 => z9.2 rfl))
  obtain ⟨th1, hM⟩ := hR
  have hV := l_txt hV (fun _ => lz_apt g _) hw9
  have hz0 := Nat.le_trans hz0 hz
  refine lv_astore (pc := 968) (lv' := [(6, .ref rm_), (5, .int rk), (0, .ref b), (1, .ref (ad 15)), (2, .ref mo), (3, .ref uo), (4, .int (nI i))]) hx hb dL_law_968 hl (by decide) rfl (fun ls hl => ?_)
  refine lv_goto (pc := 970) (tgt := 1813) hx hb dL_law_970 (by decide) ?_
  refine W.widen (k := cells + 7000) (n := slots + 101000) (by omega) (by omega) ?_
  exact K _ _ _ hz0 hS ⟨_, _, _, _, _, _, _, _, _, _, _, _, _, _, _, _, hV, hW, fu, hM⟩ (lv_sub hl [2, 3, 4, 5, 6] rfl)
set_option maxHeartbeats 4000000 in
set_option maxRecDepth 100000 in
theorem lc_17 {p : Program} {l : Launch} {e : Env} {s : State} {m : MethodId} {below : List Frame} {meth : Method} {c : Code} {Q : State → Prop} {D : va_G} {tk : Nat → ClassId} {sa ad : Nat → Nat} {b L uo mo M0 : Nat} {xs : Nat → Int32} {w0 : Cond} (hlst : l.stackTraces = false) (E : CallFix p m c cL_law 7 s #[.ref b] (w0 :: GW) "BestratiosLaw") (hr : meth.sig.returnType = some .boolean) (hC : Ctx D tk s.heap.size sa s) (hN : NCx s) (hX : va_X b L xs s s.heap) (hbl : b < s.heap.size) (hAD : ADok s.heap.size ad) (huo : s.heap.size ≤ uo) (hM0 : s.heap.size ≤ M0) (had : ∀ k, k < 22 → ad k < M0) (hL : L ≤ 320) {i : Nat} (hi : i + 5 ≤ L) {cells slots : Nat} {H : Heap} {locs : List Loc} {ls : Array Slot} (hc9 : cells + 7000 ≤ 844753) (hs9 : slots + 101000 ≤ 6567222) (hz0 : M0 ≤ H.size) (hS : va_S (NA s.heap.size) s.heap H locs) (hB : LR D tk sa ad uo mo (PL M0 uo) H) (hl : lv_has ls 7 [(0, .ref b), (1, .ref (ad 15)), (2, .ref mo), (3, .ref uo), (4, .int (nI i))])
    (K : ∀ (H1 : Heap) (locs1 : List Loc) (ls1 : Array Slot), M0 ≤ H1.size → va_S (NA s.heap.size) s.heap H1 locs1 → LR D tk sa ad uo mo (PL M0 uo) H1 → lv_has ls1 7 [(0, .ref b), (1, .ref (ad 15)), (2, .ref mo), (3, .ref uo), (4, .int (nI i))] → W p l e room_1 s m #[.ref b] below meth c H1 locs1 (cells + 7000) (slots + 101000) Q (F0 m 1813 ls1 [])) : W p l e room_1 s m #[.ref b] below meth c H locs cells slots Q (F0 m 973 ls []) := by
  obtain ⟨hx, hb, -⟩ := id E
  have hbA : ¬ NA s.heap.size b := Nat.not_le.mpr hbl
  have hA : ∀ q, NA s.heap.size q → s.heap.size ≤ q := fun q h => h
  have hn : ∀ q, s.heap.size ≤ q → NA s.heap.size q := fun q h => h
  have hPN : ∀ q, PL M0 uo q → s.heap.size ≤ q := fun q h => Nat.le_trans hM0 h.1
  obtain ⟨g, kn, tt, bb, eT, eB, oT, oB, pk, ca, rf, vs, n9, th, ox, ov, hV, hW, fu, hM⟩ := hB
  refine lv_aload_n (pc := 973) hx hb dL_law_973 rfl (lv_at hl 1 rfl) ?_
  refine lv_aload_n (pc := 974) hx hb dL_law_974 rfl (lv_at hl 0 rfl) ?_
  refine lv_iload (pc := 975) hx hb dL_law_975 (lv_at hl 4 rfl) ?_
  refine lv_iconst (pc := 977) (v := 1) hx hb dL_law_977 (by decide) ?_
  refine lv_iadd (pc := 978) hx hb dL_law_978 ?_
  refine va_sld (pc := 979) hx hb hX hbl hbA hS (lw_in (j := 1) (by omega) hL rfl) dL_law_979 ?_
  refine lv_aload_n (pc := 980) hx hb dL_law_980 rfl (lv_at hl 0 rfl) ?_
  refine lv_iload (pc := 981) hx hb dL_law_981 (lv_at hl 4 rfl) ?_
  refine lv_iconst (pc := 983) (v := 2) hx hb dL_law_983 (by decide) ?_
  refine lv_iadd (pc := 984) hx hb dL_law_984 ?_
  refine va_sld (pc := 985) hx hb hX hbl hbA hS (lw_in (j := 2) (by omega) hL rfl) dL_law_985 ?_
  refine lv_aload_n (pc := 986) hx hb dL_law_986 rfl (lv_at hl 3 rfl) ?_
  have hz1 := hS.1
  have hne := cwC hC hW (Or.inl fu.cl)
  refine k_i (pc := 987) (k_SW E hC hN hS hA hl.1 (c_L_term l hlst D tk s.heap.size sa hAD huo H.size g kn hV.ci ((xs (nI i + 1).toNatClampNeg)) ((xs (nI i + 2).toNatClampNeg))) kw_980 kw_981 kw_0 wh_term (n := 4) (by decide +kernel) rfl ⟨⟨rfl, rfl⟩, ⟨Nat.le_of_ble_eq_true rfl, Nat.le_of_ble_eq_true rfl⟩, (by dsimp only [room_1]; omega), (by dsimp only [room_1]; omega)⟩ rfl (Nat.le_of_ble_eq_true rfl) ⟨hW, _, _, fu⟩ dL_law_987) hS (fun q _ w => lwA.ge hAD huo hS.1 q w) hn (fun rk H locs hR hz hk hS => ?_)
  have hM := hM.wrap hC hW fu had hk
  obtain ⟨g1, ox, ov, hW, fu, hw9⟩ := hR
  have hz0 := Nat.le_trans hz0 hz
  refine lv_istore (pc := 990) (lv' := [(5, .int rk), (0, .ref b), (1, .ref (ad 15)), (2, .ref mo), (3, .ref uo), (4, .int (nI i))]) hx hb dL_law_990 hl (by decide) rfl (fun ls hl => ?_)
  refine lv_aload_n (pc := 992) hx hb dL_law_992 rfl (lv_at hl 3 rfl) ?_
  refine lv_aload_n (pc := 993) hx hb dL_law_993 rfl (lv_at hl 1 rfl) ?_
  refine lv_iload (pc := 994) hx hb dL_law_994 (lv_at hl 5 rfl) ?_
  refine lv_iconst (pc := 996) (v := 1) hx hb dL_law_996 (by decide) ?_
  refine lv_iadd (pc := 997) hx hb dL_law_997 ?_
  refine va_sld (pc := 998) hx hb hX hbl hbA hS (lw_in (j := 1) (by omega) hL rfl) dL_law_998 ?_
  refine lv_aload_n (pc := 999) hx hb dL_law_999 rfl (lv_at hl 1 rfl) ?_
  refine lv_iload (pc := 1000) hx hb dL_law_1000 (lv_at hl 5 rfl) ?_
  refine lv_iconst (pc := 1002) (v := 2) hx hb dL_law_1002 (by decide) ?_
  refine lv_iadd (pc := 1003) hx hb dL_law_1003 ?_
  refine va_sld (pc := 1004) hx hb hX hbl hbA hS (lw_in (j := 2) (by omega) hL rfl) dL_law_1004 ?_
  have hz1 := hS.1
  have t_fu := fu.lt
  have hpl0 := hM.tl
  obtain ⟨fsm, fom⟩ := hM.obj
  have hPs : ∀ q, H.size ≤ q → PL M0 uo q := fun q h => ⟨Nat.le_trans hz0 h, by have := fu.lt; omega⟩
  refine k_i (pc := 1005) (k_V E hC hS hA hl.1 (c1.recv hC fom rfl) rfl (c_X5_term l D tk s.heap.size sa H.size (PL M0 uo) hPN hPs mo n9 kn th tt bb eT eB oT oB pk ca rf vs ((xs (nI i + 1).toNatClampNeg)) ((xs (nI i + 2).toNatClampNeg))) kw_1542 kw_1543 kw_1544 kw_5 kw_1545 (n := 2) (by decide +kernel) rfl ⟨⟨rfl, rfl⟩, ⟨Nat.le_of_ble_eq_true rfl, Nat.le_of_ble_eq_true rfl⟩, (by dsimp only [room_1]; omega), (by dsimp only [room_1]; omega)⟩ rfl (Nat.le_of_ble_eq_true rfl) hM dL_law_1005) hS (fun q _ w => hPN q w) hn (fun rm_ H locs hR hz hk hS => ?_)
  have hW := hW.kept (fun k hk9 => hk _ (hW k hk9).lt (fun z9 => Nat.not_le.mpr (had k hk9) z9.1))
  have fu := fu.kept (hk _ fu.lt (fun z9 => z9.2 rfl))
  obtain ⟨th1, hM, hm9⟩ := hR
  obtain ⟨e_th, e_n, hV⟩ := l_term hV hw9 hm9
  have hz0 := Nat.le_trans hz0 hz
  refine lv_istore (pc := 1008) (lv' := [(6, .int rm_), (5, .int rk), (0, .ref b), (1, .ref (ad 15)), (2, .ref mo), (3, .ref uo), (4, .int (nI i))]) hx hb dL_law_1008 hl (by decide) rfl (fun ls hl => ?_)
  refine lv_goto (pc := 1010) (tgt := 1813) hx hb dL_law_1010 (by decide) ?_
  refine W.widen (k := cells + 7000) (n := slots + 101000) (by omega) (by omega) ?_
  exact K _ _ _ hz0 hS ⟨_, _, _, _, _, _, _, _, _, _, _, _, _, _, _, _, hV, hW, fu, hM⟩ (lv_sub hl [2, 3, 4, 5, 6] rfl)
set_option maxHeartbeats 4000000 in
set_option maxRecDepth 100000 in
theorem lc_18 {p : Program} {l : Launch} {e : Env} {s : State} {m : MethodId} {below : List Frame} {meth : Method} {c : Code} {Q : State → Prop} {D : va_G} {tk : Nat → ClassId} {sa ad : Nat → Nat} {b L uo mo M0 : Nat} {xs : Nat → Int32} {w0 : Cond} (hlst : l.stackTraces = false) (E : CallFix p m c cL_law 7 s #[.ref b] (w0 :: GW) "BestratiosLaw") (hr : meth.sig.returnType = some .boolean) (hC : Ctx D tk s.heap.size sa s) (hN : NCx s) (hX : va_X b L xs s s.heap) (hbl : b < s.heap.size) (hAD : ADok s.heap.size ad) (huo : s.heap.size ≤ uo) (hM0 : s.heap.size ≤ M0) (had : ∀ k, k < 22 → ad k < M0) (hL : L ≤ 320) {i : Nat} (hi : i + 5 ≤ L) {cells slots : Nat} {H : Heap} {locs : List Loc} {ls : Array Slot} (hc9 : cells + 7000 ≤ 844753) (hs9 : slots + 101000 ≤ 6567222) (hz0 : M0 ≤ H.size) (hS : va_S (NA s.heap.size) s.heap H locs) (hB : LR D tk sa ad uo mo (PL M0 uo) H) (hl : lv_has ls 7 [(0, .ref b), (1, .ref (ad 15)), (2, .ref mo), (3, .ref uo), (4, .int (nI i))])
    (K : ∀ (H1 : Heap) (locs1 : List Loc) (ls1 : Array Slot), M0 ≤ H1.size → va_S (NA s.heap.size) s.heap H1 locs1 → LR D tk sa ad uo mo (PL M0 uo) H1 → lv_has ls1 7 [(0, .ref b), (1, .ref (ad 15)), (2, .ref mo), (3, .ref uo), (4, .int (nI i))] → W p l e room_1 s m #[.ref b] below meth c H1 locs1 (cells + 7000) (slots + 101000) Q (F0 m 1813 ls1 [])) : W p l e room_1 s m #[.ref b] below meth c H locs cells slots Q (F0 m 1013 ls []) := by
  obtain ⟨hx, hb, -⟩ := id E
  have hbA : ¬ NA s.heap.size b := Nat.not_le.mpr hbl
  have hA : ∀ q, NA s.heap.size q → s.heap.size ≤ q := fun q h => h
  have hn : ∀ q, s.heap.size ≤ q → NA s.heap.size q := fun q h => h
  have hPN : ∀ q, PL M0 uo q → s.heap.size ≤ q := fun q h => Nat.le_trans hM0 h.1
  obtain ⟨g, kn, tt, bb, eT, eB, oT, oB, pk, ca, rf, vs, n9, th, ox, ov, hV, hW, fu, hM⟩ := hB
  refine lv_aload_n (pc := 1013) hx hb dL_law_1013 rfl (lv_at hl 1 rfl) ?_
  refine lv_aload_n (pc := 1014) hx hb dL_law_1014 rfl (lv_at hl 0 rfl) ?_
  refine lv_iload (pc := 1015) hx hb dL_law_1015 (lv_at hl 4 rfl) ?_
  refine lv_iconst (pc := 1017) (v := 1) hx hb dL_law_1017 (by decide) ?_
  refine lv_iadd (pc := 1018) hx hb dL_law_1018 ?_
  refine va_sld (pc := 1019) hx hb hX hbl hbA hS (lw_in (j := 1) (by omega) hL rfl) dL_law_1019 ?_
  refine lv_aload_n (pc := 1020) hx hb dL_law_1020 rfl (lv_at hl 0 rfl) ?_
  refine lv_iload (pc := 1021) hx hb dL_law_1021 (lv_at hl 4 rfl) ?_
  refine lv_iconst (pc := 1023) (v := 2) hx hb dL_law_1023 (by decide) ?_
  refine lv_iadd (pc := 1024) hx hb dL_law_1024 ?_
  refine va_sld (pc := 1025) hx hb hX hbl hbA hS (lw_in (j := 2) (by omega) hL rfl) dL_law_1025 ?_
  refine lv_aload_n (pc := 1026) hx hb dL_law_1026 rfl (lv_at hl 0 rfl) ?_
  refine lv_iload (pc := 1027) hx hb dL_law_1027 (lv_at hl 4 rfl) ?_
  refine lv_iconst (pc := 1029) (v := 3) hx hb dL_law_1029 (by decide) ?_
  refine lv_iadd (pc := 1030) hx hb dL_law_1030 ?_
  refine va_sld (pc := 1031) hx hb hX hbl hbA hS (lw_in (j := 3) (by omega) hL rfl) dL_law_1031 ?_
  refine lv_aload_n (pc := 1032) hx hb dL_law_1032 rfl (lv_at hl 3 rfl) ?_
  have hz1 := hS.1
  have hne := cwC hC hW (Or.inl fu.cl)
  refine k_i (pc := 1033) (k_SW E hC hN hS hA hl.1 (c_L_convergent l hlst D tk s.heap.size sa hAD huo H.size g kn hV.ci ((xs (nI i + 1).toNatClampNeg)) ((xs (nI i + 2).toNatClampNeg)) ((xs (nI i + 3).toNatClampNeg))) kw_991 kw_992 kw_0 wh_convergent (n := 5) (by decide +kernel) rfl ⟨⟨rfl, rfl⟩, ⟨Nat.le_of_ble_eq_true rfl, Nat.le_of_ble_eq_true rfl⟩, (by dsimp only [room_1]; omega), (by dsimp only [room_1]; omega)⟩ rfl (Nat.le_of_ble_eq_true rfl) ⟨hW, _, _, fu⟩ dL_law_1033) hS (fun q _ w => lwA.ge hAD huo hS.1 q w) hn (fun rk H locs hR hz hk hS => ?_)
  have hM := hM.wrap hC hW fu had hk
  obtain ⟨g1, ox, ov, hW, fu, hw9⟩ := hR
  have hz0 := Nat.le_trans hz0 hz
  refine lv_istore (pc := 1036) (lv' := [(5, .int rk), (0, .ref b), (1, .ref (ad 15)), (2, .ref mo), (3, .ref uo), (4, .int (nI i))]) hx hb dL_law_1036 hl (by decide) rfl (fun ls hl => ?_)
  refine lv_aload_n (pc := 1038) hx hb dL_law_1038 rfl (lv_at hl 3 rfl) ?_
  refine lv_aload_n (pc := 1039) hx hb dL_law_1039 rfl (lv_at hl 1 rfl) ?_
  refine lv_iload (pc := 1040) hx hb dL_law_1040 (lv_at hl 5 rfl) ?_
  refine lv_iconst (pc := 1042) (v := 1) hx hb dL_law_1042 (by decide) ?_
  refine lv_iadd (pc := 1043) hx hb dL_law_1043 ?_
  refine va_sld (pc := 1044) hx hb hX hbl hbA hS (lw_in (j := 1) (by omega) hL rfl) dL_law_1044 ?_
  refine lv_aload_n (pc := 1045) hx hb dL_law_1045 rfl (lv_at hl 1 rfl) ?_
  refine lv_iload (pc := 1046) hx hb dL_law_1046 (lv_at hl 5 rfl) ?_
  refine lv_iconst (pc := 1048) (v := 2) hx hb dL_law_1048 (by decide) ?_
  refine lv_iadd (pc := 1049) hx hb dL_law_1049 ?_
  refine va_sld (pc := 1050) hx hb hX hbl hbA hS (lw_in (j := 2) (by omega) hL rfl) dL_law_1050 ?_
  refine lv_aload_n (pc := 1051) hx hb dL_law_1051 rfl (lv_at hl 1 rfl) ?_
  refine lv_iload (pc := 1052) hx hb dL_law_1052 (lv_at hl 5 rfl) ?_
  refine lv_iconst (pc := 1054) (v := 3) hx hb dL_law_1054 (by decide) ?_
  refine lv_iadd (pc := 1055) hx hb dL_law_1055 ?_
  refine va_sld (pc := 1056) hx hb hX hbl hbA hS (lw_in (j := 3) (by omega) hL rfl) dL_law_1056 ?_
  have hz1 := hS.1
  have t_fu := fu.lt
  have hpl0 := hM.tl
  obtain ⟨fsm, fom⟩ := hM.obj
  have hPs : ∀ q, H.size ≤ q → PL M0 uo q := fun q h => ⟨Nat.le_trans hz0 h, by have := fu.lt; omega⟩
  refine k_i (pc := 1057) (k_V E hC hS hA hl.1 (c1.recv hC fom rfl) rfl (c_X5_convergent l D tk s.heap.size sa H.size (PL M0 uo) hPN hPs mo n9 kn th tt bb eT eB oT oB pk ca rf vs ((xs (nI i + 1).toNatClampNeg)) ((xs (nI i + 2).toNatClampNeg)) ((xs (nI i + 3).toNatClampNeg))) kw_1562 kw_1563 kw_1564 kw_5 kw_1565 (n := 3) (by decide +kernel) rfl ⟨⟨rfl, rfl⟩, ⟨Nat.le_of_ble_eq_true rfl, Nat.le_of_ble_eq_true rfl⟩, (by dsimp only [room_1]; omega), (by dsimp only [room_1]; omega)⟩ rfl (Nat.le_of_ble_eq_true rfl) hM dL_law_1057) hS (fun q _ w => hPN q w) hn (fun rm_ H locs hR hz hk hS => ?_)
  have hW := hW.kept (fun k hk9 => hk _ (hW k hk9).lt (fun z9 => Nat.not_le.mpr (had k hk9) z9.1))
  have fu := fu.kept (hk _ fu.lt (fun z9 => z9.2 rfl))
  obtain ⟨th1, tt1, bb1, rf1, hM, hm9⟩ := hR
  obtain ⟨e_th, e_n, hV⟩ := l_convergent hV hw9 hm9
  have hz0 := Nat.le_trans hz0 hz
  refine lv_istore (pc := 1060) (lv' := [(6, .int rm_), (5, .int rk), (0, .ref b), (1, .ref (ad 15)), (2, .ref mo), (3, .ref uo), (4, .int (nI i))]) hx hb dL_law_1060 hl (by decide) rfl (fun ls hl => ?_)
  refine lv_goto (pc := 1062) (tgt := 1813) hx hb dL_law_1062 (by decide) ?_
  refine W.widen (k := cells + 7000) (n := slots + 101000) (by omega) (by omega) ?_
  exact K _ _ _ hz0 hS ⟨_, _, _, _, _, _, _, _, _, _, _, _, _, _, _, _, hV, hW, fu, hM⟩ (lv_sub hl [2, 3, 4, 5, 6] rfl)
set_option maxHeartbeats 4000000 in
set_option maxRecDepth 100000 in
theorem lc_19 {p : Program} {l : Launch} {e : Env} {s : State} {m : MethodId} {below : List Frame} {meth : Method} {c : Code} {Q : State → Prop} {D : va_G} {tk : Nat → ClassId} {sa ad : Nat → Nat} {b L uo mo M0 : Nat} {xs : Nat → Int32} {w0 : Cond} (hlst : l.stackTraces = false) (E : CallFix p m c cL_law 7 s #[.ref b] (w0 :: GW) "BestratiosLaw") (hr : meth.sig.returnType = some .boolean) (hC : Ctx D tk s.heap.size sa s) (hN : NCx s) (hX : va_X b L xs s s.heap) (hbl : b < s.heap.size) (hAD : ADok s.heap.size ad) (huo : s.heap.size ≤ uo) (hM0 : s.heap.size ≤ M0) (had : ∀ k, k < 22 → ad k < M0) (hL : L ≤ 320) {i : Nat} (hi : i + 5 ≤ L) {cells slots : Nat} {H : Heap} {locs : List Loc} {ls : Array Slot} (hc9 : cells + 7000 ≤ 844753) (hs9 : slots + 101000 ≤ 6567222) (hz0 : M0 ≤ H.size) (hS : va_S (NA s.heap.size) s.heap H locs) (hB : LR D tk sa ad uo mo (PL M0 uo) H) (hl : lv_has ls 7 [(0, .ref b), (1, .ref (ad 15)), (2, .ref mo), (3, .ref uo), (4, .int (nI i))])
    (K : ∀ (H1 : Heap) (locs1 : List Loc) (ls1 : Array Slot), M0 ≤ H1.size → va_S (NA s.heap.size) s.heap H1 locs1 → LR D tk sa ad uo mo (PL M0 uo) H1 → lv_has ls1 7 [(0, .ref b), (1, .ref (ad 15)), (2, .ref mo), (3, .ref uo), (4, .int (nI i))] → W p l e room_1 s m #[.ref b] below meth c H1 locs1 (cells + 7000) (slots + 101000) Q (F0 m 1813 ls1 [])) : W p l e room_1 s m #[.ref b] below meth c H locs cells slots Q (F0 m 1065 ls []) := by
  obtain ⟨hx, hb, -⟩ := id E
  have hbA : ¬ NA s.heap.size b := Nat.not_le.mpr hbl
  have hA : ∀ q, NA s.heap.size q → s.heap.size ≤ q := fun q h => h
  have hn : ∀ q, s.heap.size ≤ q → NA s.heap.size q := fun q h => h
  have hPN : ∀ q, PL M0 uo q → s.heap.size ≤ q := fun q h => Nat.le_trans hM0 h.1
  obtain ⟨g, kn, tt, bb, eT, eB, oT, oB, pk, ca, rf, vs, n9, th, ox, ov, hV, hW, fu, hM⟩ := hB
  refine lv_aload_n (pc := 1065) hx hb dL_law_1065 rfl (lv_at hl 1 rfl) ?_
  refine lv_aload_n (pc := 1066) hx hb dL_law_1066 rfl (lv_at hl 0 rfl) ?_
  refine lv_iload (pc := 1067) hx hb dL_law_1067 (lv_at hl 4 rfl) ?_
  refine lv_iconst (pc := 1069) (v := 1) hx hb dL_law_1069 (by decide) ?_
  refine lv_iadd (pc := 1070) hx hb dL_law_1070 ?_
  refine va_sld (pc := 1071) hx hb hX hbl hbA hS (lw_in (j := 1) (by omega) hL rfl) dL_law_1071 ?_
  refine lv_aload_n (pc := 1072) hx hb dL_law_1072 rfl (lv_at hl 3 rfl) ?_
  have hz1 := hS.1
  have hne := cwC hC hW (Or.inl fu.cl)
  refine k_i (pc := 1073) (k_SW E hC hN hS hA hl.1 (c_L_say l hlst D tk s.heap.size sa hAD huo H.size g kn hV.ci ((xs (nI i + 1).toNatClampNeg))) kw_1002 kw_1003 kw_0 wh_say (n := 3) (by decide +kernel) rfl ⟨⟨rfl, rfl⟩, ⟨Nat.le_of_ble_eq_true rfl, Nat.le_of_ble_eq_true rfl⟩, (by dsimp only [room_1]; omega), (by dsimp only [room_1]; omega)⟩ rfl (Nat.le_of_ble_eq_true rfl) ⟨hW, _, _, fu⟩ dL_law_1073) hS (fun q _ w => lwA.ge hAD huo hS.1 q w) hn (fun rk H locs hR hz hk hS => ?_)
  have hM := hM.wrap hC hW fu had hk
  obtain ⟨g1, ox, ov, hW, fu, hw9⟩ := hR
  have hz0 := Nat.le_trans hz0 hz
  refine lv_istore (pc := 1076) (lv' := [(5, .int rk), (0, .ref b), (1, .ref (ad 15)), (2, .ref mo), (3, .ref uo), (4, .int (nI i))]) hx hb dL_law_1076 hl (by decide) rfl (fun ls hl => ?_)
  refine lv_aload_n (pc := 1078) hx hb dL_law_1078 rfl (lv_at hl 3 rfl) ?_
  refine lv_aload_n (pc := 1079) hx hb dL_law_1079 rfl (lv_at hl 1 rfl) ?_
  refine lv_iload (pc := 1080) hx hb dL_law_1080 (lv_at hl 5 rfl) ?_
  refine lv_iconst (pc := 1082) (v := 1) hx hb dL_law_1082 (by decide) ?_
  refine lv_iadd (pc := 1083) hx hb dL_law_1083 ?_
  refine va_sld (pc := 1084) hx hb hX hbl hbA hS (lw_in (j := 1) (by omega) hL rfl) dL_law_1084 ?_
  have hz1 := hS.1
  have t_fu := fu.lt
  have hpl0 := hM.tl
  obtain ⟨fsm, fom⟩ := hM.obj
  have hPs : ∀ q, H.size ≤ q → PL M0 uo q := fun q h => ⟨Nat.le_trans hz0 h, by have := fu.lt; omega⟩
  refine k_i (pc := 1085) (k_V E hC hS hA hl.1 (c1.recv hC fom rfl) rfl (c_X5_say l D tk s.heap.size sa H.size (PL M0 uo) hPN hPs mo n9 kn th tt bb eT eB oT oB pk ca rf vs ((xs (nI i + 1).toNatClampNeg))) kw_1570 kw_1571 kw_1572 kw_5 kw_1573 (n := 1) (by decide +kernel) rfl ⟨⟨rfl, rfl⟩, ⟨Nat.le_of_ble_eq_true rfl, Nat.le_of_ble_eq_true rfl⟩, (by dsimp only [room_1]; omega), (by dsimp only [room_1]; omega)⟩ rfl (Nat.le_of_ble_eq_true rfl) hM dL_law_1085) hS (fun q _ w => hPN q w) hn (fun rm_ H locs hR hz hk hS => ?_)
  have hW := hW.kept (fun k hk9 => hk _ (hW k hk9).lt (fun z9 => Nat.not_le.mpr (had k hk9) z9.1))
  have fu := fu.kept (hk _ fu.lt (fun z9 => z9.2 rfl))
  obtain ⟨n1, th1, vs1, hM, hm9, hv1, hv2⟩ := hR
  obtain ⟨e_th, e_n, hV⟩ := l_say hV hw9 hm9 hv1 hv2
  have hz0 := Nat.le_trans hz0 hz
  refine lv_istore (pc := 1088) (lv' := [(6, .int rm_), (5, .int rk), (0, .ref b), (1, .ref (ad 15)), (2, .ref mo), (3, .ref uo), (4, .int (nI i))]) hx hb dL_law_1088 hl (by decide) rfl (fun ls hl => ?_)
  refine lv_goto (pc := 1090) (tgt := 1813) hx hb dL_law_1090 (by decide) ?_
  refine W.widen (k := cells + 7000) (n := slots + 101000) (by omega) (by omega) ?_
  exact K _ _ _ hz0 hS ⟨_, _, _, _, _, _, _, _, _, _, _, _, _, _, _, _, hV, hW, fu, hM⟩ (lv_sub hl [2, 3, 4, 5, 6] rfl)
set_option maxHeartbeats 4000000 in
set_option maxRecDepth 100000 in
theorem lc_20 {p : Program} {l : Launch} {e : Env} {s : State} {m : MethodId} {below : List Frame} {meth : Method} {c : Code} {Q : State → Prop} {D : va_G} {tk : Nat → ClassId} {sa ad : Nat → Nat} {b L uo mo M0 : Nat} {xs : Nat → Int32} {w0 : Cond} (hlst : l.stackTraces = false) (E : CallFix p m c cL_law 7 s #[.ref b] (w0 :: GW) "BestratiosLaw") (hr : meth.sig.returnType = some .boolean) (hC : Ctx D tk s.heap.size sa s) (hN : NCx s) (hX : va_X b L xs s s.heap) (hbl : b < s.heap.size) (hAD : ADok s.heap.size ad) (huo : s.heap.size ≤ uo) (hM0 : s.heap.size ≤ M0) (had : ∀ k, k < 22 → ad k < M0) (hL : L ≤ 320) {i : Nat} (hi : i + 5 ≤ L) {cells slots : Nat} {H : Heap} {locs : List Loc} {ls : Array Slot} (hc9 : cells + 7000 ≤ 844753) (hs9 : slots + 101000 ≤ 6567222) (hz0 : M0 ≤ H.size) (hS : va_S (NA s.heap.size) s.heap H locs) (hB : LR D tk sa ad uo mo (PL M0 uo) H) (hl : lv_has ls 7 [(0, .ref b), (1, .ref (ad 15)), (2, .ref mo), (3, .ref uo), (4, .int (nI i))])
    (K : ∀ (H1 : Heap) (locs1 : List Loc) (ls1 : Array Slot), M0 ≤ H1.size → va_S (NA s.heap.size) s.heap H1 locs1 → LR D tk sa ad uo mo (PL M0 uo) H1 → lv_has ls1 7 [(0, .ref b), (1, .ref (ad 15)), (2, .ref mo), (3, .ref uo), (4, .int (nI i))] → W p l e room_1 s m #[.ref b] below meth c H1 locs1 (cells + 7000) (slots + 101000) Q (F0 m 1813 ls1 [])) : W p l e room_1 s m #[.ref b] below meth c H locs cells slots Q (F0 m 1093 ls []) := by
  obtain ⟨hx, hb, -⟩ := id E
  have hbA : ¬ NA s.heap.size b := Nat.not_le.mpr hbl
  have hA : ∀ q, NA s.heap.size q → s.heap.size ≤ q := fun q h => h
  have hn : ∀ q, s.heap.size ≤ q → NA s.heap.size q := fun q h => h
  have hPN : ∀ q, PL M0 uo q → s.heap.size ≤ q := fun q h => Nat.le_trans hM0 h.1
  obtain ⟨g, kn, tt, bb, eT, eB, oT, oB, pk, ca, rf, vs, n9, th, ox, ov, hV, hW, fu, hM⟩ := hB
  refine lv_aload_n (pc := 1093) hx hb dL_law_1093 rfl (lv_at hl 1 rfl) ?_
  refine lv_aload_n (pc := 1094) hx hb dL_law_1094 rfl (lv_at hl 0 rfl) ?_
  refine lv_iload (pc := 1095) hx hb dL_law_1095 (lv_at hl 4 rfl) ?_
  refine lv_iconst (pc := 1097) (v := 1) hx hb dL_law_1097 (by decide) ?_
  refine lv_iadd (pc := 1098) hx hb dL_law_1098 ?_
  refine va_sld (pc := 1099) hx hb hX hbl hbA hS (lw_in (j := 1) (by omega) hL rfl) dL_law_1099 ?_
  refine lv_aload_n (pc := 1100) hx hb dL_law_1100 rfl (lv_at hl 3 rfl) ?_
  have hz1 := hS.1
  have hne := cwC hC hW (Or.inl fu.cl)
  refine k_i (pc := 1101) (k_SW E hC hN hS hA hl.1 (c_L_unsay l hlst D tk s.heap.size sa hAD huo H.size g kn hV.ci ((xs (nI i + 1).toNatClampNeg))) kw_1028 kw_1029 kw_0 wh_unsay (n := 3) (by decide +kernel) rfl ⟨⟨rfl, rfl⟩, ⟨Nat.le_of_ble_eq_true rfl, Nat.le_of_ble_eq_true rfl⟩, (by dsimp only [room_1]; omega), (by dsimp only [room_1]; omega)⟩ rfl (Nat.le_of_ble_eq_true rfl) ⟨hW, _, _, fu⟩ dL_law_1101) hS (fun q _ w => lwA.ge hAD huo hS.1 q w) hn (fun rk H locs hR hz hk hS => ?_)
  have hM := hM.wrap hC hW fu had hk
  obtain ⟨g1, ox, ov, hW, fu, hw9⟩ := hR
  have hz0 := Nat.le_trans hz0 hz
  refine lv_istore (pc := 1104) (lv' := [(5, .int rk), (0, .ref b), (1, .ref (ad 15)), (2, .ref mo), (3, .ref uo), (4, .int (nI i))]) hx hb dL_law_1104 hl (by decide) rfl (fun ls hl => ?_)
  refine lv_aload_n (pc := 1106) hx hb dL_law_1106 rfl (lv_at hl 3 rfl) ?_
  refine lv_aload_n (pc := 1107) hx hb dL_law_1107 rfl (lv_at hl 1 rfl) ?_
  refine lv_iload (pc := 1108) hx hb dL_law_1108 (lv_at hl 5 rfl) ?_
  refine lv_iconst (pc := 1110) (v := 1) hx hb dL_law_1110 (by decide) ?_
  refine lv_iadd (pc := 1111) hx hb dL_law_1111 ?_
  refine va_sld (pc := 1112) hx hb hX hbl hbA hS (lw_in (j := 1) (by omega) hL rfl) dL_law_1112 ?_
  have hz1 := hS.1
  have t_fu := fu.lt
  have hpl0 := hM.tl
  obtain ⟨fsm, fom⟩ := hM.obj
  have hPs : ∀ q, H.size ≤ q → PL M0 uo q := fun q h => ⟨Nat.le_trans hz0 h, by have := fu.lt; omega⟩
  refine k_i (pc := 1113) (k_V E hC hS hA hl.1 (c1.recv hC fom rfl) rfl (c_X5_unsay l D tk s.heap.size sa H.size (PL M0 uo) hPN hPs mo n9 kn th tt bb eT eB oT oB pk ca rf vs ((xs (nI i + 1).toNatClampNeg))) kw_1593 kw_1594 kw_1595 kw_5 kw_1596 (n := 1) (by decide +kernel) rfl ⟨⟨rfl, rfl⟩, ⟨Nat.le_of_ble_eq_true rfl, Nat.le_of_ble_eq_true rfl⟩, (by dsimp only [room_1]; omega), (by dsimp only [room_1]; omega)⟩ rfl (Nat.le_of_ble_eq_true rfl) hM dL_law_1113) hS (fun q _ w => hPN q w) hn (fun rm_ H locs hR hz hk hS => ?_)
  have hW := hW.kept (fun k hk9 => hk _ (hW k hk9).lt (fun z9 => Nat.not_le.mpr (had k hk9) z9.1))
  have fu := fu.kept (hk _ fu.lt (fun z9 => z9.2 rfl))
  obtain ⟨n1, th1, hM, hm9⟩ := hR
  obtain ⟨e_th, e_n, hV⟩ := l_unsay hV hw9 hm9
  have hz0 := Nat.le_trans hz0 hz
  refine lv_istore (pc := 1116) (lv' := [(6, .int rm_), (5, .int rk), (0, .ref b), (1, .ref (ad 15)), (2, .ref mo), (3, .ref uo), (4, .int (nI i))]) hx hb dL_law_1116 hl (by decide) rfl (fun ls hl => ?_)
  refine lv_goto (pc := 1118) (tgt := 1813) hx hb dL_law_1118 (by decide) ?_
  refine W.widen (k := cells + 7000) (n := slots + 101000) (by omega) (by omega) ?_
  exact K _ _ _ hz0 hS ⟨_, _, _, _, _, _, _, _, _, _, _, _, _, _, _, _, hV, hW, fu, hM⟩ (lv_sub hl [2, 3, 4, 5, 6] rfl)
set_option maxHeartbeats 4000000 in
set_option maxRecDepth 100000 in
theorem lc_21 {p : Program} {l : Launch} {e : Env} {s : State} {m : MethodId} {below : List Frame} {meth : Method} {c : Code} {Q : State → Prop} {D : va_G} {tk : Nat → ClassId} {sa ad : Nat → Nat} {b L uo mo M0 : Nat} {xs : Nat → Int32} {w0 : Cond} (hlst : l.stackTraces = false) (E : CallFix p m c cL_law 7 s #[.ref b] (w0 :: GW) "BestratiosLaw") (hr : meth.sig.returnType = some .boolean) (hC : Ctx D tk s.heap.size sa s) (hN : NCx s) (hX : va_X b L xs s s.heap) (hbl : b < s.heap.size) (hAD : ADok s.heap.size ad) (huo : s.heap.size ≤ uo) (hM0 : s.heap.size ≤ M0) (had : ∀ k, k < 22 → ad k < M0) (hL : L ≤ 320) {i : Nat} (hi : i + 5 ≤ L) {cells slots : Nat} {H : Heap} {locs : List Loc} {ls : Array Slot} (hc9 : cells + 7000 ≤ 844753) (hs9 : slots + 101000 ≤ 6567222) (hz0 : M0 ≤ H.size) (hS : va_S (NA s.heap.size) s.heap H locs) (hB : LR D tk sa ad uo mo (PL M0 uo) H) (hl : lv_has ls 7 [(0, .ref b), (1, .ref (ad 15)), (2, .ref mo), (3, .ref uo), (4, .int (nI i))])
    (K : ∀ (H1 : Heap) (locs1 : List Loc) (ls1 : Array Slot), M0 ≤ H1.size → va_S (NA s.heap.size) s.heap H1 locs1 → LR D tk sa ad uo mo (PL M0 uo) H1 → lv_has ls1 7 [(0, .ref b), (1, .ref (ad 15)), (2, .ref mo), (3, .ref uo), (4, .int (nI i))] → W p l e room_1 s m #[.ref b] below meth c H1 locs1 (cells + 7000) (slots + 101000) Q (F0 m 1813 ls1 [])) : W p l e room_1 s m #[.ref b] below meth c H locs cells slots Q (F0 m 1121 ls []) := by
  obtain ⟨hx, hb, -⟩ := id E
  have hbA : ¬ NA s.heap.size b := Nat.not_le.mpr hbl
  have hA : ∀ q, NA s.heap.size q → s.heap.size ≤ q := fun q h => h
  have hn : ∀ q, s.heap.size ≤ q → NA s.heap.size q := fun q h => h
  have hPN : ∀ q, PL M0 uo q → s.heap.size ≤ q := fun q h => Nat.le_trans hM0 h.1
  obtain ⟨g, kn, tt, bb, eT, eB, oT, oB, pk, ca, rf, vs, n9, th, ox, ov, hV, hW, fu, hM⟩ := hB
  refine lv_aload_n (pc := 1121) hx hb dL_law_1121 rfl (lv_at hl 1 rfl) ?_
  have hI := hV.ci
  have hw := tx_rtL_ok g 0 (tC g 0).toNatClampNeg 0 0 (0, 16) (0, 16) (tx_ok.rf (Nat.zero_le _))
  have h16 := nn16 hI.2.1.1 hI.2.1.2
  have e9 : tx_rt g 0 = tx_rtL g 0 (tC g 0).toNatClampNeg 0 (0, 16) := rfl
  rw [← e9] at hw
  unfold tx_ok at hw
  dsimp only at hw
  have hz1 := hS.1
  have hne := cwC hC hW (Or.inl fu.cl)
  refine k_r (pc := 1122) (k_V E hC hS hA hl.1 (c1.recv hC hW.obj rfl) rfl (c_X3_row l D tk s.heap.size sa hAD H.size g (by have := hI.2.1; exact nn16 this.1 this.2)) kw_142 kw_143 kw_144 kw_1 kw_145 (n := 0) (by decide +kernel) rfl ⟨⟨rfl, rfl⟩, ⟨Nat.le_of_ble_eq_true rfl, Nat.le_of_ble_eq_true rfl⟩, (by dsimp only [room_1]; omega), (by dsimp only [room_1]; omega)⟩ rfl (Nat.le_of_ble_eq_true rfl) hW dL_law_1122) hS (fun q z w => absurd w (Nat.not_le.mpr z)) hn (fun rk H locs hR hz hk hS => ?_)
  have hM := hM.new hk
  have hW := hW.new hk
  have fu := fu.new hk
  have hz0 := Nat.le_trans hz0 hz
  refine lv_pop (pc := 1125) hx hb dL_law_1125 rfl ?_
  refine lv_aload_n (pc := 1126) hx hb dL_law_1126 rfl (lv_at hl 2 rfl) ?_
  have hz1 := hS.1
  have t_fu := fu.lt
  have hpl0 := hM.tl
  obtain ⟨fsm, fom⟩ := hM.obj
  have hPs : ∀ q, H.size ≤ q → PL M0 uo q := fun q h => ⟨Nat.le_trans hz0 h, by have := fu.lt; omega⟩
  refine k_r (pc := 1127) (k_V E hC hS hA hl.1 (c1.recv hC fom rfl) rfl (c_X5_row l D tk s.heap.size sa H.size (PL M0 uo) hPN hPs mo n9 kn th tt bb eT eB oT oB pk ca rf vs ) kw_1606 kw_1607 kw_1608 kw_5 kw_1609 (n := 0) (by decide +kernel) rfl ⟨⟨rfl, rfl⟩, ⟨Nat.le_of_ble_eq_true rfl, Nat.le_of_ble_eq_true rfl⟩, (by dsimp only [room_1]; omega), (by dsimp only [room_1]; omega)⟩ rfl (Nat.le_of_ble_eq_true rfl) hM dL_law_1127) hS (fun q _ w => hPN q w) hn (fun rm_ H locs hR hz hk hS => ?_)
  have hW := hW.kept (fun k hk9 => hk _ (hW k hk9).lt (fun z9 => Nat.not_le.mpr (had k hk9) z9.1))
  have fu := fu.kept (hk _ fu.lt (fun z9 => z9.2 rfl))
  obtain ⟨th1, hM⟩ := hR
  have hz0 := Nat.le_trans hz0 hz
  refine lv_pop (pc := 1130) hx hb dL_law_1130 rfl ?_
  refine lv_goto (pc := 1131) (tgt := 1813) hx hb dL_law_1131 (by decide) ?_
  refine W.widen (k := cells + 7000) (n := slots + 101000) (by omega) (by omega) ?_
  exact K _ _ _ hz0 hS ⟨_, _, _, _, _, _, _, _, _, _, _, _, _, _, _, _, hV, hW, fu, hM⟩ (lv_sub hl [0, 1, 2, 3, 4] rfl)
set_option maxHeartbeats 4000000 in
set_option maxRecDepth 100000 in
theorem lc_22 {p : Program} {l : Launch} {e : Env} {s : State} {m : MethodId} {below : List Frame} {meth : Method} {c : Code} {Q : State → Prop} {D : va_G} {tk : Nat → ClassId} {sa ad : Nat → Nat} {b L uo mo M0 : Nat} {xs : Nat → Int32} {w0 : Cond} (hlst : l.stackTraces = false) (E : CallFix p m c cL_law 7 s #[.ref b] (w0 :: GW) "BestratiosLaw") (hr : meth.sig.returnType = some .boolean) (hC : Ctx D tk s.heap.size sa s) (hN : NCx s) (hX : va_X b L xs s s.heap) (hbl : b < s.heap.size) (hAD : ADok s.heap.size ad) (huo : s.heap.size ≤ uo) (hM0 : s.heap.size ≤ M0) (had : ∀ k, k < 22 → ad k < M0) (hL : L ≤ 320) {i : Nat} (hi : i + 5 ≤ L) {cells slots : Nat} {H : Heap} {locs : List Loc} {ls : Array Slot} (hc9 : cells + 7000 ≤ 844753) (hs9 : slots + 101000 ≤ 6567222) (hz0 : M0 ≤ H.size) (hS : va_S (NA s.heap.size) s.heap H locs) (hB : LR D tk sa ad uo mo (PL M0 uo) H) (hl : lv_has ls 7 [(0, .ref b), (1, .ref (ad 15)), (2, .ref mo), (3, .ref uo), (4, .int (nI i))])
    (K : ∀ (H1 : Heap) (locs1 : List Loc) (ls1 : Array Slot), M0 ≤ H1.size → va_S (NA s.heap.size) s.heap H1 locs1 → LR D tk sa ad uo mo (PL M0 uo) H1 → lv_has ls1 7 [(0, .ref b), (1, .ref (ad 15)), (2, .ref mo), (3, .ref uo), (4, .int (nI i))] → W p l e room_1 s m #[.ref b] below meth c H1 locs1 (cells + 7000) (slots + 101000) Q (F0 m 1813 ls1 [])) : W p l e room_1 s m #[.ref b] below meth c H locs cells slots Q (F0 m 1134 ls []) := by
  obtain ⟨hx, hb, -⟩ := id E
  have hbA : ¬ NA s.heap.size b := Nat.not_le.mpr hbl
  have hA : ∀ q, NA s.heap.size q → s.heap.size ≤ q := fun q h => h
  have hn : ∀ q, s.heap.size ≤ q → NA s.heap.size q := fun q h => h
  have hPN : ∀ q, PL M0 uo q → s.heap.size ≤ q := fun q h => Nat.le_trans hM0 h.1
  obtain ⟨g, kn, tt, bb, eT, eB, oT, oB, pk, ca, rf, vs, n9, th, ox, ov, hV, hW, fu, hM⟩ := hB
  refine lv_aload_n (pc := 1134) hx hb dL_law_1134 rfl (lv_at hl 1 rfl) ?_
  refine lv_aload_n (pc := 1135) hx hb dL_law_1135 rfl (lv_at hl 0 rfl) ?_
  refine lv_iload (pc := 1136) hx hb dL_law_1136 (lv_at hl 4 rfl) ?_
  refine lv_iconst (pc := 1138) (v := 1) hx hb dL_law_1138 (by decide) ?_
  refine lv_iadd (pc := 1139) hx hb dL_law_1139 ?_
  refine va_sld (pc := 1140) hx hb hX hbl hbA hS (lw_in (j := 1) (by omega) hL rfl) dL_law_1140 ?_
  refine lv_aload_n (pc := 1141) hx hb dL_law_1141 rfl (lv_at hl 3 rfl) ?_
  have hz1 := hS.1
  have hne := cwC hC hW (Or.inl fu.cl)
  refine k_i (pc := 1142) (k_SW E hC hN hS hA hl.1 (c_L_fold l hlst D tk s.heap.size sa hAD huo H.size g kn hV.ci ((xs (nI i + 1).toNatClampNeg))) kw_1035 kw_1036 kw_0 wh_fold (n := 3) (by decide +kernel) rfl ⟨⟨rfl, rfl⟩, ⟨Nat.le_of_ble_eq_true rfl, Nat.le_of_ble_eq_true rfl⟩, (by dsimp only [room_1]; omega), (by dsimp only [room_1]; omega)⟩ rfl (Nat.le_of_ble_eq_true rfl) ⟨hW, _, _, fu⟩ dL_law_1142) hS (fun q _ w => lwA.ge hAD huo hS.1 q w) hn (fun rk H locs hR hz hk hS => ?_)
  have hM := hM.wrap hC hW fu had hk
  obtain ⟨g1, ox, ov, hW, fu, hw9⟩ := hR
  have hz0 := Nat.le_trans hz0 hz
  refine lv_istore (pc := 1145) (lv' := [(5, .int rk), (0, .ref b), (1, .ref (ad 15)), (2, .ref mo), (3, .ref uo), (4, .int (nI i))]) hx hb dL_law_1145 hl (by decide) rfl (fun ls hl => ?_)
  refine lv_aload_n (pc := 1147) hx hb dL_law_1147 rfl (lv_at hl 3 rfl) ?_
  refine lv_aload_n (pc := 1148) hx hb dL_law_1148 rfl (lv_at hl 1 rfl) ?_
  refine lv_iload (pc := 1149) hx hb dL_law_1149 (lv_at hl 5 rfl) ?_
  refine lv_iconst (pc := 1151) (v := 1) hx hb dL_law_1151 (by decide) ?_
  refine lv_iadd (pc := 1152) hx hb dL_law_1152 ?_
  refine va_sld (pc := 1153) hx hb hX hbl hbA hS (lw_in (j := 1) (by omega) hL rfl) dL_law_1153 ?_
  have hz1 := hS.1
  have t_fu := fu.lt
  have hpl0 := hM.tl
  obtain ⟨fsm, fom⟩ := hM.obj
  have hPs : ∀ q, H.size ≤ q → PL M0 uo q := fun q h => ⟨Nat.le_trans hz0 h, by have := fu.lt; omega⟩
  refine k_i (pc := 1154) (k_V E hC hS hA hl.1 (c1.recv hC fom rfl) rfl (c_X5_fold l D tk s.heap.size sa H.size (PL M0 uo) hPN hPs mo n9 kn th tt bb eT eB oT oB pk ca rf vs ((xs (nI i + 1).toNatClampNeg))) kw_1619 kw_1620 kw_1621 kw_5 kw_1622 (n := 1) (by decide +kernel) rfl ⟨⟨rfl, rfl⟩, ⟨Nat.le_of_ble_eq_true rfl, Nat.le_of_ble_eq_true rfl⟩, (by dsimp only [room_1]; omega), (by dsimp only [room_1]; omega)⟩ rfl (Nat.le_of_ble_eq_true rfl) hM dL_law_1154) hS (fun q _ w => hPN q w) hn (fun rm_ H locs hR hz hk hS => ?_)
  have hW := hW.kept (fun k hk9 => hk _ (hW k hk9).lt (fun z9 => Nat.not_le.mpr (had k hk9) z9.1))
  have fu := fu.kept (hk _ fu.lt (fun z9 => z9.2 rfl))
  obtain ⟨th1, tt1, bb1, rf1, o_, hM, hm9, ho9⟩ := hR
  obtain ⟨e_th, e_n, hV⟩ := l_fold hV hw9 hm9 ho9
  have hz0 := Nat.le_trans hz0 hz
  refine lv_istore (pc := 1157) (lv' := [(6, .int rm_), (5, .int rk), (0, .ref b), (1, .ref (ad 15)), (2, .ref mo), (3, .ref uo), (4, .int (nI i))]) hx hb dL_law_1157 hl (by decide) rfl (fun ls hl => ?_)
  refine lv_goto (pc := 1159) (tgt := 1813) hx hb dL_law_1159 (by decide) ?_
  refine W.widen (k := cells + 7000) (n := slots + 101000) (by omega) (by omega) ?_
  exact K _ _ _ hz0 hS ⟨_, _, _, _, _, _, _, _, _, _, _, _, _, _, _, _, hV, hW, fu, hM⟩ (lv_sub hl [2, 3, 4, 5, 6] rfl)
set_option maxHeartbeats 4000000 in
set_option maxRecDepth 100000 in
theorem lc_23 {p : Program} {l : Launch} {e : Env} {s : State} {m : MethodId} {below : List Frame} {meth : Method} {c : Code} {Q : State → Prop} {D : va_G} {tk : Nat → ClassId} {sa ad : Nat → Nat} {b L uo mo M0 : Nat} {xs : Nat → Int32} {w0 : Cond} (hlst : l.stackTraces = false) (E : CallFix p m c cL_law 7 s #[.ref b] (w0 :: GW) "BestratiosLaw") (hr : meth.sig.returnType = some .boolean) (hC : Ctx D tk s.heap.size sa s) (hN : NCx s) (hX : va_X b L xs s s.heap) (hbl : b < s.heap.size) (hAD : ADok s.heap.size ad) (huo : s.heap.size ≤ uo) (hM0 : s.heap.size ≤ M0) (had : ∀ k, k < 22 → ad k < M0) (hL : L ≤ 320) {i : Nat} (hi : i + 5 ≤ L) {cells slots : Nat} {H : Heap} {locs : List Loc} {ls : Array Slot} (hc9 : cells + 7000 ≤ 844753) (hs9 : slots + 101000 ≤ 6567222) (hz0 : M0 ≤ H.size) (hS : va_S (NA s.heap.size) s.heap H locs) (hB : LR D tk sa ad uo mo (PL M0 uo) H) (hl : lv_has ls 7 [(0, .ref b), (1, .ref (ad 15)), (2, .ref mo), (3, .ref uo), (4, .int (nI i))])
    (K : ∀ (H1 : Heap) (locs1 : List Loc) (ls1 : Array Slot), M0 ≤ H1.size → va_S (NA s.heap.size) s.heap H1 locs1 → LR D tk sa ad uo mo (PL M0 uo) H1 → lv_has ls1 7 [(0, .ref b), (1, .ref (ad 15)), (2, .ref mo), (3, .ref uo), (4, .int (nI i))] → W p l e room_1 s m #[.ref b] below meth c H1 locs1 (cells + 7000) (slots + 101000) Q (F0 m 1813 ls1 [])) : W p l e room_1 s m #[.ref b] below meth c H locs cells slots Q (F0 m 1162 ls []) := by
  obtain ⟨hx, hb, -⟩ := id E
  have hbA : ¬ NA s.heap.size b := Nat.not_le.mpr hbl
  have hA : ∀ q, NA s.heap.size q → s.heap.size ≤ q := fun q h => h
  have hn : ∀ q, s.heap.size ≤ q → NA s.heap.size q := fun q h => h
  have hPN : ∀ q, PL M0 uo q → s.heap.size ≤ q := fun q h => Nat.le_trans hM0 h.1
  obtain ⟨g, kn, tt, bb, eT, eB, oT, oB, pk, ca, rf, vs, n9, th, ox, ov, hV, hW, fu, hM⟩ := hB
  refine lv_aload_n (pc := 1162) hx hb dL_law_1162 rfl (lv_at hl 1 rfl) ?_
  refine lv_aload_n (pc := 1163) hx hb dL_law_1163 rfl (lv_at hl 0 rfl) ?_
  refine lv_iload (pc := 1164) hx hb dL_law_1164 (lv_at hl 4 rfl) ?_
  refine lv_iconst (pc := 1166) (v := 1) hx hb dL_law_1166 (by decide) ?_
  refine lv_iadd (pc := 1167) hx hb dL_law_1167 ?_
  refine va_sld (pc := 1168) hx hb hX hbl hbA hS (lw_in (j := 1) (by omega) hL rfl) dL_law_1168 ?_
  refine lv_aload_n (pc := 1169) hx hb dL_law_1169 rfl (lv_at hl 0 rfl) ?_
  refine lv_iload (pc := 1170) hx hb dL_law_1170 (lv_at hl 4 rfl) ?_
  refine lv_iconst (pc := 1172) (v := 2) hx hb dL_law_1172 (by decide) ?_
  refine lv_iadd (pc := 1173) hx hb dL_law_1173 ?_
  refine va_sld (pc := 1174) hx hb hX hbl hbA hS (lw_in (j := 2) (by omega) hL rfl) dL_law_1174 ?_
  refine lv_aload_n (pc := 1175) hx hb dL_law_1175 rfl (lv_at hl 0 rfl) ?_
  refine lv_iload (pc := 1176) hx hb dL_law_1176 (lv_at hl 4 rfl) ?_
  refine lv_iconst (pc := 1178) (v := 3) hx hb dL_law_1178 (by decide) ?_
  refine lv_iadd (pc := 1179) hx hb dL_law_1179 ?_
  refine va_sld (pc := 1180) hx hb hX hbl hbA hS (lw_in (j := 3) (by omega) hL rfl) dL_law_1180 ?_
  refine lv_aload_n (pc := 1181) hx hb dL_law_1181 rfl (lv_at hl 3 rfl) ?_
  have hz1 := hS.1
  have hne := cwC hC hW (Or.inl fu.cl)
  refine k_i (pc := 1182) (k_SW E hC hN hS hA hl.1 (c_L_lower l hlst D tk s.heap.size sa hAD huo H.size g kn hV.ci ((xs (nI i + 1).toNatClampNeg)) ((xs (nI i + 2).toNatClampNeg)) ((xs (nI i + 3).toNatClampNeg))) kw_1042 kw_1043 kw_0 wh_lower (n := 5) (by decide +kernel) rfl ⟨⟨rfl, rfl⟩, ⟨Nat.le_of_ble_eq_true rfl, Nat.le_of_ble_eq_true rfl⟩, (by dsimp only [room_1]; omega), (by dsimp only [room_1]; omega)⟩ rfl (Nat.le_of_ble_eq_true rfl) ⟨hW, _, _, fu⟩ dL_law_1182) hS (fun q _ w => lwA.ge hAD huo hS.1 q w) hn (fun rk H locs hR hz hk hS => ?_)
  have hM := hM.wrap hC hW fu had hk
  obtain ⟨g1, ox, ov, hW, fu, hw9⟩ := hR
  have hz0 := Nat.le_trans hz0 hz
  refine lv_istore (pc := 1185) (lv' := [(5, .int rk), (0, .ref b), (1, .ref (ad 15)), (2, .ref mo), (3, .ref uo), (4, .int (nI i))]) hx hb dL_law_1185 hl (by decide) rfl (fun ls hl => ?_)
  refine lv_aload_n (pc := 1187) hx hb dL_law_1187 rfl (lv_at hl 3 rfl) ?_
  refine lv_aload_n (pc := 1188) hx hb dL_law_1188 rfl (lv_at hl 1 rfl) ?_
  refine lv_iload (pc := 1189) hx hb dL_law_1189 (lv_at hl 5 rfl) ?_
  refine lv_iconst (pc := 1191) (v := 1) hx hb dL_law_1191 (by decide) ?_
  refine lv_iadd (pc := 1192) hx hb dL_law_1192 ?_
  refine va_sld (pc := 1193) hx hb hX hbl hbA hS (lw_in (j := 1) (by omega) hL rfl) dL_law_1193 ?_
  refine lv_aload_n (pc := 1194) hx hb dL_law_1194 rfl (lv_at hl 1 rfl) ?_
  refine lv_iload (pc := 1195) hx hb dL_law_1195 (lv_at hl 5 rfl) ?_
  refine lv_iconst (pc := 1197) (v := 2) hx hb dL_law_1197 (by decide) ?_
  refine lv_iadd (pc := 1198) hx hb dL_law_1198 ?_
  refine va_sld (pc := 1199) hx hb hX hbl hbA hS (lw_in (j := 2) (by omega) hL rfl) dL_law_1199 ?_
  refine lv_aload_n (pc := 1200) hx hb dL_law_1200 rfl (lv_at hl 1 rfl) ?_
  refine lv_iload (pc := 1201) hx hb dL_law_1201 (lv_at hl 5 rfl) ?_
  refine lv_iconst (pc := 1203) (v := 3) hx hb dL_law_1203 (by decide) ?_
  refine lv_iadd (pc := 1204) hx hb dL_law_1204 ?_
  refine va_sld (pc := 1205) hx hb hX hbl hbA hS (lw_in (j := 3) (by omega) hL rfl) dL_law_1205 ?_
  have hz1 := hS.1
  have t_fu := fu.lt
  have hpl0 := hM.tl
  obtain ⟨fsm, fom⟩ := hM.obj
  have hPs : ∀ q, H.size ≤ q → PL M0 uo q := fun q h => ⟨Nat.le_trans hz0 h, by have := fu.lt; omega⟩
  refine k_i (pc := 1206) (k_V E hC hS hA hl.1 (c1.recv hC fom rfl) rfl (c_X5_lower l D tk s.heap.size sa H.size (PL M0 uo) hPN hPs mo n9 kn th tt bb eT eB oT oB pk ca rf vs ((xs (nI i + 1).toNatClampNeg)) ((xs (nI i + 2).toNatClampNeg)) ((xs (nI i + 3).toNatClampNeg))) kw_1623 kw_1624 kw_1625 kw_5 kw_1626 (n := 3) (by decide +kernel) rfl ⟨⟨rfl, rfl⟩, ⟨Nat.le_of_ble_eq_true rfl, Nat.le_of_ble_eq_true rfl⟩, (by dsimp only [room_1]; omega), (by dsimp only [room_1]; omega)⟩ rfl (Nat.le_of_ble_eq_true rfl) hM dL_law_1206) hS (fun q _ w => hPN q w) hn (fun rm_ H locs hR hz hk hS => ?_)
  have hW := hW.kept (fun k hk9 => hk _ (hW k hk9).lt (fun z9 => Nat.not_le.mpr (had k hk9) z9.1))
  have fu := fu.kept (hk _ fu.lt (fun z9 => z9.2 rfl))
  obtain ⟨th1, tt1, bb1, rf1, hM, hm9⟩ := hR
  obtain ⟨e_th, e_n, hV⟩ := l_lower hV hw9 hm9
  have hz0 := Nat.le_trans hz0 hz
  refine lv_istore (pc := 1209) (lv' := [(6, .int rm_), (5, .int rk), (0, .ref b), (1, .ref (ad 15)), (2, .ref mo), (3, .ref uo), (4, .int (nI i))]) hx hb dL_law_1209 hl (by decide) rfl (fun ls hl => ?_)
  refine lv_goto (pc := 1211) (tgt := 1813) hx hb dL_law_1211 (by decide) ?_
  refine W.widen (k := cells + 7000) (n := slots + 101000) (by omega) (by omega) ?_
  exact K _ _ _ hz0 hS ⟨_, _, _, _, _, _, _, _, _, _, _, _, _, _, _, _, hV, hW, fu, hM⟩ (lv_sub hl [2, 3, 4, 5, 6] rfl)
set_option maxHeartbeats 4000000 in
set_option maxRecDepth 100000 in
theorem lc_24 {p : Program} {l : Launch} {e : Env} {s : State} {m : MethodId} {below : List Frame} {meth : Method} {c : Code} {Q : State → Prop} {D : va_G} {tk : Nat → ClassId} {sa ad : Nat → Nat} {b L uo mo M0 : Nat} {xs : Nat → Int32} {w0 : Cond} (hlst : l.stackTraces = false) (E : CallFix p m c cL_law 7 s #[.ref b] (w0 :: GW) "BestratiosLaw") (hr : meth.sig.returnType = some .boolean) (hC : Ctx D tk s.heap.size sa s) (hN : NCx s) (hX : va_X b L xs s s.heap) (hbl : b < s.heap.size) (hAD : ADok s.heap.size ad) (huo : s.heap.size ≤ uo) (hM0 : s.heap.size ≤ M0) (had : ∀ k, k < 22 → ad k < M0) (hL : L ≤ 320) {i : Nat} (hi : i + 5 ≤ L) {cells slots : Nat} {H : Heap} {locs : List Loc} {ls : Array Slot} (hc9 : cells + 7000 ≤ 844753) (hs9 : slots + 101000 ≤ 6567222) (hz0 : M0 ≤ H.size) (hS : va_S (NA s.heap.size) s.heap H locs) (hB : LR D tk sa ad uo mo (PL M0 uo) H) (hl : lv_has ls 7 [(0, .ref b), (1, .ref (ad 15)), (2, .ref mo), (3, .ref uo), (4, .int (nI i))])
    (K : ∀ (H1 : Heap) (locs1 : List Loc) (ls1 : Array Slot), M0 ≤ H1.size → va_S (NA s.heap.size) s.heap H1 locs1 → LR D tk sa ad uo mo (PL M0 uo) H1 → lv_has ls1 7 [(0, .ref b), (1, .ref (ad 15)), (2, .ref mo), (3, .ref uo), (4, .int (nI i))] → W p l e room_1 s m #[.ref b] below meth c H1 locs1 (cells + 7000) (slots + 101000) Q (F0 m 1813 ls1 [])) : W p l e room_1 s m #[.ref b] below meth c H locs cells slots Q (F0 m 1214 ls []) := by
  obtain ⟨hx, hb, -⟩ := id E
  have hbA : ¬ NA s.heap.size b := Nat.not_le.mpr hbl
  have hA : ∀ q, NA s.heap.size q → s.heap.size ≤ q := fun q h => h
  have hn : ∀ q, s.heap.size ≤ q → NA s.heap.size q := fun q h => h
  have hPN : ∀ q, PL M0 uo q → s.heap.size ≤ q := fun q h => Nat.le_trans hM0 h.1
  obtain ⟨g, kn, tt, bb, eT, eB, oT, oB, pk, ca, rf, vs, n9, th, ox, ov, hV, hW, fu, hM⟩ := hB
  refine lv_aload_n (pc := 1214) hx hb dL_law_1214 rfl (lv_at hl 1 rfl) ?_
  refine lv_aload_n (pc := 1215) hx hb dL_law_1215 rfl (lv_at hl 0 rfl) ?_
  refine lv_iload (pc := 1216) hx hb dL_law_1216 (lv_at hl 4 rfl) ?_
  refine lv_iconst (pc := 1218) (v := 1) hx hb dL_law_1218 (by decide) ?_
  refine lv_iadd (pc := 1219) hx hb dL_law_1219 ?_
  refine va_sld (pc := 1220) hx hb hX hbl hbA hS (lw_in (j := 1) (by omega) hL rfl) dL_law_1220 ?_
  refine lv_aload_n (pc := 1221) hx hb dL_law_1221 rfl (lv_at hl 0 rfl) ?_
  refine lv_iload (pc := 1222) hx hb dL_law_1222 (lv_at hl 4 rfl) ?_
  refine lv_iconst (pc := 1224) (v := 2) hx hb dL_law_1224 (by decide) ?_
  refine lv_iadd (pc := 1225) hx hb dL_law_1225 ?_
  refine va_sld (pc := 1226) hx hb hX hbl hbA hS (lw_in (j := 2) (by omega) hL rfl) dL_law_1226 ?_
  refine lv_aload_n (pc := 1227) hx hb dL_law_1227 rfl (lv_at hl 0 rfl) ?_
  refine lv_iload (pc := 1228) hx hb dL_law_1228 (lv_at hl 4 rfl) ?_
  refine lv_iconst (pc := 1230) (v := 3) hx hb dL_law_1230 (by decide) ?_
  refine lv_iadd (pc := 1231) hx hb dL_law_1231 ?_
  refine va_sld (pc := 1232) hx hb hX hbl hbA hS (lw_in (j := 3) (by omega) hL rfl) dL_law_1232 ?_
  refine lv_aload_n (pc := 1233) hx hb dL_law_1233 rfl (lv_at hl 3 rfl) ?_
  have hz1 := hS.1
  have hne := cwC hC hW (Or.inl fu.cl)
  refine k_i (pc := 1234) (k_SW E hC hN hS hA hl.1 (c_L_upper l hlst D tk s.heap.size sa hAD huo H.size g kn hV.ci ((xs (nI i + 1).toNatClampNeg)) ((xs (nI i + 2).toNatClampNeg)) ((xs (nI i + 3).toNatClampNeg))) kw_1053 kw_1054 kw_0 wh_upper (n := 5) (by decide +kernel) rfl ⟨⟨rfl, rfl⟩, ⟨Nat.le_of_ble_eq_true rfl, Nat.le_of_ble_eq_true rfl⟩, (by dsimp only [room_1]; omega), (by dsimp only [room_1]; omega)⟩ rfl (Nat.le_of_ble_eq_true rfl) ⟨hW, _, _, fu⟩ dL_law_1234) hS (fun q _ w => lwA.ge hAD huo hS.1 q w) hn (fun rk H locs hR hz hk hS => ?_)
  have hM := hM.wrap hC hW fu had hk
  obtain ⟨g1, ox, ov, hW, fu, hw9⟩ := hR
  have hz0 := Nat.le_trans hz0 hz
  refine lv_istore (pc := 1237) (lv' := [(5, .int rk), (0, .ref b), (1, .ref (ad 15)), (2, .ref mo), (3, .ref uo), (4, .int (nI i))]) hx hb dL_law_1237 hl (by decide) rfl (fun ls hl => ?_)
  refine lv_aload_n (pc := 1239) hx hb dL_law_1239 rfl (lv_at hl 3 rfl) ?_
  refine lv_aload_n (pc := 1240) hx hb dL_law_1240 rfl (lv_at hl 1 rfl) ?_
  refine lv_iload (pc := 1241) hx hb dL_law_1241 (lv_at hl 5 rfl) ?_
  refine lv_iconst (pc := 1243) (v := 1) hx hb dL_law_1243 (by decide) ?_
  refine lv_iadd (pc := 1244) hx hb dL_law_1244 ?_
  refine va_sld (pc := 1245) hx hb hX hbl hbA hS (lw_in (j := 1) (by omega) hL rfl) dL_law_1245 ?_
  refine lv_aload_n (pc := 1246) hx hb dL_law_1246 rfl (lv_at hl 1 rfl) ?_
  refine lv_iload (pc := 1247) hx hb dL_law_1247 (lv_at hl 5 rfl) ?_
  refine lv_iconst (pc := 1249) (v := 2) hx hb dL_law_1249 (by decide) ?_
  refine lv_iadd (pc := 1250) hx hb dL_law_1250 ?_
  refine va_sld (pc := 1251) hx hb hX hbl hbA hS (lw_in (j := 2) (by omega) hL rfl) dL_law_1251 ?_
  refine lv_aload_n (pc := 1252) hx hb dL_law_1252 rfl (lv_at hl 1 rfl) ?_
  refine lv_iload (pc := 1253) hx hb dL_law_1253 (lv_at hl 5 rfl) ?_
  refine lv_iconst (pc := 1255) (v := 3) hx hb dL_law_1255 (by decide) ?_
  refine lv_iadd (pc := 1256) hx hb dL_law_1256 ?_
  refine va_sld (pc := 1257) hx hb hX hbl hbA hS (lw_in (j := 3) (by omega) hL rfl) dL_law_1257 ?_
  have hz1 := hS.1
  have t_fu := fu.lt
  have hpl0 := hM.tl
  obtain ⟨fsm, fom⟩ := hM.obj
  have hPs : ∀ q, H.size ≤ q → PL M0 uo q := fun q h => ⟨Nat.le_trans hz0 h, by have := fu.lt; omega⟩
  refine k_i (pc := 1258) (k_V E hC hS hA hl.1 (c1.recv hC fom rfl) rfl (c_X5_upper l D tk s.heap.size sa H.size (PL M0 uo) hPN hPs mo n9 kn th tt bb eT eB oT oB pk ca rf vs ((xs (nI i + 1).toNatClampNeg)) ((xs (nI i + 2).toNatClampNeg)) ((xs (nI i + 3).toNatClampNeg))) kw_1630 kw_1631 kw_1632 kw_5 kw_1633 (n := 3) (by decide +kernel) rfl ⟨⟨rfl, rfl⟩, ⟨Nat.le_of_ble_eq_true rfl, Nat.le_of_ble_eq_true rfl⟩, (by dsimp only [room_1]; omega), (by dsimp only [room_1]; omega)⟩ rfl (Nat.le_of_ble_eq_true rfl) hM dL_law_1258) hS (fun q _ w => hPN q w) hn (fun rm_ H locs hR hz hk hS => ?_)
  have hW := hW.kept (fun k hk9 => hk _ (hW k hk9).lt (fun z9 => Nat.not_le.mpr (had k hk9) z9.1))
  have fu := fu.kept (hk _ fu.lt (fun z9 => z9.2 rfl))
  obtain ⟨th1, tt1, bb1, rf1, hM, hm9⟩ := hR
  obtain ⟨e_th, e_n, hV⟩ := l_upper hV hw9 hm9
  have hz0 := Nat.le_trans hz0 hz
  refine lv_istore (pc := 1261) (lv' := [(6, .int rm_), (5, .int rk), (0, .ref b), (1, .ref (ad 15)), (2, .ref mo), (3, .ref uo), (4, .int (nI i))]) hx hb dL_law_1261 hl (by decide) rfl (fun ls hl => ?_)
  refine lv_goto (pc := 1263) (tgt := 1813) hx hb dL_law_1263 (by decide) ?_
  refine W.widen (k := cells + 7000) (n := slots + 101000) (by omega) (by omega) ?_
  exact K _ _ _ hz0 hS ⟨_, _, _, _, _, _, _, _, _, _, _, _, _, _, _, _, hV, hW, fu, hM⟩ (lv_sub hl [2, 3, 4, 5, 6] rfl)
set_option maxHeartbeats 4000000 in
set_option maxRecDepth 100000 in
theorem lc_25 {p : Program} {l : Launch} {e : Env} {s : State} {m : MethodId} {below : List Frame} {meth : Method} {c : Code} {Q : State → Prop} {D : va_G} {tk : Nat → ClassId} {sa ad : Nat → Nat} {b L uo mo M0 : Nat} {xs : Nat → Int32} {w0 : Cond} (hlst : l.stackTraces = false) (E : CallFix p m c cL_law 7 s #[.ref b] (w0 :: GW) "BestratiosLaw") (hr : meth.sig.returnType = some .boolean) (hC : Ctx D tk s.heap.size sa s) (hN : NCx s) (hX : va_X b L xs s s.heap) (hbl : b < s.heap.size) (hAD : ADok s.heap.size ad) (huo : s.heap.size ≤ uo) (hM0 : s.heap.size ≤ M0) (had : ∀ k, k < 22 → ad k < M0) (hL : L ≤ 320) {i : Nat} (hi : i + 5 ≤ L) {cells slots : Nat} {H : Heap} {locs : List Loc} {ls : Array Slot} (hc9 : cells + 7000 ≤ 844753) (hs9 : slots + 101000 ≤ 6567222) (hz0 : M0 ≤ H.size) (hS : va_S (NA s.heap.size) s.heap H locs) (hB : LR D tk sa ad uo mo (PL M0 uo) H) (hl : lv_has ls 7 [(0, .ref b), (1, .ref (ad 15)), (2, .ref mo), (3, .ref uo), (4, .int (nI i))])
    (K : ∀ (H1 : Heap) (locs1 : List Loc) (ls1 : Array Slot), M0 ≤ H1.size → va_S (NA s.heap.size) s.heap H1 locs1 → LR D tk sa ad uo mo (PL M0 uo) H1 → lv_has ls1 7 [(0, .ref b), (1, .ref (ad 15)), (2, .ref mo), (3, .ref uo), (4, .int (nI i))] → W p l e room_1 s m #[.ref b] below meth c H1 locs1 (cells + 7000) (slots + 101000) Q (F0 m 1813 ls1 [])) : W p l e room_1 s m #[.ref b] below meth c H locs cells slots Q (F0 m 1266 ls []) := by
  obtain ⟨hx, hb, -⟩ := id E
  have hbA : ¬ NA s.heap.size b := Nat.not_le.mpr hbl
  have hA : ∀ q, NA s.heap.size q → s.heap.size ≤ q := fun q h => h
  have hn : ∀ q, s.heap.size ≤ q → NA s.heap.size q := fun q h => h
  have hPN : ∀ q, PL M0 uo q → s.heap.size ≤ q := fun q h => Nat.le_trans hM0 h.1
  obtain ⟨g, kn, tt, bb, eT, eB, oT, oB, pk, ca, rf, vs, n9, th, ox, ov, hV, hW, fu, hM⟩ := hB
  refine lv_aload_n (pc := 1266) hx hb dL_law_1266 rfl (lv_at hl 1 rfl) ?_
  refine lv_aload_n (pc := 1267) hx hb dL_law_1267 rfl (lv_at hl 0 rfl) ?_
  refine lv_iload (pc := 1268) hx hb dL_law_1268 (lv_at hl 4 rfl) ?_
  refine lv_iconst (pc := 1270) (v := 1) hx hb dL_law_1270 (by decide) ?_
  refine lv_iadd (pc := 1271) hx hb dL_law_1271 ?_
  refine va_sld (pc := 1272) hx hb hX hbl hbA hS (lw_in (j := 1) (by omega) hL rfl) dL_law_1272 ?_
  refine lv_aload_n (pc := 1273) hx hb dL_law_1273 rfl (lv_at hl 0 rfl) ?_
  refine lv_iload (pc := 1274) hx hb dL_law_1274 (lv_at hl 4 rfl) ?_
  refine lv_iconst (pc := 1276) (v := 2) hx hb dL_law_1276 (by decide) ?_
  refine lv_iadd (pc := 1277) hx hb dL_law_1277 ?_
  refine va_sld (pc := 1278) hx hb hX hbl hbA hS (lw_in (j := 2) (by omega) hL rfl) dL_law_1278 ?_
  refine lv_aload_n (pc := 1279) hx hb dL_law_1279 rfl (lv_at hl 0 rfl) ?_
  refine lv_iload (pc := 1280) hx hb dL_law_1280 (lv_at hl 4 rfl) ?_
  refine lv_iconst (pc := 1282) (v := 3) hx hb dL_law_1282 (by decide) ?_
  refine lv_iadd (pc := 1283) hx hb dL_law_1283 ?_
  refine va_sld (pc := 1284) hx hb hX hbl hbA hS (lw_in (j := 3) (by omega) hL rfl) dL_law_1284 ?_
  refine lv_aload_n (pc := 1285) hx hb dL_law_1285 rfl (lv_at hl 3 rfl) ?_
  have hz1 := hS.1
  have hne := cwC hC hW (Or.inl fu.cl)
  refine k_i (pc := 1286) (k_SW E hC hN hS hA hl.1 (c_L_best l hlst D tk s.heap.size sa hAD huo H.size g kn hV.ci ((xs (nI i + 1).toNatClampNeg)) ((xs (nI i + 2).toNatClampNeg)) ((xs (nI i + 3).toNatClampNeg))) kw_1060 kw_1061 kw_0 wh_best (n := 5) (by decide +kernel) rfl ⟨⟨rfl, rfl⟩, ⟨Nat.le_of_ble_eq_true rfl, Nat.le_of_ble_eq_true rfl⟩, (by dsimp only [room_1]; omega), (by dsimp only [room_1]; omega)⟩ rfl (Nat.le_of_ble_eq_true rfl) ⟨hW, _, _, fu⟩ dL_law_1286) hS (fun q _ w => lwA.ge hAD huo hS.1 q w) hn (fun rk H locs hR hz hk hS => ?_)
  have hM := hM.wrap hC hW fu had hk
  obtain ⟨g1, ox, ov, hW, fu, hw9⟩ := hR
  have hz0 := Nat.le_trans hz0 hz
  refine lv_istore (pc := 1289) (lv' := [(5, .int rk), (0, .ref b), (1, .ref (ad 15)), (2, .ref mo), (3, .ref uo), (4, .int (nI i))]) hx hb dL_law_1289 hl (by decide) rfl (fun ls hl => ?_)
  refine lv_aload_n (pc := 1291) hx hb dL_law_1291 rfl (lv_at hl 3 rfl) ?_
  refine lv_aload_n (pc := 1292) hx hb dL_law_1292 rfl (lv_at hl 1 rfl) ?_
  refine lv_iload (pc := 1293) hx hb dL_law_1293 (lv_at hl 5 rfl) ?_
  refine lv_iconst (pc := 1295) (v := 1) hx hb dL_law_1295 (by decide) ?_
  refine lv_iadd (pc := 1296) hx hb dL_law_1296 ?_
  refine va_sld (pc := 1297) hx hb hX hbl hbA hS (lw_in (j := 1) (by omega) hL rfl) dL_law_1297 ?_
  refine lv_aload_n (pc := 1298) hx hb dL_law_1298 rfl (lv_at hl 1 rfl) ?_
  refine lv_iload (pc := 1299) hx hb dL_law_1299 (lv_at hl 5 rfl) ?_
  refine lv_iconst (pc := 1301) (v := 2) hx hb dL_law_1301 (by decide) ?_
  refine lv_iadd (pc := 1302) hx hb dL_law_1302 ?_
  refine va_sld (pc := 1303) hx hb hX hbl hbA hS (lw_in (j := 2) (by omega) hL rfl) dL_law_1303 ?_
  refine lv_aload_n (pc := 1304) hx hb dL_law_1304 rfl (lv_at hl 1 rfl) ?_
  refine lv_iload (pc := 1305) hx hb dL_law_1305 (lv_at hl 5 rfl) ?_
  refine lv_iconst (pc := 1307) (v := 3) hx hb dL_law_1307 (by decide) ?_
  refine lv_iadd (pc := 1308) hx hb dL_law_1308 ?_
  refine va_sld (pc := 1309) hx hb hX hbl hbA hS (lw_in (j := 3) (by omega) hL rfl) dL_law_1309 ?_
  have hz1 := hS.1
  have t_fu := fu.lt
  have hpl0 := hM.tl
  obtain ⟨fsm, fom⟩ := hM.obj
  have hPs : ∀ q, H.size ≤ q → PL M0 uo q := fun q h => ⟨Nat.le_trans hz0 h, by have := fu.lt; omega⟩
  refine k_i (pc := 1310) (k_V E hC hS hA hl.1 (c1.recv hC fom rfl) rfl (c_X5_best l D tk s.heap.size sa H.size (PL M0 uo) hPN hPs mo n9 kn th tt bb eT eB oT oB pk ca rf vs ((xs (nI i + 1).toNatClampNeg)) ((xs (nI i + 2).toNatClampNeg)) ((xs (nI i + 3).toNatClampNeg))) kw_1634 kw_1635 kw_1636 kw_5 kw_1637 (n := 3) (by decide +kernel) rfl ⟨⟨rfl, rfl⟩, ⟨Nat.le_of_ble_eq_true rfl, Nat.le_of_ble_eq_true rfl⟩, (by dsimp only [room_1]; omega), (by dsimp only [room_1]; omega)⟩ rfl (Nat.le_of_ble_eq_true rfl) hM dL_law_1310) hS (fun q _ w => hPN q w) hn (fun rm_ H locs hR hz hk hS => ?_)
  have hW := hW.kept (fun k hk9 => hk _ (hW k hk9).lt (fun z9 => Nat.not_le.mpr (had k hk9) z9.1))
  have fu := fu.kept (hk _ fu.lt (fun z9 => z9.2 rfl))
  obtain ⟨th1, tt1, bb1, rf1, hM, hm9⟩ := hR
  obtain ⟨e_th, e_n, hV⟩ := l_best hV hw9 hm9
  have hz0 := Nat.le_trans hz0 hz
  refine lv_istore (pc := 1313) (lv' := [(6, .int rm_), (5, .int rk), (0, .ref b), (1, .ref (ad 15)), (2, .ref mo), (3, .ref uo), (4, .int (nI i))]) hx hb dL_law_1313 hl (by decide) rfl (fun ls hl => ?_)
  refine lv_goto (pc := 1315) (tgt := 1813) hx hb dL_law_1315 (by decide) ?_
  refine W.widen (k := cells + 7000) (n := slots + 101000) (by omega) (by omega) ?_
  exact K _ _ _ hz0 hS ⟨_, _, _, _, _, _, _, _, _, _, _, _, _, _, _, _, hV, hW, fu, hM⟩ (lv_sub hl [2, 3, 4, 5, 6] rfl)
set_option maxHeartbeats 4000000 in
set_option maxRecDepth 100000 in
theorem lc_26 {p : Program} {l : Launch} {e : Env} {s : State} {m : MethodId} {below : List Frame} {meth : Method} {c : Code} {Q : State → Prop} {D : va_G} {tk : Nat → ClassId} {sa ad : Nat → Nat} {b L uo mo M0 : Nat} {xs : Nat → Int32} {w0 : Cond} (hlst : l.stackTraces = false) (E : CallFix p m c cL_law 7 s #[.ref b] (w0 :: GW) "BestratiosLaw") (hr : meth.sig.returnType = some .boolean) (hC : Ctx D tk s.heap.size sa s) (hN : NCx s) (hX : va_X b L xs s s.heap) (hbl : b < s.heap.size) (hAD : ADok s.heap.size ad) (huo : s.heap.size ≤ uo) (hM0 : s.heap.size ≤ M0) (had : ∀ k, k < 22 → ad k < M0) (hL : L ≤ 320) {i : Nat} (hi : i + 5 ≤ L) {cells slots : Nat} {H : Heap} {locs : List Loc} {ls : Array Slot} (hc9 : cells + 7000 ≤ 844753) (hs9 : slots + 101000 ≤ 6567222) (hz0 : M0 ≤ H.size) (hS : va_S (NA s.heap.size) s.heap H locs) (hB : LR D tk sa ad uo mo (PL M0 uo) H) (hl : lv_has ls 7 [(0, .ref b), (1, .ref (ad 15)), (2, .ref mo), (3, .ref uo), (4, .int (nI i))])
    (K : ∀ (H1 : Heap) (locs1 : List Loc) (ls1 : Array Slot), M0 ≤ H1.size → va_S (NA s.heap.size) s.heap H1 locs1 → LR D tk sa ad uo mo (PL M0 uo) H1 → lv_has ls1 7 [(0, .ref b), (1, .ref (ad 15)), (2, .ref mo), (3, .ref uo), (4, .int (nI i))] → W p l e room_1 s m #[.ref b] below meth c H1 locs1 (cells + 7000) (slots + 101000) Q (F0 m 1813 ls1 [])) : W p l e room_1 s m #[.ref b] below meth c H locs cells slots Q (F0 m 1318 ls []) := by
  obtain ⟨hx, hb, -⟩ := id E
  have hbA : ¬ NA s.heap.size b := Nat.not_le.mpr hbl
  have hA : ∀ q, NA s.heap.size q → s.heap.size ≤ q := fun q h => h
  have hn : ∀ q, s.heap.size ≤ q → NA s.heap.size q := fun q h => h
  have hPN : ∀ q, PL M0 uo q → s.heap.size ≤ q := fun q h => Nat.le_trans hM0 h.1
  obtain ⟨g, kn, tt, bb, eT, eB, oT, oB, pk, ca, rf, vs, n9, th, ox, ov, hV, hW, fu, hM⟩ := hB
  refine lv_aload_n (pc := 1318) hx hb dL_law_1318 rfl (lv_at hl 1 rfl) ?_
  refine lv_aload_n (pc := 1319) hx hb dL_law_1319 rfl (lv_at hl 0 rfl) ?_
  refine lv_iload (pc := 1320) hx hb dL_law_1320 (lv_at hl 4 rfl) ?_
  refine lv_iconst (pc := 1322) (v := 1) hx hb dL_law_1322 (by decide) ?_
  refine lv_iadd (pc := 1323) hx hb dL_law_1323 ?_
  refine va_sld (pc := 1324) hx hb hX hbl hbA hS (lw_in (j := 1) (by omega) hL rfl) dL_law_1324 ?_
  refine lv_aload_n (pc := 1325) hx hb dL_law_1325 rfl (lv_at hl 3 rfl) ?_
  have hz1 := hS.1
  have hne := cwC hC hW (Or.inl fu.cl)
  refine k_i (pc := 1326) (k_SW E hC hN hS hA hl.1 (c_L_up l hlst D tk s.heap.size sa hAD huo H.size g kn hV.ci ((xs (nI i + 1).toNatClampNeg))) kw_1071 kw_1072 kw_0 wh_up (n := 3) (by decide +kernel) rfl ⟨⟨rfl, rfl⟩, ⟨Nat.le_of_ble_eq_true rfl, Nat.le_of_ble_eq_true rfl⟩, (by dsimp only [room_1]; omega), (by dsimp only [room_1]; omega)⟩ rfl (Nat.le_of_ble_eq_true rfl) ⟨hW, _, _, fu⟩ dL_law_1326) hS (fun q _ w => lwA.ge hAD huo hS.1 q w) hn (fun rk H locs hR hz hk hS => ?_)
  have hM := hM.wrap hC hW fu had hk
  obtain ⟨g1, ox, ov, hW, fu, hw9⟩ := hR
  have hz0 := Nat.le_trans hz0 hz
  refine lv_istore (pc := 1329) (lv' := [(5, .int rk), (0, .ref b), (1, .ref (ad 15)), (2, .ref mo), (3, .ref uo), (4, .int (nI i))]) hx hb dL_law_1329 hl (by decide) rfl (fun ls hl => ?_)
  refine lv_aload_n (pc := 1331) hx hb dL_law_1331 rfl (lv_at hl 3 rfl) ?_
  refine lv_aload_n (pc := 1332) hx hb dL_law_1332 rfl (lv_at hl 1 rfl) ?_
  refine lv_iload (pc := 1333) hx hb dL_law_1333 (lv_at hl 5 rfl) ?_
  refine lv_iconst (pc := 1335) (v := 1) hx hb dL_law_1335 (by decide) ?_
  refine lv_iadd (pc := 1336) hx hb dL_law_1336 ?_
  refine va_sld (pc := 1337) hx hb hX hbl hbA hS (lw_in (j := 1) (by omega) hL rfl) dL_law_1337 ?_
  have hz1 := hS.1
  have t_fu := fu.lt
  have hpl0 := hM.tl
  obtain ⟨fsm, fom⟩ := hM.obj
  have hPs : ∀ q, H.size ≤ q → PL M0 uo q := fun q h => ⟨Nat.le_trans hz0 h, by have := fu.lt; omega⟩
  refine k_i (pc := 1338) (k_V E hC hS hA hl.1 (c1.recv hC fom rfl) rfl (c_X5_up l D tk s.heap.size sa H.size (PL M0 uo) hPN hPs mo n9 kn th tt bb eT eB oT oB pk ca rf vs ((xs (nI i + 1).toNatClampNeg))) kw_1641 kw_1642 kw_1643 kw_5 kw_1644 (n := 1) (by decide +kernel) rfl ⟨⟨rfl, rfl⟩, ⟨Nat.le_of_ble_eq_true rfl, Nat.le_of_ble_eq_true rfl⟩, (by dsimp only [room_1]; omega), (by dsimp only [room_1]; omega)⟩ rfl (Nat.le_of_ble_eq_true rfl) hM dL_law_1338) hS (fun q _ w => hPN q w) hn (fun rm_ H locs hR hz hk hS => ?_)
  have hW := hW.kept (fun k hk9 => hk _ (hW k hk9).lt (fun z9 => Nat.not_le.mpr (had k hk9) z9.1))
  have fu := fu.kept (hk _ fu.lt (fun z9 => z9.2 rfl))
  obtain ⟨th1, tt1, bb1, rf1, hM, hm9⟩ := hR
  obtain ⟨e_th, e_n, hV⟩ := l_up hV hw9 hm9
  have hz0 := Nat.le_trans hz0 hz
  refine lv_istore (pc := 1341) (lv' := [(6, .int rm_), (5, .int rk), (0, .ref b), (1, .ref (ad 15)), (2, .ref mo), (3, .ref uo), (4, .int (nI i))]) hx hb dL_law_1341 hl (by decide) rfl (fun ls hl => ?_)
  refine lv_goto (pc := 1343) (tgt := 1813) hx hb dL_law_1343 (by decide) ?_
  refine W.widen (k := cells + 7000) (n := slots + 101000) (by omega) (by omega) ?_
  exact K _ _ _ hz0 hS ⟨_, _, _, _, _, _, _, _, _, _, _, _, _, _, _, _, hV, hW, fu, hM⟩ (lv_sub hl [2, 3, 4, 5, 6] rfl)
set_option maxHeartbeats 4000000 in
set_option maxRecDepth 100000 in
theorem lc_27 {p : Program} {l : Launch} {e : Env} {s : State} {m : MethodId} {below : List Frame} {meth : Method} {c : Code} {Q : State → Prop} {D : va_G} {tk : Nat → ClassId} {sa ad : Nat → Nat} {b L uo mo M0 : Nat} {xs : Nat → Int32} {w0 : Cond} (hlst : l.stackTraces = false) (E : CallFix p m c cL_law 7 s #[.ref b] (w0 :: GW) "BestratiosLaw") (hr : meth.sig.returnType = some .boolean) (hC : Ctx D tk s.heap.size sa s) (hN : NCx s) (hX : va_X b L xs s s.heap) (hbl : b < s.heap.size) (hAD : ADok s.heap.size ad) (huo : s.heap.size ≤ uo) (hM0 : s.heap.size ≤ M0) (had : ∀ k, k < 22 → ad k < M0) (hL : L ≤ 320) {i : Nat} (hi : i + 5 ≤ L) {cells slots : Nat} {H : Heap} {locs : List Loc} {ls : Array Slot} (hc9 : cells + 7000 ≤ 844753) (hs9 : slots + 101000 ≤ 6567222) (hz0 : M0 ≤ H.size) (hS : va_S (NA s.heap.size) s.heap H locs) (hB : LR D tk sa ad uo mo (PL M0 uo) H) (hl : lv_has ls 7 [(0, .ref b), (1, .ref (ad 15)), (2, .ref mo), (3, .ref uo), (4, .int (nI i))])
    (K : ∀ (H1 : Heap) (locs1 : List Loc) (ls1 : Array Slot), M0 ≤ H1.size → va_S (NA s.heap.size) s.heap H1 locs1 → LR D tk sa ad uo mo (PL M0 uo) H1 → lv_has ls1 7 [(0, .ref b), (1, .ref (ad 15)), (2, .ref mo), (3, .ref uo), (4, .int (nI i))] → W p l e room_1 s m #[.ref b] below meth c H1 locs1 (cells + 7000) (slots + 101000) Q (F0 m 1813 ls1 [])) : W p l e room_1 s m #[.ref b] below meth c H locs cells slots Q (F0 m 1346 ls []) := by
  obtain ⟨hx, hb, -⟩ := id E
  have hbA : ¬ NA s.heap.size b := Nat.not_le.mpr hbl
  have hA : ∀ q, NA s.heap.size q → s.heap.size ≤ q := fun q h => h
  have hn : ∀ q, s.heap.size ≤ q → NA s.heap.size q := fun q h => h
  have hPN : ∀ q, PL M0 uo q → s.heap.size ≤ q := fun q h => Nat.le_trans hM0 h.1
  obtain ⟨g, kn, tt, bb, eT, eB, oT, oB, pk, ca, rf, vs, n9, th, ox, ov, hV, hW, fu, hM⟩ := hB
  refine lv_aload_n (pc := 1346) hx hb dL_law_1346 rfl (lv_at hl 1 rfl) ?_
  refine lv_aload_n (pc := 1347) hx hb dL_law_1347 rfl (lv_at hl 0 rfl) ?_
  refine lv_iload (pc := 1348) hx hb dL_law_1348 (lv_at hl 4 rfl) ?_
  refine lv_iconst (pc := 1350) (v := 1) hx hb dL_law_1350 (by decide) ?_
  refine lv_iadd (pc := 1351) hx hb dL_law_1351 ?_
  refine va_sld (pc := 1352) hx hb hX hbl hbA hS (lw_in (j := 1) (by omega) hL rfl) dL_law_1352 ?_
  refine lv_aload_n (pc := 1353) hx hb dL_law_1353 rfl (lv_at hl 0 rfl) ?_
  refine lv_iload (pc := 1354) hx hb dL_law_1354 (lv_at hl 4 rfl) ?_
  refine lv_iconst (pc := 1356) (v := 2) hx hb dL_law_1356 (by decide) ?_
  refine lv_iadd (pc := 1357) hx hb dL_law_1357 ?_
  refine va_sld (pc := 1358) hx hb hX hbl hbA hS (lw_in (j := 2) (by omega) hL rfl) dL_law_1358 ?_
  refine lv_if_eq (pc := 1359) (tgt := 1366) hx hb dL_law_1359 (by decide) (fun c_1 => ?_) (fun c_1 => ?_)
  · refine lv_iconst (pc := 1366) (v := 0) hx hb dL_law_1366 (by decide) ?_
    refine lv_aload_n (pc := 1367) hx hb dL_law_1367 rfl (lv_at hl 3 rfl) ?_
    have hz1 := hS.1
    have hne := cwC hC hW (Or.inl fu.cl)
    refine k_i (pc := 1368) (k_SW E hC hN hS hA hl.1 (c_L_down l hlst D tk s.heap.size sa hAD huo H.size g kn hV.ci ((xs (nI i + 1).toNatClampNeg)) 0) kw_1082 kw_1083 kw_0 wh_down (n := 4) (by decide +kernel) rfl ⟨⟨rfl, rfl⟩, ⟨Nat.le_of_ble_eq_true rfl, Nat.le_of_ble_eq_true rfl⟩, (by dsimp only [room_1]; omega), (by dsimp only [room_1]; omega)⟩ rfl (Nat.le_of_ble_eq_true rfl) ⟨hW, _, _, fu⟩ dL_law_1368) hS (fun q _ w => lwA.ge hAD huo hS.1 q w) hn (fun rk H locs hR hz hk hS => ?_)
    have hM := hM.wrap hC hW fu had hk
    obtain ⟨g1, ox, ov, hW, fu, hw9⟩ := hR
    have hz0 := Nat.le_trans hz0 hz
    refine lv_istore (pc := 1371) (lv' := [(5, .int rk), (0, .ref b), (1, .ref (ad 15)), (2, .ref mo), (3, .ref uo), (4, .int (nI i))]) hx hb dL_law_1371 hl (by decide) rfl (fun ls hl => ?_)
    refine lv_aload_n (pc := 1373) hx hb dL_law_1373 rfl (lv_at hl 3 rfl) ?_
    refine lv_aload_n (pc := 1374) hx hb dL_law_1374 rfl (lv_at hl 1 rfl) ?_
    refine lv_iload (pc := 1375) hx hb dL_law_1375 (lv_at hl 5 rfl) ?_
    refine lv_iconst (pc := 1377) (v := 1) hx hb dL_law_1377 (by decide) ?_
    refine lv_iadd (pc := 1378) hx hb dL_law_1378 ?_
    refine va_sld (pc := 1379) hx hb hX hbl hbA hS (lw_in (j := 1) (by omega) hL rfl) dL_law_1379 ?_
    refine lv_aload_n (pc := 1380) hx hb dL_law_1380 rfl (lv_at hl 1 rfl) ?_
    refine lv_iload (pc := 1381) hx hb dL_law_1381 (lv_at hl 5 rfl) ?_
    refine lv_iconst (pc := 1383) (v := 2) hx hb dL_law_1383 (by decide) ?_
    refine lv_iadd (pc := 1384) hx hb dL_law_1384 ?_
    refine va_sld (pc := 1385) hx hb hX hbl hbA hS (lw_in (j := 2) (by omega) hL rfl) dL_law_1385 ?_
    refine lv_if_eq (pc := 1386) (tgt := 1393) hx hb dL_law_1386 (by decide) (fun _ => ?_) (fun z9 => absurd c_1 z9)
    refine lv_iconst (pc := 1393) (v := 0) hx hb dL_law_1393 (by decide) ?_
    have hz1 := hS.1
    have t_fu := fu.lt
    have hpl0 := hM.tl
    obtain ⟨fsm, fom⟩ := hM.obj
    have hPs : ∀ q, H.size ≤ q → PL M0 uo q := fun q h => ⟨Nat.le_trans hz0 h, by have := fu.lt; omega⟩
    refine k_i (pc := 1394) (k_V E hC hS hA hl.1 (c1.recv hC fom rfl) rfl (c_X5_down l D tk s.heap.size sa H.size (PL M0 uo) hPN hPs mo n9 kn th tt bb eT eB oT oB pk ca rf vs ((xs (nI i + 1).toNatClampNeg)) 0) kw_1658 kw_1659 kw_1660 kw_5 kw_1661 (n := 2) (by decide +kernel) rfl ⟨⟨rfl, rfl⟩, ⟨Nat.le_of_ble_eq_true rfl, Nat.le_of_ble_eq_true rfl⟩, (by dsimp only [room_1]; omega), (by dsimp only [room_1]; omega)⟩ rfl (Nat.le_of_ble_eq_true rfl) hM dL_law_1394) hS (fun q _ w => hPN q w) hn (fun rm_ H locs hR hz hk hS => ?_)
    have hW := hW.kept (fun k hk9 => hk _ (hW k hk9).lt (fun z9 => Nat.not_le.mpr (had k hk9) z9.1))
    have fu := fu.kept (hk _ fu.lt (fun z9 => z9.2 rfl))
    obtain ⟨th1, tt1, bb1, rf1, hM, hm9⟩ := hR
    obtain ⟨e_th, e_n, hV⟩ := l_down hV (Or.inl rfl) hw9 hm9
    have hz0 := Nat.le_trans hz0 hz
    refine lv_istore (pc := 1397) (lv' := [(6, .int rm_), (5, .int rk), (0, .ref b), (1, .ref (ad 15)), (2, .ref mo), (3, .ref uo), (4, .int (nI i))]) hx hb dL_law_1397 hl (by decide) rfl (fun ls hl => ?_)
    refine lv_goto (pc := 1399) (tgt := 1813) hx hb dL_law_1399 (by decide) ?_
    refine W.widen (k := cells + 7000) (n := slots + 101000) (by omega) (by omega) ?_
    exact K _ _ _ hz0 hS ⟨_, _, _, _, _, _, _, _, _, _, _, _, _, _, _, _, hV, hW, fu, hM⟩ (lv_sub hl [2, 3, 4, 5, 6] rfl)
  · refine lv_iconst (pc := 1362) (v := 1) hx hb dL_law_1362 (by decide) ?_
    refine lv_goto (pc := 1363) (tgt := 1367) hx hb dL_law_1363 (by decide) ?_
    refine lv_aload_n (pc := 1367) hx hb dL_law_1367 rfl (lv_at hl 3 rfl) ?_
    have hz1 := hS.1
    have hne := cwC hC hW (Or.inl fu.cl)
    refine k_i (pc := 1368) (k_SW E hC hN hS hA hl.1 (c_L_down l hlst D tk s.heap.size sa hAD huo H.size g kn hV.ci ((xs (nI i + 1).toNatClampNeg)) 1) kw_1082 kw_1083 kw_0 wh_down (n := 4) (by decide +kernel) rfl ⟨⟨rfl, rfl⟩, ⟨Nat.le_of_ble_eq_true rfl, Nat.le_of_ble_eq_true rfl⟩, (by dsimp only [room_1]; omega), (by dsimp only [room_1]; omega)⟩ rfl (Nat.le_of_ble_eq_true rfl) ⟨hW, _, _, fu⟩ dL_law_1368) hS (fun q _ w => lwA.ge hAD huo hS.1 q w) hn (fun rk H locs hR hz hk hS => ?_)
    have hM := hM.wrap hC hW fu had hk
    obtain ⟨g1, ox, ov, hW, fu, hw9⟩ := hR
    have hz0 := Nat.le_trans hz0 hz
    refine lv_istore (pc := 1371) (lv' := [(5, .int rk), (0, .ref b), (1, .ref (ad 15)), (2, .ref mo), (3, .ref uo), (4, .int (nI i))]) hx hb dL_law_1371 hl (by decide) rfl (fun ls hl => ?_)
    refine lv_aload_n (pc := 1373) hx hb dL_law_1373 rfl (lv_at hl 3 rfl) ?_
    refine lv_aload_n (pc := 1374) hx hb dL_law_1374 rfl (lv_at hl 1 rfl) ?_
    refine lv_iload (pc := 1375) hx hb dL_law_1375 (lv_at hl 5 rfl) ?_
    refine lv_iconst (pc := 1377) (v := 1) hx hb dL_law_1377 (by decide) ?_
    refine lv_iadd (pc := 1378) hx hb dL_law_1378 ?_
    refine va_sld (pc := 1379) hx hb hX hbl hbA hS (lw_in (j := 1) (by omega) hL rfl) dL_law_1379 ?_
    refine lv_aload_n (pc := 1380) hx hb dL_law_1380 rfl (lv_at hl 1 rfl) ?_
    refine lv_iload (pc := 1381) hx hb dL_law_1381 (lv_at hl 5 rfl) ?_
    refine lv_iconst (pc := 1383) (v := 2) hx hb dL_law_1383 (by decide) ?_
    refine lv_iadd (pc := 1384) hx hb dL_law_1384 ?_
    refine va_sld (pc := 1385) hx hb hX hbl hbA hS (lw_in (j := 2) (by omega) hL rfl) dL_law_1385 ?_
    refine lv_if_eq (pc := 1386) (tgt := 1393) hx hb dL_law_1386 (by decide) (fun z9 => absurd z9 c_1) (fun _ => ?_)
    refine lv_iconst (pc := 1389) (v := 1) hx hb dL_law_1389 (by decide) ?_
    refine lv_goto (pc := 1390) (tgt := 1394) hx hb dL_law_1390 (by decide) ?_
    have hz1 := hS.1
    have t_fu := fu.lt
    have hpl0 := hM.tl
    obtain ⟨fsm, fom⟩ := hM.obj
    have hPs : ∀ q, H.size ≤ q → PL M0 uo q := fun q h => ⟨Nat.le_trans hz0 h, by have := fu.lt; omega⟩
    refine k_i (pc := 1394) (k_V E hC hS hA hl.1 (c1.recv hC fom rfl) rfl (c_X5_down l D tk s.heap.size sa H.size (PL M0 uo) hPN hPs mo n9 kn th tt bb eT eB oT oB pk ca rf vs ((xs (nI i + 1).toNatClampNeg)) 1) kw_1658 kw_1659 kw_1660 kw_5 kw_1661 (n := 2) (by decide +kernel) rfl ⟨⟨rfl, rfl⟩, ⟨Nat.le_of_ble_eq_true rfl, Nat.le_of_ble_eq_true rfl⟩, (by dsimp only [room_1]; omega), (by dsimp only [room_1]; omega)⟩ rfl (Nat.le_of_ble_eq_true rfl) hM dL_law_1394) hS (fun q _ w => hPN q w) hn (fun rm_ H locs hR hz hk hS => ?_)
    have hW := hW.kept (fun k hk9 => hk _ (hW k hk9).lt (fun z9 => Nat.not_le.mpr (had k hk9) z9.1))
    have fu := fu.kept (hk _ fu.lt (fun z9 => z9.2 rfl))
    obtain ⟨th1, tt1, bb1, rf1, hM, hm9⟩ := hR
    obtain ⟨e_th, e_n, hV⟩ := l_down hV (Or.inr rfl) hw9 hm9
    have hz0 := Nat.le_trans hz0 hz
    refine lv_istore (pc := 1397) (lv' := [(6, .int rm_), (5, .int rk), (0, .ref b), (1, .ref (ad 15)), (2, .ref mo), (3, .ref uo), (4, .int (nI i))]) hx hb dL_law_1397 hl (by decide) rfl (fun ls hl => ?_)
    refine lv_goto (pc := 1399) (tgt := 1813) hx hb dL_law_1399 (by decide) ?_
    refine W.widen (k := cells + 7000) (n := slots + 101000) (by omega) (by omega) ?_
    exact K _ _ _ hz0 hS ⟨_, _, _, _, _, _, _, _, _, _, _, _, _, _, _, _, hV, hW, fu, hM⟩ (lv_sub hl [2, 3, 4, 5, 6] rfl)
set_option maxHeartbeats 4000000 in
set_option maxRecDepth 100000 in
theorem lc_28 {p : Program} {l : Launch} {e : Env} {s : State} {m : MethodId} {below : List Frame} {meth : Method} {c : Code} {Q : State → Prop} {D : va_G} {tk : Nat → ClassId} {sa ad : Nat → Nat} {b L uo mo M0 : Nat} {xs : Nat → Int32} {w0 : Cond} (hlst : l.stackTraces = false) (E : CallFix p m c cL_law 7 s #[.ref b] (w0 :: GW) "BestratiosLaw") (hr : meth.sig.returnType = some .boolean) (hC : Ctx D tk s.heap.size sa s) (hN : NCx s) (hX : va_X b L xs s s.heap) (hbl : b < s.heap.size) (hAD : ADok s.heap.size ad) (huo : s.heap.size ≤ uo) (hM0 : s.heap.size ≤ M0) (had : ∀ k, k < 22 → ad k < M0) (hL : L ≤ 320) {i : Nat} (hi : i + 5 ≤ L) {cells slots : Nat} {H : Heap} {locs : List Loc} {ls : Array Slot} (hc9 : cells + 7000 ≤ 844753) (hs9 : slots + 101000 ≤ 6567222) (hz0 : M0 ≤ H.size) (hS : va_S (NA s.heap.size) s.heap H locs) (hB : LR D tk sa ad uo mo (PL M0 uo) H) (hl : lv_has ls 7 [(0, .ref b), (1, .ref (ad 15)), (2, .ref mo), (3, .ref uo), (4, .int (nI i))])
    (K : ∀ (H1 : Heap) (locs1 : List Loc) (ls1 : Array Slot), M0 ≤ H1.size → va_S (NA s.heap.size) s.heap H1 locs1 → LR D tk sa ad uo mo (PL M0 uo) H1 → lv_has ls1 7 [(0, .ref b), (1, .ref (ad 15)), (2, .ref mo), (3, .ref uo), (4, .int (nI i))] → W p l e room_1 s m #[.ref b] below meth c H1 locs1 (cells + 7000) (slots + 101000) Q (F0 m 1813 ls1 [])) : W p l e room_1 s m #[.ref b] below meth c H locs cells slots Q (F0 m 1402 ls []) := by
  obtain ⟨hx, hb, -⟩ := id E
  have hbA : ¬ NA s.heap.size b := Nat.not_le.mpr hbl
  have hA : ∀ q, NA s.heap.size q → s.heap.size ≤ q := fun q h => h
  have hn : ∀ q, s.heap.size ≤ q → NA s.heap.size q := fun q h => h
  have hPN : ∀ q, PL M0 uo q → s.heap.size ≤ q := fun q h => Nat.le_trans hM0 h.1
  obtain ⟨g, kn, tt, bb, eT, eB, oT, oB, pk, ca, rf, vs, n9, th, ox, ov, hV, hW, fu, hM⟩ := hB
  refine lv_aload_n (pc := 1402) hx hb dL_law_1402 rfl (lv_at hl 1 rfl) ?_
  refine lv_aload_n (pc := 1403) hx hb dL_law_1403 rfl (lv_at hl 0 rfl) ?_
  refine lv_iload (pc := 1404) hx hb dL_law_1404 (lv_at hl 4 rfl) ?_
  refine lv_iconst (pc := 1406) (v := 1) hx hb dL_law_1406 (by decide) ?_
  refine lv_iadd (pc := 1407) hx hb dL_law_1407 ?_
  refine va_sld (pc := 1408) hx hb hX hbl hbA hS (lw_in (j := 1) (by omega) hL rfl) dL_law_1408 ?_
  refine lv_aload_n (pc := 1409) hx hb dL_law_1409 rfl (lv_at hl 3 rfl) ?_
  have hz1 := hS.1
  have hne := cwC hC hW (Or.inl fu.cl)
  refine k_i (pc := 1410) (k_SW E hC hN hS hA hl.1 (c_L_depth l hlst D tk s.heap.size sa hAD huo H.size g kn hV.ci ((xs (nI i + 1).toNatClampNeg))) kw_1089 kw_1090 kw_0 wh_depth (n := 3) (by decide +kernel) rfl ⟨⟨rfl, rfl⟩, ⟨Nat.le_of_ble_eq_true rfl, Nat.le_of_ble_eq_true rfl⟩, (by dsimp only [room_1]; omega), (by dsimp only [room_1]; omega)⟩ rfl (Nat.le_of_ble_eq_true rfl) ⟨hW, _, _, fu⟩ dL_law_1410) hS (fun q _ w => lwA.ge hAD huo hS.1 q w) hn (fun rk H locs hR hz hk hS => ?_)
  have hM := hM.wrap hC hW fu had hk
  obtain ⟨g1, ox, ov, hW, fu, hw9⟩ := hR
  have hz0 := Nat.le_trans hz0 hz
  refine lv_istore (pc := 1413) (lv' := [(5, .int rk), (0, .ref b), (1, .ref (ad 15)), (2, .ref mo), (3, .ref uo), (4, .int (nI i))]) hx hb dL_law_1413 hl (by decide) rfl (fun ls hl => ?_)
  refine lv_aload_n (pc := 1415) hx hb dL_law_1415 rfl (lv_at hl 3 rfl) ?_
  refine lv_aload_n (pc := 1416) hx hb dL_law_1416 rfl (lv_at hl 1 rfl) ?_
  refine lv_iload (pc := 1417) hx hb dL_law_1417 (lv_at hl 5 rfl) ?_
  refine lv_iconst (pc := 1419) (v := 1) hx hb dL_law_1419 (by decide) ?_
  refine lv_iadd (pc := 1420) hx hb dL_law_1420 ?_
  refine va_sld (pc := 1421) hx hb hX hbl hbA hS (lw_in (j := 1) (by omega) hL rfl) dL_law_1421 ?_
  have hz1 := hS.1
  have t_fu := fu.lt
  have hpl0 := hM.tl
  obtain ⟨fsm, fom⟩ := hM.obj
  have hPs : ∀ q, H.size ≤ q → PL M0 uo q := fun q h => ⟨Nat.le_trans hz0 h, by have := fu.lt; omega⟩
  refine k_i (pc := 1422) (k_V E hC hS hA hl.1 (c1.recv hC fom rfl) rfl (c_X5_depth l D tk s.heap.size sa H.size (PL M0 uo) hPN hPs mo n9 kn th tt bb eT eB oT oB pk ca rf vs ((xs (nI i + 1).toNatClampNeg))) kw_1666 kw_1667 kw_1668 kw_5 kw_1669 (n := 1) (by decide +kernel) rfl ⟨⟨rfl, rfl⟩, ⟨Nat.le_of_ble_eq_true rfl, Nat.le_of_ble_eq_true rfl⟩, (by dsimp only [room_1]; omega), (by dsimp only [room_1]; omega)⟩ rfl (Nat.le_of_ble_eq_true rfl) hM dL_law_1422) hS (fun q _ w => hPN q w) hn (fun rm_ H locs hR hz hk hS => ?_)
  have hW := hW.kept (fun k hk9 => hk _ (hW k hk9).lt (fun z9 => Nat.not_le.mpr (had k hk9) z9.1))
  have fu := fu.kept (hk _ fu.lt (fun z9 => z9.2 rfl))
  obtain ⟨th1, hM, hm9⟩ := hR
  obtain ⟨e_th, e_n, hV⟩ := l_depth hV hw9 hm9
  have hz0 := Nat.le_trans hz0 hz
  refine lv_istore (pc := 1425) (lv' := [(6, .int rm_), (5, .int rk), (0, .ref b), (1, .ref (ad 15)), (2, .ref mo), (3, .ref uo), (4, .int (nI i))]) hx hb dL_law_1425 hl (by decide) rfl (fun ls hl => ?_)
  refine lv_goto (pc := 1427) (tgt := 1813) hx hb dL_law_1427 (by decide) ?_
  refine W.widen (k := cells + 7000) (n := slots + 101000) (by omega) (by omega) ?_
  exact K _ _ _ hz0 hS ⟨_, _, _, _, _, _, _, _, _, _, _, _, _, _, _, _, hV, hW, fu, hM⟩ (lv_sub hl [2, 3, 4, 5, 6] rfl)
set_option maxHeartbeats 4000000 in
set_option maxRecDepth 100000 in
theorem lc_29 {p : Program} {l : Launch} {e : Env} {s : State} {m : MethodId} {below : List Frame} {meth : Method} {c : Code} {Q : State → Prop} {D : va_G} {tk : Nat → ClassId} {sa ad : Nat → Nat} {b L uo mo M0 : Nat} {xs : Nat → Int32} {w0 : Cond} (hlst : l.stackTraces = false) (E : CallFix p m c cL_law 7 s #[.ref b] (w0 :: GW) "BestratiosLaw") (hr : meth.sig.returnType = some .boolean) (hC : Ctx D tk s.heap.size sa s) (hN : NCx s) (hX : va_X b L xs s s.heap) (hbl : b < s.heap.size) (hAD : ADok s.heap.size ad) (huo : s.heap.size ≤ uo) (hM0 : s.heap.size ≤ M0) (had : ∀ k, k < 22 → ad k < M0) (hL : L ≤ 320) {i : Nat} (hi : i + 5 ≤ L) {cells slots : Nat} {H : Heap} {locs : List Loc} {ls : Array Slot} (hc9 : cells + 7000 ≤ 844753) (hs9 : slots + 101000 ≤ 6567222) (hz0 : M0 ≤ H.size) (hS : va_S (NA s.heap.size) s.heap H locs) (hB : LR D tk sa ad uo mo (PL M0 uo) H) (hl : lv_has ls 7 [(0, .ref b), (1, .ref (ad 15)), (2, .ref mo), (3, .ref uo), (4, .int (nI i))])
    (K : ∀ (H1 : Heap) (locs1 : List Loc) (ls1 : Array Slot), M0 ≤ H1.size → va_S (NA s.heap.size) s.heap H1 locs1 → LR D tk sa ad uo mo (PL M0 uo) H1 → lv_has ls1 7 [(0, .ref b), (1, .ref (ad 15)), (2, .ref mo), (3, .ref uo), (4, .int (nI i))] → W p l e room_1 s m #[.ref b] below meth c H1 locs1 (cells + 7000) (slots + 101000) Q (F0 m 1813 ls1 [])) : W p l e room_1 s m #[.ref b] below meth c H locs cells slots Q (F0 m 1430 ls []) := by
  obtain ⟨hx, hb, -⟩ := id E
  have hbA : ¬ NA s.heap.size b := Nat.not_le.mpr hbl
  have hA : ∀ q, NA s.heap.size q → s.heap.size ≤ q := fun q h => h
  have hn : ∀ q, s.heap.size ≤ q → NA s.heap.size q := fun q h => h
  have hPN : ∀ q, PL M0 uo q → s.heap.size ≤ q := fun q h => Nat.le_trans hM0 h.1
  obtain ⟨g, kn, tt, bb, eT, eB, oT, oB, pk, ca, rf, vs, n9, th, ox, ov, hV, hW, fu, hM⟩ := hB
  refine lv_aload_n (pc := 1430) hx hb dL_law_1430 rfl (lv_at hl 1 rfl) ?_
  refine lv_aload_n (pc := 1431) hx hb dL_law_1431 rfl (lv_at hl 0 rfl) ?_
  refine lv_iload (pc := 1432) hx hb dL_law_1432 (lv_at hl 4 rfl) ?_
  refine lv_iconst (pc := 1434) (v := 1) hx hb dL_law_1434 (by decide) ?_
  refine lv_iadd (pc := 1435) hx hb dL_law_1435 ?_
  refine va_sld (pc := 1436) hx hb hX hbl hbA hS (lw_in (j := 1) (by omega) hL rfl) dL_law_1436 ?_
  refine lv_aload_n (pc := 1437) hx hb dL_law_1437 rfl (lv_at hl 3 rfl) ?_
  have hz1 := hS.1
  have hne := cwC hC hW (Or.inl fu.cl)
  refine k_i (pc := 1438) (k_SW E hC hN hS hA hl.1 (c_L_way l hlst D tk s.heap.size sa hAD huo H.size g kn hV.ci ((xs (nI i + 1).toNatClampNeg))) kw_1096 kw_1097 kw_0 wh_way (n := 3) (by decide +kernel) rfl ⟨⟨rfl, rfl⟩, ⟨Nat.le_of_ble_eq_true rfl, Nat.le_of_ble_eq_true rfl⟩, (by dsimp only [room_1]; omega), (by dsimp only [room_1]; omega)⟩ rfl (Nat.le_of_ble_eq_true rfl) ⟨hW, _, _, fu⟩ dL_law_1438) hS (fun q _ w => lwA.ge hAD huo hS.1 q w) hn (fun rk H locs hR hz hk hS => ?_)
  have hM := hM.wrap hC hW fu had hk
  obtain ⟨g1, ox, ov, hW, fu, hw9⟩ := hR
  have hz0 := Nat.le_trans hz0 hz
  refine lv_istore (pc := 1441) (lv' := [(5, .int rk), (0, .ref b), (1, .ref (ad 15)), (2, .ref mo), (3, .ref uo), (4, .int (nI i))]) hx hb dL_law_1441 hl (by decide) rfl (fun ls hl => ?_)
  refine lv_aload_n (pc := 1443) hx hb dL_law_1443 rfl (lv_at hl 3 rfl) ?_
  refine lv_aload_n (pc := 1444) hx hb dL_law_1444 rfl (lv_at hl 1 rfl) ?_
  refine lv_iload (pc := 1445) hx hb dL_law_1445 (lv_at hl 5 rfl) ?_
  refine lv_iconst (pc := 1447) (v := 1) hx hb dL_law_1447 (by decide) ?_
  refine lv_iadd (pc := 1448) hx hb dL_law_1448 ?_
  refine va_sld (pc := 1449) hx hb hX hbl hbA hS (lw_in (j := 1) (by omega) hL rfl) dL_law_1449 ?_
  have hz1 := hS.1
  have t_fu := fu.lt
  have hpl0 := hM.tl
  obtain ⟨fsm, fom⟩ := hM.obj
  have hPs : ∀ q, H.size ≤ q → PL M0 uo q := fun q h => ⟨Nat.le_trans hz0 h, by have := fu.lt; omega⟩
  refine k_r (pc := 1450) (k_V E hC hS hA hl.1 (c1.recv hC fom rfl) rfl (c_X5_way l D tk s.heap.size sa H.size (PL M0 uo) hPN hPs mo n9 kn th tt bb eT eB oT oB pk ca rf vs ((xs (nI i + 1).toNatClampNeg))) kw_1674 kw_1675 kw_1676 kw_5 kw_1677 (n := 1) (by decide +kernel) rfl ⟨⟨rfl, rfl⟩, ⟨Nat.le_of_ble_eq_true rfl, Nat.le_of_ble_eq_true rfl⟩, (by dsimp only [room_1]; omega), (by dsimp only [room_1]; omega)⟩ rfl (Nat.le_of_ble_eq_true rfl) hM dL_law_1450) hS (fun q _ w => hPN q w) hn (fun rm_ H locs hR hz hk hS => ?_)
  have hW := hW.kept (fun k hk9 => hk _ (hW k hk9).lt (fun z9 => Nat.not_le.mpr (had k hk9) z9.1))
  have fu := fu.kept (hk _ fu.lt (fun z9 => z9.2 rfl))
  obtain ⟨th1, hM⟩ := hR
  have hV := l_txt hV (fun _ => lz_sm (tx_smW g _)) hw9
  have hz0 := Nat.le_trans hz0 hz
  refine lv_astore (pc := 1453) (lv' := [(6, .ref rm_), (5, .int rk), (0, .ref b), (1, .ref (ad 15)), (2, .ref mo), (3, .ref uo), (4, .int (nI i))]) hx hb dL_law_1453 hl (by decide) rfl (fun ls hl => ?_)
  refine lv_goto (pc := 1455) (tgt := 1813) hx hb dL_law_1455 (by decide) ?_
  refine W.widen (k := cells + 7000) (n := slots + 101000) (by omega) (by omega) ?_
  exact K _ _ _ hz0 hS ⟨_, _, _, _, _, _, _, _, _, _, _, _, _, _, _, _, hV, hW, fu, hM⟩ (lv_sub hl [2, 3, 4, 5, 6] rfl)
set_option maxHeartbeats 4000000 in
set_option maxRecDepth 100000 in
theorem lc_30 {p : Program} {l : Launch} {e : Env} {s : State} {m : MethodId} {below : List Frame} {meth : Method} {c : Code} {Q : State → Prop} {D : va_G} {tk : Nat → ClassId} {sa ad : Nat → Nat} {b L uo mo M0 : Nat} {xs : Nat → Int32} {w0 : Cond} (hlst : l.stackTraces = false) (E : CallFix p m c cL_law 7 s #[.ref b] (w0 :: GW) "BestratiosLaw") (hr : meth.sig.returnType = some .boolean) (hC : Ctx D tk s.heap.size sa s) (hN : NCx s) (hX : va_X b L xs s s.heap) (hbl : b < s.heap.size) (hAD : ADok s.heap.size ad) (huo : s.heap.size ≤ uo) (hM0 : s.heap.size ≤ M0) (had : ∀ k, k < 22 → ad k < M0) (hL : L ≤ 320) {i : Nat} (hi : i + 5 ≤ L) {cells slots : Nat} {H : Heap} {locs : List Loc} {ls : Array Slot} (hc9 : cells + 7000 ≤ 844753) (hs9 : slots + 101000 ≤ 6567222) (hz0 : M0 ≤ H.size) (hS : va_S (NA s.heap.size) s.heap H locs) (hB : LR D tk sa ad uo mo (PL M0 uo) H) (hl : lv_has ls 7 [(0, .ref b), (1, .ref (ad 15)), (2, .ref mo), (3, .ref uo), (4, .int (nI i))])
    (K : ∀ (H1 : Heap) (locs1 : List Loc) (ls1 : Array Slot), M0 ≤ H1.size → va_S (NA s.heap.size) s.heap H1 locs1 → LR D tk sa ad uo mo (PL M0 uo) H1 → lv_has ls1 7 [(0, .ref b), (1, .ref (ad 15)), (2, .ref mo), (3, .ref uo), (4, .int (nI i))] → W p l e room_1 s m #[.ref b] below meth c H1 locs1 (cells + 7000) (slots + 101000) Q (F0 m 1813 ls1 [])) : W p l e room_1 s m #[.ref b] below meth c H locs cells slots Q (F0 m 1458 ls []) := by
  obtain ⟨hx, hb, -⟩ := id E
  have hbA : ¬ NA s.heap.size b := Nat.not_le.mpr hbl
  have hA : ∀ q, NA s.heap.size q → s.heap.size ≤ q := fun q h => h
  have hn : ∀ q, s.heap.size ≤ q → NA s.heap.size q := fun q h => h
  have hPN : ∀ q, PL M0 uo q → s.heap.size ≤ q := fun q h => Nat.le_trans hM0 h.1
  obtain ⟨g, kn, tt, bb, eT, eB, oT, oB, pk, ca, rf, vs, n9, th, ox, ov, hV, hW, fu, hM⟩ := hB
  refine lv_aload_n (pc := 1458) hx hb dL_law_1458 rfl (lv_at hl 1 rfl) ?_
  refine lv_aload_n (pc := 1459) hx hb dL_law_1459 rfl (lv_at hl 0 rfl) ?_
  refine lv_iload (pc := 1460) hx hb dL_law_1460 (lv_at hl 4 rfl) ?_
  refine lv_iconst (pc := 1462) (v := 1) hx hb dL_law_1462 (by decide) ?_
  refine lv_iadd (pc := 1463) hx hb dL_law_1463 ?_
  refine va_sld (pc := 1464) hx hb hX hbl hbA hS (lw_in (j := 1) (by omega) hL rfl) dL_law_1464 ?_
  refine lv_aload_n (pc := 1465) hx hb dL_law_1465 rfl (lv_at hl 0 rfl) ?_
  refine lv_iload (pc := 1466) hx hb dL_law_1466 (lv_at hl 4 rfl) ?_
  refine lv_iconst (pc := 1468) (v := 2) hx hb dL_law_1468 (by decide) ?_
  refine lv_iadd (pc := 1469) hx hb dL_law_1469 ?_
  refine va_sld (pc := 1470) hx hb hX hbl hbA hS (lw_in (j := 2) (by omega) hL rfl) dL_law_1470 ?_
  refine lv_aload_n (pc := 1471) hx hb dL_law_1471 rfl (lv_at hl 3 rfl) ?_
  have hz1 := hS.1
  have hne := cwC hC hW (Or.inl fu.cl)
  refine k_i (pc := 1472) (k_SW E hC hN hS hA hl.1 (c_L_next l hlst D tk s.heap.size sa hAD huo H.size g kn hV.ci ((xs (nI i + 1).toNatClampNeg)) ((xs (nI i + 2).toNatClampNeg))) kw_1103 kw_1104 kw_0 wh_next (n := 4) (by decide +kernel) rfl ⟨⟨rfl, rfl⟩, ⟨Nat.le_of_ble_eq_true rfl, Nat.le_of_ble_eq_true rfl⟩, (by dsimp only [room_1]; omega), (by dsimp only [room_1]; omega)⟩ rfl (Nat.le_of_ble_eq_true rfl) ⟨hW, _, _, fu⟩ dL_law_1472) hS (fun q _ w => lwA.ge hAD huo hS.1 q w) hn (fun rk H locs hR hz hk hS => ?_)
  have hM := hM.wrap hC hW fu had hk
  obtain ⟨g1, ox, ov, hW, fu, hw9⟩ := hR
  have hz0 := Nat.le_trans hz0 hz
  refine lv_istore (pc := 1475) (lv' := [(5, .int rk), (0, .ref b), (1, .ref (ad 15)), (2, .ref mo), (3, .ref uo), (4, .int (nI i))]) hx hb dL_law_1475 hl (by decide) rfl (fun ls hl => ?_)
  refine lv_aload_n (pc := 1477) hx hb dL_law_1477 rfl (lv_at hl 3 rfl) ?_
  refine lv_aload_n (pc := 1478) hx hb dL_law_1478 rfl (lv_at hl 1 rfl) ?_
  refine lv_iload (pc := 1479) hx hb dL_law_1479 (lv_at hl 5 rfl) ?_
  refine lv_iconst (pc := 1481) (v := 1) hx hb dL_law_1481 (by decide) ?_
  refine lv_iadd (pc := 1482) hx hb dL_law_1482 ?_
  refine va_sld (pc := 1483) hx hb hX hbl hbA hS (lw_in (j := 1) (by omega) hL rfl) dL_law_1483 ?_
  refine lv_aload_n (pc := 1484) hx hb dL_law_1484 rfl (lv_at hl 1 rfl) ?_
  refine lv_iload (pc := 1485) hx hb dL_law_1485 (lv_at hl 5 rfl) ?_
  refine lv_iconst (pc := 1487) (v := 2) hx hb dL_law_1487 (by decide) ?_
  refine lv_iadd (pc := 1488) hx hb dL_law_1488 ?_
  refine va_sld (pc := 1489) hx hb hX hbl hbA hS (lw_in (j := 2) (by omega) hL rfl) dL_law_1489 ?_
  have hz1 := hS.1
  have t_fu := fu.lt
  have hpl0 := hM.tl
  obtain ⟨fsm, fom⟩ := hM.obj
  have hPs : ∀ q, H.size ≤ q → PL M0 uo q := fun q h => ⟨Nat.le_trans hz0 h, by have := fu.lt; omega⟩
  refine k_i (pc := 1490) (k_V E hC hS hA hl.1 (c1.recv hC fom rfl) rfl (c_X5_next l D tk s.heap.size sa H.size (PL M0 uo) hPN hPs mo n9 kn th tt bb eT eB oT oB pk ca rf vs ((xs (nI i + 1).toNatClampNeg)) ((xs (nI i + 2).toNatClampNeg))) kw_1685 kw_1686 kw_1687 kw_5 kw_1688 (n := 2) (by decide +kernel) rfl ⟨⟨rfl, rfl⟩, ⟨Nat.le_of_ble_eq_true rfl, Nat.le_of_ble_eq_true rfl⟩, (by dsimp only [room_1]; omega), (by dsimp only [room_1]; omega)⟩ rfl (Nat.le_of_ble_eq_true rfl) hM dL_law_1490) hS (fun q _ w => hPN q w) hn (fun rm_ H locs hR hz hk hS => ?_)
  have hW := hW.kept (fun k hk9 => hk _ (hW k hk9).lt (fun z9 => Nat.not_le.mpr (had k hk9) z9.1))
  have fu := fu.kept (hk _ fu.lt (fun z9 => z9.2 rfl))
  obtain ⟨th1, tt1, bb1, rf1, hM, hm9⟩ := hR
  obtain ⟨e_th, e_n, hV⟩ := l_next hV hw9 hm9
  have hz0 := Nat.le_trans hz0 hz
  refine lv_istore (pc := 1493) (lv' := [(6, .int rm_), (5, .int rk), (0, .ref b), (1, .ref (ad 15)), (2, .ref mo), (3, .ref uo), (4, .int (nI i))]) hx hb dL_law_1493 hl (by decide) rfl (fun ls hl => ?_)
  refine lv_goto (pc := 1495) (tgt := 1813) hx hb dL_law_1495 (by decide) ?_
  refine W.widen (k := cells + 7000) (n := slots + 101000) (by omega) (by omega) ?_
  exact K _ _ _ hz0 hS ⟨_, _, _, _, _, _, _, _, _, _, _, _, _, _, _, _, hV, hW, fu, hM⟩ (lv_sub hl [2, 3, 4, 5, 6] rfl)
set_option maxHeartbeats 4000000 in
set_option maxRecDepth 100000 in
theorem lc_31 {p : Program} {l : Launch} {e : Env} {s : State} {m : MethodId} {below : List Frame} {meth : Method} {c : Code} {Q : State → Prop} {D : va_G} {tk : Nat → ClassId} {sa ad : Nat → Nat} {b L uo mo M0 : Nat} {xs : Nat → Int32} {w0 : Cond} (hlst : l.stackTraces = false) (E : CallFix p m c cL_law 7 s #[.ref b] (w0 :: GW) "BestratiosLaw") (hr : meth.sig.returnType = some .boolean) (hC : Ctx D tk s.heap.size sa s) (hN : NCx s) (hX : va_X b L xs s s.heap) (hbl : b < s.heap.size) (hAD : ADok s.heap.size ad) (huo : s.heap.size ≤ uo) (hM0 : s.heap.size ≤ M0) (had : ∀ k, k < 22 → ad k < M0) (hL : L ≤ 320) {i : Nat} (hi : i + 5 ≤ L) {cells slots : Nat} {H : Heap} {locs : List Loc} {ls : Array Slot} (hc9 : cells + 7000 ≤ 844753) (hs9 : slots + 101000 ≤ 6567222) (hz0 : M0 ≤ H.size) (hS : va_S (NA s.heap.size) s.heap H locs) (hB : LR D tk sa ad uo mo (PL M0 uo) H) (hl : lv_has ls 7 [(0, .ref b), (1, .ref (ad 15)), (2, .ref mo), (3, .ref uo), (4, .int (nI i))])
    (K : ∀ (H1 : Heap) (locs1 : List Loc) (ls1 : Array Slot), M0 ≤ H1.size → va_S (NA s.heap.size) s.heap H1 locs1 → LR D tk sa ad uo mo (PL M0 uo) H1 → lv_has ls1 7 [(0, .ref b), (1, .ref (ad 15)), (2, .ref mo), (3, .ref uo), (4, .int (nI i))] → W p l e room_1 s m #[.ref b] below meth c H1 locs1 (cells + 7000) (slots + 101000) Q (F0 m 1813 ls1 [])) : W p l e room_1 s m #[.ref b] below meth c H locs cells slots Q (F0 m 1498 ls []) := by
  obtain ⟨hx, hb, -⟩ := id E
  have hbA : ¬ NA s.heap.size b := Nat.not_le.mpr hbl
  have hA : ∀ q, NA s.heap.size q → s.heap.size ≤ q := fun q h => h
  have hn : ∀ q, s.heap.size ≤ q → NA s.heap.size q := fun q h => h
  have hPN : ∀ q, PL M0 uo q → s.heap.size ≤ q := fun q h => Nat.le_trans hM0 h.1
  obtain ⟨g, kn, tt, bb, eT, eB, oT, oB, pk, ca, rf, vs, n9, th, ox, ov, hV, hW, fu, hM⟩ := hB
  refine lv_aload_n (pc := 1498) hx hb dL_law_1498 rfl (lv_at hl 1 rfl) ?_
  refine lv_aload_n (pc := 1499) hx hb dL_law_1499 rfl (lv_at hl 0 rfl) ?_
  refine lv_iload (pc := 1500) hx hb dL_law_1500 (lv_at hl 4 rfl) ?_
  refine lv_iconst (pc := 1502) (v := 1) hx hb dL_law_1502 (by decide) ?_
  refine lv_iadd (pc := 1503) hx hb dL_law_1503 ?_
  refine va_sld (pc := 1504) hx hb hX hbl hbA hS (lw_in (j := 1) (by omega) hL rfl) dL_law_1504 ?_
  refine lv_aload_n (pc := 1505) hx hb dL_law_1505 rfl (lv_at hl 3 rfl) ?_
  have hz1 := hS.1
  have hne := cwC hC hW (Or.inl fu.cl)
  refine k_i (pc := 1506) (k_SW E hC hN hS hA hl.1 (c_L_before l hlst D tk s.heap.size sa hAD huo H.size g kn hV.ci ((xs (nI i + 1).toNatClampNeg))) kw_1110 kw_1111 kw_0 wh_before (n := 3) (by decide +kernel) rfl ⟨⟨rfl, rfl⟩, ⟨Nat.le_of_ble_eq_true rfl, Nat.le_of_ble_eq_true rfl⟩, (by dsimp only [room_1]; omega), (by dsimp only [room_1]; omega)⟩ rfl (Nat.le_of_ble_eq_true rfl) ⟨hW, _, _, fu⟩ dL_law_1506) hS (fun q _ w => lwA.ge hAD huo hS.1 q w) hn (fun rk H locs hR hz hk hS => ?_)
  have hM := hM.wrap hC hW fu had hk
  obtain ⟨g1, ox, ov, hW, fu, hw9⟩ := hR
  have hz0 := Nat.le_trans hz0 hz
  refine lv_istore (pc := 1509) (lv' := [(5, .int rk), (0, .ref b), (1, .ref (ad 15)), (2, .ref mo), (3, .ref uo), (4, .int (nI i))]) hx hb dL_law_1509 hl (by decide) rfl (fun ls hl => ?_)
  refine lv_aload_n (pc := 1511) hx hb dL_law_1511 rfl (lv_at hl 3 rfl) ?_
  refine lv_aload_n (pc := 1512) hx hb dL_law_1512 rfl (lv_at hl 1 rfl) ?_
  refine lv_iload (pc := 1513) hx hb dL_law_1513 (lv_at hl 5 rfl) ?_
  refine lv_iconst (pc := 1515) (v := 1) hx hb dL_law_1515 (by decide) ?_
  refine lv_iadd (pc := 1516) hx hb dL_law_1516 ?_
  refine va_sld (pc := 1517) hx hb hX hbl hbA hS (lw_in (j := 1) (by omega) hL rfl) dL_law_1517 ?_
  have hz1 := hS.1
  have t_fu := fu.lt
  have hpl0 := hM.tl
  obtain ⟨fsm, fom⟩ := hM.obj
  have hPs : ∀ q, H.size ≤ q → PL M0 uo q := fun q h => ⟨Nat.le_trans hz0 h, by have := fu.lt; omega⟩
  refine k_i (pc := 1518) (k_V E hC hS hA hl.1 (c1.recv hC fom rfl) rfl (c_X5_before l D tk s.heap.size sa H.size (PL M0 uo) hPN hPs mo n9 kn th tt bb eT eB oT oB pk ca rf vs ((xs (nI i + 1).toNatClampNeg))) kw_1692 kw_1693 kw_1694 kw_5 kw_1695 (n := 1) (by decide +kernel) rfl ⟨⟨rfl, rfl⟩, ⟨Nat.le_of_ble_eq_true rfl, Nat.le_of_ble_eq_true rfl⟩, (by dsimp only [room_1]; omega), (by dsimp only [room_1]; omega)⟩ rfl (Nat.le_of_ble_eq_true rfl) hM dL_law_1518) hS (fun q _ w => hPN q w) hn (fun rm_ H locs hR hz hk hS => ?_)
  have hW := hW.kept (fun k hk9 => hk _ (hW k hk9).lt (fun z9 => Nat.not_le.mpr (had k hk9) z9.1))
  have fu := fu.kept (hk _ fu.lt (fun z9 => z9.2 rfl))
  obtain ⟨th1, tt1, bb1, rf1, hM, hm9⟩ := hR
  obtain ⟨e_th, e_n, hV⟩ := l_before hV hw9 hm9
  have hz0 := Nat.le_trans hz0 hz
  refine lv_istore (pc := 1521) (lv' := [(6, .int rm_), (5, .int rk), (0, .ref b), (1, .ref (ad 15)), (2, .ref mo), (3, .ref uo), (4, .int (nI i))]) hx hb dL_law_1521 hl (by decide) rfl (fun ls hl => ?_)
  refine lv_goto (pc := 1523) (tgt := 1813) hx hb dL_law_1523 (by decide) ?_
  refine W.widen (k := cells + 7000) (n := slots + 101000) (by omega) (by omega) ?_
  exact K _ _ _ hz0 hS ⟨_, _, _, _, _, _, _, _, _, _, _, _, _, _, _, _, hV, hW, fu, hM⟩ (lv_sub hl [2, 3, 4, 5, 6] rfl)
