set_option maxHeartbeats 4000000 in
set_option maxRecDepth 100000 in
theorem lc_6 {p : Program} {l : Launch} {e : Env} {s : State} {m : MethodId} {below : List Frame} {meth : Method} {c : Code} {Q : State → Prop} {D : va_G} {tk : Nat → ClassId} {sa ad : Nat → Nat} {b L uo mo M0 : Nat} {xs : Nat → Int32} {w0 : Cond} (hlst : l.stackTraces = false) (E : CallFix p m c cL_law 7 s #[.ref b] (w0 :: GW) "BestratiosLaw") (hr : meth.sig.returnType = some .boolean) (hC : Ctx D tk s.heap.size sa s) (hN : NCx s) (hX : va_X b L xs s s.heap) (hbl : b < s.heap.size) (hAD : ADok s.heap.size ad) (huo : s.heap.size ≤ uo) (hM0 : s.heap.size ≤ M0) (had : ∀ k, k < 22 → ad k < M0) (hL : L ≤ 320) {i : Nat} (hi : i + 5 ≤ L) {cells slots : Nat} {H : Heap} {locs : List Loc} {ls : Array Slot} (hc9 : cells + 7000 ≤ 846963) (hs9 : slots + 101000 ≤ 6560590) (hz0 : M0 ≤ H.size) (hS : va_S (NA s.heap.size) s.heap H locs) (hB : LR D tk sa ad uo mo (PL M0 uo) H) (hl : lv_has ls 7 [(0, .ref b), (1, .ref (ad 15)), (2, .ref mo), (3, .ref uo), (4, .int (nI i))])
    (K : ∀ (H1 : Heap) (locs1 : List Loc) (ls1 : Array Slot), M0 ≤ H1.size → va_S (NA s.heap.size) s.heap H1 locs1 → LR D tk sa ad uo mo (PL M0 uo) H1 → lv_has ls1 7 [(0, .ref b), (1, .ref (ad 15)), (2, .ref mo), (3, .ref uo), (4, .int (nI i))] → W p l e room_1 s m #[.ref b] below meth c H1 locs1 (cells + 7000) (slots + 101000) Q (F0 m 1813 ls1 [])) : W p l e room_1 s m #[.ref b] below meth c H locs cells slots Q (F0 m 545 ls []) := by
  obtain ⟨hx, hb, -⟩ := id E
  have hbA : ¬ NA s.heap.size b := Nat.not_le.mpr hbl
  have hA : ∀ q, NA s.heap.size q → s.heap.size ≤ q := fun q h => h
  have hn : ∀ q, s.heap.size ≤ q → NA s.heap.size q := fun q h => h
  have hPN : ∀ q, PL M0 uo q → s.heap.size ≤ q := fun q h => Nat.le_trans hM0 h.1
  obtain ⟨g, kn, tt, bb, eT, eB, oT, oB, pk, ca, rf, vs, n9, th, ox, ov, hV, hW, fu, hM⟩ := hB
  refine lv_aload_n (pc := 545) hx hb dL_law_545 rfl (lv_at hl 1 rfl) ?_
  refine lv_aload_n (pc := 546) hx hb dL_law_546 rfl (lv_at hl 0 rfl) ?_
  refine lv_iload (pc := 547) hx hb dL_law_547 (lv_at hl 4 rfl) ?_
  refine lv_iconst (pc := 549) (v := 1) hx hb dL_law_549 (by decide) ?_
  refine lv_iadd (pc := 550) hx hb dL_law_550 ?_
  refine va_sld (pc := 551) hx hb hX hbl hbA hS (lw_in (j := 1) (by omega) hL rfl) dL_law_551 ?_
  refine lv_aload_n (pc := 552) hx hb dL_law_552 rfl (lv_at hl 0 rfl) ?_
  refine lv_iload (pc := 553) hx hb dL_law_553 (lv_at hl 4 rfl) ?_
  refine lv_iconst (pc := 555) (v := 2) hx hb dL_law_555 (by decide) ?_
  refine lv_iadd (pc := 556) hx hb dL_law_556 ?_
  refine va_sld (pc := 557) hx hb hX hbl hbA hS (lw_in (j := 2) (by omega) hL rfl) dL_law_557 ?_
  refine lv_aload_n (pc := 558) hx hb dL_law_558 rfl (lv_at hl 0 rfl) ?_
  refine lv_iload (pc := 559) hx hb dL_law_559 (lv_at hl 4 rfl) ?_
  refine lv_iconst (pc := 561) (v := 3) hx hb dL_law_561 (by decide) ?_
  refine lv_iadd (pc := 562) hx hb dL_law_562 ?_
  refine va_sld (pc := 563) hx hb hX hbl hbA hS (lw_in (j := 3) (by omega) hL rfl) dL_law_563 ?_
  refine lv_aload_n (pc := 564) hx hb dL_law_564 rfl (lv_at hl 3 rfl) ?_
  have hz1 := hS.1
  have hne := cwC hC hW (Or.inl fu.cl)
  refine k_i (pc := 565) (k_SW E hC hN hS hA hl.1 (c_L_times l hlst D tk s.heap.size sa hAD huo H.size g kn hV.ci ((xs (nI i + 1).toNatClampNeg)) ((xs (nI i + 2).toNatClampNeg)) ((xs (nI i + 3).toNatClampNeg))) kw_883 kw_884 kw_0 wh_times (n := 5) (by decide +kernel) rfl ⟨⟨rfl, rfl⟩, ⟨Nat.le_of_ble_eq_true rfl, Nat.le_of_ble_eq_true rfl⟩, (by dsimp only [room_1]; omega), (by dsimp only [room_1]; omega)⟩ rfl (Nat.le_of_ble_eq_true rfl) ⟨hW, _, _, fu⟩ dL_law_565) hS (fun q _ w => lwA.ge hAD huo hS.1 q w) hn (fun rk H locs hR hz hk hS => ?_)
  have hM := hM.wrap hC hW fu had hk
  obtain ⟨g1, ox, ov, hW, fu, hw9⟩ := hR
  have hz0 := Nat.le_trans hz0 hz
  refine lv_istore (pc := 568) (lv' := [(5, .int rk), (0, .ref b), (1, .ref (ad 15)), (2, .ref mo), (3, .ref uo), (4, .int (nI i))]) hx hb dL_law_568 hl (by decide) rfl (fun ls hl => ?_)
  refine lv_aload_n (pc := 570) hx hb dL_law_570 rfl (lv_at hl 3 rfl) ?_
  refine lv_aload_n (pc := 571) hx hb dL_law_571 rfl (lv_at hl 1 rfl) ?_
  refine lv_iload (pc := 572) hx hb dL_law_572 (lv_at hl 5 rfl) ?_
  refine lv_iconst (pc := 574) (v := 1) hx hb dL_law_574 (by decide) ?_
  refine lv_iadd (pc := 575) hx hb dL_law_575 ?_
  refine va_sld (pc := 576) hx hb hX hbl hbA hS (lw_in (j := 1) (by omega) hL rfl) dL_law_576 ?_
  refine lv_aload_n (pc := 577) hx hb dL_law_577 rfl (lv_at hl 1 rfl) ?_
  refine lv_iload (pc := 578) hx hb dL_law_578 (lv_at hl 5 rfl) ?_
  refine lv_iconst (pc := 580) (v := 2) hx hb dL_law_580 (by decide) ?_
  refine lv_iadd (pc := 581) hx hb dL_law_581 ?_
  refine va_sld (pc := 582) hx hb hX hbl hbA hS (lw_in (j := 2) (by omega) hL rfl) dL_law_582 ?_
  refine lv_aload_n (pc := 583) hx hb dL_law_583 rfl (lv_at hl 1 rfl) ?_
  refine lv_iload (pc := 584) hx hb dL_law_584 (lv_at hl 5 rfl) ?_
  refine lv_iconst (pc := 586) (v := 3) hx hb dL_law_586 (by decide) ?_
  refine lv_iadd (pc := 587) hx hb dL_law_587 ?_
  refine va_sld (pc := 588) hx hb hX hbl hbA hS (lw_in (j := 3) (by omega) hL rfl) dL_law_588 ?_
  have hz1 := hS.1
  have t_fu := fu.lt
  have hpl0 := hM.tl
  obtain ⟨fsm, fom⟩ := hM.obj
  have hPs : ∀ q, H.size ≤ q → PL M0 uo q := fun q h => ⟨Nat.le_trans hz0 h, by have := fu.lt; omega⟩
  refine k_i (pc := 589) (k_V E hC hS hA hl.1 (c1.recv hC fom rfl) rfl (c_X5_times l D tk s.heap.size sa H.size (PL M0 uo) hPN hPs mo n9 kn th tt bb eT eB oT oB pk ca rf vs ((xs (nI i + 1).toNatClampNeg)) ((xs (nI i + 2).toNatClampNeg)) ((xs (nI i + 3).toNatClampNeg))) kw_1304 kw_1305 kw_1306 kw_5 kw_1307 (n := 3) (by decide +kernel) rfl ⟨⟨rfl, rfl⟩, ⟨Nat.le_of_ble_eq_true rfl, Nat.le_of_ble_eq_true rfl⟩, (by dsimp only [room_1]; omega), (by dsimp only [room_1]; omega)⟩ rfl (Nat.le_of_ble_eq_true rfl) hM dL_law_589) hS (fun q _ w => hPN q w) hn (fun rm_ H locs hR hz hk hS => ?_)
  have hW := hW.kept (fun k hk9 => hk _ (hW k hk9).lt (fun z9 => Nat.not_le.mpr (had k hk9) z9.1))
  have fu := fu.kept (hk _ fu.lt (fun z9 => z9.2 rfl))
  obtain ⟨th1, tt1, bb1, rf1, hM, hm9⟩ := hR
  obtain ⟨e_th, e_n, hV⟩ := l_times hV hw9 hm9
  have hz0 := Nat.le_trans hz0 hz
  refine lv_istore (pc := 592) (lv' := [(6, .int rm_), (5, .int rk), (0, .ref b), (1, .ref (ad 15)), (2, .ref mo), (3, .ref uo), (4, .int (nI i))]) hx hb dL_law_592 hl (by decide) rfl (fun ls hl => ?_)
  refine lv_goto (pc := 594) (tgt := 1813) hx hb dL_law_594 (by decide) ?_
  refine W.widen (k := cells + 7000) (n := slots + 101000) (by omega) (by omega) ?_
  exact K _ _ _ hz0 hS ⟨_, _, _, _, _, _, _, _, _, _, _, _, _, _, _, _, hV, hW, fu, hM⟩ (lv_sub hl [2, 3, 4, 5, 6] rfl)
