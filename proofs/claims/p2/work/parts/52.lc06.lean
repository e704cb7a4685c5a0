set_option maxHeartbeats 4000000 in
set_option maxRecDepth 100000 in
theorem lc_5 {p : Program} {l : Launch} {e : Env} {s : State} {m : MethodId} {below : List Frame} {meth : Method} {c : Code} {Q : State → Prop} {D : va_G} {tk : Nat → ClassId} {sa ad : Nat → Nat} {b L uo mo M0 : Nat} {xs : Nat → Int32} {w0 : Cond} (hlst : l.stackTraces = false) (E : CallFix p m c cL_law 7 s #[.ref b] (w0 :: GW) "BestratiosLaw") (hr : meth.sig.returnType = some .boolean) (hC : Ctx D tk s.heap.size sa s) (hN : NCx s) (hX : va_X b L xs s s.heap) (hbl : b < s.heap.size) (hAD : ADok s.heap.size ad) (huo : s.heap.size ≤ uo) (hM0 : s.heap.size ≤ M0) (had : ∀ k, k < 22 → ad k < M0) (hL : L ≤ 320) {i : Nat} (hi : i + 5 ≤ L) {cells slots : Nat} {H : Heap} {locs : List Loc} {ls : Array Slot} (hc9 : cells + 7000 ≤ 846963) (hs9 : slots + 101000 ≤ 6560590) (hz0 : M0 ≤ H.size) (hS : va_S (NA s.heap.size) s.heap H locs) (hB : LR D tk sa ad uo mo (PL M0 uo) H) (hl : lv_has ls 7 [(0, .ref b), (1, .ref (ad 15)), (2, .ref mo), (3, .ref uo), (4, .int (nI i))])
    (K : ∀ (H1 : Heap) (locs1 : List Loc) (ls1 : Array Slot), M0 ≤ H1.size → va_S (NA s.heap.size) s.heap H1 locs1 → LR D tk sa ad uo mo (PL M0 uo) H1 → lv_has ls1 7 [(0, .ref b), (1, .ref (ad 15)), (2, .ref mo), (3, .ref uo), (4, .int (nI i))] → W p l e room_1 s m #[.ref b] below meth c H1 locs1 (cells + 7000) (slots + 101000) Q (F0 m 1813 ls1 [])) : W p l e room_1 s m #[.ref b] below meth c H locs cells slots Q (F0 m 493 ls []) := by
  obtain ⟨hx, hb, -⟩ := id E
  have hbA : ¬ NA s.heap.size b := Nat.not_le.mpr hbl
  have hA : ∀ q, NA s.heap.size q → s.heap.size ≤ q := fun q h => h
  have hn : ∀ q, s.heap.size ≤ q → NA s.heap.size q := fun q h => h
  have hPN : ∀ q, PL M0 uo q → s.heap.size ≤ q := fun q h => Nat.le_trans hM0 h.1
  obtain ⟨g, kn, tt, bb, eT, eB, oT, oB, pk, ca, rf, vs, n9, th, ox, ov, hV, hW, fu, hM⟩ := hB
  refine lv_aload_n (pc := 493) hx hb dL_law_493 rfl (lv_at hl 1 rfl) ?_
  refine lv_aload_n (pc := 494) hx hb dL_law_494 rfl (lv_at hl 0 rfl) ?_
  refine lv_iload (pc := 495) hx hb dL_law_495 (lv_at hl 4 rfl) ?_
  refine lv_iconst (pc := 497) (v := 1) hx hb dL_law_497 (by decide) ?_
  refine lv_iadd (pc := 498) hx hb dL_law_498 ?_
  refine va_sld (pc := 499) hx hb hX hbl hbA hS (lw_in (j := 1) (by omega) hL rfl) dL_law_499 ?_
  refine lv_aload_n (pc := 500) hx hb dL_law_500 rfl (lv_at hl 0 rfl) ?_
  refine lv_iload (pc := 501) hx hb dL_law_501 (lv_at hl 4 rfl) ?_
  refine lv_iconst (pc := 503) (v := 2) hx hb dL_law_503 (by decide) ?_
  refine lv_iadd (pc := 504) hx hb dL_law_504 ?_
  refine va_sld (pc := 505) hx hb hX hbl hbA hS (lw_in (j := 2) (by omega) hL rfl) dL_law_505 ?_
  refine lv_aload_n (pc := 506) hx hb dL_law_506 rfl (lv_at hl 0 rfl) ?_
  refine lv_iload (pc := 507) hx hb dL_law_507 (lv_at hl 4 rfl) ?_
  refine lv_iconst (pc := 509) (v := 3) hx hb dL_law_509 (by decide) ?_
  refine lv_iadd (pc := 510) hx hb dL_law_510 ?_
  refine va_sld (pc := 511) hx hb hX hbl hbA hS (lw_in (j := 3) (by omega) hL rfl) dL_law_511 ?_
  refine lv_aload_n (pc := 512) hx hb dL_law_512 rfl (lv_at hl 3 rfl) ?_
  have hz1 := hS.1
  have hne := cwC hC hW (Or.inl fu.cl)
  refine k_i (pc := 513) (k_SW E hC hN hS hA hl.1 (c_L_minus l hlst D tk s.heap.size sa hAD huo H.size g kn hV.ci ((xs (nI i + 1).toNatClampNeg)) ((xs (nI i + 2).toNatClampNeg)) ((xs (nI i + 3).toNatClampNeg))) kw_876 kw_877 kw_0 wh_minus (n := 5) (by decide +kernel) rfl ⟨⟨rfl, rfl⟩, ⟨Nat.le_of_ble_eq_true rfl, Nat.le_of_ble_eq_true rfl⟩, (by dsimp only [room_1]; omega), (by dsimp only [room_1]; omega)⟩ rfl (Nat.le_of_ble_eq_true rfl) ⟨hW, _, _, fu⟩ dL_law_513) hS (fun q _ w => lwA.ge hAD huo hS.1 q w) hn (fun rk H locs hR hz hk hS => ?_)
  have hM := hM.wrap hC hW fu had hk
  obtain ⟨g1, ox, ov, hW, fu, hw9⟩ := hR
  have hz0 := Nat.le_trans hz0 hz
  refine lv_istore (pc := 516) (lv' := [(5, .int rk), (0, .ref b), (1, .ref (ad 15)), (2, .ref mo), (3, .ref uo), (4, .int (nI i))]) hx hb dL_law_516 hl (by decide) rfl (fun ls hl => ?_)
  refine lv_aload_n (pc := 518) hx hb dL_law_518 rfl (lv_at hl 3 rfl) ?_
  refine lv_aload_n (pc := 519) hx hb dL_law_519 rfl (lv_at hl 1 rfl) ?_
  refine lv_iload (pc := 520) hx hb dL_law_520 (lv_at hl 5 rfl) ?_
  refine lv_iconst (pc := 522) (v := 1) hx hb dL_law_522 (by decide) ?_
  refine lv_iadd (pc := 523) hx hb dL_law_523 ?_
  refine va_sld (pc := 524) hx hb hX hbl hbA hS (lw_in (j := 1) (by omega) hL rfl) dL_law_524 ?_
  refine lv_aload_n (pc := 525) hx hb dL_law_525 rfl (lv_at hl 1 rfl) ?_
  refine lv_iload (pc := 526) hx hb dL_law_526 (lv_at hl 5 rfl) ?_
  refine lv_iconst (pc := 528) (v := 2) hx hb dL_law_528 (by decide) ?_
  refine lv_iadd (pc := 529) hx hb dL_law_529 ?_
  refine va_sld (pc := 530) hx hb hX hbl hbA hS (lw_in (j := 2) (by omega) hL rfl) dL_law_530 ?_
  refine lv_aload_n (pc := 531) hx hb dL_law_531 rfl (lv_at hl 1 rfl) ?_
  refine lv_iload (pc := 532) hx hb dL_law_532 (lv_at hl 5 rfl) ?_
  refine lv_iconst (pc := 534) (v := 3) hx hb dL_law_534 (by decide) ?_
  refine lv_iadd (pc := 535) hx hb dL_law_535 ?_
  refine va_sld (pc := 536) hx hb hX hbl hbA hS (lw_in (j := 3) (by omega) hL rfl) dL_law_536 ?_
  have hz1 := hS.1
  have t_fu := fu.lt
  have hpl0 := hM.tl
  obtain ⟨fsm, fom⟩ := hM.obj
  have hPs : ∀ q, H.size ≤ q → PL M0 uo q := fun q h => ⟨Nat.le_trans hz0 h, by have := fu.lt; omega⟩
  refine k_i (pc := 537) (k_V E hC hS hA hl.1 (c1.recv hC fom rfl) rfl (c_X5_minus l D tk s.heap.size sa H.size (PL M0 uo) hPN hPs mo n9 kn th tt bb eT eB oT oB pk ca rf vs ((xs (nI i + 1).toNatClampNeg)) ((xs (nI i + 2).toNatClampNeg)) ((xs (nI i + 3).toNatClampNeg))) kw_1300 kw_1301 kw_1302 kw_5 kw_1303 (n := 3) (by decide +kernel) rfl ⟨⟨rfl, rfl⟩, ⟨Nat.le_of_ble_eq_true rfl, Nat.le_of_ble_eq_true rfl⟩, (by dsimp only [room_1]; omega), (by dsimp only [room_1]; omega)⟩ rfl (Nat.le_of_ble_eq_true rfl) hM dL_law_537) hS (fun q _ w => hPN q w) hn (fun rm_ H locs hR hz hk hS => ?_)
  have hW := hW.kept (fun k hk9 => hk _ (hW k hk9).lt (fun z9 => Nat.not_le.mpr (had k hk9) z9.1))
  have fu := fu.kept (hk _ fu.lt (fun z9 => z9.2 rfl))
  obtain ⟨th1, tt1, bb1, rf1, hM, hm9⟩ := hR
  obtain ⟨e_th, e_n, hV⟩ := l_minus hV hw9 hm9
  have hz0 := Nat.le_trans hz0 hz
  refine lv_istore (pc := 540) (lv' := [(6, .int rm_), (5, .int rk), (0, .ref b), (1, .ref (ad 15)), (2, .ref mo), (3, .ref uo), (4, .int (nI i))]) hx hb dL_law_540 hl (by decide) rfl (fun ls hl => ?_)
  refine lv_goto (pc := 542) (tgt := 1813) hx hb dL_law_542 (by decide) ?_
  refine W.widen (k := cells + 7000) (n := slots + 101000) (by omega) (by omega) ?_
  exact K _ _ _ hz0 hS ⟨_, _, _, _, _, _, _, _, _, _, _, _, _, _, _, _, hV, hW, fu, hM⟩ (lv_sub hl [2, 3, 4, 5, 6] rfl)
