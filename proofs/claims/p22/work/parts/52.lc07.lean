set_option maxHeartbeats 4000000 in
set_option maxRecDepth 100000 in
theorem lc_6 {p : Program} {l : Launch} {e : Env} {s : State} {m : MethodId} {below : List Frame} {meth : Method} {c : Code} {Q : State → Prop} {D : va_G} {tk : Nat → ClassId} {sa ad : Nat → Nat} {b L uo mo M0 : Nat} {xs : Nat → Int32} {w0 : Cond} (hlst : l.stackTraces = false) (E : CallFix p m c cL_law 7 s #[.ref b] (w0 :: GW) "BestratiosLaw") (hr : meth.sig.returnType = some .boolean) (hC : Ctx D tk s.heap.size sa s) (hN : NCx s) (hX : va_X b L xs s s.heap) (hbl : b < s.heap.size) (hAD : ADok s.heap.size ad) (huo : s.heap.size ≤ uo) (hM0 : s.heap.size ≤ M0) (had : ∀ k, k < 22 → ad k < M0) (hL : L ≤ 320) {i : Nat} (hi : i + 5 ≤ L) {kn th c0 : Int32} {n9 cells slots : Nat} {H : Heap} {locs : List Loc} {ls : Array Slot} (hc9 : cells + 7000 ≤ 844219) (hs9 : slots + 101000 ≤ 6568823) (hz0 : M0 ≤ H.size) (hS : va_S (NA s.heap.size) s.heap H locs) (hc0 : c0 = nI n9) (hB : LWo D tk ad uo kn c0 H) (hM : MI D tk sa (PL M0 uo) mo kn n9 th H) (hl : lv_has ls 7 [(0, .ref b), (1, .ref (ad 15)), (2, .ref mo), (3, .ref uo), (4, .int (nI i))])
    (K : ∀ (kn1 c1 : Int32) (n1 : Nat) (th1 : Int32) (H1 : Heap) (locs1 : List Loc) (ls1 : Array Slot), c1 = nI n1 → M0 ≤ H1.size → va_S (NA s.heap.size) s.heap H1 locs1 → LWo D tk ad uo kn1 c1 H1 → MI D tk sa (PL M0 uo) mo kn1 n1 th1 H1 → lv_has ls1 7 [(0, .ref b), (1, .ref (ad 15)), (2, .ref mo), (3, .ref uo), (4, .int (nI i))] → W p l e room_1 s m #[.ref b] below meth c H1 locs1 (cells + 7000) (slots + 101000) Q (F0 m 1813 ls1 [])) : W p l e room_1 s m #[.ref b] below meth c H locs cells slots Q (F0 m 516 ls []) := by
  obtain ⟨hx, hb, -⟩ := id E
  have hbA : ¬ NA s.heap.size b := Nat.not_le.mpr hbl
  have hA : ∀ q, NA s.heap.size q → s.heap.size ≤ q := fun q h => h
  have hn : ∀ q, s.heap.size ≤ q → NA s.heap.size q := fun q h => h
  have hPN : ∀ q, PL M0 uo q → s.heap.size ≤ q := fun q h => Nat.le_trans hM0 h.1
  obtain ⟨g, hI, hW, ox, ov, fu⟩ := hB
  refine lv_aload_n (pc := 516) hx hb dL_law_516 rfl (lv_at hl 1 rfl) ?_
  refine lv_aload_n (pc := 517) hx hb dL_law_517 rfl (lv_at hl 0 rfl) ?_
  refine lv_iload (pc := 518) hx hb dL_law_518 (lv_at hl 4 rfl) ?_
  refine lv_iconst (pc := 520) (v := 1) hx hb dL_law_520 (by decide) ?_
  refine lv_iadd (pc := 521) hx hb dL_law_521 ?_
  refine va_sld (pc := 522) hx hb hX hbl hbA hS (lw_in (j := 1) (by omega) hL rfl) dL_law_522 ?_
  refine lv_aload_n (pc := 523) hx hb dL_law_523 rfl (lv_at hl 0 rfl) ?_
  refine lv_iload (pc := 524) hx hb dL_law_524 (lv_at hl 4 rfl) ?_
  refine lv_iconst (pc := 526) (v := 2) hx hb dL_law_526 (by decide) ?_
  refine lv_iadd (pc := 527) hx hb dL_law_527 ?_
  refine va_sld (pc := 528) hx hb hX hbl hbA hS (lw_in (j := 2) (by omega) hL rfl) dL_law_528 ?_
  refine lv_aload_n (pc := 529) hx hb dL_law_529 rfl (lv_at hl 0 rfl) ?_
  refine lv_iload (pc := 530) hx hb dL_law_530 (lv_at hl 4 rfl) ?_
  refine lv_iconst (pc := 532) (v := 3) hx hb dL_law_532 (by decide) ?_
  refine lv_iadd (pc := 533) hx hb dL_law_533 ?_
  refine va_sld (pc := 534) hx hb hX hbl hbA hS (lw_in (j := 3) (by omega) hL rfl) dL_law_534 ?_
  refine lv_aload_n (pc := 535) hx hb dL_law_535 rfl (lv_at hl 3 rfl) ?_
  have hz1 := hS.1
  have hne := cwC hC hW (Or.inl fu.cl)
  refine k_i (pc := 536) (k_SW E hC hN hS hA hl.1 (c_L_times l hlst D tk s.heap.size sa hAD huo H.size g kn c0 hI ((xs (nI i + 1).toNatClampNeg)) ((xs (nI i + 2).toNatClampNeg)) ((xs (nI i + 3).toNatClampNeg))) kw_883 kw_884 kw_0 wh_times (n := 5) (by decide +kernel) rfl ⟨⟨rfl, rfl⟩, ⟨Nat.le_of_ble_eq_true rfl, Nat.le_of_ble_eq_true rfl⟩, (by dsimp only [room_1]; omega), (by dsimp only [room_1]; omega)⟩ rfl (Nat.le_of_ble_eq_true rfl) ⟨hW, _, _, fu⟩ dL_law_536) hS (fun q _ w => lwA.ge hAD huo hS.1 q w) hn (fun rk H locs hR hz hk hS => ?_)
  have hM := hM.wrap hC hW fu had hk
  obtain ⟨g, hI, hW, ox, ov, fu⟩ := hR
  have hz0 := Nat.le_trans hz0 hz
  refine lv_istore (pc := 539) (lv' := [(5, .int rk), (0, .ref b), (1, .ref (ad 15)), (2, .ref mo), (3, .ref uo), (4, .int (nI i))]) hx hb dL_law_539 hl (by decide) rfl (fun ls hl => ?_)
  refine lv_aload_n (pc := 541) hx hb dL_law_541 rfl (lv_at hl 3 rfl) ?_
  refine lv_aload_n (pc := 542) hx hb dL_law_542 rfl (lv_at hl 1 rfl) ?_
  refine lv_iload (pc := 543) hx hb dL_law_543 (lv_at hl 5 rfl) ?_
  refine lv_iconst (pc := 545) (v := 1) hx hb dL_law_545 (by decide) ?_
  refine lv_iadd (pc := 546) hx hb dL_law_546 ?_
  refine va_sld (pc := 547) hx hb hX hbl hbA hS (lw_in (j := 1) (by omega) hL rfl) dL_law_547 ?_
  refine lv_aload_n (pc := 548) hx hb dL_law_548 rfl (lv_at hl 1 rfl) ?_
  refine lv_iload (pc := 549) hx hb dL_law_549 (lv_at hl 5 rfl) ?_
  refine lv_iconst (pc := 551) (v := 2) hx hb dL_law_551 (by decide) ?_
  refine lv_iadd (pc := 552) hx hb dL_law_552 ?_
  refine va_sld (pc := 553) hx hb hX hbl hbA hS (lw_in (j := 2) (by omega) hL rfl) dL_law_553 ?_
  refine lv_aload_n (pc := 554) hx hb dL_law_554 rfl (lv_at hl 1 rfl) ?_
  refine lv_iload (pc := 555) hx hb dL_law_555 (lv_at hl 5 rfl) ?_
  refine lv_iconst (pc := 557) (v := 3) hx hb dL_law_557 (by decide) ?_
  refine lv_iadd (pc := 558) hx hb dL_law_558 ?_
  refine va_sld (pc := 559) hx hb hX hbl hbA hS (lw_in (j := 3) (by omega) hL rfl) dL_law_559 ?_
  have hz1 := hS.1
  have t_fu := fu.lt
  have hn16 := hM.n16
  obtain ⟨fsm, fom⟩ := hM.obj
  have hPs : ∀ q, H.size ≤ q → PL M0 uo q := fun q h => ⟨Nat.le_trans hz0 h, by have := fu.lt; omega⟩
  refine k_i (pc := 560) (k_V E hC hS hA hl.1 (c1.recv hC fom rfl) rfl (c_X5_times l D tk s.heap.size sa H.size (PL M0 uo) hPN hPs mo n9 kn th ((xs (nI i + 1).toNatClampNeg)) ((xs (nI i + 2).toNatClampNeg)) ((xs (nI i + 3).toNatClampNeg))) kw_1304 kw_1305 kw_1306 kw_5 kw_1307 (n := 3) (by decide +kernel) rfl ⟨⟨rfl, rfl⟩, ⟨Nat.le_of_ble_eq_true rfl, Nat.le_of_ble_eq_true rfl⟩, (by dsimp only [room_1]; omega), (by dsimp only [room_1]; omega)⟩ rfl (Nat.le_of_ble_eq_true rfl) hM dL_law_560) hS (fun q _ w => hPN q w) hn (fun rm_ H locs hR hz hk hS => ?_)
  have hW := hW.kept (fun k hk9 => hk _ (hW k hk9).lt (fun z9 => Nat.not_le.mpr (had k hk9) z9.1))
  have fu := fu.kept (hk _ fu.lt (fun z9 => z9.2 rfl))
  obtain ⟨th, hM⟩ := hR
  have hz0 := Nat.le_trans hz0 hz
  refine lv_istore (pc := 563) (lv' := [(6, .int rm_), (5, .int rk), (0, .ref b), (1, .ref (ad 15)), (2, .ref mo), (3, .ref uo), (4, .int (nI i))]) hx hb dL_law_563 hl (by decide) rfl (fun ls hl => ?_)
  refine lv_goto (pc := 565) (tgt := 1813) hx hb dL_law_565 (by decide) ?_
  refine W.widen (k := cells + 7000) (n := slots + 101000) (by omega) (by omega) ?_
  exact K _ _ _ _ _ _ _ hc0 hz0 hS ⟨_, hI, hW, _, _, fu⟩ hM (lv_sub hl [2, 3, 4, 5, 6] rfl)
