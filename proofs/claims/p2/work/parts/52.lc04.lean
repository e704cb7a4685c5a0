set_option maxHeartbeats 4000000 in
set_option maxRecDepth 100000 in
theorem lc_3 {p : Program} {l : Launch} {e : Env} {s : State} {m : MethodId} {below : List Frame} {meth : Method} {c : Code} {Q : State → Prop} {D : va_G} {tk : Nat → ClassId} {sa ad : Nat → Nat} {b L uo mo M0 : Nat} {xs : Nat → Int32} {w0 : Cond} (hlst : l.stackTraces = false) (E : CallFix p m c cL_law 7 s #[.ref b] (w0 :: GW) "BestratiosLaw") (hr : meth.sig.returnType = some .boolean) (hC : Ctx D tk s.heap.size sa s) (hN : NCx s) (hX : va_X b L xs s s.heap) (hbl : b < s.heap.size) (hAD : ADok s.heap.size ad) (huo : s.heap.size ≤ uo) (hM0 : s.heap.size ≤ M0) (had : ∀ k, k < 22 → ad k < M0) (hL : L ≤ 320) {i : Nat} (hi : i + 5 ≤ L) {cells slots : Nat} {H : Heap} {locs : List Loc} {ls : Array Slot} (hc9 : cells + 7000 ≤ 846963) (hs9 : slots + 101000 ≤ 6560590) (hz0 : M0 ≤ H.size) (hS : va_S (NA s.heap.size) s.heap H locs) (hB : LR D tk sa ad uo mo (PL M0 uo) H) (hl : lv_has ls 7 [(0, .ref b), (1, .ref (ad 15)), (2, .ref mo), (3, .ref uo), (4, .int (nI i))])
    (K : ∀ (H1 : Heap) (locs1 : List Loc) (ls1 : Array Slot), M0 ≤ H1.size → va_S (NA s.heap.size) s.heap H1 locs1 → LR D tk sa ad uo mo (PL M0 uo) H1 → lv_has ls1 7 [(0, .ref b), (1, .ref (ad 15)), (2, .ref mo), (3, .ref uo), (4, .int (nI i))] → W p l e room_1 s m #[.ref b] below meth c H1 locs1 (cells + 7000) (slots + 101000) Q (F0 m 1813 ls1 [])) : W p l e room_1 s m #[.ref b] below meth c H locs cells slots Q (F0 m 401 ls []) := by
  obtain ⟨hx, hb, -⟩ := id E
  have hbA : ¬ NA s.heap.size b := Nat.not_le.mpr hbl
  have hA : ∀ q, NA s.heap.size q → s.heap.size ≤ q := fun q h => h
  have hn : ∀ q, s.heap.size ≤ q → NA s.heap.size q := fun q h => h
  have hPN : ∀ q, PL M0 uo q → s.heap.size ≤ q := fun q h => Nat.le_trans hM0 h.1
  obtain ⟨g, kn, tt, bb, eT, eB, oT, oB, pk, ca, rf, vs, n9, th, ox, ov, hV, hW, fu, hM⟩ := hB
  refine lv_aload_n (pc := 401) hx hb dL_law_401 rfl (lv_at hl 1 rfl) ?_
  refine lv_aload_n (pc := 402) hx hb dL_law_402 rfl (lv_at hl 0 rfl) ?_
  refine lv_iload (pc := 403) hx hb dL_law_403 (lv_at hl 4 rfl) ?_
  refine lv_iconst (pc := 405) (v := 1) hx hb dL_law_405 (by decide) ?_
  refine lv_iadd (pc := 406) hx hb dL_law_406 ?_
  refine va_sld (pc := 407) hx hb hX hbl hbA hS (lw_in (j := 1) (by omega) hL rfl) dL_law_407 ?_
  refine lv_aload_n (pc := 408) hx hb dL_law_408 rfl (lv_at hl 0 rfl) ?_
  refine lv_iload (pc := 409) hx hb dL_law_409 (lv_at hl 4 rfl) ?_
  refine lv_iconst (pc := 411) (v := 2) hx hb dL_law_411 (by decide) ?_
  refine lv_iadd (pc := 412) hx hb dL_law_412 ?_
  refine va_sld (pc := 413) hx hb hX hbl hbA hS (lw_in (j := 2) (by omega) hL rfl) dL_law_413 ?_
  refine lv_aload_n (pc := 414) hx hb dL_law_414 rfl (lv_at hl 3 rfl) ?_
  have hz1 := hS.1
  have hne := cwC hC hW (Or.inl fu.cl)
  refine k_i (pc := 415) (k_SW E hC hN hS hA hl.1 (c_L_swap l hlst D tk s.heap.size sa hAD huo H.size g kn hV.ci ((xs (nI i + 1).toNatClampNeg)) ((xs (nI i + 2).toNatClampNeg))) kw_862 kw_863 kw_0 wh_swap (n := 4) (by decide +kernel) rfl ⟨⟨rfl, rfl⟩, ⟨Nat.le_of_ble_eq_true rfl, Nat.le_of_ble_eq_true rfl⟩, (by dsimp only [room_1]; omega), (by dsimp only [room_1]; omega)⟩ rfl (Nat.le_of_ble_eq_true rfl) ⟨hW, _, _, fu⟩ dL_law_415) hS (fun q _ w => lwA.ge hAD huo hS.1 q w) hn (fun rk H locs hR hz hk hS => ?_)
  have hM := hM.wrap hC hW fu had hk
  obtain ⟨g1, ox, ov, hW, fu, hw9⟩ := hR
  have hz0 := Nat.le_trans hz0 hz
  refine lv_istore (pc := 418) (lv' := [(5, .int rk), (0, .ref b), (1, .ref (ad 15)), (2, .ref mo), (3, .ref uo), (4, .int (nI i))]) hx hb dL_law_418 hl (by decide) rfl (fun ls hl => ?_)
  refine lv_aload_n (pc := 420) hx hb dL_law_420 rfl (lv_at hl 3 rfl) ?_
  refine lv_aload_n (pc := 421) hx hb dL_law_421 rfl (lv_at hl 1 rfl) ?_
  refine lv_iload (pc := 422) hx hb dL_law_422 (lv_at hl 5 rfl) ?_
  refine lv_iconst (pc := 424) (v := 1) hx hb dL_law_424 (by decide) ?_
  refine lv_iadd (pc := 425) hx hb dL_law_425 ?_
  refine va_sld (pc := 426) hx hb hX hbl hbA hS (lw_in (j := 1) (by omega) hL rfl) dL_law_426 ?_
  refine lv_aload_n (pc := 427) hx hb dL_law_427 rfl (lv_at hl 1 rfl) ?_
  refine lv_iload (pc := 428) hx hb dL_law_428 (lv_at hl 5 rfl) ?_
  refine lv_iconst (pc := 430) (v := 2) hx hb dL_law_430 (by decide) ?_
  refine lv_iadd (pc := 431) hx hb dL_law_431 ?_
  refine va_sld (pc := 432) hx hb hX hbl hbA hS (lw_in (j := 2) (by omega) hL rfl) dL_law_432 ?_
  have hz1 := hS.1
  have t_fu := fu.lt
  have hpl0 := hM.tl
  obtain ⟨fsm, fom⟩ := hM.obj
  have hPs : ∀ q, H.size ≤ q → PL M0 uo q := fun q h => ⟨Nat.le_trans hz0 h, by have := fu.lt; omega⟩
  refine k_i (pc := 433) (k_V E hC hS hA hl.1 (c1.recv hC fom rfl) rfl (c_X5_swap l D tk s.heap.size sa H.size (PL M0 uo) hPN hPs mo n9 kn th tt bb eT eB oT oB pk ca rf vs ((xs (nI i + 1).toNatClampNeg)) ((xs (nI i + 2).toNatClampNeg))) kw_1289 kw_1290 kw_1291 kw_5 kw_1292 (n := 2) (by decide +kernel) rfl ⟨⟨rfl, rfl⟩, ⟨Nat.le_of_ble_eq_true rfl, Nat.le_of_ble_eq_true rfl⟩, (by dsimp only [room_1]; omega), (by dsimp only [room_1]; omega)⟩ rfl (Nat.le_of_ble_eq_true rfl) hM dL_law_433) hS (fun q _ w => hPN q w) hn (fun rm_ H locs hR hz hk hS => ?_)
  have hW := hW.kept (fun k hk9 => hk _ (hW k hk9).lt (fun z9 => Nat.not_le.mpr (had k hk9) z9.1))
  have fu := fu.kept (hk _ fu.lt (fun z9 => z9.2 rfl))
  obtain ⟨th1, tt1, bb1, hM, hm9⟩ := hR
  obtain ⟨e_th, e_n, hV⟩ := l_swap hV hw9 hm9
  have hz0 := Nat.le_trans hz0 hz
  refine lv_istore (pc := 436) (lv' := [(6, .int rm_), (5, .int rk), (0, .ref b), (1, .ref (ad 15)), (2, .ref mo), (3, .ref uo), (4, .int (nI i))]) hx hb dL_law_436 hl (by decide) rfl (fun ls hl => ?_)
  refine lv_goto (pc := 438) (tgt := 1813) hx hb dL_law_438 (by decide) ?_
  refine W.widen (k := cells + 7000) (n := slots + 101000) (by omega) (by omega) ?_
  exact K _ _ _ hz0 hS ⟨_, _, _, _, _, _, _, _, _, _, _, _, _, _, _, _, hV, hW, fu, hM⟩ (lv_sub hl [2, 3, 4, 5, 6] rfl)
