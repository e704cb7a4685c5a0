set_option maxHeartbeats 4000000 in
set_option maxRecDepth 100000 in
theorem lc_27 {p : Program} {l : Launch} {e : Env} {s : State} {m : MethodId} {below : List Frame} {meth : Method} {c : Code} {Q : State → Prop} {D : va_G} {tk : Nat → ClassId} {sa ad : Nat → Nat} {b L uo mo M0 : Nat} {xs : Nat → Int32} {w0 : Cond} (hlst : l.stackTraces = false) (E : CallFix p m c cL_law 7 s #[.ref b] (w0 :: GW) "BestratiosLaw") (hr : meth.sig.returnType = some .boolean) (hC : Ctx D tk s.heap.size sa s) (hN : NCx s) (hX : va_X b L xs s s.heap) (hbl : b < s.heap.size) (hAD : ADok s.heap.size ad) (huo : s.heap.size ≤ uo) (hM0 : s.heap.size ≤ M0) (had : ∀ k, k < 22 → ad k < M0) (hL : L ≤ 320) {i : Nat} (hi : i + 5 ≤ L) {kn th : Int32} {n9 cells slots : Nat} {H : Heap} {locs : List Loc} {ls : Array Slot} (hc9 : cells + 7000 ≤ 844687) (hs9 : slots + 101000 ≤ 6567418) (hz0 : M0 ≤ H.size) (hS : va_S (NA s.heap.size) s.heap H locs) (hB : LWo D tk ad uo kn H) (hM : MI D tk sa (PL M0 uo) mo kn n9 th H) (hl : lv_has ls 7 [(0, .ref b), (1, .ref (ad 15)), (2, .ref mo), (3, .ref uo), (4, .int (nI i))])
    (K : ∀ (kn1 : Int32) (n1 : Nat) (th1 : Int32) (H1 : Heap) (locs1 : List Loc) (ls1 : Array Slot), M0 ≤ H1.size → va_S (NA s.heap.size) s.heap H1 locs1 → LWo D tk ad uo kn1 H1 → MI D tk sa (PL M0 uo) mo kn1 n1 th1 H1 → lv_has ls1 7 [(0, .ref b), (1, .ref (ad 15)), (2, .ref mo), (3, .ref uo), (4, .int (nI i))] → W p l e room_1 s m #[.ref b] below meth c H1 locs1 (cells + 7000) (slots + 101000) Q (F0 m 1784 ls1 [])) : W p l e room_1 s m #[.ref b] below meth c H locs cells slots Q (F0 m 1317 ls []) := by
  obtain ⟨hx, hb, -⟩ := id E
  have hbA : ¬ NA s.heap.size b := Nat.not_le.mpr hbl
  have hA : ∀ q, NA s.heap.size q → s.heap.size ≤ q := fun q h => h
  have hn : ∀ q, s.heap.size ≤ q → NA s.heap.size q := fun q h => h
  have hPN : ∀ q, PL M0 uo q → s.heap.size ≤ q := fun q h => Nat.le_trans hM0 h.1
  obtain ⟨g, hI, hW, ox, ov, fu⟩ := hB
  refine lv_aload_n (pc := 1317) hx hb dL_law_1317 rfl (lv_at hl 1 rfl) ?_
  refine lv_aload_n (pc := 1318) hx hb dL_law_1318 rfl (lv_at hl 0 rfl) ?_
  refine lv_iload (pc := 1319) hx hb dL_law_1319 (lv_at hl 4 rfl) ?_
  refine lv_iconst (pc := 1321) (v := 1) hx hb dL_law_1321 (by decide) ?_
  refine lv_iadd (pc := 1322) hx hb dL_law_1322 ?_
  refine va_sld (pc := 1323) hx hb hX hbl hbA hS (lw_in (j := 1) (by omega) hL rfl) dL_law_1323 ?_
  refine lv_aload_n (pc := 1324) hx hb dL_law_1324 rfl (lv_at hl 0 rfl) ?_
  refine lv_iload (pc := 1325) hx hb dL_law_1325 (lv_at hl 4 rfl) ?_
  refine lv_iconst (pc := 1327) (v := 2) hx hb dL_law_1327 (by decide) ?_
  refine lv_iadd (pc := 1328) hx hb dL_law_1328 ?_
  refine va_sld (pc := 1329) hx hb hX hbl hbA hS (lw_in (j := 2) (by omega) hL rfl) dL_law_1329 ?_
  refine lv_if_eq (pc := 1330) (tgt := 1337) hx hb dL_law_1330 (by decide) (fun _ => ?_) (fun _ => ?_)
  · refine lv_iconst (pc := 1337) (v := 0) hx hb dL_law_1337 (by decide) ?_
    refine lv_aload_n (pc := 1338) hx hb dL_law_1338 rfl (lv_at hl 3 rfl) ?_
    have hz1 := hS.1
    have hne := cwC hC hW (Or.inl fu.cl)
    refine k_i (pc := 1339) (k_SW E hC hN hS hA hl.1 (c_L_down l hlst D tk s.heap.size sa hAD huo H.size g kn hI ((xs (nI i + 1).toNatClampNeg)) 0) kw_1082 kw_1083 kw_0 wh_down (n := 4) (by decide +kernel) rfl ⟨⟨rfl, rfl⟩, ⟨Nat.le_of_ble_eq_true rfl, Nat.le_of_ble_eq_true rfl⟩, (by dsimp only [room_1]; omega), (by dsimp only [room_1]; omega)⟩ rfl (Nat.le_of_ble_eq_true rfl) ⟨hW, _, _, fu⟩ dL_law_1339) hS (fun q _ w => lwA.ge hAD huo hS.1 q w) hn (fun rk H locs hR hz hk hS => ?_)
    have hM := hM.wrap hC hW fu had hk
    obtain ⟨g, hI, hW, ox, ov, fu⟩ := hR
    have hz0 := Nat.le_trans hz0 hz
    refine lv_istore (pc := 1342) (lv' := [(5, .int rk), (0, .ref b), (1, .ref (ad 15)), (2, .ref mo), (3, .ref uo), (4, .int (nI i))]) hx hb dL_law_1342 hl (by decide) rfl (fun ls hl => ?_)
    refine lv_aload_n (pc := 1344) hx hb dL_law_1344 rfl (lv_at hl 3 rfl) ?_
    refine lv_aload_n (pc := 1345) hx hb dL_law_1345 rfl (lv_at hl 1 rfl) ?_
    refine lv_iload (pc := 1346) hx hb dL_law_1346 (lv_at hl 5 rfl) ?_
    refine lv_iconst (pc := 1348) (v := 1) hx hb dL_law_1348 (by decide) ?_
    refine lv_iadd (pc := 1349) hx hb dL_law_1349 ?_
    refine va_sld (pc := 1350) hx hb hX hbl hbA hS (lw_in (j := 1) (by omega) hL rfl) dL_law_1350 ?_
    refine lv_aload_n (pc := 1351) hx hb dL_law_1351 rfl (lv_at hl 1 rfl) ?_
    refine lv_iload (pc := 1352) hx hb dL_law_1352 (lv_at hl 5 rfl) ?_
    refine lv_iconst (pc := 1354) (v := 2) hx hb dL_law_1354 (by decide) ?_
    refine lv_iadd (pc := 1355) hx hb dL_law_1355 ?_
    refine va_sld (pc := 1356) hx hb hX hbl hbA hS (lw_in (j := 2) (by omega) hL rfl) dL_law_1356 ?_
    refine lv_if_eq (pc := 1357) (tgt := 1364) hx hb dL_law_1357 (by decide) (fun _ => ?_) (fun _ => ?_)
    · refine lv_iconst (pc := 1364) (v := 0) hx hb dL_law_1364 (by decide) ?_
      have hz1 := hS.1
      have t_fu := fu.lt
      obtain ⟨fsm, fom⟩ := hM.obj
      have hPs : ∀ q, H.size ≤ q → PL M0 uo q := fun q h => ⟨Nat.le_trans hz0 h, by have := fu.lt; omega⟩
      refine k_i (pc := 1365) (k_V E hC hS hA hl.1 (c1.recv hC fom rfl) rfl (c_X5_down l D tk s.heap.size sa H.size (PL M0 uo) hPN hPs mo n9 kn th ((xs (nI i + 1).toNatClampNeg)) 0) kw_1654 kw_1655 kw_1656 kw_5 kw_1657 (n := 2) (by decide +kernel) rfl ⟨⟨rfl, rfl⟩, ⟨Nat.le_of_ble_eq_true rfl, Nat.le_of_ble_eq_true rfl⟩, (by dsimp only [room_1]; omega), (by dsimp only [room_1]; omega)⟩ rfl (Nat.le_of_ble_eq_true rfl) hM dL_law_1365) hS (fun q _ w => hPN q w) hn (fun rm_ H locs hR hz hk hS => ?_)
      have hW := hW.kept (fun k hk9 => hk _ (hW k hk9).lt (fun z9 => Nat.not_le.mpr (had k hk9) z9.1))
      have fu := fu.kept (hk _ fu.lt (fun z9 => z9.2 rfl))
      obtain ⟨th, hM⟩ := hR
      have hz0 := Nat.le_trans hz0 hz
      refine lv_istore (pc := 1368) (lv' := [(6, .int rm_), (5, .int rk), (0, .ref b), (1, .ref (ad 15)), (2, .ref mo), (3, .ref uo), (4, .int (nI i))]) hx hb dL_law_1368 hl (by decide) rfl (fun ls hl => ?_)
      refine lv_goto (pc := 1370) (tgt := 1784) hx hb dL_law_1370 (by decide) ?_
      refine W.widen (k := cells + 7000) (n := slots + 101000) (by omega) (by omega) ?_
      exact K _ _ _ _ _ _ hz0 hS ⟨_, hI, hW, _, _, fu⟩ hM (lv_sub hl [2, 3, 4, 5, 6] rfl)
    · refine lv_iconst (pc := 1360) (v := 1) hx hb dL_law_1360 (by decide) ?_
      refine lv_goto (pc := 1361) (tgt := 1365) hx hb dL_law_1361 (by decide) ?_
      have hz1 := hS.1
      have t_fu := fu.lt
      obtain ⟨fsm, fom⟩ := hM.obj
      have hPs : ∀ q, H.size ≤ q → PL M0 uo q := fun q h => ⟨Nat.le_trans hz0 h, by have := fu.lt; omega⟩
      refine k_i (pc := 1365) (k_V E hC hS hA hl.1 (c1.recv hC fom rfl) rfl (c_X5_down l D tk s.heap.size sa H.size (PL M0 uo) hPN hPs mo n9 kn th ((xs (nI i + 1).toNatClampNeg)) 1) kw_1654 kw_1655 kw_1656 kw_5 kw_1657 (n := 2) (by decide +kernel) rfl ⟨⟨rfl, rfl⟩, ⟨Nat.le_of_ble_eq_true rfl, Nat.le_of_ble_eq_true rfl⟩, (by dsimp only [room_1]; omega), (by dsimp only [room_1]; omega)⟩ rfl (Nat.le_of_ble_eq_true rfl) hM dL_law_1365) hS (fun q _ w => hPN q w) hn (fun rm_ H locs hR hz hk hS => ?_)
      have hW := hW.kept (fun k hk9 => hk _ (hW k hk9).lt (fun z9 => Nat.not_le.mpr (had k hk9) z9.1))
      have fu := fu.kept (hk _ fu.lt (fun z9 => z9.2 rfl))
      obtain ⟨th, hM⟩ := hR
      have hz0 := Nat.le_trans hz0 hz
      refine lv_istore (pc := 1368) (lv' := [(6, .int rm_), (5, .int rk), (0, .ref b), (1, .ref (ad 15)), (2, .ref mo), (3, .ref uo), (4, .int (nI i))]) hx hb dL_law_1368 hl (by decide) rfl (fun ls hl => ?_)
      refine lv_goto (pc := 1370) (tgt := 1784) hx hb dL_law_1370 (by decide) ?_
      refine W.widen (k := cells + 7000) (n := slots + 101000) (by omega) (by omega) ?_
      exact K _ _ _ _ _ _ hz0 hS ⟨_, hI, hW, _, _, fu⟩ hM (lv_sub hl [2, 3, 4, 5, 6] rfl)
  · refine lv_iconst (pc := 1333) (v := 1) hx hb dL_law_1333 (by decide) ?_
    refine lv_goto (pc := 1334) (tgt := 1338) hx hb dL_law_1334 (by decide) ?_
    refine lv_aload_n (pc := 1338) hx hb dL_law_1338 rfl (lv_at hl 3 rfl) ?_
    have hz1 := hS.1
    have hne := cwC hC hW (Or.inl fu.cl)
    refine k_i (pc := 1339) (k_SW E hC hN hS hA hl.1 (c_L_down l hlst D tk s.heap.size sa hAD huo H.size g kn hI ((xs (nI i + 1).toNatClampNeg)) 1) kw_1082 kw_1083 kw_0 wh_down (n := 4) (by decide +kernel) rfl ⟨⟨rfl, rfl⟩, ⟨Nat.le_of_ble_eq_true rfl, Nat.le_of_ble_eq_true rfl⟩, (by dsimp only [room_1]; omega), (by dsimp only [room_1]; omega)⟩ rfl (Nat.le_of_ble_eq_true rfl) ⟨hW, _, _, fu⟩ dL_law_1339) hS (fun q _ w => lwA.ge hAD huo hS.1 q w) hn (fun rk H locs hR hz hk hS => ?_)
    have hM := hM.wrap hC hW fu had hk
    obtain ⟨g, hI, hW, ox, ov, fu⟩ := hR
    have hz0 := Nat.le_trans hz0 hz
    refine lv_istore (pc := 1342) (lv' := [(5, .int rk), (0, .ref b), (1, .ref (ad 15)), (2, .ref mo), (3, .ref uo), (4, .int (nI i))]) hx hb dL_law_1342 hl (by decide) rfl (fun ls hl => ?_)
    refine lv_aload_n (pc := 1344) hx hb dL_law_1344 rfl (lv_at hl 3 rfl) ?_
    refine lv_aload_n (pc := 1345) hx hb dL_law_1345 rfl (lv_at hl 1 rfl) ?_
    refine lv_iload (pc := 1346) hx hb dL_law_1346 (lv_at hl 5 rfl) ?_
    refine lv_iconst (pc := 1348) (v := 1) hx hb dL_law_1348 (by decide) ?_
    refine lv_iadd (pc := 1349) hx hb dL_law_1349 ?_
    refine va_sld (pc := 1350) hx hb hX hbl hbA hS (lw_in (j := 1) (by omega) hL rfl) dL_law_1350 ?_
    refine lv_aload_n (pc := 1351) hx hb dL_law_1351 rfl (lv_at hl 1 rfl) ?_
    refine lv_iload (pc := 1352) hx hb dL_law_1352 (lv_at hl 5 rfl) ?_
    refine lv_iconst (pc := 1354) (v := 2) hx hb dL_law_1354 (by decide) ?_
    refine lv_iadd (pc := 1355) hx hb dL_law_1355 ?_
    refine va_sld (pc := 1356) hx hb hX hbl hbA hS (lw_in (j := 2) (by omega) hL rfl) dL_law_1356 ?_
    refine lv_if_eq (pc := 1357) (tgt := 1364) hx hb dL_law_1357 (by decide) (fun _ => ?_) (fun _ => ?_)
    · refine lv_iconst (pc := 1364) (v := 0) hx hb dL_law_1364 (by decide) ?_
      have hz1 := hS.1
      have t_fu := fu.lt
      obtain ⟨fsm, fom⟩ := hM.obj
      have hPs : ∀ q, H.size ≤ q → PL M0 uo q := fun q h => ⟨Nat.le_trans hz0 h, by have := fu.lt; omega⟩
      refine k_i (pc := 1365) (k_V E hC hS hA hl.1 (c1.recv hC fom rfl) rfl (c_X5_down l D tk s.heap.size sa H.size (PL M0 uo) hPN hPs mo n9 kn th ((xs (nI i + 1).toNatClampNeg)) 0) kw_1654 kw_1655 kw_1656 kw_5 kw_1657 (n := 2) (by decide +kernel) rfl ⟨⟨rfl, rfl⟩, ⟨Nat.le_of_ble_eq_true rfl, Nat.le_of_ble_eq_true rfl⟩, (by dsimp only [room_1]; omega), (by dsimp only [room_1]; omega)⟩ rfl (Nat.le_of_ble_eq_true rfl) hM dL_law_1365) hS (fun q _ w => hPN q w) hn (fun rm_ H locs hR hz hk hS => ?_)
      have hW := hW.kept (fun k hk9 => hk _ (hW k hk9).lt (fun z9 => Nat.not_le.mpr (had k hk9) z9.1))
      have fu := fu.kept (hk _ fu.lt (fun z9 => z9.2 rfl))
      obtain ⟨th, hM⟩ := hR
      have hz0 := Nat.le_trans hz0 hz
      refine lv_istore (pc := 1368) (lv' := [(6, .int rm_), (5, .int rk), (0, .ref b), (1, .ref (ad 15)), (2, .ref mo), (3, .ref uo), (4, .int (nI i))]) hx hb dL_law_1368 hl (by decide) rfl (fun ls hl => ?_)
      refine lv_goto (pc := 1370) (tgt := 1784) hx hb dL_law_1370 (by decide) ?_
      refine W.widen (k := cells + 7000) (n := slots + 101000) (by omega) (by omega) ?_
      exact K _ _ _ _ _ _ hz0 hS ⟨_, hI, hW, _, _, fu⟩ hM (lv_sub hl [2, 3, 4, 5, 6] rfl)
    · refine lv_iconst (pc := 1360) (v := 1) hx hb dL_law_1360 (by decide) ?_
      refine lv_goto (pc := 1361) (tgt := 1365) hx hb dL_law_1361 (by decide) ?_
      have hz1 := hS.1
      have t_fu := fu.lt
      obtain ⟨fsm, fom⟩ := hM.obj
      have hPs : ∀ q, H.size ≤ q → PL M0 uo q := fun q h => ⟨Nat.le_trans hz0 h, by have := fu.lt; omega⟩
      refine k_i (pc := 1365) (k_V E hC hS hA hl.1 (c1.recv hC fom rfl) rfl (c_X5_down l D tk s.heap.size sa H.size (PL M0 uo) hPN hPs mo n9 kn th ((xs (nI i + 1).toNatClampNeg)) 1) kw_1654 kw_1655 kw_1656 kw_5 kw_1657 (n := 2) (by decide +kernel) rfl ⟨⟨rfl, rfl⟩, ⟨Nat.le_of_ble_eq_true rfl, Nat.le_of_ble_eq_true rfl⟩, (by dsimp only [room_1]; omega), (by dsimp only [room_1]; omega)⟩ rfl (Nat.le_of_ble_eq_true rfl) hM dL_law_1365) hS (fun q _ w => hPN q w) hn (fun rm_ H locs hR hz hk hS => ?_)
      have hW := hW.kept (fun k hk9 => hk _ (hW k hk9).lt (fun z9 => Nat.not_le.mpr (had k hk9) z9.1))
      have fu := fu.kept (hk _ fu.lt (fun z9 => z9.2 rfl))
      obtain ⟨th, hM⟩ := hR
      have hz0 := Nat.le_trans hz0 hz
      refine lv_istore (pc := 1368) (lv' := [(6, .int rm_), (5, .int rk), (0, .ref b), (1, .ref (ad 15)), (2, .ref mo), (3, .ref uo), (4, .int (nI i))]) hx hb dL_law_1368 hl (by decide) rfl (fun ls hl => ?_)
      refine lv_goto (pc := 1370) (tgt := 1784) hx hb dL_law_1370 (by decide) ?_
      refine W.widen (k := cells + 7000) (n := slots + 101000) (by omega) (by omega) ?_
      exact K _ _ _ _ _ _ hz0 hS ⟨_, hI, hW, _, _, fu⟩ hM (lv_sub hl [2, 3, 4, 5, 6] rfl)
