set_option maxHeartbeats 4000000 in
set_option maxRecDepth 100000 in
theorem lc_0 {p : Program} {l : Launch} {e : Env} {s : State} {m : MethodId} {below : List Frame} {meth : Method} {c : Code} {Q : State → Prop} {D : va_G} {tk : Nat → ClassId} {sa ad : Nat → Nat} {b L uo mo M0 : Nat} {xs : Nat → Int32} {w0 : Cond} (hlst : l.stackTraces = false) (E : CallFix p m c cL_law 7 s #[.ref b] (w0 :: GW) "BestratiosLaw") (hr : meth.sig.returnType = some .boolean) (hC : Ctx D tk s.heap.size sa s) (hN : NCx s) (hX : va_X b L xs s s.heap) (hbl : b < s.heap.size) (hAD : ADok s.heap.size ad) (huo : s.heap.size ≤ uo) (hM0 : s.heap.size ≤ M0) (had : ∀ k, k < 22 → ad k < M0) (hL : L ≤ 320) {i : Nat} (hi : i + 5 ≤ L) {cells slots : Nat} {H : Heap} {locs : List Loc} {ls : Array Slot} (hc9 : cells + 7000 ≤ 846963) (hs9 : slots + 101000 ≤ 6560590) (hz0 : M0 ≤ H.size) (hS : va_S (NA s.heap.size) s.heap H locs) (hB : LR D tk sa ad uo mo (PL M0 uo) H) (hl : lv_has ls 7 [(0, .ref b), (1, .ref (ad 15)), (2, .ref mo), (3, .ref uo), (4, .int (nI i))])
    (K : ∀ (H1 : Heap) (locs1 : List Loc) (ls1 : Array Slot), M0 ≤ H1.size → va_S (NA s.heap.size) s.heap H1 locs1 → LR D tk sa ad uo mo (PL M0 uo) H1 → lv_has ls1 7 [(0, .ref b), (1, .ref (ad 15)), (2, .ref mo), (3, .ref uo), (4, .int (nI i))] → W p l e room_1 s m #[.ref b] below meth c H1 locs1 (cells + 7000) (slots + 101000) Q (F0 m 1813 ls1 [])) : W p l e room_1 s m #[.ref b] below meth c H locs cells slots Q (F0 m 228 ls []) := by
  obtain ⟨hx, hb, -⟩ := id E
  have hbA : ¬ NA s.heap.size b := Nat.not_le.mpr hbl
  have hA : ∀ q, NA s.heap.size q → s.heap.size ≤ q := fun q h => h
  have hn : ∀ q, s.heap.size ≤ q → NA s.heap.size q := fun q h => h
  have hPN : ∀ q, PL M0 uo q → s.heap.size ≤ q := fun q h => Nat.le_trans hM0 h.1
  obtain ⟨g, kn, tt, bb, eT, eB, oT, oB, pk, ca, rf, vs, n9, th, ox, ov, hV, hW, fu, hM⟩ := hB
  refine lv_aload_n (pc := 228) hx hb dL_law_228 rfl (lv_at hl 1 rfl) ?_
  refine lv_aload_n (pc := 229) hx hb dL_law_229 rfl (lv_at hl 0 rfl) ?_
  refine lv_iload (pc := 230) hx hb dL_law_230 (lv_at hl 4 rfl) ?_
  refine lv_iconst (pc := 232) (v := 1) hx hb dL_law_232 (by decide) ?_
  refine lv_iadd (pc := 233) hx hb dL_law_233 ?_
  refine va_sld (pc := 234) hx hb hX hbl hbA hS (lw_in (j := 1) (by omega) hL rfl) dL_law_234 ?_
  refine lv_aload_n (pc := 235) hx hb dL_law_235 rfl (lv_at hl 0 rfl) ?_
  refine lv_iload (pc := 236) hx hb dL_law_236 (lv_at hl 4 rfl) ?_
  refine lv_iconst (pc := 238) (v := 2) hx hb dL_law_238 (by decide) ?_
  refine lv_iadd (pc := 239) hx hb dL_law_239 ?_
  refine va_sld (pc := 240) hx hb hX hbl hbA hS (lw_in (j := 2) (by omega) hL rfl) dL_law_240 ?_
  refine lv_aload_n (pc := 241) hx hb dL_law_241 rfl (lv_at hl 0 rfl) ?_
  refine lv_iload (pc := 242) hx hb dL_law_242 (lv_at hl 4 rfl) ?_
  refine lv_iconst (pc := 244) (v := 3) hx hb dL_law_244 (by decide) ?_
  refine lv_iadd (pc := 245) hx hb dL_law_245 ?_
  refine va_sld (pc := 246) hx hb hX hbl hbA hS (lw_in (j := 3) (by omega) hL rfl) dL_law_246 ?_
  refine lv_aload_n (pc := 247) hx hb dL_law_247 rfl (lv_at hl 3 rfl) ?_
  have hz1 := hS.1
  have hne := cwC hC hW (Or.inl fu.cl)
  refine k_i (pc := 248) (k_SW E hC hN hS hA hl.1 (c_L_put l hlst D tk s.heap.size sa hAD huo H.size g kn hV.ci ((xs (nI i + 1).toNatClampNeg)) ((xs (nI i + 2).toNatClampNeg)) ((xs (nI i + 3).toNatClampNeg))) kw_800 kw_801 kw_0 wh_put (n := 5) (by decide +kernel) rfl ⟨⟨rfl, rfl⟩, ⟨Nat.le_of_ble_eq_true rfl, Nat.le_of_ble_eq_true rfl⟩, (by dsimp only [room_1]; omega), (by dsimp only [room_1]; omega)⟩ rfl (Nat.le_of_ble_eq_true rfl) ⟨hW, _, _, fu⟩ dL_law_248) hS (fun q _ w => lwA.ge hAD huo hS.1 q w) hn (fun rk H locs hR hz hk hS => ?_)
  have hM := hM.wrap hC hW fu had hk
  obtain ⟨g1, ox, ov, hW, fu, hw9⟩ := hR
  have hz0 := Nat.le_trans hz0 hz
  refine lv_istore (pc := 251) (lv' := [(5, .int rk), (0, .ref b), (1, .ref (ad 15)), (2, .ref mo), (3, .ref uo), (4, .int (nI i))]) hx hb dL_law_251 hl (by decide) rfl (fun ls hl => ?_)
  refine lv_aload_n (pc := 253) hx hb dL_law_253 rfl (lv_at hl 3 rfl) ?_
  refine lv_aload_n (pc := 254) hx hb dL_law_254 rfl (lv_at hl 1 rfl) ?_
  refine lv_iload (pc := 255) hx hb dL_law_255 (lv_at hl 5 rfl) ?_
  refine lv_iconst (pc := 257) (v := 1) hx hb dL_law_257 (by decide) ?_
  refine lv_iadd (pc := 258) hx hb dL_law_258 ?_
  refine va_sld (pc := 259) hx hb hX hbl hbA hS (lw_in (j := 1) (by omega) hL rfl) dL_law_259 ?_
  refine lv_aload_n (pc := 260) hx hb dL_law_260 rfl (lv_at hl 1 rfl) ?_
  refine lv_iload (pc := 261) hx hb dL_law_261 (lv_at hl 5 rfl) ?_
  refine lv_iconst (pc := 263) (v := 2) hx hb dL_law_263 (by decide) ?_
  refine lv_iadd (pc := 264) hx hb dL_law_264 ?_
  refine va_sld (pc := 265) hx hb hX hbl hbA hS (lw_in (j := 2) (by omega) hL rfl) dL_law_265 ?_
  refine lv_aload_n (pc := 266) hx hb dL_law_266 rfl (lv_at hl 1 rfl) ?_
  refine lv_iload (pc := 267) hx hb dL_law_267 (lv_at hl 5 rfl) ?_
  refine lv_iconst (pc := 269) (v := 3) hx hb dL_law_269 (by decide) ?_
  refine lv_iadd (pc := 270) hx hb dL_law_270 ?_
  refine va_sld (pc := 271) hx hb hX hbl hbA hS (lw_in (j := 3) (by omega) hL rfl) dL_law_271 ?_
  have hz1 := hS.1
  have t_fu := fu.lt
  have hpl0 := hM.tl
  obtain ⟨fsm, fom⟩ := hM.obj
  have hPs : ∀ q, H.size ≤ q → PL M0 uo q := fun q h => ⟨Nat.le_trans hz0 h, by have := fu.lt; omega⟩
  refine k_i (pc := 272) (k_V E hC hS hA hl.1 (c1.recv hC fom rfl) rfl (c_X5_put l D tk s.heap.size sa H.size (PL M0 uo) hPN hPs mo n9 kn th tt bb eT eB oT oB pk ca rf vs ((xs (nI i + 1).toNatClampNeg)) ((xs (nI i + 2).toNatClampNeg)) ((xs (nI i + 3).toNatClampNeg))) kw_1241 kw_1242 kw_1243 kw_5 kw_1244 (n := 3) (by decide +kernel) rfl ⟨⟨rfl, rfl⟩, ⟨Nat.le_of_ble_eq_true rfl, Nat.le_of_ble_eq_true rfl⟩, (by dsimp only [room_1]; omega), (by dsimp only [room_1]; omega)⟩ rfl (Nat.le_of_ble_eq_true rfl) hM dL_law_272) hS (fun q _ w => hPN q w) hn (fun rm_ H locs hR hz hk hS => ?_)
  have hW := hW.kept (fun k hk9 => hk _ (hW k hk9).lt (fun z9 => Nat.not_le.mpr (had k hk9) z9.1))
  have fu := fu.kept (hk _ fu.lt (fun z9 => z9.2 rfl))
  obtain ⟨th1, tt1, bb1, rf1, hM, hm9⟩ := hR
  obtain ⟨e_th, e_n, hV⟩ := l_put hV hw9 hm9
  have hz0 := Nat.le_trans hz0 hz
  refine lv_istore (pc := 275) (lv' := [(6, .int rm_), (5, .int rk), (0, .ref b), (1, .ref (ad 15)), (2, .ref mo), (3, .ref uo), (4, .int (nI i))]) hx hb dL_law_275 hl (by decide) rfl (fun ls hl => ?_)
  refine lv_aload_n (pc := 277) hx hb dL_law_277 rfl (lv_at hl 4 rfl) ?_
  have hz1 := hS.1
  obtain ⟨fsm, fom⟩ := hM.obj
  refine k_i (pc := 278) (k_V E hC hS hA hl.1 (c1.recv hC fom rfl) rfl (c_X5_thrown l D tk s.heap.size sa H.size (PL M0 uo) hPN mo _ _ _ _ _ _ _ _ _ _ _ _ _) kw_1237 kw_1238 kw_1239 kw_5 kw_1240 (n := 0) (by decide +kernel) rfl ⟨⟨rfl, rfl⟩, ⟨Nat.le_of_ble_eq_true rfl, Nat.le_of_ble_eq_true rfl⟩, (by dsimp only [room_1]; omega), (by dsimp only [room_1]; omega)⟩ rfl (Nat.le_of_ble_eq_true rfl) hM dL_law_278) hS (fun q z w => absurd w (Nat.not_le.mpr z)) hn (fun rt_ H locs hR hz hk hS => ?_)
  have hM := hM.new hk
  have hW := hW.new hk
  have fu := fu.new hk
  have e_t : rt_ = _ := hR
  have hz0 := Nat.le_trans hz0 hz
  refine lv_iload (pc := 281) hx hb dL_law_281 (lv_at hl 1 rfl) ?_
  refine lv_icmp_eq (pc := 283) (tgt := 288) hx hb dL_law_283 (by decide) (fun _ => ?_) (fun h9 => absurd (e_t.trans e_th) h9)
  refine lv_iload (pc := 288) hx hb dL_law_288 (lv_at hl 1 rfl) ?_
  refine lv_if_ne (pc := 290) (tgt := 306) hx hb dL_law_290 (by decide) (fun c_z => ?_) (fun c_z => ?_)
  · refine lv_goto (pc := 306) (tgt := 1813) hx hb dL_law_306 (by decide) ?_
    refine W.widen (k := cells + 7000) (n := slots + 101000) (by omega) (by omega) ?_
    exact K _ _ _ hz0 hS ⟨_, _, _, _, _, _, _, _, _, _, _, _, _, _, _, _, hV, hW, fu, hM⟩ (lv_sub hl [2, 3, 4, 5, 6] rfl)
  · refine lv_aload_n (pc := 293) hx hb dL_law_293 rfl (lv_at hl 5 rfl) ?_
    refine r_getN (pc := 294) "BestratiosLaw" E hC fu 0 (v := .long ox) rfl rfl (by decide) uX4 kn_793 (fun _ h => h) dL_law_294 ?_
    refine lv_iload (pc := 297) hx hb dL_law_297 (lv_at hl 0 rfl) ?_
    refine lv_i2l (pc := 299) (v := rm_.toInt64) hx hb dL_law_299 rfl ?_
    refine r_lceq (pc := 300) (tgt := 306) E dL_law_300 dL_law_301 (by decide) (fun _ => ?_) (fun h9 => absurd (e_n c_z) h9)
    refine lv_goto (pc := 306) (tgt := 1813) hx hb dL_law_306 (by decide) ?_
    refine W.widen (k := cells + 7000) (n := slots + 101000) (by omega) (by omega) ?_
    exact K _ _ _ hz0 hS ⟨_, _, _, _, _, _, _, _, _, _, _, _, _, _, _, _, hV, hW, fu, hM⟩ (lv_sub hl [2, 3, 4, 5, 6] rfl)
