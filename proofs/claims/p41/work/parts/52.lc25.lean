set_option maxHeartbeats 4000000 in
set_option maxRecDepth 100000 in
theorem lc_24 {p : Program} {l : Launch} {e : Env} {s : State} {m : MethodId} {below : List Frame} {meth : Method} {c : Code} {Q : State → Prop} {D : va_G} {tk : Nat → ClassId} {sa ad : Nat → Nat} {b L uo mo M0 : Nat} {xs : Nat → Int32} {w0 : Cond} (hlst : l.stackTraces = false) (E : CallFix p m c cL_law 7 s #[.ref b] (w0 :: GW) "BestratiosLaw") (hr : meth.sig.returnType = some .boolean) (hC : Ctx D tk s.heap.size sa s) (hN : NCx s) (hX : va_X b L xs s s.heap) (hbl : b < s.heap.size) (hAD : ADok s.heap.size ad) (huo : s.heap.size ≤ uo) (hM0 : s.heap.size ≤ M0) (had : ∀ k, k < 22 → ad k < M0) (hL : L ≤ 320) {i : Nat} (hi : i + 5 ≤ L) {kn th : Int32} {n9 cells slots : Nat} {H : Heap} {locs : List Loc} {ls : Array Slot} (hc9 : cells + 7000 ≤ 844687) (hs9 : slots + 101000 ≤ 6567418) (hz0 : M0 ≤ H.size) (hS : va_S (NA s.heap.size) s.heap H locs) (hB : LWo D tk ad uo kn H) (hM : MI D tk sa (PL M0 uo) mo kn n9 th H) (hl : lv_has ls 7 [(0, .ref b), (1, .ref (ad 15)), (2, .ref mo), (3, .ref uo), (4, .int (nI i))])
    (K : ∀ (kn1 : Int32) (n1 : Nat) (th1 : Int32) (H1 : Heap) (locs1 : List Loc) (ls1 : Array Slot), M0 ≤ H1.size → va_S (NA s.heap.size) s.heap H1 locs1 → LWo D tk ad uo kn1 H1 → MI D tk sa (PL M0 uo) mo kn1 n1 th1 H1 → lv_has ls1 7 [(0, .ref b), (1, .ref (ad 15)), (2, .ref mo), (3, .ref uo), (4, .int (nI i))] → W p l e room_1 s m #[.ref b] below meth c H1 locs1 (cells + 7000) (slots + 101000) Q (F0 m 1784 ls1 [])) : W p l e room_1 s m #[.ref b] below meth c H locs cells slots Q (F0 m 1185 ls []) := by
  obtain ⟨hx, hb, -⟩ := id E
  have hbA : ¬ NA s.heap.size b := Nat.not_le.mpr hbl
  have hA : ∀ q, NA s.heap.size q → s.heap.size ≤ q := fun q h => h
  have hn : ∀ q, s.heap.size ≤ q → NA s.heap.size q := fun q h => h
  have hPN : ∀ q, PL M0 uo q → s.heap.size ≤ q := fun q h => Nat.le_trans hM0 h.1
  obtain ⟨g, hI, hW, ox, ov, fu⟩ := hB
  refine lv_aload_n (pc := 1185) hx hb dL_law_1185 rfl (lv_at hl 1 rfl) ?_
  refine lv_aload_n (pc := 1186) hx hb dL_law_1186 rfl (lv_at hl 0 rfl) ?_
  refine lv_iload (pc := 1187) hx hb dL_law_1187 (lv_at hl 4 rfl) ?_
  refine lv_iconst (pc := 1189) (v := 1) hx hb dL_law_1189 (by decide) ?_
  refine lv_iadd (pc := 1190) hx hb dL_law_1190 ?_
  refine va_sld (pc := 1191) hx hb hX hbl hbA hS (lw_in (j := 1) (by omega) hL rfl) dL_law_1191 ?_
  refine lv_aload_n (pc := 1192) hx hb dL_law_1192 rfl (lv_at hl 0 rfl) ?_
  refine lv_iload (pc := 1193) hx hb dL_law_1193 (lv_at hl 4 rfl) ?_
  refine lv_iconst (pc := 1195) (v := 2) hx hb dL_law_1195 (by decide) ?_
  refine lv_iadd (pc := 1196) hx hb dL_law_1196 ?_
  refine va_sld (pc := 1197) hx hb hX hbl hbA hS (lw_in (j := 2) (by omega) hL rfl) dL_law_1197 ?_
  refine lv_aload_n (pc := 1198) hx hb dL_law_1198 rfl (lv_at hl 0 rfl) ?_
  refine lv_iload (pc := 1199) hx hb dL_law_1199 (lv_at hl 4 rfl) ?_
  refine lv_iconst (pc := 1201) (v := 3) hx hb dL_law_1201 (by decide) ?_
  refine lv_iadd (pc := 1202) hx hb dL_law_1202 ?_
  refine va_sld (pc := 1203) hx hb hX hbl hbA hS (lw_in (j := 3) (by omega) hL rfl) dL_law_1203 ?_
  refine lv_aload_n (pc := 1204) hx hb dL_law_1204 rfl (lv_at hl 3 rfl) ?_
  have hz1 := hS.1
  have hne := cwC hC hW (Or.inl fu.cl)
  refine k_i (pc := 1205) (k_SW E hC hN hS hA hl.1 (c_L_upper l hlst D tk s.heap.size sa hAD huo H.size g kn hI ((xs (nI i + 1).toNatClampNeg)) ((xs (nI i + 2).toNatClampNeg)) ((xs (nI i + 3).toNatClampNeg))) kw_1053 kw_1054 kw_0 wh_upper (n := 5) (by decide +kernel) rfl ⟨⟨rfl, rfl⟩, ⟨Nat.le_of_ble_eq_true rfl, Nat.le_of_ble_eq_true rfl⟩, (by dsimp only [room_1]; omega), (by dsimp only [room_1]; omega)⟩ rfl (Nat.le_of_ble_eq_true rfl) ⟨hW, _, _, fu⟩ dL_law_1205) hS (fun q _ w => lwA.ge hAD huo hS.1 q w) hn (fun rk H locs hR hz hk hS => ?_)
  have hM := hM.wrap hC hW fu had hk
  obtain ⟨g, hI, hW, ox, ov, fu⟩ := hR
  have hz0 := Nat.le_trans hz0 hz
  refine lv_istore (pc := 1208) (lv' := [(5, .int rk), (0, .ref b), (1, .ref (ad 15)), (2, .ref mo), (3, .ref uo), (4, .int (nI i))]) hx hb dL_law_1208 hl (by decide) rfl (fun ls hl => ?_)
  refine lv_aload_n (pc := 1210) hx hb dL_law_1210 rfl (lv_at hl 3 rfl) ?_
  refine lv_aload_n (pc := 1211) hx hb dL_law_1211 rfl (lv_at hl 1 rfl) ?_
  refine lv_iload (pc := 1212) hx hb dL_law_1212 (lv_at hl 5 rfl) ?_
  refine lv_iconst (pc := 1214) (v := 1) hx hb dL_law_1214 (by decide) ?_
  refine lv_iadd (pc := 1215) hx hb dL_law_1215 ?_
  refine va_sld (pc := 1216) hx hb hX hbl hbA hS (lw_in (j := 1) (by omega) hL rfl) dL_law_1216 ?_
  refine lv_aload_n (pc := 1217) hx hb dL_law_1217 rfl (lv_at hl 1 rfl) ?_
  refine lv_iload (pc := 1218) hx hb dL_law_1218 (lv_at hl 5 rfl) ?_
  refine lv_iconst (pc := 1220) (v := 2) hx hb dL_law_1220 (by decide) ?_
  refine lv_iadd (pc := 1221) hx hb dL_law_1221 ?_
  refine va_sld (pc := 1222) hx hb hX hbl hbA hS (lw_in (j := 2) (by omega) hL rfl) dL_law_1222 ?_
  refine lv_aload_n (pc := 1223) hx hb dL_law_1223 rfl (lv_at hl 1 rfl) ?_
  refine lv_iload (pc := 1224) hx hb dL_law_1224 (lv_at hl 5 rfl) ?_
  refine lv_iconst (pc := 1226) (v := 3) hx hb dL_law_1226 (by decide) ?_
  refine lv_iadd (pc := 1227) hx hb dL_law_1227 ?_
  refine va_sld (pc := 1228) hx hb hX hbl hbA hS (lw_in (j := 3) (by omega) hL rfl) dL_law_1228 ?_
  have hz1 := hS.1
  have t_fu := fu.lt
  obtain ⟨fsm, fom⟩ := hM.obj
  have hPs : ∀ q, H.size ≤ q → PL M0 uo q := fun q h => ⟨Nat.le_trans hz0 h, by have := fu.lt; omega⟩
  refine k_i (pc := 1229) (k_V E hC hS hA hl.1 (c1.recv hC fom rfl) rfl (c_X5_upper l D tk s.heap.size sa H.size (PL M0 uo) hPN hPs mo n9 kn th ((xs (nI i + 1).toNatClampNeg)) ((xs (nI i + 2).toNatClampNeg)) ((xs (nI i + 3).toNatClampNeg))) kw_1626 kw_1627 kw_1628 kw_5 kw_1629 (n := 3) (by decide +kernel) rfl ⟨⟨rfl, rfl⟩, ⟨Nat.le_of_ble_eq_true rfl, Nat.le_of_ble_eq_true rfl⟩, (by dsimp only [room_1]; omega), (by dsimp only [room_1]; omega)⟩ rfl (Nat.le_of_ble_eq_true rfl) hM dL_law_1229) hS (fun q _ w => hPN q w) hn (fun rm_ H locs hR hz hk hS => ?_)
  have hW := hW.kept (fun k hk9 => hk _ (hW k hk9).lt (fun z9 => Nat.not_le.mpr (had k hk9) z9.1))
  have fu := fu.kept (hk _ fu.lt (fun z9 => z9.2 rfl))
  obtain ⟨th, hM⟩ := hR
  have hz0 := Nat.le_trans hz0 hz
  refine lv_istore (pc := 1232) (lv' := [(6, .int rm_), (5, .int rk), (0, .ref b), (1, .ref (ad 15)), (2, .ref mo), (3, .ref uo), (4, .int (nI i))]) hx hb dL_law_1232 hl (by decide) rfl (fun ls hl => ?_)
  refine lv_goto (pc := 1234) (tgt := 1784) hx hb dL_law_1234 (by decide) ?_
  refine W.widen (k := cells + 7000) (n := slots + 101000) (by omega) (by omega) ?_
  exact K _ _ _ _ _ _ hz0 hS ⟨_, hI, hW, _, _, fu⟩ hM (lv_sub hl [2, 3, 4, 5, 6] rfl)
