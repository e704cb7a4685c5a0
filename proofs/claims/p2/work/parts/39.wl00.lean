set_option maxHeartbeats 4000000 in
set_option maxRecDepth 100000 in
/-- BestratiosModel.withLast([JI)[J -/
theorem c_X5_withLast (l : Launch) (D : va_G) (tk : Nat → ClassId) (N0 : Nat) (sa : Nat → Nat)  (sz : Nat) (pa : Nat) (ta : Int64) (ba : Int64) (mo : Int32) (hfa : m_F ta ba) (hmo : mo = 1 ∨ mo = -1) : Met l yX5_withLast (wsy yX5_withLast cX5_withLast 4 (some (.array .long))) ({ frames := 8, cells := 51, slots := 178, locals := 186 } : Room) (cP D tk N0 sa [.ref pa, .int mo] sz (fun H => L2 D tk pa ta ba H)) (kQo (fun v H => (v = none ∧ m_WL ta ba mo.toInt64 = none) ∨ (∃ q t b, v = some q ∧ sz ≤ q ∧ L2 D tk q t b H ∧ 1 ≤ b.toInt ∧ m_WL ta ba mo.toInt64 = some (t, b))) (nwA sz)) (51) (178) (nwA sz) := by
  refine mStart RX5 rfl (by decide +kernel) (Nat.le_of_ble_eq_true rfl) ?_
  intro p e s m args below meth c E hr hlk hnm hsz hC hF ls hl
  subst hsz
  obtain ⟨hx, hb, -⟩ := id E
  have hA : ∀ q, (nwA s.heap.size) q → N0 ≤ q := fun q h => Nat.le_trans hC.2.1 h
  have hn : ∀ q, s.heap.size ≤ q → (nwA s.heap.size) q := fun q h => h
  have hS : va_S (nwA s.heap.size) s.heap s.heap [] := va_S.rf
  have hl : lv_has ls 4 [(0, .ref pa), (1, .int mo)] := hl
  have fa : L2 D tk pa ta ba s.heap := hF
  refine lv_aload_n (pc := 0) hx hb dX5_withLast_0 rfl (lv_at hl 0 rfl) ?_
  have hZ0_ := hS.1
  have t_fa := fa.lt
  refine k_r (pc := 1) (k_S E hC hS hA hl.1 (c_X5_termsOf l D tk N0 sa s.heap.size pa ta ba hfa) kw_1411 kw_1412 kw_5 kw_1413 (n := 1) (by decide +kernel) rfl ⟨⟨rfl, rfl⟩, ⟨Nat.le_of_ble_eq_true rfl, Nat.le_of_ble_eq_true rfl⟩, (by dsimp only; omega), (by dsimp only; omega)⟩ rfl (Nat.le_of_ble_eq_true rfl) fa dX5_withLast_1) hS (fun q z w => absurd w (Nat.not_le.mpr z)) hn (fun r_1 H locs hR hz hk hS => ?_)
  have fa := fa.kept (hk _ fa.lt (Nat.not_le.mpr fa.lt))
  obtain ⟨nl2, bb2, cap2, ff2, ww2, md2, zr9_, zb9_, fl2, fR2, el2, hPT2, hln2, hlm2, hlc2, hlp2, ⟨hTL2, hTA2⟩, gg2, hEU2⟩ := hR
  have hcb2 := m_acB hlp2
  have s_fl2 : s.heap.size ≤ r_1 := Nat.le_trans hZ0_ zr9_
  have g_fl2 := hn _ s_fl2
  have l_fa_fl2 : pa < r_1 := Nat.lt_of_lt_of_le t_fa zr9_
  have s_fR2 : s.heap.size ≤ bb2 := Nat.le_trans hZ0_ zb9_
  have g_fR2 := hn _ s_fR2
  have l_fa_fR2 : pa < bb2 := Nat.lt_of_lt_of_le t_fa zb9_
  refine lv_astore_n (pc := 4) (lv' := [(2, .ref r_1), (0, .ref pa), (1, .int mo)]) hx hb dX5_withLast_4 rfl hl (by decide) rfl (fun ls hl => ?_)
  obtain ⟨j9, hj9⟩ : ∃ j9, nl2 = j9 + 1 := ⟨nl2 - 1, by omega⟩
  refine lv_aload_n (pc := 5) hx hb dX5_withLast_5 rfl (lv_at hl 0 rfl) ?_
  refine k_i (pc := 6) (k_V E hC hS hA hl.1 (c1.recv hC fl2 rfl) rfl (c_Jx4a65c_size_8abf5 l D tk N0 sa H.size r_1 bb2 nl2 md2) kw_1546 kw_1547 kw_1548 kw_8 kw_1549 (n := 0) (by decide +kernel) rfl ⟨⟨rfl, rfl⟩, ⟨Nat.le_of_ble_eq_true rfl, Nat.le_of_ble_eq_true rfl⟩, (by dsimp only; omega), (by dsimp only; omega)⟩ rfl (Nat.le_of_ble_eq_true rfl) fl2 dX5_withLast_6) hS (fun q z w => absurd w (Nat.not_le.mpr z)) hn (fun r_3 H locs hR hz hk hS => ?_)
  have fa := fa.kept (hk _ fa.lt (Nat.not_le.mpr fa.lt))
  have fR2 := fR2.kept (hk _ fR2.lt (Nat.not_le.mpr fR2.lt))
  have fl2 := fl2.kept (hk _ fl2.lt (Nat.not_le.mpr fl2.lt))
  have el2 := el2.new hk
  rw [show r_3 = nI nl2 from hR]
  refine lv_iconst (pc := 9) (v := 1) hx hb dX5_withLast_9 (by decide) ?_
  refine lv_isub (pc := 10) hx hb dX5_withLast_10 ?_
  obtain ⟨x_4, ex_4⟩ : ∃ z9 : Int32, z9 = (nI nl2) - 1 := ⟨_, rfl⟩
  rw [← ex_4]
  refine lv_istore_n (pc := 11) (lv' := [(3, .int x_4), (2, .ref r_1), (0, .ref pa), (1, .int mo)]) hx hb dX5_withLast_11 rfl hl (by decide) rfl (fun ls hl => ?_)
  refine lv_aload_n (pc := 12) hx hb dX5_withLast_12 rfl (lv_at hl 1 rfl) ?_
  refine lv_iload_n (pc := 13) hx hb dX5_withLast_13 rfl (lv_at hl 0 rfl) ?_
  refine lv_aload_n (pc := 14) hx hb dX5_withLast_14 rfl (lv_at hl 1 rfl) ?_
  refine lv_iload_n (pc := 15) hx hb dX5_withLast_15 rfl (lv_at hl 0 rfl) ?_
  have hix : x_4 = nI j9 := by rw [ex_4, hj9]; exact nI_pred j9
  obtain ⟨qe5, hq5, he5⟩ := el2 j9 (by omega)
  obtain ⟨xe5, ev5, pf5⟩ := hPT2 j9 (by omega)
  rw [ev5] at he5
  refine k_r (pc := 16) (k_V E hC hS hA hl.1 (c1.recv hC fl2 rfl) rfl (c_Jx4a65c_get_915e3 l D tk N0 sa H.size r_1 bb2 nl2 cap2 j9 qe5 md2 x_4 ff2 hix (by omega) (by omega) (by omega) hq5) kw_1550 kw_1551 kw_1552 kw_8 kw_1553 (n := 1) (by decide +kernel) rfl ⟨⟨rfl, rfl⟩, ⟨Nat.le_of_ble_eq_true rfl, Nat.le_of_ble_eq_true rfl⟩, (by dsimp only; omega), (by dsimp only; omega)⟩ rfl (Nat.le_of_ble_eq_true rfl) ⟨fl2, fR2⟩ dX5_withLast_16) hS (fun q z w => absurd w (Nat.not_le.mpr z)) hn (fun r_6 H locs hR hz hk hS => ?_)
  have fa := fa.kept (hk _ fa.lt (Nat.not_le.mpr fa.lt))
  have fR2 := fR2.kept (hk _ fR2.lt (Nat.not_le.mpr fR2.lt))
  have fl2 := fl2.kept (hk _ fl2.lt (Nat.not_le.mpr fl2.lt))
  have el2 := el2.new hk
  have he5 := he5.kept (hk _ he5.lt (Nat.not_le.mpr he5.lt))
  rw [show r_6 = qe5 from hR]
  refine r_castO (pc := 19) E hC he5 rfl kw_1532 dX5_withLast_19 ?_
  refine k_l (pc := 22) (k_V E hC hS hA hl.1 (xf.recv hC he5 rfl) rfl (c_J13_longValue_f9912 l D tk N0 sa H.size qe5 xe5) kw_1533 kw_1534 kw_1535 kw_17 kw_1536 (n := 0) (by decide +kernel) rfl ⟨⟨rfl, rfl⟩, ⟨Nat.le_of_ble_eq_true rfl, Nat.le_of_ble_eq_true rfl⟩, (by dsimp only; omega), (by dsimp only; omega)⟩ rfl (Nat.le_of_ble_eq_true rfl) he5 dX5_withLast_22) hS (fun q z w => absurd w (Nat.not_le.mpr z)) hn (fun r_7 H locs hR hz hk hS => ?_)
  have fa := fa.kept (hk _ fa.lt (Nat.not_le.mpr fa.lt))
  have fR2 := fR2.kept (hk _ fR2.lt (Nat.not_le.mpr fR2.lt))
  have fl2 := fl2.kept (hk _ fl2.lt (Nat.not_le.mpr fl2.lt))
  have el2 := el2.new hk
  have he5 := he5.kept (hk _ he5.lt (Nat.not_le.mpr he5.lt))
  have er_7 : r_7 = xe5 := hR
  refine lv_iload_n (pc := 25) hx hb dX5_withLast_25 rfl (lv_at hl 3 rfl) ?_
  refine lv_i2l (pc := 26) (v := mo.toInt64) hx hb dX5_withLast_26 rfl ?_
  refine lv_ladd (pc := 27) hx hb dX5_withLast_27 ?_
  have hZ0_ := hS.1
  have t_fa := fa.lt
  have t_fR2 := fR2.lt
  have t_fl2 := fl2.lt
  have t_he5 := he5.lt
  refine k_r (pc := 28) (k_S E hC hS hA hl.1 (c_J13_valueOf_928b6 l D tk N0 sa H.size (r_7 + mo.toInt64)) kw_1414 kw_1415 kw_17 kw_1416 (n := 1) (by decide +kernel) rfl ⟨⟨rfl, rfl⟩, ⟨Nat.le_of_ble_eq_true rfl, Nat.le_of_ble_eq_true rfl⟩, (by dsimp only; omega), (by dsimp only; omega)⟩ rfl (Nat.le_of_ble_eq_true rfl) trivial dX5_withLast_28) hS (fun q z w => absurd w (Nat.not_le.mpr z)) hn (fun r_8 H locs hR hz hk hS => ?_)
  have fa := fa.kept (hk _ fa.lt (Nat.not_le.mpr fa.lt))
  have fR2 := fR2.kept (hk _ fR2.lt (Nat.not_le.mpr fR2.lt))
  have fl2 := fl2.kept (hk _ fl2.lt (Nat.not_le.mpr fl2.lt))
  have el2 := el2.new hk
  have he5 := he5.kept (hk _ he5.lt (Nat.not_le.mpr he5.lt))
  have f9 := hR
  refine k_r (pc := 31) (k_V E hC hS hA hl.1 (c1.recv hC fl2 rfl) rfl (c_Jx4a65c_set_bcc79 l D tk N0 sa H.size r_1 bb2 nl2 cap2 j9 qe5 r_8 3 md2 x_4 ff2 ww2 (.long (r_7 + mo.toInt64)) (hA _ g_fR2) (Or.inl rfl) hix (by omega) (by omega) (by omega) hq5) kw_1654 kw_1655 kw_1656 kw_8 kw_1657 (n := 2) (by decide +kernel) rfl ⟨⟨rfl, rfl⟩, ⟨Nat.le_of_ble_eq_true rfl, Nat.le_of_ble_eq_true rfl⟩, (by dsimp only; omega), (by dsimp only; omega)⟩ rfl (Nat.le_of_ble_eq_true rfl) ⟨fl2, fR2, el2, f9⟩ dX5_withLast_31) hS (inA1.to g_fR2) hn (fun r_10 H locs hR hz hk hS => ?_)
  have fa := fa.kept (hk _ fa.lt (inA1.not (clA.ne fa.cla fR2.cla (hC.aa 0 4 rfl rfl (by dsimp only; decide))) fa.lt))
  have he5 := he5.kept (hk _ he5.lt (inA1.not (clA.ne he5.cl fR2.cla (hC.oa 3 4 rfl rfl)) he5.lt))
  have f9 := f9.kept (hk _ f9.lt (inA1.not (clA.ne f9.cl fR2.cla (hC.oa 3 4 rfl rfl)) f9.lt))
  obtain ⟨fl2, fR2, el2⟩ := hR
  refine lv_pop (pc := 34) hx hb dX5_withLast_34 rfl ?_
  refine lv_aload_n (pc := 35) hx hb dX5_withLast_35 rfl (lv_at hl 1 rfl) ?_
  refine lv_iload_n (pc := 36) hx hb dX5_withLast_36 rfl (lv_at hl 0 rfl) ?_
  refine lv_iconst (pc := 37) (v := 1) hx hb dX5_withLast_37 (by decide) ?_
  refine lv_iadd (pc := 38) hx hb dX5_withLast_38 ?_
  have hPF := PF.last (mo := mo.toInt64) (y := r_7 + mo.toInt64) hPT2 (by omega) ev5 (by rcases hmo with rfl | rfl <;> decide) (by rw [er_7])
  have hjL : (m_TE ta ba).length = j9 + 1 := by rw [← hTL2]; exact hj9
  have hxa : xe5 = m_at ta ba j9 := m_lgI ev5 (hTA2 j9 (by omega))
  have hWL : m_WL ta ba mo.toInt64 = m_FD (va_up (m_at ta ba) j9 (r_7 + mo.toInt64)) (j9 + 1) := by
    unfold m_WL
    rw [hjL, Nat.add_sub_cancel, er_7, hxa]
  have hav9 : ∀ i, i < nl2 → va_up ww2 j9 (.long (r_7 + mo.toInt64)) i = .long (va_up (m_at ta ba) j9 (r_7 + mo.toInt64) i) := by
    intro i hi
    by_cases e : i = j9
    · rw [e, va_up_self, va_up_self]
    · rw [va_up_ne _ _ e, va_up_ne _ _ e]
      exact hTA2 i hi
  have hZ0_ := hS.1
  have t_fa := fa.lt
  have t_fR2 := fR2.lt
  have t_he5 := he5.lt
  have t_f9 := f9.lt
  have t_fl2 := fl2.lt
  refine k_o (pc := 39) (k_S E hC hS hA hl.1 (c_X5_folded l D tk N0 sa H.size r_1 bb2 nl2 cap2 md2 (x_4 + 1) (va_up ff2 j9 (some r_8)) (va_up ww2 j9 (.long (r_7 + mo.toInt64))) ((j9 + 1)) _ (by omega) (by omega) (by rw [hix]; exact nI_1 j9) (by omega) (by omega) hPF hav9) kw_1566 kw_1567 kw_5 kw_1568 (n := 2) (by decide +kernel) rfl ⟨⟨rfl, rfl⟩, ⟨Nat.le_of_ble_eq_true rfl, Nat.le_of_ble_eq_true rfl⟩, (by dsimp only; omega), (by dsimp only; omega)⟩ rfl (Nat.le_of_ble_eq_true rfl) ⟨fl2, fR2, el2⟩ dX5_withLast_39) hS (fun q z w => absurd w (Nat.not_le.mpr z)) hn (fun r_11 H locs hR hz hk hS => ?_)
  have fa := fa.kept (hk _ fa.lt (Nat.not_le.mpr fa.lt))
  have fR2 := fR2.kept (hk _ fR2.lt (Nat.not_le.mpr fR2.lt))
  have he5 := he5.kept (hk _ he5.lt (Nat.not_le.mpr he5.lt))
  have f9 := f9.kept (hk _ f9.lt (Nat.not_le.mpr f9.lt))
  have fl2 := fl2.kept (hk _ fl2.lt (Nat.not_le.mpr fl2.lt))
  have el2 := el2.new hk
  rcases hR with ⟨rfl, hv_f12⟩ | ⟨q_f12, tt_f12, bb_f12, rfl, z9_, f12, hb_f12, hv_f12⟩
  · refine r_oret (pc := 42) E hr (Or.inr ⟨_, rfl⟩) hlk hS (by omega) (by omega) none ?_ dX5_withLast_42
    exact Or.inl ⟨rfl, hWL.trans hv_f12⟩
  · have s_f12 : s.heap.size ≤ q_f12 := Nat.le_trans hZ0_ z9_
    have g_f12 := hn _ s_f12
    have l_fa_f12 : pa < q_f12 := Nat.lt_of_lt_of_le t_fa z9_
    have l_fR2_f12 : bb2 < q_f12 := Nat.lt_of_lt_of_le t_fR2 z9_
    have l_he5_f12 : qe5 < q_f12 := Nat.lt_of_lt_of_le t_he5 z9_
    have l_f9_f12 : r_8 < q_f12 := Nat.lt_of_lt_of_le t_f9 z9_
    have l_fl2_f12 : r_1 < q_f12 := Nat.lt_of_lt_of_le t_fl2 z9_
    refine r_oret (pc := 42) E hr (Or.inr ⟨_, rfl⟩) hlk hS (by omega) (by omega) (some q_f12) ?_ dX5_withLast_42
    exact Or.inr ⟨_, _, _, rfl, s_f12, f12, hb_f12, hWL.trans hv_f12⟩
