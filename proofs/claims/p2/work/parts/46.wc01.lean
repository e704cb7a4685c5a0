set_option maxHeartbeats 4000000 in
set_option maxRecDepth 100000 in
/-- BestratiosModel.rowNow()Ljava/util/ArrayList; -/
theorem c_X5_rowNow_A (l : Launch) (D : va_G) (tk : Nat → ClassId) (N0 : Nat) (sa : Nat → Nat)  (sz : Nat) (mo ra rl ex ro pk br : Nat) (ca rf kn th mdr : Int32) (n9 capr : Nat) (fnr : Nat → Option Nat) (vsr : Nat → Value) (h0r : 1 ≤ n9) (hn9 : n9 ≤ 16) (hncr : n9 ≤ capr) (hcapr : capr ≤ 1000) (hPI : PI n9 vsr) : Met l yX5_rowNow (wsy yX5_rowNow cX5_rowNow 4 (some (.object "java/util/ArrayList"))) ({ frames := 7, cells := 23, slots := 160, locals := 157 } : Room) (cP D tk N0 sa [.ref mo] sz (fun H => c1 D mo (.inr (13, [.ref ra, .ref rl, .ref ex, .ref ro, .int (nI pk), .int ca, .int rf, .int kn, .int th])) H ∧ c1 D rl (.inr (7, [.int mdr, .ref br, .int (nI n9)])) H ∧ c1 D br (.inl (tk 4, capr, .inr (.inr (.inr (.inr fnr))))) H ∧ EL D 2 n9 fnr vsr H)) (kQr (fun r H => ∃ (bb cap : Nat) (f : Nat → Option Nat) (w : Nat → Value) (md : Int32), sz ≤ r ∧ sz ≤ bb ∧ c1 D r (.inr (7, [.int md, .ref bb, .int (nI n9)])) H ∧ c1 D bb (.inl (tk 4, cap, .inr (.inr (.inr (.inr f))))) H ∧ EL D 3 n9 f w H ∧ PQ n9 vsr w ∧ n9 ≤ cap ∧ m_cap cap) (nwA sz)) (23) (160) (nwA sz) := by
  refine mStart RX5 rfl (by decide +kernel) (Nat.le_of_ble_eq_true rfl) ?_
  intro p e s m args below meth c E hr hlk hnm hsz hC hF ls hl
  subst hsz
  obtain ⟨hx, hb, -⟩ := id E
  have hA : ∀ q, (nwA s.heap.size) q → N0 ≤ q := fun q h => Nat.le_trans hC.2.1 h
  have hn : ∀ q, s.heap.size ≤ q → (nwA s.heap.size) q := fun q h => h
  have hS : va_S (nwA s.heap.size) s.heap s.heap [] := va_S.rf
  have hl : lv_has ls 4 [(0, .ref mo)] := hl
  obtain ⟨Q, hQ⟩ : ∃ Q, Q = MQ below (kQr (fun r H => ∃ (bb cap : Nat) (f : Nat → Option Nat) (w : Nat → Value) (md : Int32), s.heap.size ≤ r ∧ s.heap.size ≤ bb ∧ c1 D r (.inr (7, [.int md, .ref bb, .int (nI n9)])) H ∧ c1 D bb (.inl (tk 4, cap, .inr (.inr (.inr (.inr f))))) H ∧ EL D 3 n9 f w H ∧ PQ n9 vsr w ∧ n9 ≤ cap ∧ m_cap cap) (nwA s.heap.size)) args s (23) (160) (nwA s.heap.size) := ⟨_, rfl⟩
  rw [← hQ]
  obtain ⟨fo, f0w, fRw, elw⟩ : c1 D mo (.inr (13, [.ref ra, .ref rl, .ref ex, .ref ro, .int (nI pk), .int ca, .int rf, .int kn, .int th])) s.heap ∧ c1 D rl (.inr (7, [.int mdr, .ref br, .int (nI n9)])) s.heap ∧ c1 D br (.inl (tk 4, capr, .inr (.inr (.inr (.inr fnr))))) s.heap ∧ EL D 2 n9 fnr vsr s.heap := hF
  have hbr0 := fRw.lt
  have hS0_ := hS
  refine r_new (pc := 0) E hC hS tyJx4a65c_ok uJx4a65c (List.mem_cons_of_mem _ kw_1170) (List.mem_cons_of_mem _ kw_1171) (List.mem_cons_of_mem _ kw_8) (ci := 7) rfl (fs := [.int 0, .null, .int 0]) (by decide) (by dsimp only; omega) (by dsimp only; omega) dX5_rowNow_0 (fun qf1 H zq_ n_ ho_ hS => ?_)
  have l_fo_f1 : mo < qf1 := zq_ ▸ fo.lt
  have fo := fo.kept (ho_ _ fo.lt)
  have l_f0w_f1 : rl < qf1 := zq_ ▸ f0w.lt
  have f0w := f0w.kept (ho_ _ f0w.lt)
  have l_fRw_f1 : br < qf1 := zq_ ▸ fRw.lt
  have fRw := fRw.kept (ho_ _ fRw.lt)
  have elw := elw.old ho_
  have f1 := n_
  have s_f1 : s.heap.size ≤ qf1 := zq_ ▸ hS0_.1
  have g_f1 := hn _ s_f1
  refine lv_dup (pc := 3) hx hb dX5_rowNow_3 rfl ?_
  refine k_v (pc := 4) (k_I E hC hS hA hl.1 (c_Jx4a65c_init_da8c8 l D tk N0 sa H.size qf1 (hA _ g_f1)) kw_1172 kw_1173 kw_8 kw_1174 rfl (n := 0) (by decide +kernel) rfl ⟨⟨rfl, rfl⟩, ⟨Nat.le_of_ble_eq_true rfl, Nat.le_of_ble_eq_true rfl⟩, (by dsimp only; omega), (by dsimp only; omega)⟩ rfl (Nat.le_of_ble_eq_true rfl) f1 dX5_rowNow_4) hS (inA1.to g_f1) hn (fun H locs hR hz hk hS => ?_)
  have fo := fo.kept (hk _ fo.lt (inA1.not (clA.ne fo.cl f1.cl (hC.oo 13 7 rfl rfl (by decide))) fo.lt))
  have f0w := f0w.kept (hk _ f0w.lt (inA1.not (Nat.ne_of_lt l_f0w_f1) f0w.lt))
  have fRw := fRw.kept (hk _ fRw.lt (inA1.not (clA.ne fRw.cla f1.cl (hC.ao 7 4 rfl rfl)) fRw.lt))
  have elw := elw.keep1 hk (fun q9 h9 => clA.ne h9 f1.cl (hC.ceo (Or.inr rfl) 7 rfl (by decide)))
  have f1 := hR
  refine lv_astore_n (pc := 7) (lv' := [(1, .ref qf1), (0, .ref mo)]) hx hb dX5_rowNow_7 rfl hl (by decide) rfl (fun ls hl => ?_)
  refine lv_aload_n (pc := 8) hx hb dX5_rowNow_8 rfl (lv_at hl 1 rfl) ?_
  refine r_get (pc := 9) E hC fo 1 (v := .ref rl) rfl rfl (by decide) uX5 (List.mem_cons_of_mem _ kw_1210) (fun _ h => h) dX5_rowNow_9 ?_
  have hZ0_ := hS.1
  have t_fo := fo.lt
  have t_f0w := f0w.lt
  have t_fRw := fRw.lt
  have t_f1 := f1.lt
  refine k_r (pc := 12) (k_V E hC hS hA hl.1 (c1.recv hC f0w rfl) rfl (c_Jx4a65c_iterator_32c93 l D tk N0 sa H.size rl br n9 mdr) kw_1486 kw_1487 kw_1488 kw_8 kw_1489 (n := 0) (by decide +kernel) rfl ⟨⟨rfl, rfl⟩, ⟨Nat.le_of_ble_eq_true rfl, Nat.le_of_ble_eq_true rfl⟩, (by dsimp only; omega), (by dsimp only; omega)⟩ rfl (Nat.le_of_ble_eq_true rfl) f0w dX5_rowNow_12) hS (fun q z w => absurd w (Nat.not_le.mpr z)) hn (fun r_3 H locs hR hz hk hS => ?_)
  have fo := fo.kept (hk _ fo.lt (Nat.not_le.mpr fo.lt))
  have f0w := f0w.kept (hk _ f0w.lt (Nat.not_le.mpr f0w.lt))
  have fRw := fRw.kept (hk _ fRw.lt (Nat.not_le.mpr fRw.lt))
  have elw := elw.new hk
  have f1 := f1.kept (hk _ f1.lt (Nat.not_le.mpr f1.lt))
  obtain ⟨z9_, f4⟩ := hR
  have s_f4 : s.heap.size ≤ r_3 := Nat.le_trans hZ0_ z9_
  have g_f4 := hn _ s_f4
  have l_fo_f4 : mo < r_3 := Nat.lt_of_lt_of_le t_fo z9_
  have l_f0w_f4 : rl < r_3 := Nat.lt_of_lt_of_le t_f0w z9_
  have l_fRw_f4 : br < r_3 := Nat.lt_of_lt_of_le t_fRw z9_
  have l_f1_f4 : qf1 < r_3 := Nat.lt_of_lt_of_le t_f1 z9_
  refine lv_astore_n (pc := 15) (lv' := [(2, .ref r_3), (1, .ref qf1), (0, .ref mo)]) hx hb dX5_rowNow_15 rfl hl (by decide) rfl (fun ls hl => ?_)
  refine lv_aload_n (pc := 16) hx hb dX5_rowNow_16 rfl (lv_at hl 0 rfl) ?_
  refine k5_i (pc := 17) (k_F (ci := 6) rfl hC.xt.2.2.2.1 E hC hS hA hl.1 (c1.recv hC f4 rfl) (c_Jx35411_hasNext_aae02 l D tk N0 sa H.size r_3 rl br n9 0 mdr ((-1)) (by omega) (by omega)) kw_1510 kw_1516 kw_1514 kw_29 kw_1518 (n := 0) (by decide +kernel) rfl ⟨⟨rfl, rfl⟩, ⟨Nat.le_of_ble_eq_true rfl, Nat.le_of_ble_eq_true rfl⟩, (by dsimp only; omega), (by dsimp only; omega)⟩ rfl (Nat.le_of_ble_eq_true rfl) ⟨f4, f0w⟩ dX5_rowNow_17) hS (fun q z w => absurd w (Nat.not_le.mpr z)) hn (fun r_5 H locs hR hz hk hS => ?_)
  have fo := fo.kept (hk _ fo.lt (Nat.not_le.mpr fo.lt))
  have f0w := f0w.kept (hk _ f0w.lt (Nat.not_le.mpr f0w.lt))
  have fRw := fRw.kept (hk _ fRw.lt (Nat.not_le.mpr fRw.lt))
  have elw := elw.new hk
  have f1 := f1.kept (hk _ f1.lt (Nat.not_le.mpr f1.lt))
  have f4 := f4.kept (hk _ f4.lt (Nat.not_le.mpr f4.lt))
  have hn_r_5 := hR
  refine lv_if_eq (pc := 22) (tgt := 51) hx hb dX5_rowNow_22 (by decide) (fun c_6 => ?_) (fun c_6 => ?_)
  · exact absurd c_6 (hn_r_5.elim (fun z9 => absurd z9.2 (by omega)) (fun z9 z8 => absurd (z9.1.symm.trans z8) (by decide)))
  have hkn : 0 < n9 := h0r
  obtain ⟨qe7, hq7, he7⟩ := elw 0 hkn
  obtain ⟨xe7, ev7, pv7⟩ := hPI 0 hkn
  have ey7 := ev7
  rw [ev7] at he7
  refine lv_aload_n (pc := 25) hx hb dX5_rowNow_25 rfl (lv_at hl 0 rfl) ?_
  refine k5_r (pc := 26) (k_F (ci := 6) rfl hC.xt.2.2.2.2 E hC hS hA hl.1 (c1.recv hC f4 rfl) (c_Jx35411_next_0502b l D tk N0 sa H.size r_3 rl br n9 0 capr qe7 mdr ((-1)) fnr (hA _ g_f4) hkn hncr (by omega) hq7) kw_1520 kw_1525 kw_1523 kw_29 kw_1527 (n := 0) (by decide +kernel) rfl ⟨⟨rfl, rfl⟩, ⟨Nat.le_of_ble_eq_true rfl, Nat.le_of_ble_eq_true rfl⟩, (by dsimp only; omega), (by dsimp only; omega)⟩ rfl (Nat.le_of_ble_eq_true rfl) ⟨f4, f0w, fRw⟩ dX5_rowNow_26) hS (inA1.to g_f4) hn (fun r_8 H locs hR hz hk hS => ?_)
  have fo := fo.kept (hk _ fo.lt (inA1.not (clA.ne fo.cl f4.cl (hC.oo 13 6 rfl rfl (by decide))) fo.lt))
  have f0w := f0w.kept (hk _ f0w.lt (inA1.not (clA.ne f0w.cl f4.cl (hC.oo 7 6 rfl rfl (by decide))) f0w.lt))
  have fRw := fRw.kept (hk _ fRw.lt (inA1.not (clA.ne fRw.cla f4.cl (hC.ao 6 4 rfl rfl)) fRw.lt))
  have elw := elw.keep1 hk (fun q9 h9 => clA.ne h9 f4.cl (hC.ceo (Or.inr rfl) 6 rfl (by decide)))
  have f1 := f1.kept (hk _ f1.lt (inA1.not (clA.ne f1.cl f4.cl (hC.oo 7 6 rfl rfl (by decide))) f1.lt))
  have he7 := he7.kept (hk _ he7.lt (inA1.not (clA.ne he7.cl f4.cl (hC.oo 2 6 rfl rfl (by decide))) he7.lt))
  obtain ⟨hr9, f4⟩ := hR
  rw [hr9]
  refine r_castO (pc := 31) E hC he7 rfl kw_1614 dX5_rowNow_31 ?_
  refine k_i (pc := 34) (k_V E hC hS hA hl.1 (xf.recv hC he7 rfl) rfl (c_J6_intValue_8abf5 l D tk N0 sa H.size qe7 xe7) kw_1615 kw_1616 kw_1617 kw_22 kw_1618 (n := 0) (by decide +kernel) rfl ⟨⟨rfl, rfl⟩, ⟨Nat.le_of_ble_eq_true rfl, Nat.le_of_ble_eq_true rfl⟩, (by dsimp only; omega), (by dsimp only; omega)⟩ rfl (Nat.le_of_ble_eq_true rfl) he7 dX5_rowNow_34) hS (fun q z w => absurd w (Nat.not_le.mpr z)) hn (fun r_9 H locs hR hz hk hS => ?_)
  have fo := fo.kept (hk _ fo.lt (Nat.not_le.mpr fo.lt))
  have f0w := f0w.kept (hk _ f0w.lt (Nat.not_le.mpr f0w.lt))
  have fRw := fRw.kept (hk _ fRw.lt (Nat.not_le.mpr fRw.lt))
  have elw := elw.new hk
  have f1 := f1.kept (hk _ f1.lt (Nat.not_le.mpr f1.lt))
  have f4 := f4.kept (hk _ f4.lt (Nat.not_le.mpr f4.lt))
  have he7 := he7.kept (hk _ he7.lt (Nat.not_le.mpr he7.lt))
  have er_9 : r_9 = xe7 := hR
  refine lv_istore_n (pc := 37) (lv' := [(3, .int r_9), (2, .ref r_3), (1, .ref qf1), (0, .ref mo)]) hx hb dX5_rowNow_37 rfl hl (by decide) rfl (fun ls hl => ?_)
  refine lv_aload_n (pc := 38) hx hb dX5_rowNow_38 rfl (lv_at hl 2 rfl) ?_
  refine lv_iload_n (pc := 39) hx hb dX5_rowNow_39 rfl (lv_at hl 0 rfl) ?_
  refine lv_i2l (pc := 40) (v := r_9.toInt64) hx hb dX5_rowNow_40 rfl ?_
  have hZ0_ := hS.1
  have t_fo := fo.lt
  have t_f0w := f0w.lt
  have t_fRw := fRw.lt
  have t_f1 := f1.lt
  have t_f4 := f4.lt
  have t_he7 := he7.lt
  refine k_r (pc := 41) (k_S E hC hS hA hl.1 (c_J13_valueOf_928b6 l D tk N0 sa H.size r_9.toInt64) kw_1414 kw_1415 kw_17 kw_1416 (n := 1) (by decide +kernel) rfl ⟨⟨rfl, rfl⟩, ⟨Nat.le_of_ble_eq_true rfl, Nat.le_of_ble_eq_true rfl⟩, (by dsimp only; omega), (by dsimp only; omega)⟩ rfl (Nat.le_of_ble_eq_true rfl) trivial dX5_rowNow_41) hS (fun q z w => absurd w (Nat.not_le.mpr z)) hn (fun r_10 H locs hR hz hk hS => ?_)
  have fo := fo.kept (hk _ fo.lt (Nat.not_le.mpr fo.lt))
  have f0w := f0w.kept (hk _ f0w.lt (Nat.not_le.mpr f0w.lt))
  have fRw := fRw.kept (hk _ fRw.lt (Nat.not_le.mpr fRw.lt))
  have elw := elw.new hk
  have f1 := f1.kept (hk _ f1.lt (Nat.not_le.mpr f1.lt))
  have f4 := f4.kept (hk _ f4.lt (Nat.not_le.mpr f4.lt))
  have he7 := he7.kept (hk _ he7.lt (Nat.not_le.mpr he7.lt))
  have f11 := hR
  have hZ0_ := hS.1
  have t_fo := fo.lt
  have t_f0w := f0w.lt
  have t_fRw := fRw.lt
  have t_f1 := f1.lt
  have t_f4 := f4.lt
  have t_he7 := he7.lt
  have t_f11 := f11.lt
  refine k_i (pc := 44) (k_V E hC hS hA hl.1 (c1.recv hC f1 rfl) rfl (c_Jx4a65c_add_9ea2d_E l D tk N0 sa H.size qf1 r_10 3 0 (.long r_9.toInt64) (fun _ => .null) (hA _ g_f1) (Or.inl rfl)) kw_1434 kw_1435 kw_1436 kw_8 kw_1437 (n := 1) (by decide +kernel) rfl ⟨⟨rfl, rfl⟩, ⟨Nat.le_of_ble_eq_true rfl, Nat.le_of_ble_eq_true rfl⟩, (by dsimp only; omega), (by dsimp only; omega)⟩ rfl (Nat.le_of_ble_eq_true rfl) ⟨f1, f11⟩ dX5_rowNow_44) hS (inA1.to g_f1) hn (fun r_12 H locs hR hz hk hS => ?_)
  have fo := fo.kept (hk _ fo.lt (inA1.not (clA.ne fo.cl f1.cl (hC.oo 13 7 rfl rfl (by decide))) fo.lt))
  have f0w := f0w.kept (hk _ f0w.lt (inA1.not (Nat.ne_of_lt l_f0w_f1) f0w.lt))
  have fRw := fRw.kept (hk _ fRw.lt (inA1.not (clA.ne fRw.cla f1.cl (hC.ao 7 4 rfl rfl)) fRw.lt))
  have elw := elw.keep1 hk (fun q9 h9 => clA.ne h9 f1.cl (hC.ceo (Or.inr rfl) 7 rfl (by decide)))
  have f4 := f4.kept (hk _ f4.lt (inA1.not (clA.ne f4.cl f1.cl (hC.oo 6 7 rfl rfl (by decide))) f4.lt))
  have he7 := he7.kept (hk _ he7.lt (inA1.not (clA.ne he7.cl f1.cl (hC.oo 2 7 rfl rfl (by decide))) he7.lt))
  have f11 := f11.kept (hk _ f11.lt (inA1.not (clA.ne f11.cl f1.cl (hC.oo 3 7 rfl rfl (by decide))) f11.lt))
  obtain ⟨hr9, q13, z9_, f1, f13, e13⟩ := hR
  have s_f13 : s.heap.size ≤ q13 := Nat.le_trans hZ0_ z9_
  have g_f13 := hn _ s_f13
  have l_fo_f13 : mo < q13 := Nat.lt_of_lt_of_le t_fo z9_
  have l_f0w_f13 : rl < q13 := Nat.lt_of_lt_of_le t_f0w z9_
  have l_fRw_f13 : br < q13 := Nat.lt_of_lt_of_le t_fRw z9_
  have l_f1_f13 : qf1 < q13 := Nat.lt_of_lt_of_le t_f1 z9_
  have l_f4_f13 : r_3 < q13 := Nat.lt_of_lt_of_le t_f4 z9_
  have l_he7_f13 : qe7 < q13 := Nat.lt_of_lt_of_le t_he7 z9_
  have l_f11_f13 : r_10 < q13 := Nat.lt_of_lt_of_le t_f11 z9_
  rw [hr9]
  refine lv_pop (pc := 47) hx hb dX5_rowNow_47 rfl ?_
  refine lv_goto (pc := 48) (tgt := 16) hx hb dX5_rowNow_48 (by decide) ?_
  have loop_16 : ∀ (n : Nat) (k : Nat) (v9 : Nat) (c9 : Nat) (m9 : Int32) (lr : Int32) (f9 : Nat → Option Nat) (w9 : Nat → Value), 17 - k < n → 1 ≤ k ∧ k ≤ n9 → PQ k vsr w9 → m_cap c9 ∧ k ≤ c9 → s.heap.size ≤ v9 → ∀ (H : Heap) (locs : List Loc) (ls : Array Slot), va_S (nwA s.heap.size) s.heap H locs → c1 D mo (.inr (13, [.ref ra, .ref rl, .ref ex, .ref ro, .int (nI pk), .int ca, .int rf, .int kn, .int th])) H → c1 D rl (.inr (7, [.int mdr, .ref br, .int (nI n9)])) H → c1 D br (.inl (tk 4, capr, .inr (.inr (.inr (.inr fnr))))) H → EL D 2 n9 fnr vsr H → c1 D qf1 (.inr (7, [.int m9, .ref v9, .int (nI k)])) H → c1 D v9 (.inl (tk 4, c9, .inr (.inr (.inr (.inr f9))))) H → EL D 3 k f9 w9 H → c1 D r_3 (.inr (6, [.int (nI k), .int lr, .int mdr, .ref rl])) H → lv_has ls 4 [(0, .ref mo), (1, .ref qf1), (2, .ref r_3)] → W p l e ({ frames := 7, cells := 23, slots := 160, locals := 157 } : Room) s m args below meth c H locs (2 + k + m_ac c9) (7 + k + m_as c9) Q (F0 m 16 ls []) := by
    intro n
    induction n with
    | zero =>
      intro k v9 c9 m9 lr f9 w9 hf9 hk9 hP9 hc9 hv9 H locs ls hS fo f0w fRw elw f1 fR el f4 hl
      omega
    | succ n ih_16 =>
      intro k v9 c9 m9 lr f9 w9 hf9 hk9 hP9 hc9 hv9 H locs ls hS fo f0w fRw elw f1 fR el f4 hl
      have g_fR := hn _ hv9
      have hcb := m_acB hc9.1
      have l_fRw_fR : br < v9 := Nat.lt_of_lt_of_le hbr0 hv9
      refine lv_aload_n (pc := 16) hx hb dX5_rowNow_16 rfl (lv_at hl 2 rfl) ?_
      refine k5_i (pc := 17) (k_F (ci := 6) rfl hC.xt.2.2.2.1 E hC hS hA hl.1 (c1.recv hC f4 rfl) (c_Jx35411_hasNext_aae02 l D tk N0 sa H.size r_3 rl br n9 k mdr lr (by omega) (by omega)) kw_1510 kw_1516 kw_1514 kw_29 kw_1518 (n := 0) (by decide +kernel) rfl ⟨⟨rfl, rfl⟩, ⟨Nat.le_of_ble_eq_true rfl, Nat.le_of_ble_eq_true rfl⟩, (by dsimp only; omega), (by dsimp only; omega)⟩ rfl (Nat.le_of_ble_eq_true rfl) ⟨f4, f0w⟩ dX5_rowNow_17) hS (fun q z w => absurd w (Nat.not_le.mpr z)) hn (fun r_14 H locs hR hz hk hS => ?_)
      have fo := fo.kept (hk _ fo.lt (Nat.not_le.mpr fo.lt))
      have f0w := f0w.kept (hk _ f0w.lt (Nat.not_le.mpr f0w.lt))
      have fRw := fRw.kept (hk _ fRw.lt (Nat.not_le.mpr fRw.lt))
      have elw := elw.new hk
      have f1 := f1.kept (hk _ f1.lt (Nat.not_le.mpr f1.lt))
      have fR := fR.kept (hk _ fR.lt (Nat.not_le.mpr fR.lt))
      have el := el.new hk
      have f4 := f4.kept (hk _ f4.lt (Nat.not_le.mpr f4.lt))
      have hn_r_14 := hR
      refine lv_if_eq (pc := 22) (tgt := 51) hx hb dX5_rowNow_22 (by decide) (fun c_15 => ?_) (fun c_15 => ?_)
      · refine lv_aload_n (pc := 51) hx hb dX5_rowNow_51 rfl (lv_at hl 1 rfl) ?_
        try rw [hQ]
        refine r_aret (pc := 52) E hr (Or.inl ⟨_, rfl⟩) hlk hS (by omega) (by omega) ?_ dX5_rowNow_52
        have hkz : k = n9 := hn_r_14.elim (fun z9 => z9.2) (fun z9 => absurd (z9.1.symm.trans c_15) (by decide))
        subst hkz
        exact ⟨v9, c9, f9, w9, m9, s_f1, hv9, f1, fR, el, hP9, hc9.2, hc9.1⟩
      · have hkn : k < n9 := by
          rcases hn_r_14 with ⟨h9, _⟩ | ⟨_, h9⟩
          · exact absurd h9 c_15
          · omega
        obtain ⟨qe16, hq16, he16⟩ := elw k hkn
        obtain ⟨xe16, ev16, pv16⟩ := hPI k hkn
        have ey16 := ev16
        rw [ev16] at he16
        refine lv_aload_n (pc := 25) hx hb dX5_rowNow_25 rfl (lv_at hl 2 rfl) ?_
        refine k5_r (pc := 26) (k_F (ci := 6) rfl hC.xt.2.2.2.2 E hC hS hA hl.1 (c1.recv hC f4 rfl) (c_Jx35411_next_0502b l D tk N0 sa H.size r_3 rl br n9 k capr qe16 mdr lr fnr (hA _ g_f4) hkn hncr (by omega) hq16) kw_1520 kw_1525 kw_1523 kw_29 kw_1527 (n := 0) (by decide +kernel) rfl ⟨⟨rfl, rfl⟩, ⟨Nat.le_of_ble_eq_true rfl, Nat.le_of_ble_eq_true rfl⟩, (by dsimp only; omega), (by dsimp only; omega)⟩ rfl (Nat.le_of_ble_eq_true rfl) ⟨f4, f0w, fRw⟩ dX5_rowNow_26) hS (inA1.to g_f4) hn (fun r_17 H locs hR hz hk hS => ?_)
        have fo := fo.kept (hk _ fo.lt (inA1.not (clA.ne fo.cl f4.cl (hC.oo 13 6 rfl rfl (by decide))) fo.lt))
        have f0w := f0w.kept (hk _ f0w.lt (inA1.not (clA.ne f0w.cl f4.cl (hC.oo 7 6 rfl rfl (by decide))) f0w.lt))
        have fRw := fRw.kept (hk _ fRw.lt (inA1.not (clA.ne fRw.cla f4.cl (hC.ao 6 4 rfl rfl)) fRw.lt))
        have elw := elw.keep1 hk (fun q9 h9 => clA.ne h9 f4.cl (hC.ceo (Or.inr rfl) 6 rfl (by decide)))
        have f1 := f1.kept (hk _ f1.lt (inA1.not (clA.ne f1.cl f4.cl (hC.oo 7 6 rfl rfl (by decide))) f1.lt))
        have fR := fR.kept (hk _ fR.lt (inA1.not (clA.ne fR.cla f4.cl (hC.ao 6 4 rfl rfl)) fR.lt))
        have el := el.keep1 hk (fun q9 h9 => clA.ne h9 f4.cl (hC.ceo (Or.inl rfl) 6 rfl (by decide)))
        have he16 := he16.kept (hk _ he16.lt (inA1.not (clA.ne he16.cl f4.cl (hC.oo 2 6 rfl rfl (by decide))) he16.lt))
        obtain ⟨hr9, f4⟩ := hR
        rw [hr9]
        refine r_castO (pc := 31) E hC he16 rfl kw_1614 dX5_rowNow_31 ?_
        refine k_i (pc := 34) (k_V E hC hS hA hl.1 (xf.recv hC he16 rfl) rfl (c_J6_intValue_8abf5 l D tk N0 sa H.size qe16 xe16) kw_1615 kw_1616 kw_1617 kw_22 kw_1618 (n := 0) (by decide +kernel) rfl ⟨⟨rfl, rfl⟩, ⟨Nat.le_of_ble_eq_true rfl, Nat.le_of_ble_eq_true rfl⟩, (by dsimp only; omega), (by dsimp only; omega)⟩ rfl (Nat.le_of_ble_eq_true rfl) he16 dX5_rowNow_34) hS (fun q z w => absurd w (Nat.not_le.mpr z)) hn (fun r_18 H locs hR hz hk hS => ?_)
        have fo := fo.kept (hk _ fo.lt (Nat.not_le.mpr fo.lt))
        have f0w := f0w.kept (hk _ f0w.lt (Nat.not_le.mpr f0w.lt))
        have fRw := fRw.kept (hk _ fRw.lt (Nat.not_le.mpr fRw.lt))
        have elw := elw.new hk
        have f1 := f1.kept (hk _ f1.lt (Nat.not_le.mpr f1.lt))
        have fR := fR.kept (hk _ fR.lt (Nat.not_le.mpr fR.lt))
        have el := el.new hk
        have f4 := f4.kept (hk _ f4.lt (Nat.not_le.mpr f4.lt))
        have he16 := he16.kept (hk _ he16.lt (Nat.not_le.mpr he16.lt))
        have er_18 : r_18 = xe16 := hR
        refine lv_istore_n (pc := 37) (lv' := [(3, .int r_18), (0, .ref mo), (1, .ref qf1), (2, .ref r_3)]) hx hb dX5_rowNow_37 rfl hl (by decide) rfl (fun ls hl => ?_)
        refine lv_aload_n (pc := 38) hx hb dX5_rowNow_38 rfl (lv_at hl 2 rfl) ?_
        refine lv_iload_n (pc := 39) hx hb dX5_rowNow_39 rfl (lv_at hl 0 rfl) ?_
        refine lv_i2l (pc := 40) (v := r_18.toInt64) hx hb dX5_rowNow_40 rfl ?_
        have hZ0_ := hS.1
        have t_fo := fo.lt
        have t_f0w := f0w.lt
        have t_fRw := fRw.lt
        have t_f1 := f1.lt
        have t_fR := fR.lt
        have t_f4 := f4.lt
        have t_he16 := he16.lt
        refine k_r (pc := 41) (k_S E hC hS hA hl.1 (c_J13_valueOf_928b6 l D tk N0 sa H.size r_18.toInt64) kw_1414 kw_1415 kw_17 kw_1416 (n := 1) (by decide +kernel) rfl ⟨⟨rfl, rfl⟩, ⟨Nat.le_of_ble_eq_true rfl, Nat.le_of_ble_eq_true rfl⟩, (by dsimp only; omega), (by dsimp only; omega)⟩ rfl (Nat.le_of_ble_eq_true rfl) trivial dX5_rowNow_41) hS (fun q z w => absurd w (Nat.not_le.mpr z)) hn (fun r_19 H locs hR hz hk hS => ?_)
        have fo := fo.kept (hk _ fo.lt (Nat.not_le.mpr fo.lt))
        have f0w := f0w.kept (hk _ f0w.lt (Nat.not_le.mpr f0w.lt))
        have fRw := fRw.kept (hk _ fRw.lt (Nat.not_le.mpr fRw.lt))
        have elw := elw.new hk
        have f1 := f1.kept (hk _ f1.lt (Nat.not_le.mpr f1.lt))
        have fR := fR.kept (hk _ fR.lt (Nat.not_le.mpr fR.lt))
        have el := el.new hk
        have f4 := f4.kept (hk _ f4.lt (Nat.not_le.mpr f4.lt))
        have he16 := he16.kept (hk _ he16.lt (Nat.not_le.mpr he16.lt))
        have f20 := hR
        rcases Nat.lt_or_ge k c9 with hkc | hkc9
        · refine k_i (pc := 44) (k_V E hC hS hA hl.1 (c1.recv hC f1 rfl) rfl (c_Jx4a65c_add_9ea2d l D tk N0 sa H.size qf1 v9 k c9 r_19 3 m9 (.long r_18.toInt64) f9 w9 (hA _ g_f1) (hA _ g_fR) (Or.inl rfl) hkc (by omega)) kw_1434 kw_1435 kw_1436 kw_8 kw_1437 (n := 1) (by decide +kernel) rfl ⟨⟨rfl, rfl⟩, ⟨Nat.le_of_ble_eq_true rfl, Nat.le_of_ble_eq_true rfl⟩, (by dsimp only; omega), (by dsimp only; omega)⟩ rfl (Nat.le_of_ble_eq_true rfl) ⟨f1, fR, el, f20⟩ dX5_rowNow_44) hS (inA2.to g_f1 g_fR) hn (fun r_21 H locs hR hz hk hS => ?_)
          have fo := fo.kept (hk _ fo.lt (inA2.not (clA.ne fo.cl f1.cl (hC.oo 13 7 rfl rfl (by decide))) (clA.ne fo.cl fR.cla (hC.oa 13 4 rfl rfl)) fo.lt))
          have f0w := f0w.kept (hk _ f0w.lt (inA2.not (Nat.ne_of_lt l_f0w_f1) (clA.ne f0w.cl fR.cla (hC.oa 7 4 rfl rfl)) f0w.lt))
          have fRw := fRw.kept (hk _ fRw.lt (inA2.not (clA.ne fRw.cla f1.cl (hC.ao 7 4 rfl rfl)) (Nat.ne_of_lt l_fRw_fR) fRw.lt))
          have elw := elw.keep2 hk (fun q9 h9 => clA.ne h9 f1.cl (hC.ceo (Or.inr rfl) 7 rfl (by decide))) (fun q9 h9 => clA.ne h9 fR.cla (hC.cea (Or.inr rfl) 4 rfl))
          have f4 := f4.kept (hk _ f4.lt (inA2.not (clA.ne f4.cl f1.cl (hC.oo 6 7 rfl rfl (by decide))) (clA.ne f4.cl fR.cla (hC.oa 6 4 rfl rfl)) f4.lt))
          have he16 := he16.kept (hk _ he16.lt (inA2.not (clA.ne he16.cl f1.cl (hC.oo 2 7 rfl rfl (by decide))) (clA.ne he16.cl fR.cla (hC.oa 2 4 rfl rfl)) he16.lt))
          have f20 := f20.kept (hk _ f20.lt (inA2.not (clA.ne f20.cl f1.cl (hC.oo 3 7 rfl rfl (by decide))) (clA.ne f20.cl fR.cla (hC.oa 3 4 rfl rfl)) f20.lt))
          obtain ⟨hr9, f1, fR, el⟩ := hR
          rw [hr9]
          refine lv_pop (pc := 47) hx hb dX5_rowNow_47 rfl ?_
          refine lv_goto (pc := 48) (tgt := 16) hx hb dX5_rowNow_48 (by decide) ?_
          refine W.widen (k := 2 + (k + 1) + m_ac (c9)) (n := 7 + (k + 1) + m_as (c9)) (by omega) (by omega) ?_
          exact ih_16  (k + 1) _ _ _ _ _ _   (by omega) (by omega) (by exact hP9.add ey16 (by rw [er_18])) (by exact ⟨hc9.1, by omega⟩) hv9 _ _ _ hS fo f0w fRw elw f1 fR el f4 (lv_sub hl [1, 2, 3] rfl)
        · have hkc : c9 = k := by omega
          have fR := fR.ofcap hkc
          have hgr := m_grow (c9 := k) (by rw [← hkc]; exact hc9.1) (by omega)
          have hmk : m_ac c9 = m_ac k ∧ m_as c9 = m_as k := by rw [hkc]; exact ⟨rfl, rfl⟩
          have hgb := m_acB hgr.1
          have hZ0_ := hS.1
          have t_fo := fo.lt
          have t_f0w := f0w.lt
          have t_fRw := fRw.lt
          have t_f1 := f1.lt
          have t_fR := fR.lt
          have t_f4 := f4.lt
          have t_he16 := he16.lt
          have t_f20 := f20.lt
          refine k_i (pc := 44) (k_V E hC hS hA hl.1 (c1.recv hC f1 rfl) rfl (c_Jx4a65c_add_9ea2d_G l D tk N0 sa H.size qf1 v9 k r_19 3 m9 (.long r_18.toInt64) f9 w9 (hA _ g_f1) (Or.inl rfl) (by omega) (by omega)) kw_1434 kw_1435 kw_1436 kw_8 kw_1437 (n := 1) (by decide +kernel) rfl ⟨⟨rfl, rfl⟩, ⟨Nat.le_of_ble_eq_true rfl, Nat.le_of_ble_eq_true rfl⟩, (by dsimp only; omega), (by dsimp only; omega)⟩ rfl (Nat.le_of_ble_eq_true rfl) ⟨f1, fR, el, f20⟩ dX5_rowNow_44) hS (inA1.to g_f1) hn (fun r_22 H locs hR hz hk hS => ?_)
          have fo := fo.kept (hk _ fo.lt (inA1.not (clA.ne fo.cl f1.cl (hC.oo 13 7 rfl rfl (by decide))) fo.lt))
          have f0w := f0w.kept (hk _ f0w.lt (inA1.not (Nat.ne_of_lt l_f0w_f1) f0w.lt))
          have fRw := fRw.kept (hk _ fRw.lt (inA1.not (clA.ne fRw.cla f1.cl (hC.ao 7 4 rfl rfl)) fRw.lt))
          have elw := elw.keep1 hk (fun q9 h9 => clA.ne h9 f1.cl (hC.ceo (Or.inr rfl) 7 rfl (by decide)))
          have fR := fR.kept (hk _ fR.lt (inA1.not (clA.ne fR.cla f1.cl (hC.ao 7 4 rfl rfl)) fR.lt))
          have f4 := f4.kept (hk _ f4.lt (inA1.not (clA.ne f4.cl f1.cl (hC.oo 6 7 rfl rfl (by decide))) f4.lt))
          have he16 := he16.kept (hk _ he16.lt (inA1.not (clA.ne he16.cl f1.cl (hC.oo 2 7 rfl rfl (by decide))) he16.lt))
          have f20 := f20.kept (hk _ f20.lt (inA1.not (clA.ne f20.cl f1.cl (hC.oo 3 7 rfl rfl (by decide))) f20.lt))
          obtain ⟨hr9, q23, f_23, z9_, f1, f23, el⟩ := hR
          have s_f23 : s.heap.size ≤ q23 := Nat.le_trans hZ0_ z9_
          have g_f23 := hn _ s_f23
          have l_fo_f23 : mo < q23 := Nat.lt_of_lt_of_le t_fo z9_
          have l_f0w_f23 : rl < q23 := Nat.lt_of_lt_of_le t_f0w z9_
          have l_fRw_f23 : br < q23 := Nat.lt_of_lt_of_le t_fRw z9_
          have l_f1_f23 : qf1 < q23 := Nat.lt_of_lt_of_le t_f1 z9_
          have l_fR_f23 : v9 < q23 := Nat.lt_of_lt_of_le t_fR z9_
          have l_f4_f23 : r_3 < q23 := Nat.lt_of_lt_of_le t_f4 z9_
          have l_he16_f23 : qe16 < q23 := Nat.lt_of_lt_of_le t_he16 z9_
          have l_f20_f23 : r_19 < q23 := Nat.lt_of_lt_of_le t_f20 z9_
          rw [hr9]
          refine lv_pop (pc := 47) hx hb dX5_rowNow_47 rfl ?_
          refine lv_goto (pc := 48) (tgt := 16) hx hb dX5_rowNow_48 (by decide) ?_
          refine W.widen (k := 2 + (k + 1) + m_ac (k + k / 2)) (n := 7 + (k + 1) + m_as (k + k / 2)) (by omega) (by omega) ?_
          exact ih_16  (k + 1) _ _ _ _ _ _   (by omega) (by omega) (by exact hP9.add ey16 (by rw [er_18])) (by exact ⟨hgr.1, by omega⟩) s_f23 _ _ _ hS fo f0w fRw elw f1 f23 el f4 (lv_sub hl [1, 2, 3] rfl)
  have hm0 : m_ac 10 = 1 ∧ m_as 10 = 10 := ⟨rfl, rfl⟩
  refine W.widen (k := 2 + 1 + m_ac (10)) (n := 7 + 1 + m_as (10)) (by omega) (by omega) ?_
  exact loop_16 18 1 _ _ _ _ _ _   (by omega) (by omega) (by exact PQ.one ey7 (by rw [er_9])) (by exact ⟨Or.inl rfl, by decide⟩) s_f13 _ _ _ hS fo f0w fRw elw f1 f13 e13 f4 (lv_sub hl [3, 2, 1] rfl)
