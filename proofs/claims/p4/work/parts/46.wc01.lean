set_option maxHeartbeats 4000000 in
set_option maxRecDepth 100000 in
/-- BestratiosModel.rowNow()Ljava/util/ArrayList; -/
theorem c_X5_rowNow_A (l : Launch) (D : va_G) (tk : Nat → ClassId) (N0 : Nat) (sa : Nat → Nat)  (sz : Nat) (mo ra rl ex ro pk br : Nat) (ca rf kn th mdr : Int32) (n9 capr : Nat) (fnr : Nat → Option Nat) (vsr : Nat → Value) (h0r : 1 ≤ n9) (hn9 : n9 ≤ 16) (hncr : n9 ≤ capr) (hcapr : capr ≤ 1000) (hPI : PI n9 vsr) : Met l yX5_rowNow (wsy yX5_rowNow cX5_rowNow 4 (some (.object "java/util/ArrayList"))) ({ frames := 7, cells := 23, slots := 160, locals := 157 } : Room) (cP D tk N0 sa [.ref mo] sz (fun H => c1 D mo (.inr (13, [.ref ra, .ref rl, .ref ex, .ref ro, .int (nI pk), .int ca, .int rf, .int kn, .int th])) H ∧ c1 D rl (.inr (7, [.int mdr, .ref br, .int (nI n9)])) H ∧ c1 D br (.inl (tk 4, capr, .inr (.inr (.inr (.inr fnr))))) H ∧ EL D 2 n9 fnr vsr H)) (kQr (fun r H => ∃ (bb cap : Nat) (f : Nat → Option Nat) (w : Nat → Value) (md : Int32), sz ≤ r ∧ sz ≤ bb ∧ c1 D r (.inr (7, [.int md, .ref bb, .int (nI n9)])) H ∧ c1 D bb (.inl (tk 4, cap, .inr (.inr (.inr (.inr f))))) H ∧ EL D 3 n9 f w H ∧ PQ n9 vsr w ∧ n9 ≤ cap ∧ m_cap cap) (nwA sz)) (23) (160) (nwA sz) := by
  refine mStart RX5 rfl (by decide +kernel) (Nat.le_of_ble_eq_true rfl) ?_
  intro p e s m args below meth c E hr hlk hnm hsz hC hF ls hl
  subst hsz
  obtain ⟨hx, hb, -⟩ := id E
  have hA : ∀ q, (nwA s.heap.size) q → N0 ≤ q := fun q h => Nat.le_trans hC.2.1 h
  have hn : ∀ q, s.heap.size ≤ q → (nwA s.heap.size) q := fun q h => h
  have hS : va_S (nwA s.heap.size) s.heap s.heap [] := va_S.rf
  have hl : lv_has ls 4 [(0, .ref mo)] := hl
  obtain ⟨Q, hQ⟩ : ∃ Q, Q = MQ below (kQr (fun r H => ∃ (bb cap : Nat) (f : Nat → Option Nat) (w : Nat → Value) (md : Int32), s.heap.size ≤ r ∧ s.heap.size ≤ bb ∧ c1 D r (.inr (7, [.int md, .ref bb, .int (nI n9)])) H ∧ c1 D bb (.inl (tk 4, cap, .inr (.inr (.inr (.inr f))))) H ∧ EL D 3 n9 f w H ∧ PQ n9 vsr w ∧ n9 ≤ cap ∧ m_cap cap) (nwA s.heap.size)) args s (23) (160) (nwA s.heap.size) := ⟨_, rfl⟩
  rw [← hQ]
  obtain ⟨fo, f0w, fRw, elw⟩ : c1 D mo (.inr (13, [.ref ra, .ref rl, .ref ex, .ref ro, .int (nI pk), .int ca, .int rf, .int kn, .int th])) s.heap ∧ c1 D rl (.inr (7, [.int mdr, .ref br, .int (nI n9)])) s.heap ∧ c1 D br (.inl (tk 4, capr, .inr (.inr (.inr (.inr fnr))))) s.heap ∧ EL D 2 n9 fnr vsr s.heap := hF
  have hbr0 := fRw.lt
  have hS0_ := hS
  refine r_new (pc := 0) E hC hS tyJx4a65c_ok uJx4a65c (List.mem_cons_of_mem _ kw_1170) (List.mem_cons_of_mem _ kw_1171) (List.mem_cons_of_mem _ kw_8) (ci := 7) rfl (fs := [.int 0, .null, .int 0]) (by decide) (by dsimp only; omega) (by dsimp only; omega) dX5_rowNow_0 (fun qf1 H zq_ n_ ho_ hS => ?_)
  have l_fo_f1 : mo < qf1 := zq_ ▸ fo.lt
  have fo := fo.kept (ho_ _ fo.lt)
  have l_f0w_f1 : rl < qf1 := zq_ ▸ f0w.lt
  have f0w := f0w.kept (ho_ _ f0w.lt)
  have l_fRw_f1 : br < qf1 := zq_ ▸ fRw.lt
  have fRw := fRw.kept (ho_ _ fRw.lt)
  have elw := elw.old ho_
  have f1 := n_
  have s_f1 : s.heap.size ≤ qf1 := zq_ ▸ hS0_.1
  have g_f1 := hn _ s_f1
  refine lv_dup (pc := 3) hx hb dX5_rowNow_3 rfl ?_
  refine k_v (pc := 4) (k_I E hC hS hA hl.1 (c_Jx4a65c_init_da8c8 l D tk N0 sa H.size qf1 (hA _ g_f1)) kw_1172 kw_1173 kw_8 kw_1174 rfl (n := 0) (by decide +kernel) rfl ⟨⟨rfl, rfl⟩, ⟨Nat.le_of_ble_eq_true rfl, Nat.le_of_ble_eq_true rfl⟩, (by dsimp only; omega), (by dsimp only; omega)⟩ rfl (Nat.le_of_ble_eq_true rfl) f1 dX5_rowNow_4) hS (inA1.to g_f1) hn (fun H locs hR hz hk hS => ?_)
  have fo := fo.kept (hk _ fo.lt (inA1.not (clA.ne fo.cl f1.cl (hC.oo 13 7 rfl rfl (by decide))) fo.lt))
  have f0w := f0w.kept (hk _ f0w.lt (inA1.not (Nat.ne_of_lt l_f0w_f1) f0w.lt))
  have fRw := fRw.kept (hk _ fRw.lt (inA1.not (clA.ne fRw.cla f1.cl (hC.ao 7 4 rfl rfl)) fRw.lt))
  have elw := elw.keep1 hk (fun q9 h9 => clA.ne h9 f1.cl (hC.ceo (Or.inr rfl) 7 rfl (by decide)))
  have f1 := hR
  refine lv_astore_n (pc := 7) (lv' := [(1, .ref qf1), (0, .ref mo)]) hx hb dX5_rowNow_7 rfl hl (by decide) rfl (fun ls hl => ?_)
  refine lv_aload_n (pc := 8) hx hb dX5_rowNow_8 rfl (lv_at hl 1 rfl) ?_
  refine r_get (pc := 9) E hC fo 1 (v := .ref rl) rfl rfl (by decide) uX5 (List.mem_cons_of_mem _ kw_1210) (fun _ h => h) dX5_rowNow_9 ?_
  have hZ0_ := hS.1
  have t_fo := fo.lt
  have t_f0w := f0w.lt
  have t_fRw := fRw.lt
  have t_f1 := f1.lt
  refine k_r (pc := 12) (k_V E hC hS hA hl.1 (c1.recv hC f0w rfl) rfl (c_Jx4a65c_iterator_32c93 l D tk N0 sa H.size rl br n9 mdr) kw_1486 kw_1487 kw_1488 kw_8 kw_1489 (n := 0) (by decide +kernel) rfl ⟨⟨rfl, rfl⟩, ⟨Nat.le_of_ble_eq_true rfl, Nat.le_of_ble_eq_true rfl⟩, (by dsimp only; omega), (by dsimp only; omega)⟩ rfl (Nat.le_of_ble_eq_true rfl) f0w dX5_rowNow_12) hS (fun q z w => absurd w (Nat.not_le.mpr z)) hn (fun r_3 H locs hR hz hk hS => ?_)
  have fo := fo.kept (hk _ fo.lt (Nat.not_le.mpr fo.lt))
  have f0w := f0w.kept (hk _ f0w.lt (Nat.not_le.mpr f0w.lt))
  have fRw := fRw.kept (hk _ fRw.lt (Nat.not_le.mpr fRw.lt))
  have elw := elw.new hk
  have f1 := f1.kept (hk _ f1.lt (Nat.not_le.mpr f1.lt))
  obtain ⟨z9_, f4⟩ := hR
  have s_f4 : s.heap.size ≤ r_3 := Nat.le_trans hZ0_ z9_
  have g_f4 := hn _ s_f4
  have l_fo_f4 : mo < r_3 := Nat.lt_of_lt_of_le t_fo z9_
  have l_f0w_f4 : rl < r_3 := Nat.lt_of_lt_of_le t_f0w z9_
  have l_fRw_f4 : br < r_3 := Nat.lt_of_lt_of_le t_fRw z9_
  have l_f1_f4 : qf1 < r_3 := Nat.lt_of_lt_of_le t_f1 z9_
  refine lv_astore_n (pc := 15) (lv' := [(2, .ref r_3), (1, .ref qf1), (0, .ref mo)]) hx hb dX5_rowNow_15 rfl hl (by decide) rfl (fun ls hl => ?_)
  refine lv_aload_n (pc := 16) hx hb dX5_rowNow_16 rfl (lv_at hl 0 rfl) ?_
  refine k5_i (pc := 17) (k_F (ci := 6) rfl hC.xt.2.2.2.1 E hC hS hA hl.1 (c1.recv hC f4 rfl) (c_Jx35411_hasNext_aae02 l D tk N0 sa H.size r_3 rl br n9 0 mdr ((-1)) (by omega) (by omega)) kw_1510 kw_1516 kw_1514 kw_29 kw_1518 (n := 0) (by decide +kernel) rfl ⟨⟨rfl, rfl⟩, ⟨Nat.le_of_ble_eq_true rfl, Nat.le_of_ble_eq_true rfl⟩, (by dsimp only; omega), (by dsimp only; omega)⟩ rfl (Nat.le_of_ble_eq_true rfl) ⟨f4, f0w⟩ dX5_rowNow_17) hS (fun q z w => absurd w (Nat.not_le.mpr z)) hn (fun r_5 H locs hR hz hk hS => ?_)
  have fo := fo.kept (hk _ fo.lt (Nat.not_le.mpr fo.lt))
  have f0w := f0w.kept (hk _ f0w.lt (Nat.not_le.mpr f0w.lt))
  have fRw := fRw.kept (hk _ fRw.lt (Nat.not_le.mpr fRw.lt))
  have elw := elw.new hk
  have f1 := f1.kept (hk _ f1.lt (Nat.not_le.mpr f1.lt))
  have f4 := f4.kept (hk _ f4.lt (Nat.not_le.mpr f4.lt))
  have hn_r_5 := hR
  refine lv_if_eq (pc := 22) (tgt := 51) hx hb dX5_rowNow_22 (by decide) (fun c_6 => ?_) (fun c_6 => ?_)
  · exact absurd c_6 (hn_r_5.elim (fun z9 => absurd z9.2 (by omega)) (fun z9 z8 => absurd (z9.1.symm.trans z8) (by decide)))
  have hkn : 0 < n9 := h0r
  obtain ⟨qe7, hq7, he7⟩ := elw 0 hkn
  obtain ⟨xe7, ev7, pv7⟩ := hPI 0 hkn
  have ey7 := ev7
  rw [ev7] at he7
  refine lv_aload_n (pc := 25) hx hb dX5_rowNow_25 rfl (lv_at hl 0 rfl) ?_
  refine k5_r (pc := 26) (k_F (ci := 6) rfl hC.xt.2.2.2.2 E hC hS hA hl.1 (c1.recv hC f4 rfl) (c_Jx35411_next_0502b l D tk N0 sa H.size r_3 rl br n9 0 capr qe7 mdr ((-1)) fnr (hA _ g_f4) hkn hncr (by omega) hq7) kw_1520 kw_1525 kw_1523 kw_29 kw_1527 (n := 0) (by decide +kernel) rfl ⟨⟨rfl, rfl⟩, ⟨Nat.le_of_ble_eq_true rfl, Nat.le_of_ble_eq_true rfl⟩, (by dsimp only; omega), (by dsimp only; omega)⟩ rfl (Nat.le_of_ble_eq_true rfl) ⟨f4, f0w, fRw⟩ dX5_rowNow_26) hS (inA1.to g_f4) hn (fun r_8 H locs hR hz hk hS => ?_)
  have fo := fo.kept (hk _ fo.lt (inA1.not (clA.ne fo.cl f4.cl (hC.oo 13 6 rfl rfl (by decide))) fo.lt))
  have f0w := f0w.kept (hk _ f0w.lt (inA1.not (clA.ne f0w.cl f4.cl (hC.oo 7 6 rfl rfl (by decide))) f0w.lt))
  have fRw := fRw.kept (hk _ fRw.lt (inA1.not (clA.ne fRw.cla f4.cl (hC.ao 6 4 rfl rfl)) fRw.lt))
  have elw := elw.keep1 hk (fun q9 h9 => clA.ne h9 f4.cl (hC.ceo (Or.inr rfl) 6 rfl (by decide)))
  have f1 := f1.kept (hk _ f1.lt (inA1.not (clA.ne f1.cl f4.cl (hC.oo 7 6 rfl rfl (by decide))) f1.lt))
  have he7 := he7.kept (hk _ he7.lt (inA1.not (clA.ne he7.cl f4.cl (hC.oo 2 6 rfl rfl (by decide))) he7.lt))
  obtain ⟨hr9, f4⟩ := hR
  rw [hr9]
  refine r_castO (pc := 31) E hC he7 rfl kw_1614 dX5_rowNow_31 ?_
  refine k_i (pc := 34) (k_V E hC hS hA hl.1 (xf.recv hC he7 rfl) rfl (c_J6_intValue_8abf5 l D tk N0 sa H.size qe7 xe7) kw_1615 kw_1616 kw_1617 kw_22 kw_1618 (n := 0) (by decide +kernel) rfl ⟨⟨rfl, rfl⟩, ⟨Nat.le_of_ble_eq_true rfl, Nat.le_of_ble_eq_true rfl⟩, (by dsimp only; omega), (by dsimp only; omega)⟩ rfl (Nat.le_of_ble_eq_true rfl) he7 dX5_rowNow_34) hS (fun q z w => absurd w (Nat.not_le.mpr z)) hn (fun r_9 H locs hR hz hk hS => ?_)
  have fo := fo.kept (hk _ fo.lt (Nat.not_le.mpr fo.lt))
  have f0w := f0w.kept (hk _ f0w.lt (Nat.not_le.mpr f0w.lt))
  have fRw := fRw.kept (hk _ fRw.lt (Nat.not_le.mpr fRw.lt))
  have elw := elw.new hk
  have f1 := f1.kept (hk _ f1.lt (Nat.not_le.mpr f1.lt))
  have f4 := f4.kept (hk _ f4.lt (Nat.not_le.mpr f4.lt))
  have he7 := he7.kept (hk _ he7.lt (Nat.not_le.mpr he7.lt))
  have er_9 : r_9 = xe7 := hR
  refine lv_istore_n (pc := 37) (lv' := [(3, .int r_9), (2, .ref r_3), (1, .ref qf1), (0, .ref mo)]) hx hb dX5_rowNow_37 rfl hl (by decide) rfl (fun ls hl => ?_)
  refine lv_aload_n (pc := 38) hx hb dX5_rowNow_38 rfl (lv_at hl 2 rfl) ?_
  refine lv_iload_n (pc := 39) hx hb dX5_rowNow_39 rfl (lv_at hl 0 rfl) ?_
  refine lv_i2l (pc := 40) (v := r_9.toInt64) hx hb dX5_rowNow_40 rfl ?_
  have hZ0_ := hS.1
  have t_fo := fo.lt
  have t_f0w := f0w.lt
  have t_fRw := fRw.lt
  have t_f1 := f1.lt
  have t_f4 := f4.lt
  have t_he7 := he7.lt
  refine k_r (pc := 41) (k_S E hC hS hA hl.1 (c_J13_valueOf_928b6 l D tk N0 sa H.size r_9.toInt64) kw_1414 kw_1415 kw_17 kw_1416 (n := 1) (by decide +kernel) rfl ⟨⟨rfl, rfl⟩, ⟨Nat.le_of_ble_eq_true rfl, Nat.le_of_ble_eq_true rfl⟩, (by dsimp only; omega), (by dsimp only; omega)⟩ rfl (Nat.le_of_ble_eq_true rfl) trivial dX5_rowNow_41) hS (fun q z w => absurd w (Nat.not_le.mpr z)) hn (fun r_10 H locs hR hz hk hS => ?_)
  have fo := fo.kept (hk _ fo.lt (Nat.not_le.mpr fo.lt))
  have f0w := f0w.kept (hk _ f0w.lt (Nat.not_le.mpr f0w.lt))
  have fRw := fRw.kept (hk _ fRw.lt (Nat.not_le.mpr fRw.lt))
  have elw := elw.new hk
  have f1 := f1.kept (hk _ f1.lt (Nat.not_le.mpr f1.lt))
  have f4 := f4.kept (hk _ f4.lt (Nat.not_le.mpr f4.lt))
  have he7 := he7.kept (hk _ he7.lt (Nat.not_le.mpr he7.lt))
  have f11 := hR
  have hZ0_ := hS.1
  have t_fo := fo.lt
  have t_f0w := f0w.lt
  have t_fRw := fRw.lt
  have t_f1 := f1.lt
  have t_f4 := f4.lt
  have t_he7 := he7.lt
  have t_f11 := f11.lt
  refine k_i (pc := 44) (k_V E hC hS hA hl.1 (c1.recv hC f1 rfl) rfl (c_Jx4a65c_add_9ea2d_E l D tk N0 sa H.size qf1 r_10 3 0 (.long r_9.toInt64) (fun _ => .null) (hA _ g_f1) (Or.inl rfl)) kw_1434 kw_1435 kw_1436 kw_8 kw_1437 (n := 1) (by decide +kernel) rfl ⟨⟨rfl, rfl⟩, ⟨Nat.le_of_ble_eq_true rfl, Nat.le_of_ble_eq_true rfl⟩, (by dsimp only; omega), (by dsimp only; omega)⟩ rfl (Nat.le_of_ble_eq_true rfl) ⟨f1, f11⟩ dX5_rowNow_44) hS (inA1.to g_f1) hn (fun r_12 H locs hR hz hk hS => ?_)
  have fo := fo.kept (hk _ fo.lt (inA1.not (clA.ne fo.cl f1.cl (hC.oo 13 7 rfl rfl (by decide))) fo.lt))
  have f0w := f0w.kept (hk _ f0w.lt (inA1.not (Nat.ne_of_lt l_f0w_f1) f0w.lt))
  have fRw := fRw.kept (hk _ fRw.lt (inA1.not (clA.ne fRw.cla f1.cl (hC.ao 7 4 rfl rfl)) fRw.lt))
  have elw := elw.keep1 hk (fun q9 h9 => clA.ne h9 f1.cl (hC.ceo (Or.inr rfl) 7 rfl (by decide)))
  have f4 := f4.kept (hk _ f4.lt (inA1.not (clA.ne f4.cl f1.cl (hC.oo 6 7 rfl rfl (by decide))) f4.lt))
  have he7 := he7.kept (hk _ he7.lt (inA1.not (clA.ne he7.cl f1.cl (hC.oo 2 7 rfl rfl (by decide))) he7.lt))
  have f11 := f11.kept (hk _ f11.lt (inA1.not (clA.ne f11.cl f1.cl (hC.oo 3 7 rfl rfl (by decide))) f11.lt))
  obtain ⟨hr9, q13, z9_, f1, f13, e13⟩ := hR
  have s_f13 : s.heap.size ≤ q13 := Nat.le_trans hZ0_ z9_
  have g_f13 := hn _ s_f13
  have l_fo_f13 : mo < q13 := Nat.lt_of_lt_of_le t_fo z9_
  have l_f0w_f13 : rl < q13 := Nat.lt_of_lt_of_le t_f0w z9_
  have l_fRw_f13 : br < q13 := Nat.lt_of_lt_of_le t_fRw z9_
  have l_f1_f13 : qf1 < q13 := Nat.lt_of_lt_of_le t_f1 z9_
  have l_f4_f13 : r_3 < q13 := Nat.lt_of_lt_of_le t_f4 z9_
  have l_he7_f13 : qe7 < q13 := Nat.lt_of_lt_of_le t_he7 z9_
  have l_f11_f13 : r_10 < q13 := Nat.lt_of_lt_of_le t_f11 z9_
  rw [hr9]
  refine lv_pop (pc := 47) hx hb dX5_rowNow_47 rfl ?_
  refine lv_goto (pc := 48) (tgt := 16) hx hb dX5_rowNow_48 (by decide) ?_
  have loop_16 : ∀ (n : Nat) (k : Nat) (v9 : Nat) (c9 : Nat) (m9 : Int32) (lr : Int32) (f9 : Nat → Option Nat) (w9 : Nat → Value), 17 - k < n → 1 ≤ k ∧ k ≤ n9 → PQ k vsr w9 → m_cap c9 ∧ k ≤ c9 → s.heap.size ≤ v9 → ∀ (H : Heap) (locs : List Loc) (ls : Array Slot), va_S (nwA s.heap.size) s.heap H locs → c1 D mo (.inr (13, [.ref ra, .ref rl, .ref ex, .ref ro, .int (nI pk), .int ca, .int rf, .int kn, .int th])) H → c1 D rl (.inr (7, [.int mdr, .ref br, .int (nI n9)])) H → c1 D br (.inl (tk 4, capr, .inr (.inr (.inr (.inr fnr))))) H → EL D 2 n9 fnr vsr H → c1 D qf1 (.inr (7, [.int m9, .ref v9, .int (nI k)])) H → c1 D v9 (.inl (tk 4, c9, .inr (.inr (.inr (.inr f9))))) H → EL D 3 k f9 w9 H → c1 D r_3 (.inr (6, [.int (nI k), .int lr, .int mdr, .ref rl])) H → lv_has ls 4 [(0, .ref mo), (1, .ref qf1), (2, .ref r_3)] → W p l e ({ frames := 7, cells := 23, slots := 160, locals := 157 } : Room) s m args below meth c H locs (2 + k + m_ac c9) (7 + k + m_as c9) Q (F0 m 16 ls []) := by
    intro n
    induction n with
    | zero =>
      intro k v9 c9 m9 lr f9 w9 hf9 hk9 hP9 hc9 hv9 H locs ls hS fo f0w fRw elw f1 fR el f4 hl
      omega
    | succ n ih_16 =>
      intro k v9 c9 m9 lr f9 w9 hf9 hk9 hP9 hc9 hv9 H locs ls hS fo f0w fRw elw f1 fR el f4 hl
      have g_fR := hn _ hv9
      have hcb := m_acB hc9.1
      have l_fRw_fR : br < v9 := Nat.lt_of_lt_of_le hbr0 hv9
      refine lv_aload_n (pc := 16) hx hb dX5_rowNow_16 rfl (lv_at hl 2 rfl) ?_
      refine k5_i (pc := 17) (k_F (ci := 6) rfl hC.xt.2.2.2.1 E hC hS hA hl.1 (c1.recv hC f4 rfl) (c_Jx35411_hasNext_aae02 l D tk N0 sa H.size r_3 rl br n9 k mdr lr (by omega) (by omega)) kw_1510 kw_1516 kw_1514 kw_29 kw_1518 (n := 0) (by decide +kernel) rfl ⟨⟨rfl, rfl⟩, ⟨Nat.le_of_ble_eq_true rfl, Nat.le_of_ble_eq_true rfl⟩, (by dsimp only; omega), (by dsimp only; omega)⟩ rfl (Nat.le_of_ble_eq_true rfl) ⟨f4, f0w⟩ dX5_rowNow_17) hS (fun q z w => absurd w (Nat.not_le.mpr z)) hn (fun r_14 H locs hR hz hk hS => ?_)
      have fo := fo.kept (hk _ fo.lt (Nat.not_le.mpr fo.lt))
      have f0w := f0w.kept (hk _ f0w.lt (Nat.not_le.mpr f0w.lt))
      have fRw := fRw.kept (hk _ fRw.lt (Nat.not_le.mpr fRw.lt))
      have elw := elw.new hk
      have f1 := f1.kept (hk _ f1.lt (Nat.not_le.mpr f1.lt))
      have fR := fR.kept (hk _ fR.lt (Nat.not_le.mpr fR.lt))
      have el := el.new hk
      have f4 := f4.kept (hk _ f4.lt (Nat.not_le.mpr f4.lt))
      have hn_r_14 := hR
      refine lv_if_eq (pc := 22) (tgt := 51) hx hb dX5_rowNow_22 (by decide) (fun c_15 => ?_) (fun c_15 => ?_)
      · refine lv_aload_n (pc := 51) hx hb dX5_rowNow_51 rfl (lv_at hl 1 rfl) ?_
        try rw [hQ]
        refine r_aret (pc := 52) E hr (Or.inl ⟨_, rfl⟩) hlk hS (by omega) (by omega) ?_ dX5_rowNow_52
        have hkz : k = n9 := hn_r_14.elim (fun z9 => z9.2) (fun z9 => absurd (z9.1.symm.trans c_15) (by decide))
        subst hkz
        exact ⟨v9, c9, f9, w9, m9, s_f1, hv9, f1, fR, el, hP9, hc9.2, hc9.1⟩
      · have hkn : k < n9 := by
          rcases hn_r_14 with ⟨h9, _⟩ | ⟨_, h9⟩
          · exact absurd h9 c_15
          · omega
        obtain ⟨qe16, hq16, he16⟩ := elw k hkn
        obtain ⟨xe16, ev16, pv16⟩ := hPI k hkn
        have ey16 := ev16
        rw [ev16] at he16
        refine lv_aload_n (pc := 25) hx hb dX5_rowNow_25 rfl (lv_at hl 2 rfl) ?_
        refine k5_r (pc := 26) (k_F (ci := 6) rfl hC.xt.2.2.2.2 E hC hS hA hl.1 (c1.recv hC f4 rfl) (c_Jx35411_next_0502b l D tk N0 sa H.size r_3 rl br n9 k capr qe16 mdr lr fnr (hA _ g_f4) hkn hncr (by omega) hq16) kw_1520 kw_1525 kw_1523 kw_29 kw_1527 (n := 0) (by decide +kernel) rfl ⟨⟨rfl, rfl⟩, ⟨Nat.le_of_ble_eq_true rfl, Nat.le_of_ble_eq_true rfl⟩, (by dsimp only; omega), (by dsimp only; omega)⟩ rfl (Nat.le_of_ble_eq_true rfl) ⟨f4, f0w, fRw⟩ dX5_rowNow_26) hS (inA1.to g_f4) hn (fun r_17 H locs hR hz hk hS => ?_)
        have fo := fo.kept (hk _ fo.lt (inA1.not (clA.ne fo.cl f4.cl (hC.oo 13 6 rfl rfl (by decide))) fo.lt))
        have f0w := f0w.kept (hk _ f0w.lt (inA1.not (clA.ne f0w.cl f4.cl (hC.oo 7 6 rfl rfl (by decide))) f0w.lt))
        have fRw := fRw.kept (hk _ fRw.lt (inA1.not (clA.ne fRw.cla f4.cl (hC.ao 6 4 rfl rfl)) fRw.lt))
        have elw := elw.keep1 hk (fun q9 h9 => clA.ne h9 f4.cl (hC.ceo (Or.inr rfl) 6 rfl (by decide)))
        have f1 := f1.kept (hk _ f1.lt (inA1.not (clA.ne f1.cl f4.cl (hC.oo 7 6 rfl rfl (by decide))) f1.lt))
        have fR := fR.kept (hk _ fR.lt (inA1.not (clA.ne fR.cla f4.cl (hC.ao 6 4 rfl rfl)) fR.lt))
        have el := el.keep1 hk (fun q9 h9 => clA.ne h9 f4.cl (hC.ceo (Or.inl rfl) 6 rfl (by decide)))
        have he16 := he16.kept (hk _ he16.lt (inA1.not (clA.ne he16.cl f4.cl (hC.oo 2 6 rfl rfl (by decide))) he16.lt))
        obtain ⟨hr9, f4⟩ := hR
        rw [hr9]
        refine r_castO (pc := 31) E hC he16 rfl kw_1614 dX5_rowNow_31 ?_
        refine k_i (pc := 34) (k_V E hC hS hA hl.1 (xf.recv hC he16 rfl) rfl (c_J6_intValue_8abf5 l D tk N0 sa H.size qe16 xe16) kw_1615 kw_1616 kw_1617 kw_22 kw_1618 (n := 0) (by decide +kernel) rfl ⟨⟨rfl, rfl⟩, ⟨Nat.le_of_ble_eq_true rfl, Nat.le_of_ble_eq_true rfl⟩, (by dsimp only; omega), (by dsimp only; omega)⟩ rfl (Nat.le_of_ble_eq_true rfl) he16 dX5_rowNow_34) hS (fun q z w => absurd w (Nat.not_le.mpr z)) hn (fun r_18 H locs hR hz hk hS => ?_)
        have fo := fo.kept (hk _ fo.lt (Nat.not_le.mpr fo.lt))
        have f0w := f0w.kept (hk _ f0w.lt (Nat.not_le.mpr f0w.lt))
        have fRw := fRw.kept (hk _ fRw.lt (Nat.not_le.mpr fRw.lt))
        have elw := elw.new hk
        have f1 := f1.kept (hk _ f1.lt (Nat.not_le.mpr f1.lt))
        have fR := fR.kept (hk _ fR.lt (Nat.not_le.mpr fR.lt))
        have el := el.new hk
        have f4 := f4.kept (hk _ f4.lt (Nat.not_le.mpr f4.lt))
        have he16 := he16.kept (hk _ he16.lt (Nat.not_le.mpr he16.lt))
        have er_18 : r_18 = xe16 := hR
        refine lv_istore_n (pc := 37) (lv' := [(3, .int r_18), (0, .ref mo), (1, .ref qf1), (2, .ref r_3)]) hx hb dX5_rowNow_37 rfl hl (by decide) rfl (fun ls hl => ?_)
        refine lv_aload_n (pc := 38) hx hb dX5_rowNow_38 rfl (lv_at hl 2 rfl) ?_
        refine lv_iload_n (pc := 39) hx hb dX5_rowNow_39 rfl (lv_at hl 0 rfl) ?_
        refine lv_i2l (pc := 40) (v := r_18.toInt64) hx hb dX5_rowNow_40 rfl ?_
        have hZ0_ := hS.1
        have t_fo := fo.lt
        have t_f0w := f0w.lt
        have t_fRw := fRw.lt
        have t_f1 := f1.lt
        have t_fR := fR.lt
        have t_f4 := f4.lt
        have t_he16 := he16.lt
        refine k_r (pc := 41) (k_S E hC hS hA hl.1 (c_J13_valueOf_928b6 l D tk N0 sa H.size r_18.toInt64) kw_1414 kw_1415 kw_17 kw_1416 (n := 1) (by decide +kernel) rfl ⟨⟨rfl, rfl⟩, ⟨Nat.le_of_ble_eq_true rfl, Nat.le_of_ble_eq_true rfl⟩, (by dsimp only; omega), (by dsimp only; omega)⟩ rfl (Nat.le_of_ble_eq_true rfl) trivial dX5_rowNow_41) hS (fun q z w => absurd w (Nat.not_le.mpr z)) hn (fun r_19 H locs hR hz hk hS => ?_)
        have fo := fo.kept (hk _ fo.lt (Nat.not_le.mpr fo.lt))
        have f0w := f0w.kept (hk _ f0w.lt (Nat.not_le.mpr f0w.lt))
        have fRw := fRw.kept (hk _ fRw.lt (Nat.not_le.mpr fRw.lt))
        have elw := elw.new hk
        have f1 := f1.kept (hk _ f1.lt (Nat.not_le.mpr f1.lt))
        have fR := fR.kept (hk _ fR.lt (Nat.not_le.mpr fR.lt))
        have el := el.new hk
        have f4 := f4.kept (hk _ f4.lt (Nat.not_le.mpr f4.lt))
        have he16 := he16.kept (hk _ he16.lt (Nat.not_le.mpr he16.lt))
        have f20 := hR
        rcases Nat.lt_or_ge k c9 with hkc | hkc9
        · refine k_i (pc := 44) (k_V E hC hS hA hl.1 (c1.recv hC f1 rfl) rfl (c_Jx4a65c_add_9ea2d l D tk N0 sa H.size qf1 v9 k c9 r_19 3 m9 (.long r_18.toInt64) f9 w9 (hA _ g_f1) (hA _ g_fR) (Or.inl rfl) hkc (by omega)) kw_1434 kw_1435 kw_1436 kw_8 kw_1437 (n := 1) (by decide +kernel) rfl ⟨⟨rfl, rfl⟩, ⟨Nat.le_of_ble_eq_true rfl, Nat.le_of_ble_eq_true rfl⟩, (by dsimp only; omega), (by dsimp only; omega)⟩ rfl (Nat.le_of_ble_eq_true rfl) ⟨f1, fR, el, f20⟩ dX5_rowNow_44) hS (inA2.to g_f1 g_fR) hn (fun r_21 H locs hR hz hk hS => ?_)
          have fo := fo.kept (hk _ fo.lt (inA2.not (clA.ne fo.cl f1.cl (hC.oo 13 7 rfl rfl (by decide))) (clA.ne fo.cl fR.cla (hC.oa 13 4 rfl rfl)) fo.lt))
          have f0w := f0w.kept (hk _ f0w.lt (inA2.not (Nat.ne_of_lt l_f0w_f1) (clA.ne f0w.cl fR.cla (hC.oa 7 4 rfl rfl)) f0w.lt))
          have fRw := fRw.kept (hk _ fRw.lt (inA2.not (clA.ne fRw.cla f1.cl (hC.ao 7 4 rfl rfl)) (Nat.ne_of_lt l_fRw_fR) fRw.lt))
          have elw := elw.keep2 hk (fun q9 h9 => clA.ne h9 f1.cl (hC.ceo (Or.inr rfl) 7 rfl (by decide))) (fun q9 h9 => clA.ne h9 fR.cla (hC.cea (Or.inr rfl) 4 rfl))
          have f4 := f4.kept (hk _ f4.lt (inA2.not (clA.ne f4.cl f1.cl (hC.oo 6 7 rfl rfl (by decide))) (clA.ne f4.cl fR.cla (hC.oa 6 4 rfl rfl)) f4.lt))
          have he16 := he16.kept (hk _ he16.lt (inA2.not (clA.ne he16.cl f1.cl (hC.oo 2 7 rfl rfl (by decide))) (clA.ne he16.cl fR.cla (hC.oa 2 4 rfl rfl)) he16.lt))
          have f20 := f20.kept (hk _ f20.lt (inA2.not (clA.ne f20.cl f1.cl (hC.oo 3 7 rfl rfl (by decide))) (clA.ne f20.cl fR.cla (hC.oa 3 4 rfl rfl)) f20.lt))
          obtain ⟨hr9, f1, fR, el⟩ := hR
          rw [hr9]
          refine lv_pop (pc := 47) hx hb dX5_rowNow_47 rfl ?_
          refine lv_goto (pc := 48) (tgt := 16) hx hb dX5_rowNow_48 (by decide) ?_
          refine W.widen (k := 2 + (k + 1) + m_ac (c9)) (n := 7 + (k + 1) + m_as (c9)) (by omega) (by omega) ?_
          exact ih_16  (k + 1) _ _ _ _ _ _   (by omega) (by omega) (by exact hP9.add ey16 (by rw [er_18])) (by exact ⟨hc9.1, by omega⟩) hv9 _ _ _ hS fo f0w fRw elw f1 fR el f4 (lv_sub hl [1, 2, 3] rfl)
        · have hkc : c9 = k := by omega
          have fR := fR.ofcap hkc
          have hgr := m_grow (c9 := k) (by rw [← hkc]; exact hc9.1) (by omega)
          have hmk : m_ac c9 = m_ac k ∧ m_as c9 = m_as k := by rw [hkc]; exact ⟨rfl, rfl⟩
          have hgb := m_acB hgr.1
          have hZ0_ := hS.1
          have t_fo := fo.lt
          have t_f0w := f0w.lt
          have t_fRw := fRw.lt
          have t_f1 := f1.lt
          have t_fR := fR.lt
          have t_f4 := f4.lt
          have t_he16 := he16.lt
          have t_f20 := f20.lt
          refine k_i (pc := 44) (k_V E hC hS hA hl.1 (c1.recv hC f1 rfl) rfl (c_Jx4a65c_add_9ea2d_G l D tk N0 sa H.size qf1 v9 k r_19 3 m9 (.long r_18.toInt64) f9 w9 (hA _ g_f1) (Or.inl rfl) (by omega) (by omega)) kw_1434 kw_1435 kw_1436 kw_8 kw_1437 (n := 1) (by decide +kernel) rfl ⟨⟨rfl, rfl⟩, ⟨Nat.le_of_ble_eq_true rfl, Nat.le_of_ble_eq_true rfl⟩, (by dsimp only; omega), (by dsimp only; omega)⟩ rfl (Nat.le_of_ble_eq_true rfl) ⟨f1, fR, el, f20⟩ dX5_rowNow_44) hS (inA1.to g_f1) hn (fun r_22 H locs hR hz hk hS => ?_)
          have fo := fo.kept (hk _ fo.lt (inA1.not (clA.ne fo.cl f1.cl (hC.oo 13 7 rfl rfl (by decide))) fo.lt))
          have f0w := f0w.kept (hk _ f0w.lt (inA1.not (Nat.ne_of_lt l_f0w_f1) f0w.lt))
          have fRw := fRw.kept (hk _ fRw.lt (inA1.not (clA.ne fRw.cla f1.cl (hC.ao 7 4 rfl rfl)) fRw.lt))
          have elw := elw.keep1 hk (fun q9 h9 => clA.ne h9 f1.cl (hC.ceo (Or.inr rfl) 7 rfl (by decide)))
          have fR := fR.kept (hk _ fR.lt (inA1.not (clA.ne fR.cla f1.cl (hC.ao 7 4 rfl rfl)) fR.lt))
          have f4 := f4.kept (hk _ f4.lt (inA1.not (clA.ne f4.cl f1.cl (hC.oo 6 7 rfl rfl (by decide))) f4.lt))
          have he16 := he16.kept (hk _ he16.lt (inA1.not (clA.ne he16.cl f1.cl (hC.oo 2 7 rfl rfl (by decide))) he16.lt))
          have f20 := f20.kept (hk _ f20.lt (inA1.not (clA.ne f20.cl f1.cl (hC.oo 3 7 rfl rfl (by decide))) f20.lt))
          obtain ⟨hr9, q23, f_23, z9_, f1, f23, el⟩ := hR
          have s_f23 : s.heap.size ≤ q23 := Nat.le_trans hZ0_ z9_
          have g_f23 := hn _ s_f23
          have l_fo_f23 : mo < q23 := Nat.lt_of_lt_of_le t_fo z9_
          have l_f0w_f23 : rl < q23 := Nat.lt_of_lt_of_le t_f0w z9_
          have l_fRw_f23 : br < q23 := Nat.lt_of_lt_of_le t_fRw z9_
          have l_f1_f23 : qf1 < q23 := Nat.lt_of_lt_of_le t_f1 z9_
          have l_fR_f23 : v9 < q23 := Nat.lt_of_lt_of_le t_fR z9_
          have l_f4_f23 : r_3 < q23 := Nat.lt_of_lt_of_le t_f4 z9_
          have l_he16_f23 : qe16 < q23 := Nat.lt_of_lt_of_le t_he16 z9_
          have l_f20_f23 : r_19 < q23 := Nat.lt_of_lt_of_le t_f20 z9_
          rw [hr9]
          refine lv_pop (pc := 47) hx hb dX5_rowNow_47 rfl ?_
          refine lv_goto (pc := 48) (tgt := 16) hx hb dX5_rowNow_48 (by decide) ?_
          refine W.widen (k := 2 + (k + 1) + m_ac (k + k / 2)) (n := 7 + (k + 1) + m_as (k + k / 2)) (by omega) (by omega) ?_
          exact ih_16  (k + 1) _ _ _ _ _ _   (by omega) (by omega) (by exact hP9.add ey16 (by rw [er_18])) (by exact ⟨hgr.1, by omega⟩) s_f23 _ _ _ hS fo f0w fRw elw f1 f23 el f4 (lv_sub hl [1, 2, 3] rfl)
  have hm0 : m_ac 10 = 1 ∧ m_as 10 = 10 := ⟨rfl, rfl⟩
  refine W.widen (k := 2 + 1 + m_ac (10)) (n := 7 + 1 + m_as (10)) (by omega) (by omega) ?_
  exact loop_16 18 1 _ _ _ _ _ _   (by omega) (by omega) (by exact PQ.one ey7 (by rw [er_9])) (by exact ⟨Or.inl rfl, by decide⟩) s_f13 _ _ _ hS fo f0w fRw elw f1 f13 e13 f4 (lv_sub hl [3, 2, 1] rfl)
set_option maxHeartbeats 4000000 in
set_option maxRecDepth 100000 in
/-- BestratiosModel.told(Ljava/util/ArrayList;)Ljava/lang/String; -/
theorem c_X5_told_E (l : Launch) (D : va_G) (tk : Nat → ClassId) (N0 : Nat) (sa : Nat → Nat)  (sz : Nat) (a : Nat) (md : Int32) : Met l yX5_told (wsy yX5_told cX5_told 5 (some (.object "java/lang/String"))) ({ frames := 3, cells := 1, slots := 4, locals := 61 } : Room) (cP D tk N0 sa [.ref a] sz (fun H => c1 D a (.inr (7, [.int md, .ref (sa 1), .int 0])) H)) (kQr (fun r H => ∃ n9, n9 ≤ 516 ∧ SX D tk r n9 H) (nwA sz)) (1) (4) (nwA sz) := by
  refine mStart RX5 rfl (by decide +kernel) (Nat.le_of_ble_eq_true rfl) ?_
  intro p e s m args below meth c E hr hlk hnm hsz hC hF ls hl
  subst hsz
  obtain ⟨hx, hb, -⟩ := id E
  have hA : ∀ q, (nwA s.heap.size) q → N0 ≤ q := fun q h => Nat.le_trans hC.2.1 h
  have hn : ∀ q, s.heap.size ≤ q → (nwA s.heap.size) q := fun q h => h
  have hS : va_S (nwA s.heap.size) s.heap s.heap [] := va_S.rf
  have hl : lv_has ls 5 [(0, .ref a)] := hl
  have f0 : c1 D a (.inr (7, [.int md, .ref (sa 1), .int 0])) s.heap := hF
  refine va_ldcS (pc := 0) hx hb E.2.2.2.1 (hC.2.2.2.2.1 6 _ rfl).1 dX5_told_0 ?_
  have k1 : SX D tk (sa (10 + 6)) 0 s.heap := hC.str hS hA 6 _ rfl (by decide)
  refine lv_astore_n (pc := 2) (lv' := [(1, .ref (sa (10 + 6))), (0, .ref a)]) hx hb dX5_told_2 rfl hl (by decide) rfl (fun ls hl => ?_)
  refine lv_aload_n (pc := 3) hx hb dX5_told_3 rfl (lv_at hl 1 rfl) ?_
  have hZ0_ := hS.1
  have t_f0 := f0.lt
  have t_k1 := k1.lt
  refine k_r (pc := 4) (k_V E hC hS hA hl.1 (c1.recv hC f0 rfl) rfl (c_Jx4a65c_iterator_32c93 l D tk N0 sa s.heap.size a (sa 1) 0 md) kw_1486 kw_1487 kw_1488 kw_8 kw_1489 (n := 0) (by decide +kernel) rfl ⟨⟨rfl, rfl⟩, ⟨Nat.le_of_ble_eq_true rfl, Nat.le_of_ble_eq_true rfl⟩, (by dsimp only; omega), (by dsimp only; omega)⟩ rfl (Nat.le_of_ble_eq_true rfl) (by exact f0) dX5_told_4) hS (fun q z w => absurd w (Nat.not_le.mpr z)) hn (fun r_2 H locs hR hz hk hS => ?_)
  have f0 := f0.kept (hk _ f0.lt (Nat.not_le.mpr f0.lt))
  have k1 := k1.new hk
  obtain ⟨z9_, f3⟩ := hR
  have s_f3 : s.heap.size ≤ r_2 := Nat.le_trans hZ0_ z9_
  have g_f3 := hn _ s_f3
  have l_f0_f3 : a < r_2 := Nat.lt_of_lt_of_le t_f0 z9_
  have l_k1_f3 : sa (10 + 6) < r_2 := Nat.lt_of_lt_of_le t_k1 z9_
  refine lv_astore_n (pc := 7) (lv' := [(2, .ref r_2), (1, .ref (sa (10 + 6))), (0, .ref a)]) hx hb dX5_told_7 rfl hl (by decide) rfl (fun ls hl => ?_)
  refine lv_aload_n (pc := 8) hx hb dX5_told_8 rfl (lv_at hl 0 rfl) ?_
  refine k5_i (pc := 9) (k_F (ci := 6) rfl hC.xt.2.2.2.1 E hC hS hA hl.1 (c1.recv hC f3 rfl) (c_Jx35411_hasNext_aae02 l D tk N0 sa H.size r_2 a (sa 1) 0 0 md ((-1)) (by omega) (by omega)) kw_1510 kw_1516 kw_1514 kw_29 kw_1518 (n := 0) (by decide +kernel) rfl ⟨⟨rfl, rfl⟩, ⟨Nat.le_of_ble_eq_true rfl, Nat.le_of_ble_eq_true rfl⟩, (by dsimp only; omega), (by dsimp only; omega)⟩ rfl (Nat.le_of_ble_eq_true rfl) ⟨f3, f0⟩ dX5_told_9) hS (fun q z w => absurd w (Nat.not_le.mpr z)) hn (fun r_4 H locs hR hz hk hS => ?_)
  have f0 := f0.kept (hk _ f0.lt (Nat.not_le.mpr f0.lt))
  have k1 := k1.new hk
  have f3 := f3.kept (hk _ f3.lt (Nat.not_le.mpr f3.lt))
  have hn_r_4 := hR
  refine lv_if_eq (pc := 14) (tgt := 69) hx hb dX5_told_14 (by decide) (fun c_5 => ?_) (fun c_5 => ?_)
  rotate_left
  · exact absurd (hn_r_4.elim (fun z9 => z9.1) (fun z9 => absurd rfl z9.2)) c_5
  refine lv_aload_n (pc := 69) hx hb dX5_told_69 rfl (lv_at hl 1 rfl) ?_
  refine r_aret (pc := 70) E hr (Or.inl ⟨_, rfl⟩) hlk hS (by omega) (by omega) ?_ dX5_told_70
  exact ⟨0, by omega, k1⟩
set_option maxHeartbeats 4000000 in
set_option maxRecDepth 100000 in
/-- BestratiosModel.row()Ljava/lang/String; -/
theorem c_X5_row (l : Launch) (D : va_G) (tk : Nat → ClassId) (N0 : Nat) (sa : Nat → Nat)  (sz : Nat) (P : Nat → Prop) (hPN : ∀ q, P q → N0 ≤ q) (hPs : ∀ q, sz ≤ q → P q) (mo n9 : Nat) (kn th : Int32) (tt bb : Nat → Int64) (eT eB oT oB : Int64) (pk : Nat) (ca rf : Int32) (vs : Nat → Value)  : Met l yX5_row (wsy yX5_row cX5_row 1 (some (.object "java/lang/String"))) ({ frames := 8, cells := 325, slots := 56930, locals := 180 } : Room) (cP D tk N0 sa [.ref mo] sz (fun H => MI D tk sa P mo tt bb eT eB oT oB pk ca rf vs kn n9 th H)) (kQr (fun r H => ∃ th1, MI D tk sa P mo tt bb eT eB oT oB pk ca rf vs kn n9 th1 H) (P)) (325) (56930) (P) := by
  refine mStart RX5 rfl (by decide +kernel) (Nat.le_of_ble_eq_true rfl) ?_
  intro p e s m args below meth c E hr hlk hnm hsz hC hF ls hl
  subst hsz
  obtain ⟨hx, hb, -⟩ := id E
  have hA : ∀ q, (P) q → N0 ≤ q := hPN
  have hn : ∀ q, s.heap.size ≤ q → (P) q := hPs
  have hS : va_S (P) s.heap s.heap [] := va_S.rf
  have hl : lv_has ls 1 [(0, .ref mo)] := hl
  have hM : MI D tk sa P mo tt bb eT eB oT oB pk ca rf vs kn n9 th s.heap := hF
  obtain ⟨ra, rl, ex, ro, rt, fo, fj, fk, fe, fr, fw, ⟨hPm, hPa, hPl, hPe, hPr, hPk⟩, hFk, hFe, hFr, hpk, hn9⟩ := hM
  have g_fo := hPm
  have g_fj := hPa
  refine lv_aload_n (pc := 0) hx hb dX5_row_0 rfl (lv_at hl 0 rfl) ?_
  refine lv_iconst (pc := 1) (v := 0) hx hb dX5_row_1 (by decide) ?_
  refine r_put (pc := 2) E hC fo hS g_fo 8 tyX5 tyX5_ok nmX5 rfl (by decide) (Nat.le_of_ble_eq_true rfl) uX5 (List.mem_cons_of_mem _ kw_1217) (fun _ h => h) rfl rfl rfl dX5_row_2 (fun H locs n_ ho hz hS => ?_)
  have fw := fw.put ho (fun q9 h9 => clA.ne h9 fo.cl (hC.oo 7 13 rfl rfl (by decide))) (fun q9 h9 => clA.ne h9 fo.cl (hC.ao 13 4 rfl rfl)) (fun q9 h9 => clA.ne h9 fo.cl (hC.ceo (Or.inr rfl) 13 rfl (by decide)))
  have nW_fo : ∀ k, k < 6 → rt k ≠ mo := fun k hk9 => clA.ne (fk k hk9).cla fo.cl (hC.ao 13 0 rfl rfl)
  have fj := fj.kept (ho _ (clA.ne fj.cla fo.cl (hC.ao 13 3 rfl rfl)))
  have fk := fk.kept (fun k hk9 => ho _ (nW_fo k hk9))
  have fe := fe.kept (ho _ (clA.ne fe.cla fo.cl (hC.ao 13 0 rfl rfl)))
  have fr := fr.kept (ho _ (clA.ne fr.cla fo.cl (hC.ao 13 0 rfl rfl)))
  have fo : c1 D mo (.inr (13, [.ref ra, .ref rl, .ref ex, .ref ro, .int (nI pk), .int ca, .int rf, .int kn, .int 0])) H := n_
  rcases Nat.eq_zero_or_pos n9 with h0r | h0r
  · subst h0r
    obtain ⟨mdr, br, f0w⟩ := fw.obj
    refine lv_aload_n (pc := 5) hx hb dX5_row_5 rfl (lv_at hl 0 rfl) ?_
    have hZ0_ := hS.1
    have t_fo := fo.lt
    have t_fj := fj.lt
    have t_fk := fun k (hk9 : k < 6) => (fk k hk9).lt
    have t_fe := fe.lt
    have t_fr := fr.lt
    have t_f0w := f0w.lt
    refine k_r (pc := 6) (k_V E hC hS hA hl.1 (c1.recv hC fo rfl) rfl (c_X5_rowNow_E l D tk N0 sa H.size mo ra rl ex ro pk br ca rf kn 0 mdr) kw_1610 kw_1612 kp_29 kw_5 kw_1613 (n := 0) (by decide +kernel) rfl ⟨⟨rfl, rfl⟩, ⟨Nat.le_of_ble_eq_true rfl, Nat.le_of_ble_eq_true rfl⟩, (by dsimp only; omega), (by dsimp only; omega)⟩ rfl (Nat.le_of_ble_eq_true rfl) ⟨fo, f0w⟩ dX5_row_6) hS (fun q z w => absurd w (Nat.not_le.mpr z)) hn (fun r_1 H locs hR hz hk hS => ?_)
    have fw := fw.new hk
    have fo := fo.kept (hk _ fo.lt (Nat.not_le.mpr fo.lt))
    have fj := fj.kept (hk _ fj.lt (Nat.not_le.mpr fj.lt))
    have fk := fk.new hk
    have fe := fe.kept (hk _ fe.lt (Nat.not_le.mpr fe.lt))
    have fr := fr.kept (hk _ fr.lt (Nat.not_le.mpr fr.lt))
    have f0w := f0w.kept (hk _ f0w.lt (Nat.not_le.mpr f0w.lt))
    obtain ⟨z9_, fl2⟩ := hR
    have s_fl2 : s.heap.size ≤ r_1 := Nat.le_trans hZ0_ z9_
    have g_fl2 := hn _ s_fl2
    have l_fo_fl2 : mo < r_1 := Nat.lt_of_lt_of_le t_fo z9_
    have l_fj_fl2 : ra < r_1 := Nat.lt_of_lt_of_le t_fj z9_
    have nW_fl2 : ∀ k, k < 6 → rt k ≠ r_1 := fun k hk9 => Nat.ne_of_lt (Nat.lt_of_lt_of_le (t_fk k hk9) z9_)
    have l_fe_fl2 : ex < r_1 := Nat.lt_of_lt_of_le t_fe z9_
    have l_fr_fl2 : ro < r_1 := Nat.lt_of_lt_of_le t_fr z9_
    have l_f0w_fl2 : rl < r_1 := Nat.lt_of_lt_of_le t_f0w z9_
    have hZ0_ := hS.1
    have t_fo := fo.lt
    have t_fj := fj.lt
    have t_fk := fun k (hk9 : k < 6) => (fk k hk9).lt
    have t_fe := fe.lt
    have t_fr := fr.lt
    have t_f0w := f0w.lt
    have t_fl2 := fl2.lt
    refine k_r (pc := 9) (k_S E hC hS hA hl.1 (c_X5_told_E l D tk N0 sa H.size r_1 0) kw_1483 kw_1484 kw_5 kw_1485 (n := 1) (by decide +kernel) rfl ⟨⟨rfl, rfl⟩, ⟨Nat.le_of_ble_eq_true rfl, Nat.le_of_ble_eq_true rfl⟩, (by dsimp only; omega), (by dsimp only; omega)⟩ rfl (Nat.le_of_ble_eq_true rfl) fl2 dX5_row_9) hS (fun q z w => absurd w (Nat.not_le.mpr z)) hn (fun r_3 H locs hR hz hk hS => ?_)
    have fw := fw.new hk
    have fo := fo.kept (hk _ fo.lt (Nat.not_le.mpr fo.lt))
    have fj := fj.kept (hk _ fj.lt (Nat.not_le.mpr fj.lt))
    have fk := fk.new hk
    have fe := fe.kept (hk _ fe.lt (Nat.not_le.mpr fe.lt))
    have fr := fr.kept (hk _ fr.lt (Nat.not_le.mpr fr.lt))
    have f0w := f0w.kept (hk _ f0w.lt (Nat.not_le.mpr f0w.lt))
    have fl2 := fl2.kept (hk _ fl2.lt (Nat.not_le.mpr fl2.lt))
    obtain ⟨n_f4, hn_f4, f4⟩ := hR
    refine r_aret (pc := 12) E hr (Or.inl ⟨_, rfl⟩) hlk hS (by omega) (by omega) ?_ dX5_row_12
    exact ⟨_, ⟨_, _, _, _, _, fo, fj, fk, fe, fr, fw, ⟨hPm, hPa, hPl, hPe, hPr, hPk⟩, hFk, hFe, hFr, hpk, hn9⟩⟩
  · rcases fw with ⟨h1r, -⟩ | ⟨mdr, br, capr, fnr, hPb, f0w, fRw, elw, hPI, hncr, hmcr⟩
    · exact absurd h1r (by omega)
    have g_f0w := hPl
    have nW_f0w : ∀ k, k < 6 → rt k ≠ rl := fun k hk9 => clA.ne (fk k hk9).cla f0w.cl (hC.ao 7 0 rfl rfl)
    have g_fRw := hPb
    have nW_fRw : ∀ k, k < 6 → rt k ≠ br := fun k hk9 => clA.ne (fk k hk9).cla fRw.cla (hC.aa 0 4 rfl rfl (by dsimp only; decide))
    have hcbr := m_acB hmcr
    refine lv_aload_n (pc := 5) hx hb dX5_row_5 rfl (lv_at hl 0 rfl) ?_
    have hZ0_ := hS.1
    have t_fo := fo.lt
    have t_fj := fj.lt
    have t_fk := fun k (hk9 : k < 6) => (fk k hk9).lt
    have t_fe := fe.lt
    have t_fr := fr.lt
    have t_f0w := f0w.lt
    have t_fRw := fRw.lt
    refine k_r (pc := 6) (k_V E hC hS hA hl.1 (c1.recv hC fo rfl) rfl (c_X5_rowNow_A l D tk N0 sa H.size mo ra rl ex ro pk br ca rf kn 0 mdr n9 capr fnr vs h0r hn9 hncr (by omega) hPI) kw_1610 kw_1612 kp_29 kw_5 kw_1613 (n := 0) (by decide +kernel) rfl ⟨⟨rfl, rfl⟩, ⟨Nat.le_of_ble_eq_true rfl, Nat.le_of_ble_eq_true rfl⟩, (by dsimp only; omega), (by dsimp only; omega)⟩ rfl (Nat.le_of_ble_eq_true rfl) ⟨fo, f0w, fRw, elw⟩ dX5_row_6) hS (fun q z w => absurd w (Nat.not_le.mpr z)) hn (fun r_5 H locs hR hz hk hS => ?_)
    have fo := fo.kept (hk _ fo.lt (Nat.not_le.mpr fo.lt))
    have fj := fj.kept (hk _ fj.lt (Nat.not_le.mpr fj.lt))
    have fk := fk.new hk
    have fe := fe.kept (hk _ fe.lt (Nat.not_le.mpr fe.lt))
    have fr := fr.kept (hk _ fr.lt (Nat.not_le.mpr fr.lt))
    have f0w := f0w.kept (hk _ f0w.lt (Nat.not_le.mpr f0w.lt))
    have fRw := fRw.kept (hk _ fRw.lt (Nat.not_le.mpr fRw.lt))
    have elw := elw.new hk
    obtain ⟨bb6, cap6, ff6, ww6, md6, zr9_, zb9_, fl6, fR6, el6, hPQ6, hlc6, hlp6⟩ := hR
    have hcb6 := m_acB hlp6
    have s_fl6 : s.heap.size ≤ r_5 := Nat.le_trans hZ0_ zr9_
    have g_fl6 := hn _ s_fl6
    have l_fo_fl6 : mo < r_5 := Nat.lt_of_lt_of_le t_fo zr9_
    have l_fj_fl6 : ra < r_5 := Nat.lt_of_lt_of_le t_fj zr9_
    have nW_fl6 : ∀ k, k < 6 → rt k ≠ r_5 := fun k hk9 => Nat.ne_of_lt (Nat.lt_of_lt_of_le (t_fk k hk9) zr9_)
    have l_fe_fl6 : ex < r_5 := Nat.lt_of_lt_of_le t_fe zr9_
    have l_fr_fl6 : ro < r_5 := Nat.lt_of_lt_of_le t_fr zr9_
    have l_f0w_fl6 : rl < r_5 := Nat.lt_of_lt_of_le t_f0w zr9_
    have l_fRw_fl6 : br < r_5 := Nat.lt_of_lt_of_le t_fRw zr9_
    have s_fR6 : s.heap.size ≤ bb6 := Nat.le_trans hZ0_ zb9_
    have g_fR6 := hn _ s_fR6
    have l_fo_fR6 : mo < bb6 := Nat.lt_of_lt_of_le t_fo zb9_
    have l_fj_fR6 : ra < bb6 := Nat.lt_of_lt_of_le t_fj zb9_
    have nW_fR6 : ∀ k, k < 6 → rt k ≠ bb6 := fun k hk9 => Nat.ne_of_lt (Nat.lt_of_lt_of_le (t_fk k hk9) zb9_)
    have l_fe_fR6 : ex < bb6 := Nat.lt_of_lt_of_le t_fe zb9_
    have l_fr_fR6 : ro < bb6 := Nat.lt_of_lt_of_le t_fr zb9_
    have l_f0w_fR6 : rl < bb6 := Nat.lt_of_lt_of_le t_f0w zb9_
    have l_fRw_fR6 : br < bb6 := Nat.lt_of_lt_of_le t_fRw zb9_
    have hZ0_ := hS.1
    have t_fo := fo.lt
    have t_fj := fj.lt
    have t_fk := fun k (hk9 : k < 6) => (fk k hk9).lt
    have t_fe := fe.lt
    have t_fr := fr.lt
    have t_f0w := f0w.lt
    have t_fRw := fRw.lt
    have t_fR6 := fR6.lt
    have t_fl6 := fl6.lt
    refine k_r (pc := 9) (k_S E hC hS hA hl.1 (c_X5_told l D tk N0 sa H.size r_5 bb6 n9 cap6 md6 ff6 ww6 (by omega) (by omega) (by omega) (hPQ6.pv hPI)) kw_1483 kw_1484 kw_5 kw_1485 (n := 1) (by decide +kernel) rfl ⟨⟨rfl, rfl⟩, ⟨Nat.le_of_ble_eq_true rfl, Nat.le_of_ble_eq_true rfl⟩, (by dsimp only; omega), (by dsimp only; omega)⟩ rfl (Nat.le_of_ble_eq_true rfl) ⟨fl6, fR6, el6⟩ dX5_row_9) hS (fun q z w => absurd w (Nat.not_le.mpr z)) hn (fun r_7 H locs hR hz hk hS => ?_)
    have fo := fo.kept (hk _ fo.lt (Nat.not_le.mpr fo.lt))
    have fj := fj.kept (hk _ fj.lt (Nat.not_le.mpr fj.lt))
    have fk := fk.new hk
    have fe := fe.kept (hk _ fe.lt (Nat.not_le.mpr fe.lt))
    have fr := fr.kept (hk _ fr.lt (Nat.not_le.mpr fr.lt))
    have f0w := f0w.kept (hk _ f0w.lt (Nat.not_le.mpr f0w.lt))
    have fRw := fRw.kept (hk _ fRw.lt (Nat.not_le.mpr fRw.lt))
    have elw := elw.new hk
    have fR6 := fR6.kept (hk _ fR6.lt (Nat.not_le.mpr fR6.lt))
    have fl6 := fl6.kept (hk _ fl6.lt (Nat.not_le.mpr fl6.lt))
    have el6 := el6.new hk
    obtain ⟨n_f8, hn_f8, f8⟩ := hR
    refine r_aret (pc := 12) E hr (Or.inl ⟨_, rfl⟩) hlk hS (by omega) (by omega) ?_ dX5_row_12
    exact ⟨_, ⟨_, _, _, _, _, fo, fj, fk, fe, fr, (Or.inr ⟨_, _, _, _, hPb, f0w, fRw, elw, hPI, hncr, hmcr⟩), ⟨hPm, hPa, hPl, hPe, hPr, hPk⟩, hFk, hFe, hFr, hpk, hn9⟩⟩
set_option maxHeartbeats 4000000 in
set_option maxRecDepth 100000 in
/-- BestratiosModel.fold(I)I -/
theorem c_X5_fold (l : Launch) (D : va_G) (tk : Nat → ClassId) (N0 : Nat) (sa : Nat → Nat)  (sz : Nat) (P : Nat → Prop) (hPN : ∀ q, P q → N0 ≤ q) (hPs : ∀ q, sz ≤ q → P q) (mo n9 : Nat) (kn th : Int32) (tt bb : Nat → Int64) (eT eB oT oB : Int64) (pk : Nat) (ca rf : Int32) (vs : Nat → Value) (x1 : Int32) : Met l yX5_fold (wsy yX5_fold cX5_fold 4 (some .int)) ({ frames := 8, cells := 24, slots := 162, locals := 180 } : Room) (cP D tk N0 sa [.ref mo, .int x1] sz (fun H => MI D tk sa P mo tt bb eT eB oT oB pk ca rf vs kn n9 th H)) (kQi (fun r H => ∃ th1 tt1 bb1 rf1 o, MI D tk sa P mo tt1 bb1 eT eB oT oB pk ca rf1 vs kn n9 th1 H ∧ AC (m_isNo x1) 0 tt bb rf (nn x1) o r th1 tt1 bb1 rf1 ∧ (m_fl (m_isNo x1) 0 = 0 → m_FO n9 vs o)) (P)) (24) (162) (P) := by
  refine mStart RX5 rfl (by decide +kernel) (Nat.le_of_ble_eq_true rfl) ?_
  intro p e s m args below meth c E hr hlk hnm hsz hC hF ls hl
  subst hsz
  obtain ⟨hx, hb, -⟩ := id E
  have hA : ∀ q, (P) q → N0 ≤ q := hPN
  have hn : ∀ q, s.heap.size ≤ q → (P) q := hPs
  have hS : va_S (P) s.heap s.heap [] := va_S.rf
  have hl : lv_has ls 4 [(0, .ref mo), (1, .int x1)] := hl
  obtain ⟨Q, hQ⟩ : ∃ Q, Q = MQ below (kQi (fun r H => ∃ th1 tt1 bb1 rf1 o, MI D tk sa P mo tt1 bb1 eT eB oT oB pk ca rf1 vs kn n9 th1 H ∧ AC (m_isNo x1) 0 tt bb rf (nn x1) o r th1 tt1 bb1 rf1 ∧ (m_fl (m_isNo x1) 0 = 0 → m_FO n9 vs o)) (P)) args s (24) (162) (P) := ⟨_, rfl⟩
  rw [← hQ]
  have hM : MI D tk sa P mo tt bb eT eB oT oB pk ca rf vs kn n9 th s.heap := hF
  obtain ⟨ra, rl, ex, ro, rt, fo, fj, fk, fe, fr, fw, ⟨hPm, hPa, hPl, hPe, hPr, hPk⟩, hFk, hFe, hFr, hpk, hn9⟩ := hM
  have g_fo := hPm
  have g_fj := hPa
  refine lv_aload_n (pc := 0) hx hb dX5_fold_0 rfl (lv_at hl 0 rfl) ?_
  refine lv_iload_n (pc := 1) hx hb dX5_fold_1 rfl (lv_at hl 1 rfl) ?_
  refine k_i (pc := 2) (k_S E hC hS hA hl.1 (c_X5_isNo l D tk N0 sa s.heap.size x1 ) kw_1245 kw_1246 kw_5 kw_1247 (n := 1) (by decide +kernel) rfl ⟨⟨rfl, rfl⟩, ⟨Nat.le_of_ble_eq_true rfl, Nat.le_of_ble_eq_true rfl⟩, (by dsimp only; omega), (by dsimp only; omega)⟩ rfl (Nat.le_of_ble_eq_true rfl) trivial dX5_fold_2) hS (fun q z w => absurd w (Nat.not_le.mpr z)) hn (fun r_1 H locs hR hz hk hS => ?_)
  have er_1 := hR
  have fw := fw.new hk
  have fo := fo.kept (hk _ fo.lt (Nat.not_le.mpr fo.lt))
  have fj := fj.kept (hk _ fj.lt (Nat.not_le.mpr fj.lt))
  have fk := fk.new hk
  have fe := fe.kept (hk _ fe.lt (Nat.not_le.mpr fe.lt))
  have fr := fr.kept (hk _ fr.lt (Nat.not_le.mpr fr.lt))
  refine lv_iconst (pc := 5) (v := 0) hx hb dX5_fold_5 (by decide) ?_
  have hZ0_ := hS.1
  have t_fo := fo.lt
  have t_fj := fj.lt
  have t_fk := fun k (hk9 : k < 6) => (fk k hk9).lt
  have t_fe := fe.lt
  have t_fr := fr.lt
  refine k_i (pc := 6) (k_V E hC hS hA hl.1 (c1.recv hC fo rfl) rfl (c_X5_fails l D tk N0 sa H.size P hPN (fun q h9 => hPs q (Nat.le_trans hS.1 h9)) mo n9 kn th tt bb eT eB oT oB pk ca rf vs r_1 0 ) kw_1251 kw_1253 kp_20 kw_5 kw_1254 (n := 2) (by decide +kernel) rfl ⟨⟨rfl, rfl⟩, ⟨Nat.le_of_ble_eq_true rfl, Nat.le_of_ble_eq_true rfl⟩, (by dsimp only; omega), (by dsimp only; omega)⟩ rfl (Nat.le_of_ble_eq_true rfl) ⟨_, _, _, _, _, fo, fj, fk, fe, fr, fw, ⟨hPm, hPa, hPl, hPe, hPr, hPk⟩, hFk, hFe, hFr, hpk, hn9⟩ dX5_fold_6) hS (fun q _ h => h) hn (fun r_3 H locs hR hz hk hS => ?_)
  obtain ⟨er_3, hM⟩ := hR
  obtain ⟨ra, rl, ex, ro, rt, fo, fj, fk, fe, fr, fw, ⟨hPm, hPa, hPl, hPe, hPr, hPk⟩, hFk, hFe, hFr, hpk, hn9⟩ := hM
  have g_fo := hPm
  have g_fj := hPa
  refine lv_if_eq (pc := 9) (tgt := 14) hx hb dX5_fold_9 (by decide) (fun c_4 => ?_) (fun c_4 => ?_)
  · rcases Nat.eq_zero_or_pos n9 with h0r | h0r
    · subst h0r
      obtain ⟨mdr, br, f0w⟩ := fw.obj
      refine lv_aload_n (pc := 14) hx hb dX5_fold_14 rfl (lv_at hl 0 rfl) ?_
      refine r_get (pc := 15) E hC fo 1 (v := .ref rl) rfl rfl (by decide) uX5 (List.mem_cons_of_mem _ kw_1210) (fun _ h => h) dX5_fold_15 ?_
      obtain ⟨md_5, b_5, fz5⟩ := fw.obj
      refine k_i (pc := 18) (k_V E hC hS hA hl.1 (c1.recv hC fz5 rfl) rfl (c_Jx4a65c_size_8abf5 l D tk N0 sa H.size rl b_5 0 md_5) kw_1546 kw_1547 kw_1548 kw_8 kw_1549 (n := 0) (by decide +kernel) rfl ⟨⟨rfl, rfl⟩, ⟨Nat.le_of_ble_eq_true rfl, Nat.le_of_ble_eq_true rfl⟩, (by dsimp only; omega), (by dsimp only; omega)⟩ rfl (Nat.le_of_ble_eq_true rfl) (by exact fz5) dX5_fold_18) hS (fun q z w => absurd w (Nat.not_le.mpr z)) hn (fun r_6 H locs hR hz hk hS => ?_)
      have fw := fw.new hk
      have fo := fo.kept (hk _ fo.lt (Nat.not_le.mpr fo.lt))
      have fj := fj.kept (hk _ fj.lt (Nat.not_le.mpr fj.lt))
      have fk := fk.new hk
      have fe := fe.kept (hk _ fe.lt (Nat.not_le.mpr fe.lt))
      have fr := fr.kept (hk _ fr.lt (Nat.not_le.mpr fr.lt))
      have f0w := f0w.kept (hk _ f0w.lt (Nat.not_le.mpr f0w.lt))
      have fz5 := fz5.kept (hk _ fz5.lt (Nat.not_le.mpr fz5.lt))
      rw [show r_6 = 0 from hR.trans nI_0]
      refine lv_if_le (pc := 21) (tgt := 28) hx hb dX5_fold_21 (by decide) (fun c_7 => ?_) (fun c_7 => ?_)
      rotate_left
      · exact absurd (by decide) c_7
      refine lv_iconst (pc := 28) (v := 0) hx hb dX5_fold_28 (by decide) ?_
      refine lv_istore_n (pc := 29) (lv' := [(2, .int 0), (0, .ref mo), (1, .int x1)]) hx hb dX5_fold_29 rfl hl (by decide) rfl (fun ls hl => ?_)
      refine lv_iconst (pc := 30) (v := 1) hx hb dX5_fold_30 (by decide) ?_
      refine lv_istore_n (pc := 31) (lv' := [(3, .int 1), (2, .int 0), (0, .ref mo), (1, .int x1)]) hx hb dX5_fold_31 rfl hl (by decide) rfl (fun ls hl => ?_)
      refine lv_iload_n (pc := 32) hx hb dX5_fold_32 rfl (lv_at hl 0 rfl) ?_
      refine lv_aload_n (pc := 33) hx hb dX5_fold_33 rfl (lv_at hl 2 rfl) ?_
      refine r_get (pc := 34) E hC fo 1 (v := .ref rl) rfl rfl (by decide) uX5 (List.mem_cons_of_mem _ kw_1210) (fun _ h => h) dX5_fold_34 ?_
      obtain ⟨md_8, b_8, fz8⟩ := fw.obj
      refine k_i (pc := 37) (k_V E hC hS hA hl.1 (c1.recv hC fz8 rfl) rfl (c_Jx4a65c_size_8abf5 l D tk N0 sa H.size rl b_8 0 md_8) kw_1546 kw_1547 kw_1548 kw_8 kw_1549 (n := 0) (by decide +kernel) rfl ⟨⟨rfl, rfl⟩, ⟨Nat.le_of_ble_eq_true rfl, Nat.le_of_ble_eq_true rfl⟩, (by dsimp only; omega), (by dsimp only; omega)⟩ rfl (Nat.le_of_ble_eq_true rfl) (by exact fz8) dX5_fold_37) hS (fun q z w => absurd w (Nat.not_le.mpr z)) hn (fun r_9 H locs hR hz hk hS => ?_)
      have fw := fw.new hk
      have fo := fo.kept (hk _ fo.lt (Nat.not_le.mpr fo.lt))
      have fj := fj.kept (hk _ fj.lt (Nat.not_le.mpr fj.lt))
      have fk := fk.new hk
      have fe := fe.kept (hk _ fe.lt (Nat.not_le.mpr fe.lt))
      have fr := fr.kept (hk _ fr.lt (Nat.not_le.mpr fr.lt))
      have f0w := f0w.kept (hk _ f0w.lt (Nat.not_le.mpr f0w.lt))
      have fz5 := fz5.kept (hk _ fz5.lt (Nat.not_le.mpr fz5.lt))
      have fz8 := fz8.kept (hk _ fz8.lt (Nat.not_le.mpr fz8.lt))
      rw [show r_9 = 0 from hR.trans nI_0]
      refine lv_icmp_ge (pc := 40) (tgt := 75) hx hb dX5_fold_40 (by decide) (fun c_10 => ?_) (fun c_10 => ?_)
      rotate_left
      · exact absurd (by decide) c_10
      refine lv_aload_n (pc := 75) hx hb dX5_fold_75 rfl (lv_at hl 2 rfl) ?_
      refine lv_iload_n (pc := 76) hx hb dX5_fold_76 rfl (lv_at hl 3 rfl) ?_
      refine lv_iload_n (pc := 77) hx hb dX5_fold_77 rfl (lv_at hl 1 rfl) ?_
      refine lv_if_eq (pc := 78) (tgt := 98) hx hb dX5_fold_78 (by decide) (fun c_11 => ?_) (fun c_11 => ?_)
      rotate_left
      · exact absurd (by decide) c_11
      refine lv_null (pc := 98) hx hb dX5_fold_98 ?_
      have hZ0_ := hS.1
      have t_fo := fo.lt
      have t_fj := fj.lt
      have t_fk := fun k (hk9 : k < 6) => (fk k hk9).lt
      have t_fe := fe.lt
      have t_fr := fr.lt
      have t_f0w := f0w.lt
      have t_fz5 := fz5.lt
      have t_fz8 := fz8.lt
      obtain ⟨hx_12, hk_12⟩ := m_noN (er_1.symm.trans (m_fl0 (er_3.symm.trans c_4)).1)
      refine k_i (pc := 99) (k_V E hC hS hA hl.1 (c1.recv hC fo rfl) rfl (c_X5_become_N l D tk N0 sa H.size P hPN (fun q h9 => hPs q (Nat.le_trans hS.1 h9)) mo 0 kn ((m_th r_1 0)) tt bb eT eB oT oB pk ca rf vs x1 (nn x1) hx_12 hk_12 ) kw_1255 kw_1257 kp_21 kw_5 kw_1258 (n := 2) (by decide +kernel) rfl ⟨⟨rfl, rfl⟩, ⟨Nat.le_of_ble_eq_true rfl, Nat.le_of_ble_eq_true rfl⟩, (by dsimp only; omega), (by dsimp only; omega)⟩ rfl (Nat.le_of_ble_eq_true rfl) ⟨_, _, _, _, _, fo, fj, fk, fe, fr, fw, ⟨hPm, hPa, hPl, hPe, hPr, hPk⟩, hFk, hFe, hFr, hpk, hn9⟩ dX5_fold_99) hS (fun q _ h => h) hn (fun r_13 H locs hR hz hk hS => ?_)
      obtain ⟨tt_14, bb_14, rf_14, hM, hBE_14⟩ := hR
      obtain ⟨ra, rl, ex, ro, rt, fo, fj, fk, fe, fr, fw, ⟨hPm, hPa, hPl, hPe, hPr, hPk⟩, hFk, hFe, hFr, hpk, hn9⟩ := hM
      have g_fo := hPm
      have g_fj := hPa
      try rw [hQ]
      refine r_iret (pc := 102) E hr hlk hS (by omega) (by omega) ?_ dX5_fold_102
      exact ⟨_, _, _, _, _, ⟨_, _, _, _, _, fo, fj, fk, fe, fr, fw, ⟨hPm, hPa, hPl, hPe, hPr, hPk⟩, hFk, hFe, hFr, hpk, hn9⟩, AC.ok (by subst er_1 er_3; first | rfl | (simp [m_or, m_not, m_is0, m_lt0, m_fl, c_4]; done)) (by subst er_1 er_3; first | rfl | (simp [m_or, m_not, m_is0, m_lt0, m_fl, c_4]; done)) (er_3.symm.trans c_4) hBE_14, fun _ => Or.inl ⟨rfl, rfl⟩⟩
    · rcases fw with ⟨h1r, -⟩ | ⟨mdr, br, capr, fnr, hPb, f0w, fRw, elw, hPI, hncr, hmcr⟩
      · exact absurd h1r (by omega)
      have g_f0w := hPl
      have nW_f0w : ∀ k, k < 6 → rt k ≠ rl := fun k hk9 => clA.ne (fk k hk9).cla f0w.cl (hC.ao 7 0 rfl rfl)
      have g_fRw := hPb
      have nW_fRw : ∀ k, k < 6 → rt k ≠ br := fun k hk9 => clA.ne (fk k hk9).cla fRw.cla (hC.aa 0 4 rfl rfl (by dsimp only; decide))
      have hcbr := m_acB hmcr
      refine lv_aload_n (pc := 14) hx hb dX5_fold_14 rfl (lv_at hl 0 rfl) ?_
      refine r_get (pc := 15) E hC fo 1 (v := .ref rl) rfl rfl (by decide) uX5 (List.mem_cons_of_mem _ kw_1210) (fun _ h => h) dX5_fold_15 ?_
      refine k_i (pc := 18) (k_V E hC hS hA hl.1 (c1.recv hC f0w rfl) rfl (c_Jx4a65c_size_8abf5 l D tk N0 sa H.size rl br n9 mdr) kw_1546 kw_1547 kw_1548 kw_8 kw_1549 (n := 0) (by decide +kernel) rfl ⟨⟨rfl, rfl⟩, ⟨Nat.le_of_ble_eq_true rfl, Nat.le_of_ble_eq_true rfl⟩, (by dsimp only; omega), (by dsimp only; omega)⟩ rfl (Nat.le_of_ble_eq_true rfl) f0w dX5_fold_18) hS (fun q z w => absurd w (Nat.not_le.mpr z)) hn (fun r_15 H locs hR hz hk hS => ?_)
      have fo := fo.kept (hk _ fo.lt (Nat.not_le.mpr fo.lt))
      have fj := fj.kept (hk _ fj.lt (Nat.not_le.mpr fj.lt))
      have fk := fk.new hk
      have fe := fe.kept (hk _ fe.lt (Nat.not_le.mpr fe.lt))
      have fr := fr.kept (hk _ fr.lt (Nat.not_le.mpr fr.lt))
      have f0w := f0w.kept (hk _ f0w.lt (Nat.not_le.mpr f0w.lt))
      have fRw := fRw.kept (hk _ fRw.lt (Nat.not_le.mpr fRw.lt))
      have elw := elw.new hk
      rw [show r_15 = nI n9 from hR]
      refine lv_if_le (pc := 21) (tgt := 28) hx hb dX5_fold_21 (by decide) (fun c_16 => ?_) (fun c_16 => ?_)
      · exact absurd (m_nle0 (by omega) c_16) (by omega)
      refine lv_iconst (pc := 24) (v := 1) hx hb dX5_fold_24 (by decide) ?_
      refine lv_goto (pc := 25) (tgt := 29) hx hb dX5_fold_25 (by decide) ?_
      refine lv_istore_n (pc := 29) (lv' := [(2, .int 1), (0, .ref mo), (1, .int x1)]) hx hb dX5_fold_29 rfl hl (by decide) rfl (fun ls hl => ?_)
      refine lv_iconst (pc := 30) (v := 1) hx hb dX5_fold_30 (by decide) ?_
      refine lv_istore_n (pc := 31) (lv' := [(3, .int 1), (2, .int 1), (0, .ref mo), (1, .int x1)]) hx hb dX5_fold_31 rfl hl (by decide) rfl (fun ls hl => ?_)
      have loop_32 : ∀ (n : Nat) (k : Nat)(u9 : Int32) (y9 : Int32), 17 - k < n → 1 ≤ k ∧ k ≤ n9 → y9 = nI k → m_isz vs k u9 → ∀ (H : Heap) (locs : List Loc) (ls : Array Slot), va_S (P) s.heap H locs → c1 D mo (.inr (13, [.ref ra, .ref rl, .ref ex, .ref ro, .int (nI pk), .int ca, .int rf, .int kn, .int ((m_th r_1 0))])) H → c1 D ra (.inl (tk 3, 6, .inr (.inr (.inr (.inr (fun k => some (rt k))))))) H → MK D tk rt tt bb H → L2 D tk ex eT eB H → L2 D tk ro oT oB H → c1 D rl (.inr (7, [.int mdr, .ref br, .int (nI n9)])) H → c1 D br (.inl (tk 4, capr, .inr (.inr (.inr (.inr (fnr)))))) H → EL D 2 n9 fnr vs H → lv_has ls 4 [(0, .ref mo), (1, .int x1), (2, .int u9), (3, .int y9)] → W p l e ({ frames := 8, cells := 24, slots := 162, locals := 180 } : Room) s m args below meth c H locs (0) (0) Q (F0 m 32 ls []) := by
        intro n
        induction n with
        | zero =>
          intro k u9 y9 hf9 hk9 hx9 hz9 H locs ls hS fo fj fk fe fr f0w fRw elw hl
          omega
        | succ n ih_32 =>
          intro k u9 y9 hf9 hk9 hx9 hz9 H locs ls hS fo fj fk fe fr f0w fRw elw hl
          refine lv_iload_n (pc := 32) hx hb dX5_fold_32 rfl (lv_at hl 3 rfl) ?_
          refine lv_aload_n (pc := 33) hx hb dX5_fold_33 rfl (lv_at hl 0 rfl) ?_
          refine r_get (pc := 34) E hC fo 1 (v := .ref rl) rfl rfl (by decide) uX5 (List.mem_cons_of_mem _ kw_1210) (fun _ h => h) dX5_fold_34 ?_
          refine k_i (pc := 37) (k_V E hC hS hA hl.1 (c1.recv hC f0w rfl) rfl (c_Jx4a65c_size_8abf5 l D tk N0 sa H.size rl br n9 mdr) kw_1546 kw_1547 kw_1548 kw_8 kw_1549 (n := 0) (by decide +kernel) rfl ⟨⟨rfl, rfl⟩, ⟨Nat.le_of_ble_eq_true rfl, Nat.le_of_ble_eq_true rfl⟩, (by dsimp only; omega), (by dsimp only; omega)⟩ rfl (Nat.le_of_ble_eq_true rfl) f0w dX5_fold_37) hS (fun q z w => absurd w (Nat.not_le.mpr z)) hn (fun r_17 H locs hR hz hk hS => ?_)
          have fo := fo.kept (hk _ fo.lt (Nat.not_le.mpr fo.lt))
          have fj := fj.kept (hk _ fj.lt (Nat.not_le.mpr fj.lt))
          have fk := fk.new hk
          have fe := fe.kept (hk _ fe.lt (Nat.not_le.mpr fe.lt))
          have fr := fr.kept (hk _ fr.lt (Nat.not_le.mpr fr.lt))
          have f0w := f0w.kept (hk _ f0w.lt (Nat.not_le.mpr f0w.lt))
          have fRw := fRw.kept (hk _ fRw.lt (Nat.not_le.mpr fRw.lt))
          have elw := elw.new hk
          rw [show r_17 = nI n9 from hR]
          refine lv_icmp_ge (pc := 40) (tgt := 75) hx hb dX5_fold_40 (by decide) (fun c_18 => ?_) (fun c_18 => ?_)
          · refine lv_aload_n (pc := 75) hx hb dX5_fold_75 rfl (lv_at hl 0 rfl) ?_
            refine lv_iload_n (pc := 76) hx hb dX5_fold_76 rfl (lv_at hl 1 rfl) ?_
            refine lv_iload_n (pc := 77) hx hb dX5_fold_77 rfl (lv_at hl 2 rfl) ?_
            refine lv_if_eq (pc := 78) (tgt := 98) hx hb dX5_fold_78 (by decide) (fun c_19 => ?_) (fun c_19 => ?_)
            · have hkn9 : n9 ≤ k := Nat.not_lt.mp (fun z9 => absurd (nI_lt z9 (by omega)) (Int32.not_lt.mpr (by have h9 := c_18; rw [hx9] at h9; exact h9)))
              refine lv_null (pc := 98) hx hb dX5_fold_98 ?_
              have hZ0_ := hS.1
              have t_fo := fo.lt
              have t_fj := fj.lt
              have t_fk := fun k (hk9 : k < 6) => (fk k hk9).lt
              have t_fe := fe.lt
              have t_fr := fr.lt
              have t_f0w := f0w.lt
              have t_fRw := fRw.lt
              obtain ⟨hx_20, hk_20⟩ := m_noN (er_1.symm.trans (m_fl0 (er_3.symm.trans c_4)).1)
              refine k_i (pc := 99) (k_V E hC hS hA hl.1 (c1.recv hC fo rfl) rfl (c_X5_become_N l D tk N0 sa H.size P hPN (fun q h9 => hPs q (Nat.le_trans hS.1 h9)) mo n9 kn ((m_th r_1 0)) tt bb eT eB oT oB pk ca rf vs x1 (nn x1) hx_20 hk_20 ) kw_1255 kw_1257 kp_21 kw_5 kw_1258 (n := 2) (by decide +kernel) rfl ⟨⟨rfl, rfl⟩, ⟨Nat.le_of_ble_eq_true rfl, Nat.le_of_ble_eq_true rfl⟩, (by dsimp only; omega), (by dsimp only; omega)⟩ rfl (Nat.le_of_ble_eq_true rfl) ⟨_, _, _, _, _, fo, fj, fk, fe, fr, (Or.inr ⟨_, _, _, _, hPb, f0w, fRw, elw, hPI, hncr, hmcr⟩), ⟨hPm, hPa, hPl, hPe, hPr, hPk⟩, hFk, hFe, hFr, hpk, hn9⟩ dX5_fold_99) hS (fun q _ h => h) hn (fun r_21 H locs hR hz hk hS => ?_)
              obtain ⟨tt_22, bb_22, rf_22, hM, hBE_22⟩ := hR
              obtain ⟨ra, rl, ex, ro, rt, fo, fj, fk, fe, fr, fw, ⟨hPm, hPa, hPl, hPe, hPr, hPk⟩, hFk, hFe, hFr, hpk, hn9⟩ := hM
              have g_fo := hPm
              have g_fj := hPa
              try rw [hQ]
              refine r_iret (pc := 102) E hr hlk hS (by omega) (by omega) ?_ dX5_fold_102
              exact ⟨_, _, _, _, _, ⟨_, _, _, _, _, fo, fj, fk, fe, fr, fw, ⟨hPm, hPa, hPl, hPe, hPr, hPk⟩, hFk, hFe, hFr, hpk, hn9⟩, AC.ok (by subst er_1 er_3; first | rfl | (simp [m_or, m_not, m_is0, m_lt0, m_fl, c_4, c_18, Int32.not_lt.mpr c_18, c_19]; done)) (by subst er_1 er_3; first | rfl | (simp [m_or, m_not, m_is0, m_lt0, m_fl, c_4, c_18, Int32.not_lt.mpr c_18, c_19]; done)) (er_3.symm.trans c_4) hBE_22, fun _ => m_isz.fo0 (by rw [show n9 = k by omega]; exact hz9) c_19 (by omega)⟩
            · refine lv_aload_n (pc := 81) hx hb dX5_fold_81 rfl (lv_at hl 0 rfl) ?_
              have hkn9 : n9 ≤ k := Nat.not_lt.mp (fun z9 => absurd (nI_lt z9 (by omega)) (Int32.not_lt.mpr (by have h9 := c_18; rw [hx9] at h9; exact h9)))
              have hZ0_ := hS.1
              have t_fo := fo.lt
              have t_fj := fj.lt
              have t_fk := fun k (hk9 : k < 6) => (fk k hk9).lt
              have t_fe := fe.lt
              have t_fr := fr.lt
              have t_f0w := f0w.lt
              have t_fRw := fRw.lt
              refine k_r (pc := 82) (k_V E hC hS hA hl.1 (c1.recv hC fo rfl) rfl (c_X5_rowNow_A l D tk N0 sa H.size mo ra rl ex ro pk br ca rf kn ((m_th r_1 0)) mdr n9 capr fnr vs h0r hn9 hncr (by omega) hPI) kw_1610 kw_1612 kp_29 kw_5 kw_1613 (n := 0) (by decide +kernel) rfl ⟨⟨rfl, rfl⟩, ⟨Nat.le_of_ble_eq_true rfl, Nat.le_of_ble_eq_true rfl⟩, (by dsimp only; omega), (by dsimp only; omega)⟩ rfl (Nat.le_of_ble_eq_true rfl) ⟨fo, f0w, fRw, elw⟩ dX5_fold_82) hS (fun q z w => absurd w (Nat.not_le.mpr z)) hn (fun r_23 H locs hR hz hk hS => ?_)
              have fo := fo.kept (hk _ fo.lt (Nat.not_le.mpr fo.lt))
              have fj := fj.kept (hk _ fj.lt (Nat.not_le.mpr fj.lt))
              have fk := fk.new hk
              have fe := fe.kept (hk _ fe.lt (Nat.not_le.mpr fe.lt))
              have fr := fr.kept (hk _ fr.lt (Nat.not_le.mpr fr.lt))
              have f0w := f0w.kept (hk _ f0w.lt (Nat.not_le.mpr f0w.lt))
              have fRw := fRw.kept (hk _ fRw.lt (Nat.not_le.mpr fRw.lt))
              have elw := elw.new hk
              obtain ⟨bb24, cap24, ff24, ww24, md24, zr9_, zb9_, fl24, fR24, el24, hPQ24, hlc24, hlp24⟩ := hR
              have hcb24 := m_acB hlp24
              have s_fl24 : s.heap.size ≤ r_23 := Nat.le_trans hZ0_ zr9_
              have g_fl24 := hn _ s_fl24
              have l_fo_fl24 : mo < r_23 := Nat.lt_of_lt_of_le t_fo zr9_
              have l_fj_fl24 : ra < r_23 := Nat.lt_of_lt_of_le t_fj zr9_
              have nW_fl24 : ∀ k, k < 6 → rt k ≠ r_23 := fun k hk9 => Nat.ne_of_lt (Nat.lt_of_lt_of_le (t_fk k hk9) zr9_)
              have l_fe_fl24 : ex < r_23 := Nat.lt_of_lt_of_le t_fe zr9_
              have l_fr_fl24 : ro < r_23 := Nat.lt_of_lt_of_le t_fr zr9_
              have l_f0w_fl24 : rl < r_23 := Nat.lt_of_lt_of_le t_f0w zr9_
              have l_fRw_fl24 : br < r_23 := Nat.lt_of_lt_of_le t_fRw zr9_
              have s_fR24 : s.heap.size ≤ bb24 := Nat.le_trans hZ0_ zb9_
              have g_fR24 := hn _ s_fR24
              have l_fo_fR24 : mo < bb24 := Nat.lt_of_lt_of_le t_fo zb9_
              have l_fj_fR24 : ra < bb24 := Nat.lt_of_lt_of_le t_fj zb9_
              have nW_fR24 : ∀ k, k < 6 → rt k ≠ bb24 := fun k hk9 => Nat.ne_of_lt (Nat.lt_of_lt_of_le (t_fk k hk9) zb9_)
              have l_fe_fR24 : ex < bb24 := Nat.lt_of_lt_of_le t_fe zb9_
              have l_fr_fR24 : ro < bb24 := Nat.lt_of_lt_of_le t_fr zb9_
              have l_f0w_fR24 : rl < bb24 := Nat.lt_of_lt_of_le t_f0w zb9_
              have l_fRw_fR24 : br < bb24 := Nat.lt_of_lt_of_le t_fRw zb9_
              refine lv_aload_n (pc := 85) hx hb dX5_fold_85 rfl (lv_at hl 0 rfl) ?_
              refine r_get (pc := 86) E hC fo 1 (v := .ref rl) rfl rfl (by decide) uX5 (List.mem_cons_of_mem _ kw_1210) (fun _ h => h) dX5_fold_86 ?_
              refine k_i (pc := 89) (k_V E hC hS hA hl.1 (c1.recv hC f0w rfl) rfl (c_Jx4a65c_size_8abf5 l D tk N0 sa H.size rl br n9 mdr) kw_1546 kw_1547 kw_1548 kw_8 kw_1549 (n := 0) (by decide +kernel) rfl ⟨⟨rfl, rfl⟩, ⟨Nat.le_of_ble_eq_true rfl, Nat.le_of_ble_eq_true rfl⟩, (by dsimp only; omega), (by dsimp only; omega)⟩ rfl (Nat.le_of_ble_eq_true rfl) f0w dX5_fold_89) hS (fun q z w => absurd w (Nat.not_le.mpr z)) hn (fun r_25 H locs hR hz hk hS => ?_)
              have fo := fo.kept (hk _ fo.lt (Nat.not_le.mpr fo.lt))
              have fj := fj.kept (hk _ fj.lt (Nat.not_le.mpr fj.lt))
              have fk := fk.new hk
              have fe := fe.kept (hk _ fe.lt (Nat.not_le.mpr fe.lt))
              have fr := fr.kept (hk _ fr.lt (Nat.not_le.mpr fr.lt))
              have f0w := f0w.kept (hk _ f0w.lt (Nat.not_le.mpr f0w.lt))
              have fRw := fRw.kept (hk _ fRw.lt (Nat.not_le.mpr fRw.lt))
              have elw := elw.new hk
              have fR24 := fR24.kept (hk _ fR24.lt (Nat.not_le.mpr fR24.lt))
              have fl24 := fl24.kept (hk _ fl24.lt (Nat.not_le.mpr fl24.lt))
              have el24 := el24.new hk
              rw [show r_25 = nI n9 from hR]
              have hZ0_ := hS.1
              have t_fo := fo.lt
              have t_fj := fj.lt
              have t_fk := fun k (hk9 : k < 6) => (fk k hk9).lt
              have t_fe := fe.lt
              have t_fr := fr.lt
              have t_f0w := f0w.lt
              have t_fRw := fRw.lt
              have t_fR24 := fR24.lt
              have t_fl24 := fl24.lt
              refine k_o (pc := 92) (k_S E hC hS hA hl.1 (c_X5_folded l D tk N0 sa H.size r_23 bb24 n9 cap24 md24 (nI n9) ff24 ww24 n9 _ (by omega) (by omega) rfl (by omega) (by omega) (hPQ24.pf hPI (fun i g1 g2 => (hz9.resolve_left (fun q9 => c_19 q9.1)).2 i g1 (by omega))) hPQ24.rw) kw_1566 kw_1567 kw_5 kw_1568 (n := 2) (by decide +kernel) rfl ⟨⟨rfl, rfl⟩, ⟨Nat.le_of_ble_eq_true rfl, Nat.le_of_ble_eq_true rfl⟩, (by dsimp only; omega), (by dsimp only; omega)⟩ rfl (Nat.le_of_ble_eq_true rfl) ⟨fl24, fR24, el24⟩ dX5_fold_92) hS (fun q z w => absurd w (Nat.not_le.mpr z)) hn (fun r_26 H locs hR hz hk hS => ?_)
              have fo := fo.kept (hk _ fo.lt (Nat.not_le.mpr fo.lt))
              have fj := fj.kept (hk _ fj.lt (Nat.not_le.mpr fj.lt))
              have fk := fk.new hk
              have fe := fe.kept (hk _ fe.lt (Nat.not_le.mpr fe.lt))
              have fr := fr.kept (hk _ fr.lt (Nat.not_le.mpr fr.lt))
              have f0w := f0w.kept (hk _ f0w.lt (Nat.not_le.mpr f0w.lt))
              have fRw := fRw.kept (hk _ fRw.lt (Nat.not_le.mpr fRw.lt))
              have elw := elw.new hk
              have fR24 := fR24.kept (hk _ fR24.lt (Nat.not_le.mpr fR24.lt))
              have fl24 := fl24.kept (hk _ fl24.lt (Nat.not_le.mpr fl24.lt))
              have el24 := el24.new hk
              rcases hR with ⟨rfl, hv_f27⟩ | ⟨q_f27, tt_f27, bb_f27, rfl, z9_, f27, hb_f27, hv_f27⟩
              · refine lv_goto (pc := 95) (tgt := 99) hx hb dX5_fold_95 (by decide) ?_
                have hZ0_ := hS.1
                have t_fo := fo.lt
                have t_fj := fj.lt
                have t_fk := fun k (hk9 : k < 6) => (fk k hk9).lt
                have t_fe := fe.lt
                have t_fr := fr.lt
                have t_f0w := f0w.lt
                have t_fRw := fRw.lt
                have t_fR24 := fR24.lt
                have t_fl24 := fl24.lt
                obtain ⟨hx_28, hk_28⟩ := m_noN (er_1.symm.trans (m_fl0 (er_3.symm.trans c_4)).1)
                refine k_i (pc := 99) (k_V E hC hS hA hl.1 (c1.recv hC fo rfl) rfl (c_X5_become_N l D tk N0 sa H.size P hPN (fun q h9 => hPs q (Nat.le_trans hS.1 h9)) mo n9 kn ((m_th r_1 0)) tt bb eT eB oT oB pk ca rf vs x1 (nn x1) hx_28 hk_28 ) kw_1255 kw_1257 kp_21 kw_5 kw_1258 (n := 2) (by decide +kernel) rfl ⟨⟨rfl, rfl⟩, ⟨Nat.le_of_ble_eq_true rfl, Nat.le_of_ble_eq_true rfl⟩, (by dsimp only; omega), (by dsimp only; omega)⟩ rfl (Nat.le_of_ble_eq_true rfl) ⟨_, _, _, _, _, fo, fj, fk, fe, fr, (Or.inr ⟨_, _, _, _, hPb, f0w, fRw, elw, hPI, hncr, hmcr⟩), ⟨hPm, hPa, hPl, hPe, hPr, hPk⟩, hFk, hFe, hFr, hpk, hn9⟩ dX5_fold_99) hS (fun q _ h => h) hn (fun r_29 H locs hR hz hk hS => ?_)
                obtain ⟨tt_30, bb_30, rf_30, hM, hBE_30⟩ := hR
                obtain ⟨ra, rl, ex, ro, rt, fo, fj, fk, fe, fr, fw, ⟨hPm, hPa, hPl, hPe, hPr, hPk⟩, hFk, hFe, hFr, hpk, hn9⟩ := hM
                have g_fo := hPm
                have g_fj := hPa
                try rw [hQ]
                refine r_iret (pc := 102) E hr hlk hS (by omega) (by omega) ?_ dX5_fold_102
                exact ⟨_, _, _, _, _, ⟨_, _, _, _, _, fo, fj, fk, fe, fr, fw, ⟨hPm, hPa, hPl, hPe, hPr, hPk⟩, hFk, hFe, hFr, hpk, hn9⟩, AC.ok (by subst er_1 er_3; first | rfl | (simp [m_or, m_not, m_is0, m_lt0, m_fl, c_4, c_18, Int32.not_lt.mpr c_18, c_19]; done)) (by subst er_1 er_3; first | rfl | (simp [m_or, m_not, m_is0, m_lt0, m_fl, c_4, c_18, Int32.not_lt.mpr c_18, c_19]; done)) (er_3.symm.trans c_4) hBE_30, fun _ => m_isz.fo1 (by rw [show n9 = k by omega]; exact hz9) c_19 (by omega) hv_f27⟩
              · have s_f27 : s.heap.size ≤ q_f27 := Nat.le_trans hZ0_ z9_
                have g_f27 := hn _ s_f27
                have l_fo_f27 : mo < q_f27 := Nat.lt_of_lt_of_le t_fo z9_
                have l_fj_f27 : ra < q_f27 := Nat.lt_of_lt_of_le t_fj z9_
                have nW_f27 : ∀ k, k < 6 → rt k ≠ q_f27 := fun k hk9 => Nat.ne_of_lt (Nat.lt_of_lt_of_le (t_fk k hk9) z9_)
                have l_fe_f27 : ex < q_f27 := Nat.lt_of_lt_of_le t_fe z9_
                have l_fr_f27 : ro < q_f27 := Nat.lt_of_lt_of_le t_fr z9_
                have l_f0w_f27 : rl < q_f27 := Nat.lt_of_lt_of_le t_f0w z9_
                have l_fRw_f27 : br < q_f27 := Nat.lt_of_lt_of_le t_fRw z9_
                have l_fR24_f27 : bb24 < q_f27 := Nat.lt_of_lt_of_le t_fR24 z9_
                have l_fl24_f27 : r_23 < q_f27 := Nat.lt_of_lt_of_le t_fl24 z9_
                refine lv_goto (pc := 95) (tgt := 99) hx hb dX5_fold_95 (by decide) ?_
                have hZ0_ := hS.1
                have t_fo := fo.lt
                have t_fj := fj.lt
                have t_fk := fun k (hk9 : k < 6) => (fk k hk9).lt
                have t_fe := fe.lt
                have t_fr := fr.lt
                have t_f0w := f0w.lt
                have t_fRw := fRw.lt
                have t_fR24 := fR24.lt
                have t_fl24 := fl24.lt
                have t_f27 := f27.lt
                obtain ⟨hx_31, hk_31⟩ := m_noN (er_1.symm.trans (m_fl0 (er_3.symm.trans c_4)).1)
                refine k_i (pc := 99) (k_V E hC hS hA hl.1 (c1.recv hC fo rfl) rfl (c_X5_become l D tk N0 sa H.size P hPN (fun q h9 => hPs q (Nat.le_trans hS.1 h9)) mo n9 kn ((m_th r_1 0)) tt bb eT eB oT oB pk ca rf vs x1 (nn x1) hx_31 hk_31 q_f27 tt_f27 bb_f27 (hPs _ s_f27) hb_f27) kw_1255 kw_1257 kp_21 kw_5 kw_1258 (n := 2) (by decide +kernel) rfl ⟨⟨rfl, rfl⟩, ⟨Nat.le_of_ble_eq_true rfl, Nat.le_of_ble_eq_true rfl⟩, (by dsimp only; omega), (by dsimp only; omega)⟩ rfl (Nat.le_of_ble_eq_true rfl) ⟨⟨_, _, _, _, _, fo, fj, fk, fe, fr, (Or.inr ⟨_, _, _, _, hPb, f0w, fRw, elw, hPI, hncr, hmcr⟩), ⟨hPm, hPa, hPl, hPe, hPr, hPk⟩, hFk, hFe, hFr, hpk, hn9⟩, f27⟩ dX5_fold_99) hS (fun q _ h => h) hn (fun r_32 H locs hR hz hk hS => ?_)
                obtain ⟨tt_33, bb_33, rf_33, hM, hBE_33⟩ := hR
                obtain ⟨ra, rl, ex, ro, rt, fo, fj, fk, fe, fr, fw, ⟨hPm, hPa, hPl, hPe, hPr, hPk⟩, hFk, hFe, hFr, hpk, hn9⟩ := hM
                have g_fo := hPm
                have g_fj := hPa
                try rw [hQ]
                refine r_iret (pc := 102) E hr hlk hS (by omega) (by omega) ?_ dX5_fold_102
                exact ⟨_, _, _, _, _, ⟨_, _, _, _, _, fo, fj, fk, fe, fr, fw, ⟨hPm, hPa, hPl, hPe, hPr, hPk⟩, hFk, hFe, hFr, hpk, hn9⟩, AC.ok (by subst er_1 er_3; first | rfl | (simp [m_or, m_not, m_is0, m_lt0, m_fl, c_4, c_18, Int32.not_lt.mpr c_18, c_19]; done)) (by subst er_1 er_3; first | rfl | (simp [m_or, m_not, m_is0, m_lt0, m_fl, c_4, c_18, Int32.not_lt.mpr c_18, c_19]; done)) (er_3.symm.trans c_4) hBE_33, fun _ => m_isz.fo1 (by rw [show n9 = k by omega]; exact hz9) c_19 (by omega) hv_f27⟩
          · have hkn : k < n9 := Nat.not_le.mp (fun z9 => c_18 (by rw [hx9]; exact nI_le z9 (by omega)))
            refine lv_iload_n (pc := 43) hx hb dX5_fold_43 rfl (lv_at hl 2 rfl) ?_
            refine lv_aload_n (pc := 44) hx hb dX5_fold_44 rfl (lv_at hl 0 rfl) ?_
            refine r_get (pc := 45) E hC fo 1 (v := .ref rl) rfl rfl (by decide) uX5 (List.mem_cons_of_mem _ kw_1210) (fun _ h => h) dX5_fold_45 ?_
            refine lv_iload_n (pc := 48) hx hb dX5_fold_48 rfl (lv_at hl 3 rfl) ?_
            obtain ⟨qe34, hq34, he34⟩ := elw k hkn
            obtain ⟨xe34, ev34, pv34⟩ := hPI k hkn
            rw [ev34] at he34
            refine k_r (pc := 49) (k_V E hC hS hA hl.1 (c1.recv hC f0w rfl) rfl (c_Jx4a65c_get_915e3 l D tk N0 sa H.size rl br n9 capr k qe34 mdr y9 fnr hx9 hkn hncr (by omega) hq34) kw_1550 kw_1551 kw_1552 kw_8 kw_1553 (n := 1) (by decide +kernel) rfl ⟨⟨rfl, rfl⟩, ⟨Nat.le_of_ble_eq_true rfl, Nat.le_of_ble_eq_true rfl⟩, (by dsimp only; omega), (by dsimp only; omega)⟩ rfl (Nat.le_of_ble_eq_true rfl) ⟨f0w, fRw⟩ dX5_fold_49) hS (fun q z w => absurd w (Nat.not_le.mpr z)) hn (fun r_35 H locs hR hz hk hS => ?_)
            have fo := fo.kept (hk _ fo.lt (Nat.not_le.mpr fo.lt))
            have fj := fj.kept (hk _ fj.lt (Nat.not_le.mpr fj.lt))
            have fk := fk.new hk
            have fe := fe.kept (hk _ fe.lt (Nat.not_le.mpr fe.lt))
            have fr := fr.kept (hk _ fr.lt (Nat.not_le.mpr fr.lt))
            have f0w := f0w.kept (hk _ f0w.lt (Nat.not_le.mpr f0w.lt))
            have fRw := fRw.kept (hk _ fRw.lt (Nat.not_le.mpr fRw.lt))
            have elw := elw.new hk
            have he34 := he34.kept (hk _ he34.lt (Nat.not_le.mpr he34.lt))
            rw [show r_35 = qe34 from hR]
            refine r_castO (pc := 52) E hC he34 rfl kw_1614 dX5_fold_52 ?_
            refine k_i (pc := 55) (k_V E hC hS hA hl.1 (xf.recv hC he34 rfl) rfl (c_J6_intValue_8abf5 l D tk N0 sa H.size qe34 xe34) kw_1615 kw_1616 kw_1617 kw_22 kw_1618 (n := 0) (by decide +kernel) rfl ⟨⟨rfl, rfl⟩, ⟨Nat.le_of_ble_eq_true rfl, Nat.le_of_ble_eq_true rfl⟩, (by dsimp only; omega), (by dsimp only; omega)⟩ rfl (Nat.le_of_ble_eq_true rfl) he34 dX5_fold_55) hS (fun q z w => absurd w (Nat.not_le.mpr z)) hn (fun r_36 H locs hR hz hk hS => ?_)
            have fo := fo.kept (hk _ fo.lt (Nat.not_le.mpr fo.lt))
            have fj := fj.kept (hk _ fj.lt (Nat.not_le.mpr fj.lt))
            have fk := fk.new hk
            have fe := fe.kept (hk _ fe.lt (Nat.not_le.mpr fe.lt))
            have fr := fr.kept (hk _ fr.lt (Nat.not_le.mpr fr.lt))
            have f0w := f0w.kept (hk _ f0w.lt (Nat.not_le.mpr f0w.lt))
            have fRw := fRw.kept (hk _ fRw.lt (Nat.not_le.mpr fRw.lt))
            have elw := elw.new hk
            have he34 := he34.kept (hk _ he34.lt (Nat.not_le.mpr he34.lt))
            have er_36 : r_36 = xe34 := hR
            refine lv_iconst (pc := 58) (v := 1) hx hb dX5_fold_58 (by decide) ?_
            refine lv_icmp_lt (pc := 59) (tgt := 66) hx hb dX5_fold_59 (by decide) (fun c_37 => ?_) (fun c_37 => ?_)
            · refine lv_iconst (pc := 66) (v := 0) hx hb dX5_fold_66 (by decide) ?_
              refine lv_iand (pc := 67) hx hb dX5_fold_67 ?_
              obtain ⟨x_38, ex_38⟩ : ∃ z9 : Int32, z9 = u9 &&& 0 := ⟨_, rfl⟩
              rw [← ex_38]
              refine lv_istore_n (pc := 68) (lv' := [(2, .int x_38), (0, .ref mo), (1, .int x1), (3, .int y9)]) hx hb dX5_fold_68 rfl hl (by decide) rfl (fun ls hl => ?_)
              obtain ⟨x_39, ex_39⟩ : ∃ z9 : Int32, z9 = y9 + 1 := ⟨_, rfl⟩
              refine lv_iinc (pc := 69) (v := x_39) (lv' := [(3, .int x_39), (2, .int x_38), (0, .ref mo), (1, .int x1)]) hx hb dX5_fold_69 hl (k := 3) rfl (by rw [ex_39]; rfl) (by decide) rfl (fun ls hl => ?_)
              refine lv_goto (pc := 72) (tgt := 32) hx hb dX5_fold_72 (by decide) ?_
              refine W.widen (k := 0) (n := 0) (by omega) (by omega) ?_
              exact ih_32  (k + 1)  x_38 x_39 (by omega) (by omega) (i_up hx9 ex_39) (hz9.bad hk9.1 ev34 (by rw [← er_36]; exact c_37) (ex_38.trans (m_and0 _))) _ _ _ hS fo fj fk fe fr f0w fRw elw (lv_sub hl [2, 3, 1, 0] rfl)
            · refine lv_iconst (pc := 62) (v := 1) hx hb dX5_fold_62 (by decide) ?_
              refine lv_goto (pc := 63) (tgt := 67) hx hb dX5_fold_63 (by decide) ?_
              refine lv_iand (pc := 67) hx hb dX5_fold_67 ?_
              obtain ⟨x_40, ex_40⟩ : ∃ z9 : Int32, z9 = u9 &&& 1 := ⟨_, rfl⟩
              rw [← ex_40]
              refine lv_istore_n (pc := 68) (lv' := [(2, .int x_40), (0, .ref mo), (1, .int x1), (3, .int y9)]) hx hb dX5_fold_68 rfl hl (by decide) rfl (fun ls hl => ?_)
              obtain ⟨x_41, ex_41⟩ : ∃ z9 : Int32, z9 = y9 + 1 := ⟨_, rfl⟩
              refine lv_iinc (pc := 69) (v := x_41) (lv' := [(3, .int x_41), (2, .int x_40), (0, .ref mo), (1, .int x1)]) hx hb dX5_fold_69 hl (k := 3) rfl (by rw [ex_41]; rfl) (by decide) rfl (fun ls hl => ?_)
              refine lv_goto (pc := 72) (tgt := 32) hx hb dX5_fold_72 (by decide) ?_
              refine W.widen (k := 0) (n := 0) (by omega) (by omega) ?_
              exact ih_32  (k + 1)  x_40 x_41 (by omega) (by omega) (i_up hx9 ex_41) (hz9.add ev34 (by rw [← er_36]; exact Int32.not_lt.mp c_37) ex_40) _ _ _ hS fo fj fk fe fr f0w fRw elw (lv_sub hl [2, 3, 1, 0] rfl)
      refine W.widen (k := 0) (n := 0) (by omega) (by omega) ?_
      exact loop_32 17 1  1 1 (by omega) (by omega) (by decide) (Or.inr ⟨rfl, fun i g1 g2 => absurd g1 (by omega)⟩) _ _ _ hS fo fj fk fe fr f0w fRw elw (lv_sub hl [2, 3, 1, 0] rfl)
  · refine lv_iconst (pc := 12) (v := 0) hx hb dX5_fold_12 (by decide) ?_
    try rw [hQ]
    refine r_iret (pc := 13) E hr hlk hS (by omega) (by omega) ?_ dX5_fold_13
    exact ⟨_, _, _, _, none, ⟨_, _, _, _, _, fo, fj, fk, fe, fr, fw, ⟨hPm, hPa, hPl, hPe, hPr, hPk⟩, hFk, hFe, hFr, hpk, hn9⟩, AC.fail (by subst er_1 er_3; first | rfl | (simp [m_or, m_not, m_is0, m_lt0, m_fl, c_4]; done)) (by subst er_1 er_3; first | rfl | (simp [m_or, m_not, m_is0, m_lt0, m_fl, c_4]; done)) (fun z9 => c_4 (er_3.trans z9)), fun z9 => absurd z9 (AC7 (by subst er_1 er_3; first | rfl | (simp [m_or, m_not, m_is0, m_lt0, m_fl, c_4]; done)) rfl (fun z9 => c_4 (er_3.trans z9)))⟩
set_option maxHeartbeats 4000000 in
set_option maxRecDepth 100000 in
/-- BestratiosModel.depthNow(I)I -/
theorem c_X5_depthNow (l : Launch) (D : va_G) (tk : Nat → ClassId) (N0 : Nat) (sa : Nat → Nat)  (sz : Nat) (P : Nat → Prop) (hPN : ∀ q, P q → N0 ≤ q) (mo n9 : Nat) (kn th : Int32) (tt bb : Nat → Int64) (eT eB oT oB : Int64) (pk : Nat) (ca rf : Int32) (vs : Nat → Value) (x : Int32) (k_x : Nat) (hx_x : x = nI k_x) (hk_x : k_x < 6) : Met l yX5_depthNow (wsy yX5_depthNow cX5_depthNow 7 (some .int)) ({ frames := 8, cells := 50, slots := 179, locals := 186 } : Room) (cP D tk N0 sa [.ref mo, .int x] sz (fun H => MI D tk sa P mo tt bb eT eB oT oB pk ca rf vs kn n9 th H)) (kQi (fun r H => r = m_DP (tt k_x) (bb k_x)) (nwA sz)) (50) (179) (nwA sz) := by
  refine mStart RX5 rfl (by decide +kernel) (Nat.le_of_ble_eq_true rfl) ?_
  intro p e s m args below meth c E hr hlk hnm hsz hC hF ls hl
  subst hsz
  obtain ⟨hx, hb, -⟩ := id E
  have hA : ∀ q, (nwA s.heap.size) q → N0 ≤ q := fun q h => Nat.le_trans hC.2.1 h
  have hn : ∀ q, s.heap.size ≤ q → (nwA s.heap.size) q := fun q h => h
  have hS : va_S (nwA s.heap.size) s.heap s.heap [] := va_S.rf
  have hl : lv_has ls 7 [(0, .ref mo), (1, .int x)] := hl
  obtain ⟨Q, hQ⟩ : ∃ Q, Q = MQ below (kQi (fun r H => r = m_DP (tt k_x) (bb k_x)) (nwA s.heap.size)) args s (50) (179) (nwA s.heap.size) := ⟨_, rfl⟩
  rw [← hQ]
  have hM : MI D tk sa P mo tt bb eT eB oT oB pk ca rf vs kn n9 th s.heap := hF
  obtain ⟨ra, rl, ex, ro, rt, fo, fj, fk, fe, fr, fw, ⟨hPm, hPa, hPl, hPe, hPr, hPk⟩, hFk, hFe, hFr, hpk, hn9⟩ := hM
  refine lv_aload_n (pc := 0) hx hb dX5_depthNow_0 rfl (lv_at hl 0 rfl) ?_
  refine r_get (pc := 1) E hC fo 0 (v := .ref ra) rfl rfl (by decide) uX5 (List.mem_cons_of_mem _ kw_1209) (fun _ h => h) dX5_depthNow_1 ?_
  refine lv_iload_n (pc := 4) hx hb dX5_depthNow_4 rfl (lv_at hl 1 rfl) ?_
  refine r_aaldJ (pc := 5) E hC fj k_x hx_x hk_x (by decide) rfl dX5_depthNow_5 ?_
  have fL1 := fk k_x hk_x
  have mF_fL1 := hFk k_x hk_x
  have Pq_fL1 := hPk k_x hk_x
  have hZ0_ := hS.1
  have t_fo := fo.lt
  have t_fj := fj.lt
  have t_fk := fun k (hk9 : k < 6) => (fk k hk9).lt
  have t_fe := fe.lt
  have t_fr := fr.lt
  have t_fL1 := fL1.lt
  refine k_i (pc := 6) (k_S E hC hS hA hl.1 (c_X5_isAbove l D tk N0 sa s.heap.size (rt k_x) (tt k_x) (bb k_x) ) kw_1645 kw_1646 kw_5 kw_1647 (n := 1) (by decide +kernel) rfl ⟨⟨rfl, rfl⟩, ⟨Nat.le_of_ble_eq_true rfl, Nat.le_of_ble_eq_true rfl⟩, (by dsimp only; omega), (by dsimp only; omega)⟩ rfl (Nat.le_of_ble_eq_true rfl) fL1 dX5_depthNow_6) hS (fun q z w => absurd w (Nat.not_le.mpr z)) hn (fun r_2 H locs hR hz hk hS => ?_)
  have fw := fw.new hk
  have fo := fo.kept (hk _ fo.lt (Nat.not_le.mpr fo.lt))
  have fj := fj.kept (hk _ fj.lt (Nat.not_le.mpr fj.lt))
  have fk := fk.new hk
  have fe := fe.kept (hk _ fe.lt (Nat.not_le.mpr fe.lt))
  have fr := fr.kept (hk _ fr.lt (Nat.not_le.mpr fr.lt))
  have fL1 := fL1.kept (hk _ fL1.lt (Nat.not_le.mpr fL1.lt))
  have er_2 := hR
  refine lv_if_ne (pc := 9) (tgt := 15) hx hb dX5_depthNow_9 (by decide) (fun c_3 => ?_) (fun c_3 => ?_)
  · refine lv_ldc2 (pc := 15) (v := (-1)) hx hb E.2.2.2.1 (E.2.2.2.2 _ (List.mem_cons_of_mem _ kw_1208)) dX5_depthNow_15 ?_
    refine lv_lstore_n (pc := 18) (lv' := [(2, .long ((-1))), (0, .ref mo), (1, .int x)]) hx hb dX5_depthNow_18 rfl hl (by decide) rfl (fun ls hl => ?_)
    refine lv_aload_n (pc := 19) hx hb dX5_depthNow_19 rfl (lv_at hl 1 rfl) ?_
    refine r_get (pc := 20) E hC fo 0 (v := .ref ra) rfl rfl (by decide) uX5 (List.mem_cons_of_mem _ kw_1209) (fun _ h => h) dX5_depthNow_20 ?_
    refine lv_iload_n (pc := 23) hx hb dX5_depthNow_23 rfl (lv_at hl 2 rfl) ?_
    refine r_aaldJ (pc := 24) E hC fj k_x hx_x hk_x (by decide) rfl dX5_depthNow_24 ?_
    have fL4 := fk k_x hk_x
    have mF_fL4 := hFk k_x hk_x
    have Pq_fL4 := hPk k_x hk_x
    have hZ0_ := hS.1
    have t_fo := fo.lt
    have t_fj := fj.lt
    have t_fk := fun k (hk9 : k < 6) => (fk k hk9).lt
    have t_fe := fe.lt
    have t_fr := fr.lt
    have t_fL1 := fL1.lt
    have t_fL4 := fL4.lt
    refine k_r (pc := 25) (k_S E hC hS hA hl.1 (c_X5_termsOf l D tk N0 sa H.size (rt k_x) (tt k_x) (bb k_x) mF_fL4) kw_1411 kw_1412 kw_5 kw_1413 (n := 1) (by decide +kernel) rfl ⟨⟨rfl, rfl⟩, ⟨Nat.le_of_ble_eq_true rfl, Nat.le_of_ble_eq_true rfl⟩, (by dsimp only; omega), (by dsimp only; omega)⟩ rfl (Nat.le_of_ble_eq_true rfl) fL4 dX5_depthNow_25) hS (fun q z w => absurd w (Nat.not_le.mpr z)) hn (fun r_5 H locs hR hz hk hS => ?_)
    have fw := fw.new hk
    have fo := fo.kept (hk _ fo.lt (Nat.not_le.mpr fo.lt))
    have fj := fj.kept (hk _ fj.lt (Nat.not_le.mpr fj.lt))
    have fk := fk.new hk
    have fe := fe.kept (hk _ fe.lt (Nat.not_le.mpr fe.lt))
    have fr := fr.kept (hk _ fr.lt (Nat.not_le.mpr fr.lt))
    have fL1 := fL1.kept (hk _ fL1.lt (Nat.not_le.mpr fL1.lt))
    have fL4 := fL4.kept (hk _ fL4.lt (Nat.not_le.mpr fL4.lt))
    obtain ⟨nl6, bb6, cap6, ff6, ww6, md6, zr9_, zb9_, fl6, fR6, el6, hPT6, hln6, hlm6, hlc6, hlp6, ⟨hTL6, hTA6⟩, gg6, hEU6⟩ := hR
    have hcb6 := m_acB hlp6
    have s_fl6 : s.heap.size ≤ r_5 := Nat.le_trans hZ0_ zr9_
    have g_fl6 := hn _ s_fl6
    have l_fo_fl6 : mo < r_5 := Nat.lt_of_lt_of_le t_fo zr9_
    have l_fj_fl6 : ra < r_5 := Nat.lt_of_lt_of_le t_fj zr9_
    have nW_fl6 : ∀ k, k < 6 → rt k ≠ r_5 := fun k hk9 => Nat.ne_of_lt (Nat.lt_of_lt_of_le (t_fk k hk9) zr9_)
    have l_fe_fl6 : ex < r_5 := Nat.lt_of_lt_of_le t_fe zr9_
    have l_fr_fl6 : ro < r_5 := Nat.lt_of_lt_of_le t_fr zr9_
    have l_fL1_fl6 : rt k_x < r_5 := Nat.lt_of_lt_of_le t_fL1 zr9_
    have l_fL4_fl6 : rt k_x < r_5 := Nat.lt_of_lt_of_le t_fL4 zr9_
    have s_fR6 : s.heap.size ≤ bb6 := Nat.le_trans hZ0_ zb9_
    have g_fR6 := hn _ s_fR6
    have l_fo_fR6 : mo < bb6 := Nat.lt_of_lt_of_le t_fo zb9_
    have l_fj_fR6 : ra < bb6 := Nat.lt_of_lt_of_le t_fj zb9_
    have nW_fR6 : ∀ k, k < 6 → rt k ≠ bb6 := fun k hk9 => Nat.ne_of_lt (Nat.lt_of_lt_of_le (t_fk k hk9) zb9_)
    have l_fe_fR6 : ex < bb6 := Nat.lt_of_lt_of_le t_fe zb9_
    have l_fr_fR6 : ro < bb6 := Nat.lt_of_lt_of_le t_fr zb9_
    have l_fL1_fR6 : rt k_x < bb6 := Nat.lt_of_lt_of_le t_fL1 zb9_
    have l_fL4_fR6 : rt k_x < bb6 := Nat.lt_of_lt_of_le t_fL4 zb9_
    have hZ0_ := hS.1
    have t_fl6 := fl6.lt
    have t_fR6 := fR6.lt
    refine k_r (pc := 28) (k_V E hC hS hA hl.1 (c1.recv hC fl6 rfl) rfl (c_Jx4a65c_iterator_32c93 l D tk N0 sa H.size r_5 bb6 nl6 md6) kw_1486 kw_1487 kw_1488 kw_8 kw_1489 (n := 0) (by decide +kernel) rfl ⟨⟨rfl, rfl⟩, ⟨Nat.le_of_ble_eq_true rfl, Nat.le_of_ble_eq_true rfl⟩, (by dsimp only; omega), (by dsimp only; omega)⟩ rfl (Nat.le_of_ble_eq_true rfl) fl6 dX5_depthNow_28) hS (fun q z w => absurd w (Nat.not_le.mpr z)) hn (fun r_7 H locs hR hz hk hS => ?_)
    have fl6 := fl6.kept (hk _ fl6.lt (Nat.not_le.mpr fl6.lt))
    have fR6 := fR6.kept (hk _ fR6.lt (Nat.not_le.mpr fR6.lt))
    have el6 := el6.new hk
    obtain ⟨z9_, f8⟩ := hR
    have s_f8 : s.heap.size ≤ r_7 := Nat.le_trans hZ0_ z9_
    have g_f8 := hn _ s_f8
    have l_fl6_f8 : r_5 < r_7 := Nat.lt_of_lt_of_le t_fl6 z9_
    have l_fR6_f8 : bb6 < r_7 := Nat.lt_of_lt_of_le t_fR6 z9_
    refine lv_astore (pc := 31) (lv' := [(4, .ref r_7), (2, .long ((-1))), (0, .ref mo), (1, .int x)]) hx hb dX5_depthNow_31 hl (by decide) rfl (fun ls hl => ?_)
    have loop_33 : ∀ (n : Nat) (k : Nat) (lr : Int32)(d9 : Int64), 44 - k < n → k ≤ nl6 → m_sm ((m_TE (tt k_x) (bb k_x)).drop k) d9 = m_sm (m_TE (tt k_x) (bb k_x)) (-1) → ∀ (H : Heap) (locs : List Loc) (ls : Array Slot), va_S (nwA s.heap.size) s.heap H locs → c1 D r_5 (.inr (7, [.int md6, .ref bb6, .int (nI nl6)])) H → c1 D bb6 (.inl (tk 4, cap6, .inr (.inr (.inr (.inr (ff6)))))) H → EL D 3 nl6 ff6 ww6 H → c1 D r_7 (.inr (6, [.int (nI k), .int lr, .int md6, .ref r_5])) H → lv_has ls 7 [(0, .ref mo), (1, .int x), (2, .long d9), (4, .ref r_7)] → W p l e ({ frames := 8, cells := 50, slots := 179, locals := 186 } : Room) s m args below meth c H locs (50) (179) Q (F0 m 33 ls []) := by
      intro n
      induction n with
      | zero =>
        intro k lr d9 hf9 hk9 hg9 H locs ls hS fl6 fR6 el6 f8 hl
        omega
      | succ n ih_33 =>
        intro k lr d9 hf9 hk9 hg9 H locs ls hS fl6 fR6 el6 f8 hl
        refine lv_aload (pc := 33) hx hb dX5_depthNow_33 (lv_at hl 3 rfl) ?_
        refine k5_i (pc := 35) (k_F (ci := 6) rfl hC.xt.2.2.2.1 E hC hS hA hl.1 (c1.recv hC f8 rfl) (c_Jx35411_hasNext_aae02 l D tk N0 sa H.size r_7 r_5 bb6 nl6 k md6 lr (by omega) (by omega)) kw_1510 kw_1516 kw_1514 kw_29 kw_1518 (n := 0) (by decide +kernel) rfl ⟨⟨rfl, rfl⟩, ⟨Nat.le_of_ble_eq_true rfl, Nat.le_of_ble_eq_true rfl⟩, (by dsimp only; omega), (by dsimp only; omega)⟩ rfl (Nat.le_of_ble_eq_true rfl) ⟨f8, fl6⟩ dX5_depthNow_35) hS (fun q z w => absurd w (Nat.not_le.mpr z)) hn (fun r_9 H locs hR hz hk hS => ?_)
        have fl6 := fl6.kept (hk _ fl6.lt (Nat.not_le.mpr fl6.lt))
        have fR6 := fR6.kept (hk _ fR6.lt (Nat.not_le.mpr fR6.lt))
        have el6 := el6.new hk
        have f8 := f8.kept (hk _ f8.lt (Nat.not_le.mpr f8.lt))
        have hn_r_9 := hR
        refine lv_if_eq (pc := 40) (tgt := 66) hx hb dX5_depthNow_40 (by decide) (fun c_10 => ?_) (fun c_10 => ?_)
        · refine lv_lload_n (pc := 66) hx hb dX5_depthNow_66 rfl (lv_at hl 2 rfl) ?_
          refine lv_l2i (pc := 67) (v := d9.toInt32) hx hb dX5_depthNow_67 rfl ?_
          try rw [hQ]
          refine r_iret (pc := 68) E hr hlk hS (by omega) (by omega) ?_ dX5_depthNow_68
          have hkz : k = nl6 := hn_r_9.elim (fun z9 => z9.2) (fun z9 => absurd (z9.1.symm.trans c_10) (by decide))
          have hde := m_smE (by rw [← hTL6, hkz]; exact Nat.le_refl _) hg9
          unfold m_DP
          rw [if_neg (fun z9 => c_3 (er_2.trans z9)), ← hde]
        · have hkn : k < nl6 := by
            rcases hn_r_9 with ⟨h9, _⟩ | ⟨_, h9⟩
            · exact absurd h9 c_10
            · omega
          refine lv_aload (pc := 43) hx hb dX5_depthNow_43 (lv_at hl 3 rfl) ?_
          obtain ⟨qe11, hq11, he11⟩ := el6 k hkn
          obtain ⟨xe11, ev11, pv11⟩ := hPT6.pv k hkn
          rw [ev11] at he11
          refine k5_r (pc := 45) (k_F (ci := 6) rfl hC.xt.2.2.2.2 E hC hS hA hl.1 (c1.recv hC f8 rfl) (c_Jx35411_next_0502b l D tk N0 sa H.size r_7 r_5 bb6 nl6 k cap6 qe11 md6 lr ff6 (hA _ g_f8) hkn (by omega) (by omega) hq11) kw_1520 kw_1525 kw_1523 kw_29 kw_1527 (n := 0) (by decide +kernel) rfl ⟨⟨rfl, rfl⟩, ⟨Nat.le_of_ble_eq_true rfl, Nat.le_of_ble_eq_true rfl⟩, (by dsimp only; omega), (by dsimp only; omega)⟩ rfl (Nat.le_of_ble_eq_true rfl) ⟨f8, fl6, fR6⟩ dX5_depthNow_45) hS (inA1.to g_f8) hn (fun r_12 H locs hR hz hk hS => ?_)
          have fl6 := fl6.kept (hk _ fl6.lt (inA1.not (clA.ne fl6.cl f8.cl (hC.oo 7 6 rfl rfl (by decide))) fl6.lt))
          have fR6 := fR6.kept (hk _ fR6.lt (inA1.not (clA.ne fR6.cla f8.cl (hC.ao 6 4 rfl rfl)) fR6.lt))
          have el6 := el6.keep1 hk (fun q9 h9 => clA.ne h9 f8.cl (hC.ceo (Or.inl rfl) 6 rfl (by decide)))
          have he11 := he11.kept (hk _ he11.lt (inA1.not (clA.ne he11.cl f8.cl (hC.oo 3 6 rfl rfl (by decide))) he11.lt))
          obtain ⟨hr9, f8⟩ := hR
          rw [hr9]
          refine r_castO (pc := 50) E hC he11 rfl kw_1532 dX5_depthNow_50 ?_
          refine k_l (pc := 53) (k_V E hC hS hA hl.1 (xf.recv hC he11 rfl) rfl (c_J13_longValue_f9912 l D tk N0 sa H.size qe11 xe11) kw_1533 kw_1534 kw_1535 kw_17 kw_1536 (n := 0) (by decide +kernel) rfl ⟨⟨rfl, rfl⟩, ⟨Nat.le_of_ble_eq_true rfl, Nat.le_of_ble_eq_true rfl⟩, (by dsimp only; omega), (by dsimp only; omega)⟩ rfl (Nat.le_of_ble_eq_true rfl) he11 dX5_depthNow_53) hS (fun q z w => absurd w (Nat.not_le.mpr z)) hn (fun r_13 H locs hR hz hk hS => ?_)
          have fl6 := fl6.kept (hk _ fl6.lt (Nat.not_le.mpr fl6.lt))
          have fR6 := fR6.kept (hk _ fR6.lt (Nat.not_le.mpr fR6.lt))
          have el6 := el6.new hk
          have f8 := f8.kept (hk _ f8.lt (Nat.not_le.mpr f8.lt))
          have he11 := he11.kept (hk _ he11.lt (Nat.not_le.mpr he11.lt))
          have er_13 : r_13 = xe11 := hR
          refine lv_lstore (pc := 56) (lv' := [(5, .long r_13), (0, .ref mo), (1, .int x), (2, .long d9), (4, .ref r_7)]) hx hb dX5_depthNow_56 hl (by decide) rfl (fun ls hl => ?_)
          refine lv_lload_n (pc := 58) hx hb dX5_depthNow_58 rfl (lv_at hl 3 rfl) ?_
          refine lv_lload (pc := 59) hx hb dX5_depthNow_59 (lv_at hl 0 rfl) ?_
          refine lv_ladd (pc := 61) hx hb dX5_depthNow_61 ?_
          obtain ⟨x_14, ex_14⟩ : ∃ z9 : Int64, z9 = d9 + r_13 := ⟨_, rfl⟩
          rw [← ex_14]
          refine lv_lstore_n (pc := 62) (lv' := [(2, .long x_14), (5, .long r_13), (0, .ref mo), (1, .int x), (4, .ref r_7)]) hx hb dX5_depthNow_62 rfl hl (by decide) rfl (fun ls hl => ?_)
          refine lv_goto (pc := 63) (tgt := 33) hx hb dX5_depthNow_63 (by decide) ?_
          refine W.widen (k := 50) (n := 179) (by omega) (by omega) ?_
          exact ih_33  (k + 1) _  x_14 (by omega) (by omega) (m_smS (by rw [← hTL6]; exact hkn) hg9 (by rw [ex_14, er_13, m_lgI ev11 (hTA6 k hkn)])) _ _ _ hS fl6 fR6 el6 f8 (lv_sub hl [2, 3, 0, 4] rfl)
    refine W.widen (k := 50) (n := 179) (by omega) (by omega) ?_
    exact loop_33 45 0 _  ((-1)) (by omega) (by omega) rfl _ _ _ hS fl6 fR6 el6 f8 (lv_sub hl [2, 3, 1, 0] rfl)
  · refine lv_bipush (pc := 12) (v := (-9)) hx hb dX5_depthNow_12 (by decide) ?_
    try rw [hQ]
    refine r_iret (pc := 14) E hr hlk hS (by omega) (by omega) ?_ dX5_depthNow_14
    unfold m_DP
    rw [if_pos (er_2.symm.trans c_3)]
set_option maxHeartbeats 4000000 in
set_option maxRecDepth 100000 in
/-- BestratiosModel.depth(I)I -/
theorem c_X5_depth (l : Launch) (D : va_G) (tk : Nat → ClassId) (N0 : Nat) (sa : Nat → Nat)  (sz : Nat) (P : Nat → Prop) (hPN : ∀ q, P q → N0 ≤ q) (hPs : ∀ q, sz ≤ q → P q) (mo n9 : Nat) (kn th : Int32) (tt bb : Nat → Int64) (eT eB oT oB : Int64) (pk : Nat) (ca rf : Int32) (vs : Nat → Value) (x1 : Int32) : Met l yX5_depth (wsy yX5_depth cX5_depth 2 (some .int)) ({ frames := 9, cells := 50, slots := 179, locals := 212 } : Room) (cP D tk N0 sa [.ref mo, .int x1] sz (fun H => MI D tk sa P mo tt bb eT eB oT oB pk ca rf vs kn n9 th H)) (kQi (fun r H => ∃ th1, MI D tk sa P mo tt bb eT eB oT oB pk ca rf vs kn n9 th1 H ∧ QU (m_isNo x1) 0 (m_DP (tt (nn x1)) (bb (nn x1))) r th1) (P)) (50) (179) (P) := by
  refine mStart RX5 rfl (by decide +kernel) (Nat.le_of_ble_eq_true rfl) ?_
  intro p e s m args below meth c E hr hlk hnm hsz hC hF ls hl
  subst hsz
  obtain ⟨hx, hb, -⟩ := id E
  have hA : ∀ q, (P) q → N0 ≤ q := hPN
  have hn : ∀ q, s.heap.size ≤ q → (P) q := hPs
  have hS : va_S (P) s.heap s.heap [] := va_S.rf
  have hl : lv_has ls 2 [(0, .ref mo), (1, .int x1)] := hl
  have hM : MI D tk sa P mo tt bb eT eB oT oB pk ca rf vs kn n9 th s.heap := hF
  obtain ⟨ra, rl, ex, ro, rt, fo, fj, fk, fe, fr, fw, ⟨hPm, hPa, hPl, hPe, hPr, hPk⟩, hFk, hFe, hFr, hpk, hn9⟩ := hM
  have g_fo := hPm
  have g_fj := hPa
  refine lv_aload_n (pc := 0) hx hb dX5_depth_0 rfl (lv_at hl 0 rfl) ?_
  refine lv_iload_n (pc := 1) hx hb dX5_depth_1 rfl (lv_at hl 1 rfl) ?_
  refine k_i (pc := 2) (k_S E hC hS hA hl.1 (c_X5_isNo l D tk N0 sa s.heap.size x1 ) kw_1245 kw_1246 kw_5 kw_1247 (n := 1) (by decide +kernel) rfl ⟨⟨rfl, rfl⟩, ⟨Nat.le_of_ble_eq_true rfl, Nat.le_of_ble_eq_true rfl⟩, (by dsimp only; omega), (by dsimp only; omega)⟩ rfl (Nat.le_of_ble_eq_true rfl) trivial dX5_depth_2) hS (fun q z w => absurd w (Nat.not_le.mpr z)) hn (fun r_1 H locs hR hz hk hS => ?_)
  have er_1 := hR
  have fw := fw.new hk
  have fo := fo.kept (hk _ fo.lt (Nat.not_le.mpr fo.lt))
  have fj := fj.kept (hk _ fj.lt (Nat.not_le.mpr fj.lt))
  have fk := fk.new hk
  have fe := fe.kept (hk _ fe.lt (Nat.not_le.mpr fe.lt))
  have fr := fr.kept (hk _ fr.lt (Nat.not_le.mpr fr.lt))
  refine lv_iconst (pc := 5) (v := 0) hx hb dX5_depth_5 (by decide) ?_
  have hZ0_ := hS.1
  have t_fo := fo.lt
  have t_fj := fj.lt
  have t_fk := fun k (hk9 : k < 6) => (fk k hk9).lt
  have t_fe := fe.lt
  have t_fr := fr.lt
  refine k_i (pc := 6) (k_V E hC hS hA hl.1 (c1.recv hC fo rfl) rfl (c_X5_fails l D tk N0 sa H.size P hPN (fun q h9 => hPs q (Nat.le_trans hS.1 h9)) mo n9 kn th tt bb eT eB oT oB pk ca rf vs r_1 0 ) kw_1251 kw_1253 kp_20 kw_5 kw_1254 (n := 2) (by decide +kernel) rfl ⟨⟨rfl, rfl⟩, ⟨Nat.le_of_ble_eq_true rfl, Nat.le_of_ble_eq_true rfl⟩, (by dsimp only; omega), (by dsimp only; omega)⟩ rfl (Nat.le_of_ble_eq_true rfl) ⟨_, _, _, _, _, fo, fj, fk, fe, fr, fw, ⟨hPm, hPa, hPl, hPe, hPr, hPk⟩, hFk, hFe, hFr, hpk, hn9⟩ dX5_depth_6) hS (fun q _ h => h) hn (fun r_3 H locs hR hz hk hS => ?_)
  obtain ⟨er_3, hM⟩ := hR
  obtain ⟨ra, rl, ex, ro, rt, fo, fj, fk, fe, fr, fw, ⟨hPm, hPa, hPl, hPe, hPr, hPk⟩, hFk, hFe, hFr, hpk, hn9⟩ := hM
  have g_fo := hPm
  have g_fj := hPa
  refine lv_if_eq (pc := 9) (tgt := 16) hx hb dX5_depth_9 (by decide) (fun c_4 => ?_) (fun c_4 => ?_)
  · refine lv_aload_n (pc := 16) hx hb dX5_depth_16 rfl (lv_at hl 0 rfl) ?_
    refine lv_iload_n (pc := 17) hx hb dX5_depth_17 rfl (lv_at hl 1 rfl) ?_
    have hZ0_ := hS.1
    have t_fo := fo.lt
    have t_fj := fj.lt
    have t_fk := fun k (hk9 : k < 6) => (fk k hk9).lt
    have t_fe := fe.lt
    have t_fr := fr.lt
    obtain ⟨hx_5, hk_5⟩ := m_noN (er_1.symm.trans (m_fl0 (er_3.symm.trans c_4)).1)
    refine k_i (pc := 18) (k_V E hC hS hA hl.1 (c1.recv hC fo rfl) rfl (c_X5_depthNow l D tk N0 sa H.size P hPN mo n9 kn ((m_th r_1 0)) tt bb eT eB oT oB pk ca rf vs x1 (nn x1) hx_5 hk_5 ) kw_1670 kw_1672 kp_30 kw_5 kw_1673 (n := 1) (by decide +kernel) rfl ⟨⟨rfl, rfl⟩, ⟨Nat.le_of_ble_eq_true rfl, Nat.le_of_ble_eq_true rfl⟩, (by dsimp only; omega), (by dsimp only; omega)⟩ rfl (Nat.le_of_ble_eq_true rfl) ⟨_, _, _, _, _, fo, fj, fk, fe, fr, fw, ⟨hPm, hPa, hPl, hPe, hPr, hPk⟩, hFk, hFe, hFr, hpk, hn9⟩ dX5_depth_18) hS (fun q z w => absurd w (Nat.not_le.mpr z)) hn (fun r_6 H locs hR hz hk hS => ?_)
    have fw := fw.new hk
    have fo := fo.kept (hk _ fo.lt (Nat.not_le.mpr fo.lt))
    have fj := fj.kept (hk _ fj.lt (Nat.not_le.mpr fj.lt))
    have fk := fk.new hk
    have fe := fe.kept (hk _ fe.lt (Nat.not_le.mpr fe.lt))
    have fr := fr.kept (hk _ fr.lt (Nat.not_le.mpr fr.lt))
    have er_6 := hR
    refine r_iret (pc := 21) E hr hlk hS (by omega) (by omega) ?_ dX5_depth_21
    exact ⟨_, ⟨_, _, _, _, _, fo, fj, fk, fe, fr, fw, ⟨hPm, hPa, hPl, hPe, hPr, hPk⟩, hFk, hFe, hFr, hpk, hn9⟩, QU.ok (by subst er_1 er_3 er_6; first | rfl | (simp [m_or, m_not, m_is0, m_lt0, m_fl, c_4]; done)) (by subst er_1 er_3 er_6; first | rfl | (simp [m_or, m_not, m_is0, m_lt0, m_fl, c_4]; done)) (er_3.symm.trans c_4) (by subst er_1 er_3 er_6; first | rfl | (simp [c_4]; done))⟩
  · refine lv_iconst (pc := 12) (v := 0) hx hb dX5_depth_12 (by decide) ?_
    refine lv_goto (pc := 13) (tgt := 21) hx hb dX5_depth_13 (by decide) ?_
    refine r_iret (pc := 21) E hr hlk hS (by omega) (by omega) ?_ dX5_depth_21
    exact ⟨_, ⟨_, _, _, _, _, fo, fj, fk, fe, fr, fw, ⟨hPm, hPa, hPl, hPe, hPr, hPk⟩, hFk, hFe, hFr, hpk, hn9⟩, QU.fail (by subst er_1 er_3; first | rfl | (simp [m_or, m_not, m_is0, m_lt0, m_fl, c_4]; done)) (by subst er_1 er_3; first | rfl | (simp [m_or, m_not, m_is0, m_lt0, m_fl, c_4]; done)) (fun z9 => c_4 (er_3.trans z9))⟩
