set_option maxHeartbeats 4000000 in
set_option maxRecDepth 100000 in
/-- BestratiosModel.rowNow()Ljava/util/ArrayList; -/
theorem c_X5_rowNow_E (l : Launch) (D : va_G) (tk : Nat → ClassId) (N0 : Nat) (sa : Nat → Nat)  (sz : Nat) (mo ra rl ex ro pk br : Nat) (ca rf kn th mdr : Int32) : Met l yX5_rowNow (wsy yX5_rowNow cX5_rowNow 4 (some (.object "java/util/ArrayList"))) ({ frames := 4, cells := 2, slots := 7, locals := 80 } : Room) (cP D tk N0 sa [.ref mo] sz (fun H => c1 D mo (.inr (13, [.ref ra, .ref rl, .ref ex, .ref ro, .int (nI pk), .int ca, .int rf, .int kn, .int th])) H ∧ c1 D rl (.inr (7, [.int mdr, .ref br, .int (nI 0)])) H)) (kQr (fun r H => sz ≤ r ∧ c1 D r (.inr (7, [.int 0, .ref (sa 1), .int 0])) H) (nwA sz)) (2) (7) (nwA sz) := by
  refine mStart RX5 rfl (by decide +kernel) (Nat.le_of_ble_eq_true rfl) ?_
  intro p e s m args below meth c E hr hlk hnm hsz hC hF ls hl
  subst hsz
  obtain ⟨hx, hb, -⟩ := id E
  have hA : ∀ q, (nwA s.heap.size) q → N0 ≤ q := fun q h => Nat.le_trans hC.2.1 h
  have hn : ∀ q, s.heap.size ≤ q → (nwA s.heap.size) q := fun q h => h
  have hS : va_S (nwA s.heap.size) s.heap s.heap [] := va_S.rf
  have hl : lv_has ls 4 [(0, .ref mo)] := hl
  obtain ⟨fo, f0w⟩ : c1 D mo (.inr (13, [.ref ra, .ref rl, .ref ex, .ref ro, .int (nI pk), .int ca, .int rf, .int kn, .int th])) s.heap ∧ c1 D rl (.inr (7, [.int mdr, .ref br, .int (nI 0)])) s.heap := hF
  have hS0_ := hS
  refine r_new (pc := 0) E hC hS tyJx4a65c_ok uJx4a65c (List.mem_cons_of_mem _ kw_1170) (List.mem_cons_of_mem _ kw_1171) (List.mem_cons_of_mem _ kw_8) (ci := 7) rfl (fs := [.int 0, .null, .int 0]) (by decide) (by dsimp only; omega) (by dsimp only; omega) dX5_rowNow_0 (fun qf1 H zq_ n_ ho_ hS => ?_)
  have l_fo_f1 : mo < qf1 := zq_ ▸ fo.lt
  have fo := fo.kept (ho_ _ fo.lt)
  have l_f0w_f1 : rl < qf1 := zq_ ▸ f0w.lt
  have f0w := f0w.kept (ho_ _ f0w.lt)
  have f1 := n_
  have s_f1 : s.heap.size ≤ qf1 := zq_ ▸ hS0_.1
  have g_f1 := hn _ s_f1
  refine lv_dup (pc := 3) hx hb dX5_rowNow_3 rfl ?_
  refine k_v (pc := 4) (k_I E hC hS hA hl.1 (c_Jx4a65c_init_da8c8 l D tk N0 sa H.size qf1 (hA _ g_f1)) kw_1172 kw_1173 kw_8 kw_1174 rfl (n := 0) (by decide +kernel) rfl ⟨⟨rfl, rfl⟩, ⟨Nat.le_of_ble_eq_true rfl, Nat.le_of_ble_eq_true rfl⟩, (by dsimp only; omega), (by dsimp only; omega)⟩ rfl (Nat.le_of_ble_eq_true rfl) f1 dX5_rowNow_4) hS (inA1.to g_f1) hn (fun H locs hR hz hk hS => ?_)
  have fo := fo.kept (hk _ fo.lt (inA1.not (clA.ne fo.cl f1.cl (hC.oo 13 7 rfl rfl (by decide))) fo.lt))
  have f0w := f0w.kept (hk _ f0w.lt (inA1.not (Nat.ne_of_lt l_f0w_f1) f0w.lt))
  have f1 := hR
  refine lv_astore_n (pc := 7) (lv' := [(1, .ref qf1), (0, .ref mo)]) hx hb dX5_rowNow_7 rfl hl (by decide) rfl (fun ls hl => ?_)
  refine lv_aload_n (pc := 8) hx hb dX5_rowNow_8 rfl (lv_at hl 1 rfl) ?_
  refine r_get (pc := 9) E hC fo 1 (v := .ref rl) rfl rfl (by decide) uX5 (List.mem_cons_of_mem _ kw_1210) (fun _ h => h) dX5_rowNow_9 ?_
  have hZ0_ := hS.1
  have t_fo := fo.lt
  have t_f0w := f0w.lt
  have t_f1 := f1.lt
  refine k_r (pc := 12) (k_V E hC hS hA hl.1 (c1.recv hC f0w rfl) rfl (c_Jx4a65c_iterator_32c93 l D tk N0 sa H.size rl br 0 mdr) kw_1486 kw_1487 kw_1488 kw_8 kw_1489 (n := 0) (by decide +kernel) rfl ⟨⟨rfl, rfl⟩, ⟨Nat.le_of_ble_eq_true rfl, Nat.le_of_ble_eq_true rfl⟩, (by dsimp only; omega), (by dsimp only; omega)⟩ rfl (Nat.le_of_ble_eq_true rfl) (by exact f0w) dX5_rowNow_12) hS (fun q z w => absurd w (Nat.not_le.mpr z)) hn (fun r_3 H locs hR hz hk hS => ?_)
  have fo := fo.kept (hk _ fo.lt (Nat.not_le.mpr fo.lt))
  have f0w := f0w.kept (hk _ f0w.lt (Nat.not_le.mpr f0w.lt))
  have f1 := f1.kept (hk _ f1.lt (Nat.not_le.mpr f1.lt))
  obtain ⟨z9_, f4⟩ := hR
  have s_f4 : s.heap.size ≤ r_3 := Nat.le_trans hZ0_ z9_
  have g_f4 := hn _ s_f4
  have l_fo_f4 : mo < r_3 := Nat.lt_of_lt_of_le t_fo z9_
  have l_f0w_f4 : rl < r_3 := Nat.lt_of_lt_of_le t_f0w z9_
  have l_f1_f4 : qf1 < r_3 := Nat.lt_of_lt_of_le t_f1 z9_
  refine lv_astore_n (pc := 15) (lv' := [(2, .ref r_3), (1, .ref qf1), (0, .ref mo)]) hx hb dX5_rowNow_15 rfl hl (by decide) rfl (fun ls hl => ?_)
  refine lv_aload_n (pc := 16) hx hb dX5_rowNow_16 rfl (lv_at hl 0 rfl) ?_
  refine k5_i (pc := 17) (k_F (ci := 6) rfl hC.xt.2.2.2.1 E hC hS hA hl.1 (c1.recv hC f4 rfl) (c_Jx35411_hasNext_aae02 l D tk N0 sa H.size r_3 rl br 0 0 mdr ((-1)) (by omega) (by omega)) kw_1510 kw_1516 kw_1514 kw_29 kw_1518 (n := 0) (by decide +kernel) rfl ⟨⟨rfl, rfl⟩, ⟨Nat.le_of_ble_eq_true rfl, Nat.le_of_ble_eq_true rfl⟩, (by dsimp only; omega), (by dsimp only; omega)⟩ rfl (Nat.le_of_ble_eq_true rfl) ⟨f4, f0w⟩ dX5_rowNow_17) hS (fun q z w => absurd w (Nat.not_le.mpr z)) hn (fun r_5 H locs hR hz hk hS => ?_)
  have fo := fo.kept (hk _ fo.lt (Nat.not_le.mpr fo.lt))
  have f0w := f0w.kept (hk _ f0w.lt (Nat.not_le.mpr f0w.lt))
  have f1 := f1.kept (hk _ f1.lt (Nat.not_le.mpr f1.lt))
  have f4 := f4.kept (hk _ f4.lt (Nat.not_le.mpr f4.lt))
  have hn_r_5 := hR
  refine lv_if_eq (pc := 22) (tgt := 51) hx hb dX5_rowNow_22 (by decide) (fun c_6 => ?_) (fun c_6 => ?_)
  rotate_left
  · exact absurd (hn_r_5.elim (fun z9 => z9.1) (fun z9 => absurd rfl z9.2)) c_6
  refine lv_aload_n (pc := 51) hx hb dX5_rowNow_51 rfl (lv_at hl 1 rfl) ?_
  refine r_aret (pc := 52) E hr (Or.inl ⟨_, rfl⟩) hlk hS (by omega) (by omega) ?_ dX5_rowNow_52
  exact ⟨s_f1, f1⟩
