set_option maxHeartbeats 4000000 in
set_option maxRecDepth 100000 in
/-- Bestratios.way(I)Ljava/lang/String; -/
theorem c_X3_way (l : Launch) (hlst : l.stackTraces = false) (D : va_G) (tk : Nat → ClassId) (N0 : Nat) (sa : Nat → Nat) {ad : Nat → Nat} (hAD : ADok N0 ad) (sz : Nat) (g : CS) (r_ : Int32) : vx_Met l yX3_way (wsy yX3_way cX3_way 4 (some (.object "java/lang/String"))) ({ frames := 7, cells := 5 + ((tx_wy g (nn r_) (0, 16)).2 - 16), slots := 26 + 2 * ((tx_wy g (nn r_) (0, 16)).2 - 16) + (4 + (tx_wy g (nn r_) (0, 16)).1), locals := 161 } : Room) (cP D tk N0 sa [.ref (ad 15), .int r_] sz (fun H => CW D tk ad g H)) (kQr (fun r H => bR r_ = 0 ∧ sz ≤ r ∧ SX D tk r ((tx_wy g (nn r_) (0, 16)).1) H ∧ CW D tk ad (tx_wyW g (nn r_)) H) (cwA ad sz)) (kX (fun E => (E = "java/lang/IndexOutOfBoundsException" ∧ bR r_ = 1)) sz) (5 + ((tx_wy g (nn r_) (0, 16)).2 - 16)) (26 + 2 * ((tx_wy g (nn r_) (0, 16)).2 - 16) + (4 + (tx_wy g (nn r_) (0, 16)).1)) (cwA ad sz) := by
  refine mStartX RX3 rfl (by decide +kernel) (Nat.le_of_ble_eq_true rfl) ?_
  intro p e s m args below meth c E hr hlk htb hsz hC hF ls hl
  subst hsz
  obtain ⟨hx, hb, -⟩ := id E
  have hA : ∀ q, (cwA ad s.heap.size) q → N0 ≤ q := cwA.ge hAD hC.2.1
  have hn : ∀ q, s.heap.size ≤ q → (cwA ad s.heap.size) q := fun q h => Or.inr h
  have hS : va_S (cwA ad s.heap.size) s.heap s.heap [] := va_S.rf
  have hU : ∀ q, q < s.heap.size → s.heap[q]? = s.heap[q]? := fun _ _ => rfl
  have hl : lv_has ls 4 [(0, .ref (ad 15)), (1, .int r_)] := hl
  have hW : CW D tk ad g s.heap := hF
  refine lv_aload_n (pc := 0) hx hb dX3_way_0 rfl (lv_at hl 0 rfl) ?_
  refine lv_iload_n (pc := 1) hx hb dX3_way_1 rfl (lv_at hl 1 rfl) ?_
  have hZ := hS.1
  refine kx_r (pc := 2) (kx_V E hC hS hA hl.1 (c1.recv hC hW.obj rfl) rfl (c_X3_ratioAt l hlst D tk N0 sa hAD s.heap.size g r_ ) kw_809 kw_811 kp_15 kw_1 kw_812 (n := 1) (by decide +kernel) rfl ⟨⟨rfl, rfl⟩, ⟨Nat.le_of_ble_eq_true rfl, Nat.le_of_ble_eq_true rfl⟩, (by dsimp only; omega), (by dsimp only; omega)⟩ rfl (Nat.le_of_ble_eq_true rfl) hW dX3_way_2) hS (fun q z w => absurd w (Nat.not_le.mpr z)) hn hlk htb hU (fun E9 h9 => by rcases h9 with ⟨rfl, h9⟩ <;> first | (simp [h9]; done) | (simp [xo, h9]; done)) ⟨by (try dsimp only); omega, by (try dsimp only); omega⟩ (fun r_1 H locs hR hz hk hS => ?_)
  have hU := fun q (hq : q < s.heap.size) => (hk q (Nat.lt_of_lt_of_le hq hZ) (Nat.not_le.mpr (Nat.lt_of_lt_of_le hq hZ))).trans (hU q hq)
  obtain ⟨ek_2, er_1⟩ := hR
  have hW := hW.new hk
  have hi_3 : nn r_ < 15 := Nat.lt_of_lt_of_le (bR_lt ek_2) (by decide)
  subst er_1
  refine lv_astore_n (pc := 5) (lv' := [(2, .ref (ad (nn r_))), (0, .ref (ad 15)), (1, .int r_)]) hx hb dX3_way_5 rfl hl (by decide) rfl (fun ls hl => ?_)
  have hS0_ := hS
  refine r_new (pc := 6) E hC hS tyJ4_ok uJ4 (List.mem_cons_of_mem _ kw_149) (List.mem_cons_of_mem _ kw_150) (List.mem_cons_of_mem _ kw_19) (ci := 1) rfl (fs := [.null, .int 0, .int 0, .int 0]) (by decide) (by dsimp only; omega) (by dsimp only; omega) dX3_way_6 (fun qf4 H zq_ n_ ho_ hS => ?_)
  have nW_f4 : ∀ k, k < 22 → ad k ≠ qf4 := fun k hk9 => Nat.ne_of_lt (zq_ ▸ (hW k hk9).lt)
  have hW := hW.kept (fun k hk9 => ho_ _ (hW k hk9).lt)
  have f4 := n_
  have s_f4 : s.heap.size ≤ qf4 := zq_ ▸ hS0_.1
  have g_f4 := hn _ s_f4
  refine lv_dup (pc := 9) hx hb dX3_way_9 rfl ?_
  have hZ0_ := hS.1
  have t_hW := fun k (hk9 : k < 22) => (hW k hk9).lt
  have t_f4 := f4.lt
  refine k_v (pc := 10) (k_I E hC hS hA hl.1 (c_J4_init_da8c8 l D tk N0 sa H.size qf4 (hA _ g_f4)) kw_151 kw_152 kw_19 kw_153 rfl (n := 0) (by decide +kernel) rfl ⟨⟨rfl, rfl⟩, ⟨Nat.le_of_ble_eq_true rfl, Nat.le_of_ble_eq_true rfl⟩, (by dsimp only; omega), (by dsimp only; omega)⟩ rfl (Nat.le_of_ble_eq_true rfl) f4 dX3_way_10) hS (inA1.to g_f4) hn (fun H locs hR hz hk hS => ?_)
  have hW := hW.kept (fun k hk9 => hk _ (hW k hk9).lt (inA1.not (nW_f4 k hk9) (hW k hk9).lt))
  obtain ⟨q_hB, z9_, f4, hB⟩ := hR
  have s_hB : s.heap.size ≤ q_hB := Nat.le_trans hZ0_ z9_
  have g_hB := hn _ s_hB
  have nW_hB : ∀ k, k < 22 → ad k ≠ q_hB := fun k hk9 => Nat.ne_of_lt (Nat.lt_of_lt_of_le (t_hW k hk9) z9_)
  have l_f4_hB : qf4 < q_hB := Nat.lt_of_lt_of_le t_f4 z9_
  have nW_f4 := cwO hC hW f4.cl
  refine lv_astore_n (pc := 13) (lv' := [(3, .ref qf4), (2, .ref (ad (nn r_))), (0, .ref (ad 15)), (1, .int r_)]) hx hb dX3_way_13 rfl hl (by decide) rfl (fun ls hl => ?_)
  refine lv_aload_n (pc := 14) hx hb dX3_way_14 rfl (lv_at hl 2 rfl) ?_
  refine lv_aload_n (pc := 15) hx hb dX3_way_15 rfl (lv_at hl 0 rfl) ?_
  refine lv_aload_n (pc := 16) hx hb dX3_way_16 rfl (lv_at hl 1 rfl) ?_
  have hZ0_ := hS.1
  have t_hW := fun k (hk9 : k < 22) => (hW k hk9).lt
  have t_f4 := f4.lt
  have t_hB := hB.lt
  obtain ⟨Q_6, eQ_6⟩ : ∃ z9 : Nat × Nat, z9 = tx_wy g ((nn r_)) (0, 16) := ⟨_, rfl⟩
  have e2Q_6 : (tx_wy g ((nn r_)) (0, 16)).2 = Q_6.2 := by rw [eQ_6]
  have e1Q_6 : (tx_wy g ((nn r_)) (0, 16)).1 = Q_6.1 := by rw [eQ_6]
  have hQ_6 := tx_wy_ok g ((nn r_)) (q := (0, 16)) (by dsimp only; omega)
  rw [← eQ_6] at hQ_6; dsimp only [tx_ok] at hQ_6
  refine k_v (pc := 17) (k_V E hC hS hA hl.1 (c1.recv hC hW.obj rfl) rfl (c_X3_writeWay l D tk N0 sa hAD H.size g ((nn r_)) hi_3 qf4 q_hB 0 16 0 (hA _ g_f4) (hA _ g_hB) (by omega) (by omega)) kw_771 kw_773 kp_12 kw_1 kw_774 (n := 2) (by decide +kernel) rfl ⟨⟨rfl, rfl⟩, ⟨Nat.le_of_ble_eq_true rfl, Nat.le_of_ble_eq_true rfl⟩, (by dsimp only; omega), (by dsimp only; omega)⟩ rfl (Nat.le_of_ble_eq_true rfl) ⟨hW, f4, hB⟩ dX3_way_17) hS (inC2.to (fun q w => cwA.go hS.1 q w) g_f4 g_hB) hn (fun H locs hR hz hk hS => ?_)
  obtain ⟨⟨v_8, ml_8, hv_8, f4, hB⟩, hW⟩ := hR
  have g_hB := hv_8.elim (fun e9 => e9 ▸ g_hB) (fun z9 => hn _ (Nat.le_trans hZ0_ z9))
  have l_f4_hB : qf4 < v_8 := hv_8.elim (fun e9 => e9 ▸ l_f4_hB) (fun z9 => Nat.lt_of_lt_of_le t_f4 z9)
  have hv_8 := hv_8.imp_right (fun z9 => Nat.le_trans hZ0_ z9)
  rw [← eQ_6] at f4 hB
  obtain ⟨g_10, eg_10⟩ : ∃ z, z = tx_wyW g ((nn r_)) := ⟨_, rfl⟩
  rw [← eg_10] at hW
  have nW_hB := cwB hC hW hB.cl
  refine lv_aload_n (pc := 20) hx hb dX3_way_20 rfl (lv_at hl 0 rfl) ?_
  have hZ0_ := hS.1
  have t_hW := fun k (hk9 : k < 22) => (hW k hk9).lt
  have t_f4 := f4.lt
  have t_hB := hB.lt
  refine k_r (pc := 21) (k_V E hC hS hA hl.1 (c1.recv hC f4 rfl) rfl (c_J4_toString_0e30d l D tk N0 sa H.size qf4 v_8 Q_6.2 Q_6.1 ml_8 (by omega) (by omega)) kw_315 kw_316 kw_317 kw_19 kw_318 (n := 0) (by decide +kernel) rfl ⟨⟨rfl, rfl⟩, ⟨Nat.le_of_ble_eq_true rfl, Nat.le_of_ble_eq_true rfl⟩, (by dsimp only; omega), (by dsimp only; omega)⟩ rfl (Nat.le_of_ble_eq_true rfl) ⟨f4, hB⟩ dX3_way_21) hS (fun q z w => absurd w (Nat.not_le.mpr z)) hn (fun r_11 H locs hR hz hk hS => ?_)
  have hW := hW.new hk
  have f4 := f4.kept (hk _ f4.lt (Nat.not_le.mpr f4.lt))
  have hB := hB.kept (hk _ hB.lt (Nat.not_le.mpr hB.lt))
  obtain ⟨q_f12, z9_, y9_, f12⟩ := hR
  have f12 := SM.sx f12
  have zr_f12 : s.heap.size ≤ r_11 := Nat.le_trans hZ0_ z9_
  refine vx_ret ?_
  refine r_aret (pc := 24) E hr (Or.inl ⟨_, rfl⟩) hlk hS (by omega) (by omega) ?_ dX3_way_24
  rw [← eQ_6]
  exact ⟨(by first | assumption | (simp [xo, ek_2]; done)), zr_f12, f12, hW.to (by simp only [eg_10])⟩
