set_option maxHeartbeats 4000000 in
set_option maxRecDepth 100000 in
/-- Bestratios.cut(III)Ljava/lang/String; -/
theorem c_X3_cut (l : Launch) (hlst : l.stackTraces = false) (D : va_G) (tk : Nat → ClassId) (N0 : Nat) (sa : Nat → Nat) {ad : Nat → Nat} (hAD : ADok N0 ad) (sz : Nat) (g : CS) (r_ : Int32) (pl : Int32) (md : Int32) (hdg : ∀ i, i < 6 → txD (f_cutNum (tT g i) (tB g i) pl md) (nn pl)) : vx_Met l yX3_cut (wsy yX3_cut cX3_cut 6 (some (.object "java/lang/String"))) ({ frames := 7, cells := 7 + ((tx_wd (f_cutNum (tT g (nn r_)) (tB g (nn r_)) pl md) (nn pl) (0, 16)).2 - 16), slots := 38 + 2 * ((tx_wd (f_cutNum (tT g (nn r_)) (tB g (nn r_)) pl md) (nn pl) (0, 16)).2 - 16) + (4 + (tx_wd (f_cutNum (tT g (nn r_)) (tB g (nn r_)) pl md) (nn pl) (0, 16)).1), locals := 163 } : Room) (cP D tk N0 sa [.ref (ad 15), .int r_, .int pl, .int md] sz (fun H => CW D tk ad g H)) (kQr (fun r H => xo (bR r_) (xo (2 * bW pl 0 9) (2 * bW md 0 4)) = 0 ∧ sz ≤ r ∧ SX D tk r ((tx_wd (f_cutNum (tT g (nn r_)) (tB g (nn r_)) pl md) (nn pl) (0, 16)).1) H) (nwA sz)) (kX (fun E => (E = "java/lang/IndexOutOfBoundsException" ∧ xo (bR r_) (xo (2 * bW pl 0 9) (2 * bW md 0 4)) = 1) ∨ (E = "java/lang/IllegalArgumentException" ∧ xo (bR r_) (xo (2 * bW pl 0 9) (2 * bW md 0 4)) = 2)) sz) (7 + ((tx_wd (f_cutNum (tT g (nn r_)) (tB g (nn r_)) pl md) (nn pl) (0, 16)).2 - 16)) (38 + 2 * ((tx_wd (f_cutNum (tT g (nn r_)) (tB g (nn r_)) pl md) (nn pl) (0, 16)).2 - 16) + (4 + (tx_wd (f_cutNum (tT g (nn r_)) (tB g (nn r_)) pl md) (nn pl) (0, 16)).1)) (nwA sz) := by
  refine mStartX RX3 rfl (by decide +kernel) (Nat.le_of_ble_eq_true rfl) ?_
  intro p e s m args below meth c E hr hlk htb hsz hC hF ls hl
  subst hsz
  obtain ⟨hx, hb, -⟩ := id E
  have hA : ∀ q, (nwA s.heap.size) q → N0 ≤ q := fun q h => Nat.le_trans hC.2.1 h
  have hn : ∀ q, s.heap.size ≤ q → (nwA s.heap.size) q := fun q h => h
  have hS : va_S (nwA s.heap.size) s.heap s.heap [] := va_S.rf
  have hU : ∀ q, q < s.heap.size → s.heap[q]? = s.heap[q]? := fun _ _ => rfl
  have hl : lv_has ls 6 [(0, .ref (ad 15)), (1, .int r_), (2, .int pl), (3, .int md)] := hl
  have hW : CW D tk ad g s.heap := hF
  refine lv_aload_n (pc := 0) hx hb dX3_cut_0 rfl (lv_at hl 0 rfl) ?_
  refine lv_iload_n (pc := 1) hx hb dX3_cut_1 rfl (lv_at hl 1 rfl) ?_
  have hZ := hS.1
  refine kx_r (pc := 2) (kx_V E hC hS hA hl.1 (c1.recv hC hW.obj rfl) rfl (c_X3_ratioAt l hlst D tk N0 sa hAD s.heap.size g r_ ) kw_809 kw_811 kp_15 kw_1 kw_812 (n := 1) (by decide +kernel) rfl ⟨⟨rfl, rfl⟩, ⟨Nat.le_of_ble_eq_true rfl, Nat.le_of_ble_eq_true rfl⟩, (by dsimp only; omega), (by dsimp only; omega)⟩ rfl (Nat.le_of_ble_eq_true rfl) hW dX3_cut_2) hS (fun q z w => absurd w (Nat.not_le.mpr z)) hn hlk htb hU (fun E9 h9 => by rcases h9 with ⟨rfl, h9⟩ <;> first | (simp [h9]; done) | (simp [xo, h9]; done)) ⟨by (try dsimp only); omega, by (try dsimp only); omega⟩ (fun r_1 H locs hR hz hk hS => ?_)
  have hU := fun q (hq : q < s.heap.size) => (hk q (Nat.lt_of_lt_of_le hq hZ) (Nat.not_le.mpr (Nat.lt_of_lt_of_le hq hZ))).trans (hU q hq)
  obtain ⟨ek_2, er_1⟩ := hR
  have hW := hW.new hk
  have hi_3 : nn r_ < 15 := Nat.lt_of_lt_of_le (bR_lt ek_2) (by decide)
  subst er_1
  refine lv_astore (pc := 5) (lv' := [(4, .ref (ad (nn r_))), (0, .ref (ad 15)), (1, .int r_), (2, .int pl), (3, .int md)]) hx hb dX3_cut_5 hl (by decide) rfl (fun ls hl => ?_)
  refine lv_iload_n (pc := 7) hx hb dX3_cut_7 rfl (lv_at hl 3 rfl) ?_
  refine lv_iconst (pc := 8) (v := 0) hx hb dX3_cut_8 (by decide) ?_
  refine lv_bipush (pc := 9) (v := 9) hx hb dX3_cut_9 (by decide) ?_
  have hZ := hS.1
  refine kx_v (pc := 11) (kx_S E hC hS hA hl.1 (c_X3_requireWithin l hlst D tk N0 sa H.size pl 0 9 ) kw_851 kw_852 kw_1 kw_853 (n := 3) (by decide +kernel) rfl ⟨⟨rfl, rfl⟩, ⟨Nat.le_of_ble_eq_true rfl, Nat.le_of_ble_eq_true rfl⟩, (by dsimp only; omega), (by dsimp only; omega)⟩ rfl (Nat.le_of_ble_eq_true rfl) trivial dX3_cut_11) hS (fun q z w => absurd w (Nat.not_le.mpr z)) hn hlk htb hU (fun E9 h9 => by rcases h9 with ⟨rfl, h9⟩ <;> first | (simp [h9]; done) | (simp [xo, h9, ek_2]; done)) ⟨by (try dsimp only); omega, by (try dsimp only); omega⟩ (fun H locs hR hz hk hS => ?_)
  have hU := fun q (hq : q < s.heap.size) => (hk q (Nat.lt_of_lt_of_le hq hZ) (Nat.not_le.mpr (Nat.lt_of_lt_of_le hq hZ))).trans (hU q hq)
  have ek_5 := hR
  have hW := hW.new hk
  refine lv_iload_n (pc := 14) hx hb dX3_cut_14 rfl (lv_at hl 4 rfl) ?_
  refine lv_iconst (pc := 15) (v := 0) hx hb dX3_cut_15 (by decide) ?_
  refine lv_iconst (pc := 16) (v := 4) hx hb dX3_cut_16 (by decide) ?_
  have hZ := hS.1
  refine kx_v (pc := 17) (kx_S E hC hS hA hl.1 (c_X3_requireWithin l hlst D tk N0 sa H.size md 0 4 ) kw_851 kw_852 kw_1 kw_853 (n := 3) (by decide +kernel) rfl ⟨⟨rfl, rfl⟩, ⟨Nat.le_of_ble_eq_true rfl, Nat.le_of_ble_eq_true rfl⟩, (by dsimp only; omega), (by dsimp only; omega)⟩ rfl (Nat.le_of_ble_eq_true rfl) trivial dX3_cut_17) hS (fun q z w => absurd w (Nat.not_le.mpr z)) hn hlk htb hU (fun E9 h9 => by rcases h9 with ⟨rfl, h9⟩ <;> first | (simp [h9]; done) | (simp [xo, h9, ek_2, ek_5]; done)) ⟨by (try dsimp only); omega, by (try dsimp only); omega⟩ (fun H locs hR hz hk hS => ?_)
  have hU := fun q (hq : q < s.heap.size) => (hk q (Nat.lt_of_lt_of_le hq hZ) (Nat.not_le.mpr (Nat.lt_of_lt_of_le hq hZ))).trans (hU q hq)
  have ek_7 := hR
  have hW := hW.new hk
  have hS0_ := hS
  refine r_new (pc := 20) E hC hS tyJ4_ok uJ4 (List.mem_cons_of_mem _ kw_149) (List.mem_cons_of_mem _ kw_150) (List.mem_cons_of_mem _ kw_19) (ci := 1) rfl (fs := [.null, .int 0, .int 0, .int 0]) (by decide) (by dsimp only; omega) (by dsimp only; omega) dX3_cut_20 (fun qf8 H zq_ n_ ho_ hS => ?_)
  have nW_f8 : ∀ k, k < 22 → ad k ≠ qf8 := fun k hk9 => Nat.ne_of_lt (zq_ ▸ (hW k hk9).lt)
  have hW := hW.kept (fun k hk9 => ho_ _ (hW k hk9).lt)
  have f8 := n_
  have s_f8 : s.heap.size ≤ qf8 := zq_ ▸ hS0_.1
  have g_f8 := hn _ s_f8
  refine lv_dup (pc := 23) hx hb dX3_cut_23 rfl ?_
  have hZ0_ := hS.1
  have t_hW := fun k (hk9 : k < 22) => (hW k hk9).lt
  have t_f8 := f8.lt
  refine k_v (pc := 24) (k_I E hC hS hA hl.1 (c_J4_init_da8c8 l D tk N0 sa H.size qf8 (hA _ g_f8)) kw_151 kw_152 kw_19 kw_153 rfl (n := 0) (by decide +kernel) rfl ⟨⟨rfl, rfl⟩, ⟨Nat.le_of_ble_eq_true rfl, Nat.le_of_ble_eq_true rfl⟩, (by dsimp only; omega), (by dsimp only; omega)⟩ rfl (Nat.le_of_ble_eq_true rfl) f8 dX3_cut_24) hS (inA1.to g_f8) hn (fun H locs hR hz hk hS => ?_)
  have hW := hW.kept (fun k hk9 => hk _ (hW k hk9).lt (inA1.not (nW_f8 k hk9) (hW k hk9).lt))
  obtain ⟨q_hB, z9_, f8, hB⟩ := hR
  have s_hB : s.heap.size ≤ q_hB := Nat.le_trans hZ0_ z9_
  have g_hB := hn _ s_hB
  have nW_hB : ∀ k, k < 22 → ad k ≠ q_hB := fun k hk9 => Nat.ne_of_lt (Nat.lt_of_lt_of_le (t_hW k hk9) z9_)
  have l_f8_hB : qf8 < q_hB := Nat.lt_of_lt_of_le t_f8 z9_
  have nW_f8 := cwO hC hW f8.cl
  refine lv_astore (pc := 27) (lv' := [(5, .ref qf8), (4, .ref (ad (nn r_))), (0, .ref (ad 15)), (1, .int r_), (2, .int pl), (3, .int md)]) hx hb dX3_cut_27 hl (by decide) rfl (fun ls hl => ?_)
  refine lv_aload (pc := 29) hx hb dX3_cut_29 (lv_at hl 0 rfl) ?_
  refine lv_aload (pc := 31) hx hb dX3_cut_31 (lv_at hl 1 rfl) ?_
  refine lv_iload_n (pc := 33) hx hb dX3_cut_33 rfl (lv_at hl 4 rfl) ?_
  refine lv_iload_n (pc := 34) hx hb dX3_cut_34 rfl (lv_at hl 5 rfl) ?_
  refine k_l (pc := 35) (k_V E hC hS hA hl.1 (c1.recv hC (hW.fr (i := (nn r_)) hi_3) rfl) rfl (c_X0_cutTo l D tk N0 sa hAD H.size g ((nn r_)) hi_3 pl md ) kw_525 kw_526 kw_527 kw_2 kw_528 (n := 2) (by decide +kernel) rfl ⟨⟨rfl, rfl⟩, ⟨Nat.le_of_ble_eq_true rfl, Nat.le_of_ble_eq_true rfl⟩, (by dsimp only; omega), (by dsimp only; omega)⟩ rfl (Nat.le_of_ble_eq_true rfl) hW dX3_cut_35) hS (fun q z w => absurd w (Nat.not_le.mpr z)) hn (fun r_10 H locs hR hz hk hS => ?_)
  have er_10 := hR
  have hW := hW.new hk
  have f8 := f8.kept (hk _ f8.lt (Nat.not_le.mpr f8.lt))
  have hB := hB.kept (hk _ hB.lt (Nat.not_le.mpr hB.lt))
  refine lv_iload_n (pc := 38) hx hb dX3_cut_38 rfl (lv_at hl 4 rfl) ?_
  have hZ0_ := hS.1
  have t_hW := fun k (hk9 : k < 22) => (hW k hk9).lt
  have t_f8 := f8.lt
  have t_hB := hB.lt
  obtain ⟨Q_12, eQ_12⟩ : ∃ z9 : Nat × Nat, z9 = tx_wd r_10 ((nn pl)) (0, 16) := ⟨_, rfl⟩
  have e2Q_12 : (tx_wd r_10 ((nn pl)) (0, 16)).2 = Q_12.2 := by rw [eQ_12]
  have e1Q_12 : (tx_wd r_10 ((nn pl)) (0, 16)).1 = Q_12.1 := by rw [eQ_12]
  have hQ_12 := tx_wd_ok r_10 ((nn pl)) (q := (0, 16)) (by dsimp only; omega)
  rw [← eQ_12] at hQ_12; dsimp only [tx_ok] at hQ_12
  have hM9 : (tx_wd (f_cutNum (tT g (nn r_)) (tB g (nn r_)) pl md) (nn pl) (0, 16)).2 = Q_12.2 := by rw [eQ_12, er_10]
  have hM8 : (tx_wd (f_cutNum (tT g (nn r_)) (tB g (nn r_)) pl md) (nn pl) (0, 16)).1 = Q_12.1 := by rw [eQ_12, er_10]
  have hkp := (bW_k (k := 9) (by decide) ek_5).2
  refine k_v (pc := 39) (k_S E hC hS hA hl.1 (c_X3_writeDecimal l D tk N0 sa H.size r_10 pl qf8 q_hB 0 16 0 (hA _ g_f8) (hA _ g_hB) (by omega) (by omega) (nn pl) (bW_k (k := 9) (by decide) ek_5).1 (bW_k (k := 9) (by decide) ek_5).2 (by rw [er_10]; exact hdg _ (bR_lt ek_2))) kw_542 kw_543 kw_1 kw_544 (n := 3) (by decide +kernel) rfl ⟨⟨rfl, rfl⟩, ⟨Nat.le_of_ble_eq_true rfl, Nat.le_of_ble_eq_true rfl⟩, (by dsimp only; omega), (by dsimp only; omega)⟩ rfl (Nat.le_of_ble_eq_true rfl) ⟨f8, hB⟩ dX3_cut_39) hS (inA2.to g_f8 g_hB) hn (fun H locs hR hz hk hS => ?_)
  have hW := hW.kept (fun k hk9 => hk _ (hW k hk9).lt (inA2.not (nW_f8 k hk9) (nW_hB k hk9) (hW k hk9).lt))
  obtain ⟨v_14, ml_14, hv_14, f8, hB⟩ := hR
  have g_hB := hv_14.elim (fun e9 => e9 ▸ g_hB) (fun z9 => hn _ (Nat.le_trans hZ0_ z9))
  have nW_hB : ∀ k, k < 22 → ad k ≠ v_14 := fun k hk9 => hv_14.elim (fun e9 => e9 ▸ nW_hB k hk9) (fun z9 => Nat.ne_of_lt (Nat.lt_of_lt_of_le (t_hW k hk9) z9))
  have l_f8_hB : qf8 < v_14 := hv_14.elim (fun e9 => e9 ▸ l_f8_hB) (fun z9 => Nat.lt_of_lt_of_le t_f8 z9)
  have hv_14 := hv_14.imp_right (fun z9 => Nat.le_trans hZ0_ z9)
  rw [← eQ_12] at f8 hB
  refine lv_aload (pc := 42) hx hb dX3_cut_42 (lv_at hl 0 rfl) ?_
  have hZ0_ := hS.1
  have t_hW := fun k (hk9 : k < 22) => (hW k hk9).lt
  have t_f8 := f8.lt
  have t_hB := hB.lt
  refine k_r (pc := 44) (k_V E hC hS hA hl.1 (c1.recv hC f8 rfl) rfl (c_J4_toString_0e30d l D tk N0 sa H.size qf8 v_14 Q_12.2 Q_12.1 ml_14 (by omega) (by omega)) kw_315 kw_316 kw_317 kw_19 kw_318 (n := 0) (by decide +kernel) rfl ⟨⟨rfl, rfl⟩, ⟨Nat.le_of_ble_eq_true rfl, Nat.le_of_ble_eq_true rfl⟩, (by dsimp only; omega), (by dsimp only; omega)⟩ rfl (Nat.le_of_ble_eq_true rfl) ⟨f8, hB⟩ dX3_cut_44) hS (fun q z w => absurd w (Nat.not_le.mpr z)) hn (fun r_16 H locs hR hz hk hS => ?_)
  have hW := hW.new hk
  have f8 := f8.kept (hk _ f8.lt (Nat.not_le.mpr f8.lt))
  have hB := hB.kept (hk _ hB.lt (Nat.not_le.mpr hB.lt))
  obtain ⟨q_f17, z9_, y9_, f17⟩ := hR
  have f17 := SM.sx f17
  have zr_f17 : s.heap.size ≤ r_16 := Nat.le_trans hZ0_ z9_
  refine vx_ret ?_
  refine r_aret (pc := 47) E hr (Or.inl ⟨_, rfl⟩) hlk hS (by omega) (by omega) ?_ dX3_cut_47
  rw [hM8]
  exact ⟨(by first | assumption | (simp [xo, ek_2, ek_5, ek_7]; done)), zr_f17, f17⟩
