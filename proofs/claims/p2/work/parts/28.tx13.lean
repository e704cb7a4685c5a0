set_option maxHeartbeats 4000000 in
set_option maxRecDepth 100000 in
/-- Bestratios.rounded()Ljava/lang/String; -/
theorem c_X3_rounded (l : Launch) (D : va_G) (tk : Nat → ClassId) (N0 : Nat) (sa : Nat → Nat) {ad : Nat → Nat} (hAD : ADok N0 ad) (sz : Nat) (g : CS) (kp : Nat) (hpl : tI g 3 = nI kp) (hkp : kp ≤ 9) (hdg : txD (f_cutNum (tT g 10) (tB g 10) (tI g 3) 0) kp) : Met l yX3_rounded (wsy yX3_rounded cX3_rounded 2 (some (.object "java/lang/String"))) ({ frames := 8, cells := 4 + ((tx_wd (f_cutNum (tT g 10) (tB g 10) (tI g 3) 0) kp (0, 16)).2 - 16), slots := 20 + 2 * ((tx_wd (f_cutNum (tT g 10) (tB g 10) (tI g 3) 0) kp (0, 16)).2 - 16) + (4 + (tx_wd (f_cutNum (tT g 10) (tB g 10) (tI g 3) 0) kp (0, 16)).1), locals := 184 } : Room) (cP D tk N0 sa [.ref (ad 15)] sz (fun H => CW D tk ad g H)) (kQr (fun r H => sz ≤ r ∧ SX D tk r ((tx_wd (f_cutNum (tT g 10) (tB g 10) (tI g 3) 0) kp (0, 16)).1) H) (nwA sz)) (4 + ((tx_wd (f_cutNum (tT g 10) (tB g 10) (tI g 3) 0) kp (0, 16)).2 - 16)) (20 + 2 * ((tx_wd (f_cutNum (tT g 10) (tB g 10) (tI g 3) 0) kp (0, 16)).2 - 16) + (4 + (tx_wd (f_cutNum (tT g 10) (tB g 10) (tI g 3) 0) kp (0, 16)).1)) (nwA sz) := by
  refine mStart RX3 rfl (by decide +kernel) (Nat.le_of_ble_eq_true rfl) ?_
  intro p e s m args below meth c E hr hlk hnm hsz hC hF ls hl
  subst hsz
  obtain ⟨hx, hb, -⟩ := id E
  have hA : ∀ q, (nwA s.heap.size) q → N0 ≤ q := fun q h => Nat.le_trans hC.2.1 h
  have hn : ∀ q, s.heap.size ≤ q → (nwA s.heap.size) q := fun q h => h
  have hS : va_S (nwA s.heap.size) s.heap s.heap [] := va_S.rf
  have hl : lv_has ls 2 [(0, .ref (ad 15))] := hl
  have hW : CW D tk ad g s.heap := hF
  have hS0_ := hS
  refine r_new (pc := 0) E hC hS tyJ4_ok uJ4 (List.mem_cons_of_mem _ kw_149) (List.mem_cons_of_mem _ kw_150) (List.mem_cons_of_mem _ kw_19) (ci := 1) rfl (fs := [.null, .int 0, .int 0, .int 0]) (by decide) (by dsimp only; omega) (by dsimp only; omega) dX3_rounded_0 (fun qf1 H zq_ n_ ho_ hS => ?_)
  have nW_f1 : ∀ k, k < 22 → ad k ≠ qf1 := fun k hk9 => Nat.ne_of_lt (zq_ ▸ (hW k hk9).lt)
  have hW := hW.kept (fun k hk9 => ho_ _ (hW k hk9).lt)
  have f1 := n_
  have s_f1 : s.heap.size ≤ qf1 := zq_ ▸ hS0_.1
  have g_f1 := hn _ s_f1
  refine lv_dup (pc := 3) hx hb dX3_rounded_3 rfl ?_
  have hZ0_ := hS.1
  have t_hW := fun k (hk9 : k < 22) => (hW k hk9).lt
  have t_f1 := f1.lt
  refine k_v (pc := 4) (k_I E hC hS hA hl.1 (c_J4_init_da8c8 l D tk N0 sa H.size qf1 (hA _ g_f1)) kw_151 kw_152 kw_19 kw_153 rfl (n := 0) (by decide +kernel) rfl ⟨⟨rfl, rfl⟩, ⟨Nat.le_of_ble_eq_true rfl, Nat.le_of_ble_eq_true rfl⟩, (by dsimp only; omega), (by dsimp only; omega)⟩ rfl (Nat.le_of_ble_eq_true rfl) f1 dX3_rounded_4) hS (inA1.to g_f1) hn (fun H locs hR hz hk hS => ?_)
  have hW := hW.kept (fun k hk9 => hk _ (hW k hk9).lt (inA1.not (nW_f1 k hk9) (hW k hk9).lt))
  obtain ⟨q_hB, z9_, f1, hB⟩ := hR
  have s_hB : s.heap.size ≤ q_hB := Nat.le_trans hZ0_ z9_
  have g_hB := hn _ s_hB
  have nW_hB : ∀ k, k < 22 → ad k ≠ q_hB := fun k hk9 => Nat.ne_of_lt (Nat.lt_of_lt_of_le (t_hW k hk9) z9_)
  have l_f1_hB : qf1 < q_hB := Nat.lt_of_lt_of_le t_f1 z9_
  have nW_f1 := cwO hC hW f1.cl
  refine lv_astore_n (pc := 7) (lv' := [(1, .ref qf1), (0, .ref (ad 15))]) hx hb dX3_rounded_7 rfl hl (by decide) rfl (fun ls hl => ?_)
  refine lv_aload_n (pc := 8) hx hb dX3_rounded_8 rfl (lv_at hl 1 rfl) ?_
  refine lv_aload_n (pc := 9) hx hb dX3_rounded_9 rfl (lv_at hl 0 rfl) ?_
  have hZ0_ := hS.1
  have t_hW := fun k (hk9 : k < 22) => (hW k hk9).lt
  have t_f1 := f1.lt
  have t_hB := hB.lt
  obtain ⟨Q_3, eQ_3⟩ : ∃ z9 : Nat × Nat, z9 = tx_wd (f_cutNum (tT g 10) (tB g 10) (tI g 3) 0) kp (0, 16) := ⟨_, rfl⟩
  have e2Q_3 : (tx_wd (f_cutNum (tT g 10) (tB g 10) (tI g 3) 0) kp (0, 16)).2 = Q_3.2 := by rw [eQ_3]
  have e1Q_3 : (tx_wd (f_cutNum (tT g 10) (tB g 10) (tI g 3) 0) kp (0, 16)).1 = Q_3.1 := by rw [eQ_3]
  have hQ_3 := tx_wd_ok (f_cutNum (tT g 10) (tB g 10) (tI g 3) 0) kp (q := (0, 16)) (by dsimp only; omega)
  rw [← eQ_3] at hQ_3; dsimp only [tx_ok] at hQ_3
  refine k_v (pc := 10) (k_V E hC hS hA hl.1 (c1.recv hC hW.obj rfl) rfl (c_X3_writeRounded l D tk N0 sa hAD H.size g qf1 q_hB 0 16 0 (hA _ g_f1) (hA _ g_hB) (by omega) (by omega) kp hpl hkp hdg) kw_521 kw_523 kp_1 kw_1 kw_524 (n := 1) (by decide +kernel) rfl ⟨⟨rfl, rfl⟩, ⟨Nat.le_of_ble_eq_true rfl, Nat.le_of_ble_eq_true rfl⟩, (by dsimp only; omega), (by dsimp only; omega)⟩ rfl (Nat.le_of_ble_eq_true rfl) ⟨hW, f1, hB⟩ dX3_rounded_10) hS (inA2.to g_f1 g_hB) hn (fun H locs hR hz hk hS => ?_)
  have hW := hW.kept (fun k hk9 => hk _ (hW k hk9).lt (inA2.not (nW_f1 k hk9) (nW_hB k hk9) (hW k hk9).lt))
  obtain ⟨v_5, ml_5, hv_5, f1, hB⟩ := hR
  have g_hB := hv_5.elim (fun e9 => e9 ▸ g_hB) (fun z9 => hn _ (Nat.le_trans hZ0_ z9))
  have nW_hB : ∀ k, k < 22 → ad k ≠ v_5 := fun k hk9 => hv_5.elim (fun e9 => e9 ▸ nW_hB k hk9) (fun z9 => Nat.ne_of_lt (Nat.lt_of_lt_of_le (t_hW k hk9) z9))
  have l_f1_hB : qf1 < v_5 := hv_5.elim (fun e9 => e9 ▸ l_f1_hB) (fun z9 => Nat.lt_of_lt_of_le t_f1 z9)
  have hv_5 := hv_5.imp_right (fun z9 => Nat.le_trans hZ0_ z9)
  rw [← eQ_3] at f1 hB
  refine lv_aload_n (pc := 13) hx hb dX3_rounded_13 rfl (lv_at hl 0 rfl) ?_
  have hZ0_ := hS.1
  have t_hW := fun k (hk9 : k < 22) => (hW k hk9).lt
  have t_f1 := f1.lt
  have t_hB := hB.lt
  refine k_r (pc := 14) (k_V E hC hS hA hl.1 (c1.recv hC f1 rfl) rfl (c_J4_toString_0e30d l D tk N0 sa H.size qf1 v_5 Q_3.2 Q_3.1 ml_5 (by omega) (by omega)) kw_315 kw_316 kw_317 kw_19 kw_318 (n := 0) (by decide +kernel) rfl ⟨⟨rfl, rfl⟩, ⟨Nat.le_of_ble_eq_true rfl, Nat.le_of_ble_eq_true rfl⟩, (by dsimp only; omega), (by dsimp only; omega)⟩ rfl (Nat.le_of_ble_eq_true rfl) ⟨f1, hB⟩ dX3_rounded_14) hS (fun q z w => absurd w (Nat.not_le.mpr z)) hn (fun r_7 H locs hR hz hk hS => ?_)
  have hW := hW.new hk
  have f1 := f1.kept (hk _ f1.lt (Nat.not_le.mpr f1.lt))
  have hB := hB.kept (hk _ hB.lt (Nat.not_le.mpr hB.lt))
  obtain ⟨q_f8, z9_, y9_, f8⟩ := hR
  have f8 := SM.sx f8
  have zr_f8 : s.heap.size ≤ r_7 := Nat.le_trans hZ0_ z9_
  refine r_aret (pc := 17) E hr (Or.inl ⟨_, rfl⟩) hlk hS (by omega) (by omega) ?_ dX3_rounded_17
  rw [← eQ_3]
  exact ⟨zr_f8, f8⟩
