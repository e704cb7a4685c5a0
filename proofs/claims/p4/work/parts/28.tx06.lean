set_option maxHeartbeats 4000000 in
set_option maxRecDepth 100000 in
/-- Bestratios.text(I)Ljava/lang/String; -/
theorem c_X3_text (l : Launch) (hlst : l.stackTraces = false) (D : va_G) (tk : Nat → ClassId) (N0 : Nat) (sa : Nat → Nat) {ad : Nat → Nat} (hAD : ADok N0 ad) (sz : Nat) (g : CS) (r_ : Int32) : vx_Met l yX3_text (wsy yX3_text cX3_text 2 (some (.object "java/lang/String"))) ({ frames := 8, cells := 5 + ((tx_wf (tT g (nn r_)) (tB g (nn r_)) (0, 16)).2 - 16), slots := 26 + 2 * ((tx_wf (tT g (nn r_)) (tB g (nn r_)) (0, 16)).2 - 16) + (4 + (tx_wf (tT g (nn r_)) (tB g (nn r_)) (0, 16)).1), locals := 177 } : Room) (cP D tk N0 sa [.ref (ad 15), .int r_] sz (fun H => CW D tk ad g H)) (kQr (fun r H => bR r_ = 0 ∧ sz ≤ r ∧ SX D tk r ((tx_wf (tT g (nn r_)) (tB g (nn r_)) (0, 16)).1) H) (nwA sz)) (kX (fun E => (E = "java/lang/IndexOutOfBoundsException" ∧ bR r_ = 1)) sz) (5 + ((tx_wf (tT g (nn r_)) (tB g (nn r_)) (0, 16)).2 - 16)) (26 + 2 * ((tx_wf (tT g (nn r_)) (tB g (nn r_)) (0, 16)).2 - 16) + (4 + (tx_wf (tT g (nn r_)) (tB g (nn r_)) (0, 16)).1)) (nwA sz) := by
  refine mStartX RX3 rfl (by decide +kernel) (Nat.le_of_ble_eq_true rfl) ?_
  intro p e s m args below meth c E hr hlk htb hsz hC hF ls hl
  subst hsz
  obtain ⟨hx, hb, -⟩ := id E
  have hA : ∀ q, (nwA s.heap.size) q → N0 ≤ q := fun q h => Nat.le_trans hC.2.1 h
  have hn : ∀ q, s.heap.size ≤ q → (nwA s.heap.size) q := fun q h => h
  have hS : va_S (nwA s.heap.size) s.heap s.heap [] := va_S.rf
  have hU : ∀ q, q < s.heap.size → s.heap[q]? = s.heap[q]? := fun _ _ => rfl
  have hl : lv_has ls 2 [(0, .ref (ad 15)), (1, .int r_)] := hl
  have hW : CW D tk ad g s.heap := hF
  refine lv_aload_n (pc := 0) hx hb dX3_text_0 rfl (lv_at hl 0 rfl) ?_
  refine lv_iload_n (pc := 1) hx hb dX3_text_1 rfl (lv_at hl 1 rfl) ?_
  have hZ := hS.1
  refine kx_r (pc := 2) (kx_V E hC hS hA hl.1 (c1.recv hC hW.obj rfl) rfl (c_X3_ratioAt l hlst D tk N0 sa hAD s.heap.size g r_ ) kw_809 kw_811 kp_15 kw_1 kw_812 (n := 1) (by decide +kernel) rfl ⟨⟨rfl, rfl⟩, ⟨Nat.le_of_ble_eq_true rfl, Nat.le_of_ble_eq_true rfl⟩, (by dsimp only; omega), (by dsimp only; omega)⟩ rfl (Nat.le_of_ble_eq_true rfl) hW dX3_text_2) hS (fun q z w => absurd w (Nat.not_le.mpr z)) hn hlk htb hU (fun E9 h9 => by rcases h9 with ⟨rfl, h9⟩ <;> first | (simp [h9]; done) | (simp [xo, h9]; done)) ⟨by (try dsimp only); omega, by (try dsimp only); omega⟩ (fun r_1 H locs hR hz hk hS => ?_)
  have hU := fun q (hq : q < s.heap.size) => (hk q (Nat.lt_of_lt_of_le hq hZ) (Nat.not_le.mpr (Nat.lt_of_lt_of_le hq hZ))).trans (hU q hq)
  obtain ⟨ek_2, er_1⟩ := hR
  have hW := hW.new hk
  have hi_3 : nn r_ < 15 := Nat.lt_of_lt_of_le (bR_lt ek_2) (by decide)
  subst er_1
  have hZ0_ := hS.1
  have hZ := hS.1
  refine k_r (pc := 5) (k_S E hC hS hA hl.1 (c_X3_textOf l D tk N0 sa hAD H.size g ((nn r_)) hi_3) kw_511 kw_512 kw_1 kw_513 (n := 1) (by decide +kernel) rfl ⟨⟨rfl, rfl⟩, ⟨Nat.le_of_ble_eq_true rfl, Nat.le_of_ble_eq_true rfl⟩, (by dsimp only; omega), (by dsimp only; omega)⟩ rfl (Nat.le_of_ble_eq_true rfl) hW dX3_text_5) hS (fun q z w => absurd w (Nat.not_le.mpr z)) hn (fun r_4 H locs hR hz hk hS => ?_)
  have hU := fun q (hq : q < s.heap.size) => (hk q (Nat.lt_of_lt_of_le hq hZ) (Nat.not_le.mpr (Nat.lt_of_lt_of_le hq hZ))).trans (hU q hq)
  have hW := hW.new hk
  obtain ⟨z9_, f6⟩ := hR
  have zr_f6 : s.heap.size ≤ r_4 := Nat.le_trans hZ0_ z9_
  refine vx_ret ?_
  refine r_aret (pc := 8) E hr (Or.inl ⟨_, rfl⟩) hlk hS (by omega) (by omega) ?_ dX3_text_8
  exact ⟨(by first | assumption | (simp [xo, ek_2]; done)), zr_f6, f6⟩
set_option maxHeartbeats 4000000 in
set_option maxRecDepth 100000 in
/-- Bestratios.row()Ljava/lang/String; -/
theorem c_X3_row (l : Launch) (D : va_G) (tk : Nat → ClassId) (N0 : Nat) (sa : Nat → Nat) {ad : Nat → Nat} (hAD : ADok N0 ad) (sz : Nat) (g : CS) (htc : (tC g 0).toNatClampNeg ≤ 64) : Met l yX3_row (wsy yX3_row cX3_row 1 (some (.object "java/lang/String"))) ({ frames := 7, cells := 4 + ((tx_rt g 0).2 - 16), slots := 20 + 2 * ((tx_rt g 0).2 - 16) + (4 + (tx_rt g 0).1), locals := 159 } : Room) (cP D tk N0 sa [.ref (ad 15)] sz (fun H => CW D tk ad g H)) (kQr (fun r H => sz ≤ r ∧ SX D tk r ((tx_rt g 0).1) H) (nwA sz)) (4 + ((tx_rt g 0).2 - 16)) (20 + 2 * ((tx_rt g 0).2 - 16) + (4 + (tx_rt g 0).1)) (nwA sz) := by
  refine mStart RX3 rfl (by decide +kernel) (Nat.le_of_ble_eq_true rfl) ?_
  intro p e s m args below meth c E hr hlk hnm hsz hC hF ls hl
  subst hsz
  obtain ⟨hx, hb, -⟩ := id E
  have hA : ∀ q, (nwA s.heap.size) q → N0 ≤ q := fun q h => Nat.le_trans hC.2.1 h
  have hn : ∀ q, s.heap.size ≤ q → (nwA s.heap.size) q := fun q h => h
  have hS : va_S (nwA s.heap.size) s.heap s.heap [] := va_S.rf
  have hl : lv_has ls 1 [(0, .ref (ad 15))] := hl
  have hW : CW D tk ad g s.heap := hF
  refine lv_aload_n (pc := 0) hx hb dX3_row_0 rfl (lv_at hl 0 rfl) ?_
  refine r_get (pc := 1) E hC hW.obj 1 (v := .ref (ad 17)) rfl rfl (by decide) uX3 (List.mem_cons_of_mem _ kw_115) (fun _ h => h) dX3_row_1 ?_
  have hZ0_ := hS.1
  refine k_r (pc := 4) (k_S E hC hS hA hl.1 (c_X3_rowText l D tk N0 sa hAD s.heap.size g 0 (by decide) htc) kw_146 kw_147 kw_1 kw_148 (n := 1) (by decide +kernel) rfl ⟨⟨rfl, rfl⟩, ⟨Nat.le_of_ble_eq_true rfl, Nat.le_of_ble_eq_true rfl⟩, (by dsimp only; omega), (by dsimp only; omega)⟩ rfl (Nat.le_of_ble_eq_true rfl) hW dX3_row_4) hS (fun q z w => absurd w (Nat.not_le.mpr z)) hn (fun r_1 H locs hR hz hk hS => ?_)
  have hW := hW.new hk
  obtain ⟨z9_, f3⟩ := hR
  have zr_f3 : s.heap.size ≤ r_1 := Nat.le_trans hZ0_ z9_
  refine r_aret (pc := 7) E hr (Or.inl ⟨_, rfl⟩) hlk hS (by omega) (by omega) ?_ dX3_row_7
  exact ⟨zr_f3, f3⟩
set_option maxHeartbeats 4000000 in
set_option maxRecDepth 100000 in
/-- Bestratios.terms(I)Ljava/lang/String; -/
theorem c_X3_terms (l : Launch) (hlst : l.stackTraces = false) (D : va_G) (tk : Nat → ClassId) (N0 : Nat) (sa : Nat → Nat) {ad : Nat → Nat} (hAD : ADok N0 ad) (sz : Nat) (g : CS) (r_ : Int32) : vx_Met l yX3_terms (wsy yX3_terms cX3_terms 2 (some (.object "java/lang/String"))) ({ frames := 7, cells := 5 + ((tx_rt (f_apart g 1 (nn r_)) 1).2 - 16), slots := 26 + 2 * ((tx_rt (f_apart g 1 (nn r_)) 1).2 - 16) + (4 + (tx_rt (f_apart g 1 (nn r_)) 1).1), locals := 159 } : Room) (cP D tk N0 sa [.ref (ad 15), .int r_] sz (fun H => CW D tk ad g H)) (kQr (fun r H => bR r_ = 0 ∧ sz ≤ r ∧ SX D tk r ((tx_rt (f_apart g 1 (nn r_)) 1).1) H ∧ CW D tk ad (f_apart g 1 (nn r_)) H) (cwA ad sz)) (kX (fun E => (E = "java/lang/IndexOutOfBoundsException" ∧ bR r_ = 1)) sz) (5 + ((tx_rt (f_apart g 1 (nn r_)) 1).2 - 16)) (26 + 2 * ((tx_rt (f_apart g 1 (nn r_)) 1).2 - 16) + (4 + (tx_rt (f_apart g 1 (nn r_)) 1).1)) (cwA ad sz) := by
  refine mStartX RX3 rfl (by decide +kernel) (Nat.le_of_ble_eq_true rfl) ?_
  intro p e s m args below meth c E hr hlk htb hsz hC hF ls hl
  subst hsz
  obtain ⟨hx, hb, -⟩ := id E
  have hA : ∀ q, (cwA ad s.heap.size) q → N0 ≤ q := cwA.ge hAD hC.2.1
  have hn : ∀ q, s.heap.size ≤ q → (cwA ad s.heap.size) q := fun q h => Or.inr h
  have hS : va_S (cwA ad s.heap.size) s.heap s.heap [] := va_S.rf
  have hU : ∀ q, q < s.heap.size → s.heap[q]? = s.heap[q]? := fun _ _ => rfl
  have hl : lv_has ls 2 [(0, .ref (ad 15)), (1, .int r_)] := hl
  have hW : CW D tk ad g s.heap := hF
  refine lv_aload_n (pc := 0) hx hb dX3_terms_0 rfl (lv_at hl 0 rfl) ?_
  refine r_get (pc := 1) E hC hW.obj 8 (v := .ref (ad 19)) rfl rfl (by decide) uX3 (List.mem_cons_of_mem _ kw_122) (fun _ h => h) dX3_terms_1 ?_
  refine lv_aload_n (pc := 4) hx hb dX3_terms_4 rfl (lv_at hl 0 rfl) ?_
  refine lv_iload_n (pc := 5) hx hb dX3_terms_5 rfl (lv_at hl 1 rfl) ?_
  have hZ := hS.1
  refine kx_r (pc := 6) (kx_V E hC hS hA hl.1 (c1.recv hC hW.obj rfl) rfl (c_X3_ratioAt l hlst D tk N0 sa hAD s.heap.size g r_ ) kw_809 kw_811 kp_15 kw_1 kw_812 (n := 1) (by decide +kernel) rfl ⟨⟨rfl, rfl⟩, ⟨Nat.le_of_ble_eq_true rfl, Nat.le_of_ble_eq_true rfl⟩, (by dsimp only; omega), (by dsimp only; omega)⟩ rfl (Nat.le_of_ble_eq_true rfl) hW dX3_terms_6) hS (fun q z w => absurd w (Nat.not_le.mpr z)) hn hlk htb hU (fun E9 h9 => by rcases h9 with ⟨rfl, h9⟩ <;> first | (simp [h9]; done) | (simp [xo, h9]; done)) ⟨by (try dsimp only); omega, by (try dsimp only); omega⟩ (fun r_1 H locs hR hz hk hS => ?_)
  have hU := fun q (hq : q < s.heap.size) => (hk q (Nat.lt_of_lt_of_le hq hZ) (Nat.not_le.mpr (Nat.lt_of_lt_of_le hq hZ))).trans (hU q hq)
  obtain ⟨ek_2, er_1⟩ := hR
  have hW := hW.new hk
  have hi_3 : nn r_ < 15 := Nat.lt_of_lt_of_le (bR_lt ek_2) (by decide)
  subst er_1
  refine k_v (pc := 9) (k_V E hC hS hA hl.1 (c1.recv hC (hW.tm (j := 1) (by decide)) rfl) rfl (c_X2_takeApart l D tk N0 sa hAD H.size g 1 (by decide) ((nn r_)) hi_3 ) kw_563 kw_564 kw_565 kw_3 kw_566 (n := 1) (by decide +kernel) rfl ⟨⟨rfl, rfl⟩, ⟨Nat.le_of_ble_eq_true rfl, Nat.le_of_ble_eq_true rfl⟩, (by dsimp only; omega), (by dsimp only; omega)⟩ rfl (Nat.le_of_ble_eq_true rfl) hW dX3_terms_9) hS (fun q _ w => cwA.go hS.1 q w) hn (fun H locs hR hz hk hS => ?_)
  have hW := hR
  obtain ⟨g_6, eg_6⟩ : ∃ z, z = f_apart g 1 ((nn r_)) := ⟨_, rfl⟩
  rw [← eg_6] at hW
  have e29 : (tx_rt (f_apart g 1 (nn r_)) 1).2 = (tx_rt g_6 1).2 := by rw [eg_6]
  have e19 : (tx_rt (f_apart g 1 (nn r_)) 1).1 = (tx_rt g_6 1).1 := by rw [eg_6]
  refine lv_aload_n (pc := 12) hx hb dX3_terms_12 rfl (lv_at hl 0 rfl) ?_
  refine r_get (pc := 13) E hC hW.obj 8 (v := .ref (ad 19)) rfl rfl (by decide) uX3 (List.mem_cons_of_mem _ kw_122) (fun _ h => h) dX3_terms_13 ?_
  have hZ0_ := hS.1
  refine k_r (pc := 16) (k_S E hC hS hA hl.1 (c_X3_rowText l D tk N0 sa hAD H.size g_6 1 (by decide) (by rw [eg_6]; exact tx_aprt g 1 (nn r_))) kw_146 kw_147 kw_1 kw_148 (n := 1) (by decide +kernel) rfl ⟨⟨rfl, rfl⟩, ⟨Nat.le_of_ble_eq_true rfl, Nat.le_of_ble_eq_true rfl⟩, (by dsimp only; omega), (by dsimp only; omega)⟩ rfl (Nat.le_of_ble_eq_true rfl) hW dX3_terms_16) hS (fun q z w => absurd w (Nat.not_le.mpr z)) hn (fun r_7 H locs hR hz hk hS => ?_)
  have hW := hW.new hk
  obtain ⟨z9_, f9⟩ := hR
  have zr_f9 : s.heap.size ≤ r_7 := Nat.le_trans hZ0_ z9_
  refine vx_ret ?_
  refine r_aret (pc := 19) E hr (Or.inl ⟨_, rfl⟩) hlk hS (by omega) (by omega) ?_ dX3_terms_19
  rw [← eg_6]
  exact ⟨(by first | assumption | (simp [xo, ek_2]; done)), zr_f9, f9, hW.to (by rfl)⟩
set_option maxHeartbeats 4000000 in
set_option maxRecDepth 100000 in
/-- Bestratios.way(I)Ljava/lang/String; -/
theorem c_X3_way (l : Launch) (hlst : l.stackTraces = false) (D : va_G) (tk : Nat → ClassId) (N0 : Nat) (sa : Nat → Nat) {ad : Nat → Nat} (hAD : ADok N0 ad) (sz : Nat) (g : CS) (r_ : Int32) : vx_Met l yX3_way (wsy yX3_way cX3_way 4 (some (.object "java/lang/String"))) ({ frames := 7, cells := 5 + ((tx_wy g (nn r_) (0, 16)).2 - 16), slots := 26 + 2 * ((tx_wy g (nn r_) (0, 16)).2 - 16) + (4 + (tx_wy g (nn r_) (0, 16)).1), locals := 161 } : Room) (cP D tk N0 sa [.ref (ad 15), .int r_] sz (fun H => CW D tk ad g H)) (kQr (fun r H => bR r_ = 0 ∧ sz ≤ r ∧ SX D tk r ((tx_wy g (nn r_) (0, 16)).1) H ∧ CW D tk ad (tx_wyW g (nn r_)) H) (cwA ad sz)) (kX (fun E => (E = "java/lang/IndexOutOfBoundsException" ∧ bR r_ = 1)) sz) (5 + ((tx_wy g (nn r_) (0, 16)).2 - 16)) (26 + 2 * ((tx_wy g (nn r_) (0, 16)).2 - 16) + (4 + (tx_wy g (nn r_) (0, 16)).1)) (cwA ad sz) := by
  refine mStartX RX3 rfl (by decide +kernel) (Nat.le_of_ble_eq_true rfl) ?_
  intro p e s m args below meth c E hr hlk htb hsz hC hF ls hl
  subst hsz
  obtain ⟨hx, hb, -⟩ := id E
  have hA : ∀ q, (cwA ad s.heap.size) q → N0 ≤ q := cwA.ge hAD hC.2.1
  have hn : ∀ q, s.heap.size ≤ q → (cwA ad s.heap.size) q := fun q h => Or.inr h
  have hS : va_S (cwA ad s.heap.size) s.heap s.heap [] := va_S.rf
  have hU : ∀ q, q < s.heap.size → s.heap[q]? = s.heap[q]? := fun _ _ => rfl
  have hl : lv_has ls 4 [(0, .ref (ad 15)), (1, .int r_)] := hl
  have hW : CW D tk ad g s.heap := hF
  refine lv_aload_n (pc := 0) hx hb dX3_way_0 rfl (lv_at hl 0 rfl) ?_
  refine lv_iload_n (pc := 1) hx hb dX3_way_1 rfl (lv_at hl 1 rfl) ?_
  have hZ := hS.1
  refine kx_r (pc := 2) (kx_V E hC hS hA hl.1 (c1.recv hC hW.obj rfl) rfl (c_X3_ratioAt l hlst D tk N0 sa hAD s.heap.size g r_ ) kw_809 kw_811 kp_15 kw_1 kw_812 (n := 1) (by decide +kernel) rfl ⟨⟨rfl, rfl⟩, ⟨Nat.le_of_ble_eq_true rfl, Nat.le_of_ble_eq_true rfl⟩, (by dsimp only; omega), (by dsimp only; omega)⟩ rfl (Nat.le_of_ble_eq_true rfl) hW dX3_way_2) hS (fun q z w => absurd w (Nat.not_le.mpr z)) hn hlk htb hU (fun E9 h9 => by rcases h9 with ⟨rfl, h9⟩ <;> first | (simp [h9]; done) | (simp [xo, h9]; done)) ⟨by (try dsimp only); omega, by (try dsimp only); omega⟩ (fun r_1 H locs hR hz hk hS => ?_)
  have hU := fun q (hq : q < s.heap.size) => (hk q (Nat.lt_of_lt_of_le hq hZ) (Nat.not_le.mpr (Nat.lt_of_lt_of_le hq hZ))).trans (hU q hq)
  obtain ⟨ek_2, er_1⟩ := hR
  have hW := hW.new hk
  have hi_3 : nn r_ < 15 := Nat.lt_of_lt_of_le (bR_lt ek_2) (by decide)
  subst er_1
  refine lv_astore_n (pc := 5) (lv' := [(2, .ref (ad (nn r_))), (0, .ref (ad 15)), (1, .int r_)]) hx hb dX3_way_5 rfl hl (by decide) rfl (fun ls hl => ?_)
  have hS0_ := hS
  refine r_new (pc := 6) E hC hS tyJ4_ok uJ4 (List.mem_cons_of_mem _ kw_149) (List.mem_cons_of_mem _ kw_150) (List.mem_cons_of_mem _ kw_19) (ci := 1) rfl (fs := [.null, .int 0, .int 0, .int 0]) (by decide) (by dsimp only; omega) (by dsimp only; omega) dX3_way_6 (fun qf4 H zq_ n_ ho_ hS => ?_)
  have nW_f4 : ∀ k, k < 22 → ad k ≠ qf4 := fun k hk9 => Nat.ne_of_lt (zq_ ▸ (hW k hk9).lt)
  have hW := hW.kept (fun k hk9 => ho_ _ (hW k hk9).lt)
  have f4 := n_
  have s_f4 : s.heap.size ≤ qf4 := zq_ ▸ hS0_.1
  have g_f4 := hn _ s_f4
  refine lv_dup (pc := 9) hx hb dX3_way_9 rfl ?_
  have hZ0_ := hS.1
  have t_hW := fun k (hk9 : k < 22) => (hW k hk9).lt
  have t_f4 := f4.lt
  refine k_v (pc := 10) (k_I E hC hS hA hl.1 (c_J4_init_da8c8 l D tk N0 sa H.size qf4 (hA _ g_f4)) kw_151 kw_152 kw_19 kw_153 rfl (n := 0) (by decide +kernel) rfl ⟨⟨rfl, rfl⟩, ⟨Nat.le_of_ble_eq_true rfl, Nat.le_of_ble_eq_true rfl⟩, (by dsimp only; omega), (by dsimp only; omega)⟩ rfl (Nat.le_of_ble_eq_true rfl) f4 dX3_way_10) hS (inA1.to g_f4) hn (fun H locs hR hz hk hS => ?_)
  have hW := hW.kept (fun k hk9 => hk _ (hW k hk9).lt (inA1.not (nW_f4 k hk9) (hW k hk9).lt))
  obtain ⟨q_hB, z9_, f4, hB⟩ := hR
  have s_hB : s.heap.size ≤ q_hB := Nat.le_trans hZ0_ z9_
  have g_hB := hn _ s_hB
  have nW_hB : ∀ k, k < 22 → ad k ≠ q_hB := fun k hk9 => Nat.ne_of_lt (Nat.lt_of_lt_of_le (t_hW k hk9) z9_)
  have l_f4_hB : qf4 < q_hB := Nat.lt_of_lt_of_le t_f4 z9_
  have nW_f4 := cwO hC hW f4.cl
  refine lv_astore_n (pc := 13) (lv' := [(3, .ref qf4), (2, .ref (ad (nn r_))), (0, .ref (ad 15)), (1, .int r_)]) hx hb dX3_way_13 rfl hl (by decide) rfl (fun ls hl => ?_)
  refine lv_aload_n (pc := 14) hx hb dX3_way_14 rfl (lv_at hl 2 rfl) ?_
  refine lv_aload_n (pc := 15) hx hb dX3_way_15 rfl (lv_at hl 0 rfl) ?_
  refine lv_aload_n (pc := 16) hx hb dX3_way_16 rfl (lv_at hl 1 rfl) ?_
  have hZ0_ := hS.1
  have t_hW := fun k (hk9 : k < 22) => (hW k hk9).lt
  have t_f4 := f4.lt
  have t_hB := hB.lt
  obtain ⟨Q_6, eQ_6⟩ : ∃ z9 : Nat × Nat, z9 = tx_wy g ((nn r_)) (0, 16) := ⟨_, rfl⟩
  have e2Q_6 : (tx_wy g ((nn r_)) (0, 16)).2 = Q_6.2 := by rw [eQ_6]
  have e1Q_6 : (tx_wy g ((nn r_)) (0, 16)).1 = Q_6.1 := by rw [eQ_6]
  have hQ_6 := tx_wy_ok g ((nn r_)) (q := (0, 16)) (by dsimp only; omega)
  rw [← eQ_6] at hQ_6; dsimp only [tx_ok] at hQ_6
  refine k_v (pc := 17) (k_V E hC hS hA hl.1 (c1.recv hC hW.obj rfl) rfl (c_X3_writeWay l D tk N0 sa hAD H.size g ((nn r_)) hi_3 qf4 q_hB 0 16 0 (hA _ g_f4) (hA _ g_hB) (by omega) (by omega)) kw_771 kw_773 kp_12 kw_1 kw_774 (n := 2) (by decide +kernel) rfl ⟨⟨rfl, rfl⟩, ⟨Nat.le_of_ble_eq_true rfl, Nat.le_of_ble_eq_true rfl⟩, (by dsimp only; omega), (by dsimp only; omega)⟩ rfl (Nat.le_of_ble_eq_true rfl) ⟨hW, f4, hB⟩ dX3_way_17) hS (inC2.to (fun q w => cwA.go hS.1 q w) g_f4 g_hB) hn (fun H locs hR hz hk hS => ?_)
  obtain ⟨⟨v_8, ml_8, hv_8, f4, hB⟩, hW⟩ := hR
  have g_hB := hv_8.elim (fun e9 => e9 ▸ g_hB) (fun z9 => hn _ (Nat.le_trans hZ0_ z9))
  have l_f4_hB : qf4 < v_8 := hv_8.elim (fun e9 => e9 ▸ l_f4_hB) (fun z9 => Nat.lt_of_lt_of_le t_f4 z9)
  have hv_8 := hv_8.imp_right (fun z9 => Nat.le_trans hZ0_ z9)
  rw [← eQ_6] at f4 hB
  obtain ⟨g_10, eg_10⟩ : ∃ z, z = tx_wyW g ((nn r_)) := ⟨_, rfl⟩
  rw [← eg_10] at hW
  have nW_hB := cwB hC hW hB.cl
  refine lv_aload_n (pc := 20) hx hb dX3_way_20 rfl (lv_at hl 0 rfl) ?_
  have hZ0_ := hS.1
  have t_hW := fun k (hk9 : k < 22) => (hW k hk9).lt
  have t_f4 := f4.lt
  have t_hB := hB.lt
  refine k_r (pc := 21) (k_V E hC hS hA hl.1 (c1.recv hC f4 rfl) rfl (c_J4_toString_0e30d l D tk N0 sa H.size qf4 v_8 Q_6.2 Q_6.1 ml_8 (by omega) (by omega)) kw_315 kw_316 kw_317 kw_19 kw_318 (n := 0) (by decide +kernel) rfl ⟨⟨rfl, rfl⟩, ⟨Nat.le_of_ble_eq_true rfl, Nat.le_of_ble_eq_true rfl⟩, (by dsimp only; omega), (by dsimp only; omega)⟩ rfl (Nat.le_of_ble_eq_true rfl) ⟨f4, hB⟩ dX3_way_21) hS (fun q z w => absurd w (Nat.not_le.mpr z)) hn (fun r_11 H locs hR hz hk hS => ?_)
  have hW := hW.new hk
  have f4 := f4.kept (hk _ f4.lt (Nat.not_le.mpr f4.lt))
  have hB := hB.kept (hk _ hB.lt (Nat.not_le.mpr hB.lt))
  obtain ⟨q_f12, z9_, y9_, f12⟩ := hR
  have f12 := SM.sx f12
  have zr_f12 : s.heap.size ≤ r_11 := Nat.le_trans hZ0_ z9_
  refine vx_ret ?_
  refine r_aret (pc := 24) E hr (Or.inl ⟨_, rfl⟩) hlk hS (by omega) (by omega) ?_ dX3_way_24
  rw [← eQ_6]
  exact ⟨(by first | assumption | (simp [xo, ek_2]; done)), zr_f12, f12, hW.to (by simp only [eg_10])⟩
set_option maxHeartbeats 4000000 in
set_option maxRecDepth 100000 in
/-- Bestratios.cut(III)Ljava/lang/String; -/
theorem c_X3_cut (l : Launch) (hlst : l.stackTraces = false) (D : va_G) (tk : Nat → ClassId) (N0 : Nat) (sa : Nat → Nat) {ad : Nat → Nat} (hAD : ADok N0 ad) (sz : Nat) (g : CS) (r_ : Int32) (pl : Int32) (md : Int32) (hdg : ∀ i, i < 6 → txD (f_cutNum (tT g i) (tB g i) pl md) (nn pl)) : vx_Met l yX3_cut (wsy yX3_cut cX3_cut 6 (some (.object "java/lang/String"))) ({ frames := 7, cells := 7 + ((tx_wd (f_cutNum (tT g (nn r_)) (tB g (nn r_)) pl md) (nn pl) (0, 16)).2 - 16), slots := 38 + 2 * ((tx_wd (f_cutNum (tT g (nn r_)) (tB g (nn r_)) pl md) (nn pl) (0, 16)).2 - 16) + (4 + (tx_wd (f_cutNum (tT g (nn r_)) (tB g (nn r_)) pl md) (nn pl) (0, 16)).1), locals := 163 } : Room) (cP D tk N0 sa [.ref (ad 15), .int r_, .int pl, .int md] sz (fun H => CW D tk ad g H)) (kQr (fun r H => xo (bR r_) (xo (2 * bW pl 0 9) (2 * bW md 0 4)) = 0 ∧ sz ≤ r ∧ SX D tk r ((tx_wd (f_cutNum (tT g (nn r_)) (tB g (nn r_)) pl md) (nn pl) (0, 16)).1) H) (nwA sz)) (kX (fun E => (E = "java/lang/IndexOutOfBoundsException" ∧ xo (bR r_) (xo (2 * bW pl 0 9) (2 * bW md 0 4)) = 1) ∨ (E = "java/lang/IllegalArgumentException" ∧ xo (bR r_) (xo (2 * bW pl 0 9) (2 * bW md 0 4)) = 2)) sz) (7 + ((tx_wd (f_cutNum (tT g (nn r_)) (tB g (nn r_)) pl md) (nn pl) (0, 16)).2 - 16)) (38 + 2 * ((tx_wd (f_cutNum (tT g (nn r_)) (tB g (nn r_)) pl md) (nn pl) (0, 16)).2 - 16) + (4 + (tx_wd (f_cutNum (tT g (nn r_)) (tB g (nn r_)) pl md) (nn pl) (0, 16)).1)) (nwA sz) := by
  refine mStartX RX3 rfl (by decide +kernel) (Nat.le_of_ble_eq_true rfl) ?_
  intro p e s m args below meth c E hr hlk htb hsz hC hF ls hl
  subst hsz
  obtain ⟨hx, hb, -⟩ := id E
  have hA : ∀ q, (nwA s.heap.size) q → N0 ≤ q := fun q h => Nat.le_trans hC.2.1 h
  have hn : ∀ q, s.heap.size ≤ q → (nwA s.heap.size) q := fun q h => h
  have hS : va_S (nwA s.heap.size) s.heap s.heap [] := va_S.rf
  have hU : ∀ q, q < s.heap.size → s.heap[q]? = s.heap[q]? := fun _ _ => rfl
  have hl : lv_has ls 6 [(0, .ref (ad 15)), (1, .int r_), (2, .int pl), (3, .int md)] := hl
  have hW : CW D tk ad g s.heap := hF
  refine lv_aload_n (pc := 0) hx hb dX3_cut_0 rfl (lv_at hl 0 rfl) ?_
  refine lv_iload_n (pc := 1) hx hb dX3_cut_1 rfl (lv_at hl 1 rfl) ?_
  have hZ := hS.1
  refine kx_r (pc := 2) (kx_V E hC hS hA hl.1 (c1.recv hC hW.obj rfl) rfl (c_X3_ratioAt l hlst D tk N0 sa hAD s.heap.size g r_ ) kw_809 kw_811 kp_15 kw_1 kw_812 (n := 1) (by decide +kernel) rfl ⟨⟨rfl, rfl⟩, ⟨Nat.le_of_ble_eq_true rfl, Nat.le_of_ble_eq_true rfl⟩, (by dsimp only; omega), (by dsimp only; omega)⟩ rfl (Nat.le_of_ble_eq_true rfl) hW dX3_cut_2) hS (fun q z w => absurd w (Nat.not_le.mpr z)) hn hlk htb hU (fun E9 h9 => by rcases h9 with ⟨rfl, h9⟩ <;> first | (simp [h9]; done) | (simp [xo, h9]; done)) ⟨by (try dsimp only); omega, by (try dsimp only); omega⟩ (fun r_1 H locs hR hz hk hS => ?_)
  have hU := fun q (hq : q < s.heap.size) => (hk q (Nat.lt_of_lt_of_le hq hZ) (Nat.not_le.mpr (Nat.lt_of_lt_of_le hq hZ))).trans (hU q hq)
  obtain ⟨ek_2, er_1⟩ := hR
  have hW := hW.new hk
  have hi_3 : nn r_ < 15 := Nat.lt_of_lt_of_le (bR_lt ek_2) (by decide)
  subst er_1
  refine lv_astore (pc := 5) (lv' := [(4, .ref (ad (nn r_))), (0, .ref (ad 15)), (1, .int r_), (2, .int pl), (3, .int md)]) hx hb dX3_cut_5 hl (by decide) rfl (fun ls hl => ?_)
  refine lv_iload_n (pc := 7) hx hb dX3_cut_7 rfl (lv_at hl 3 rfl) ?_
  refine lv_iconst (pc := 8) (v := 0) hx hb dX3_cut_8 (by decide) ?_
  refine lv_bipush (pc := 9) (v := 9) hx hb dX3_cut_9 (by decide) ?_
  have hZ := hS.1
  refine kx_v (pc := 11) (kx_S E hC hS hA hl.1 (c_X3_requireWithin l hlst D tk N0 sa H.size pl 0 9 ) kw_851 kw_852 kw_1 kw_853 (n := 3) (by decide +kernel) rfl ⟨⟨rfl, rfl⟩, ⟨Nat.le_of_ble_eq_true rfl, Nat.le_of_ble_eq_true rfl⟩, (by dsimp only; omega), (by dsimp only; omega)⟩ rfl (Nat.le_of_ble_eq_true rfl) trivial dX3_cut_11) hS (fun q z w => absurd w (Nat.not_le.mpr z)) hn hlk htb hU (fun E9 h9 => by rcases h9 with ⟨rfl, h9⟩ <;> first | (simp [h9]; done) | (simp [xo, h9, ek_2]; done)) ⟨by (try dsimp only); omega, by (try dsimp only); omega⟩ (fun H locs hR hz hk hS => ?_)
  have hU := fun q (hq : q < s.heap.size) => (hk q (Nat.lt_of_lt_of_le hq hZ) (Nat.not_le.mpr (Nat.lt_of_lt_of_le hq hZ))).trans (hU q hq)
  have ek_5 := hR
  have hW := hW.new hk
  refine lv_iload_n (pc := 14) hx hb dX3_cut_14 rfl (lv_at hl 4 rfl) ?_
  refine lv_iconst (pc := 15) (v := 0) hx hb dX3_cut_15 (by decide) ?_
  refine lv_iconst (pc := 16) (v := 4) hx hb dX3_cut_16 (by decide) ?_
  have hZ := hS.1
  refine kx_v (pc := 17) (kx_S E hC hS hA hl.1 (c_X3_requireWithin l hlst D tk N0 sa H.size md 0 4 ) kw_851 kw_852 kw_1 kw_853 (n := 3) (by decide +kernel) rfl ⟨⟨rfl, rfl⟩, ⟨Nat.le_of_ble_eq_true rfl, Nat.le_of_ble_eq_true rfl⟩, (by dsimp only; omega), (by dsimp only; omega)⟩ rfl (Nat.le_of_ble_eq_true rfl) trivial dX3_cut_17) hS (fun q z w => absurd w (Nat.not_le.mpr z)) hn hlk htb hU (fun E9 h9 => by rcases h9 with ⟨rfl, h9⟩ <;> first | (simp [h9]; done) | (simp [xo, h9, ek_2, ek_5]; done)) ⟨by (try dsimp only); omega, by (try dsimp only); omega⟩ (fun H locs hR hz hk hS => ?_)
  have hU := fun q (hq : q < s.heap.size) => (hk q (Nat.lt_of_lt_of_le hq hZ) (Nat.not_le.mpr (Nat.lt_of_lt_of_le hq hZ))).trans (hU q hq)
  have ek_7 := hR
  have hW := hW.new hk
  have hS0_ := hS
  refine r_new (pc := 20) E hC hS tyJ4_ok uJ4 (List.mem_cons_of_mem _ kw_149) (List.mem_cons_of_mem _ kw_150) (List.mem_cons_of_mem _ kw_19) (ci := 1) rfl (fs := [.null, .int 0, .int 0, .int 0]) (by decide) (by dsimp only; omega) (by dsimp only; omega) dX3_cut_20 (fun qf8 H zq_ n_ ho_ hS => ?_)
  have nW_f8 : ∀ k, k < 22 → ad k ≠ qf8 := fun k hk9 => Nat.ne_of_lt (zq_ ▸ (hW k hk9).lt)
  have hW := hW.kept (fun k hk9 => ho_ _ (hW k hk9).lt)
  have f8 := n_
  have s_f8 : s.heap.size ≤ qf8 := zq_ ▸ hS0_.1
  have g_f8 := hn _ s_f8
  refine lv_dup (pc := 23) hx hb dX3_cut_23 rfl ?_
  have hZ0_ := hS.1
  have t_hW := fun k (hk9 : k < 22) => (hW k hk9).lt
  have t_f8 := f8.lt
  refine k_v (pc := 24) (k_I E hC hS hA hl.1 (c_J4_init_da8c8 l D tk N0 sa H.size qf8 (hA _ g_f8)) kw_151 kw_152 kw_19 kw_153 rfl (n := 0) (by decide +kernel) rfl ⟨⟨rfl, rfl⟩, ⟨Nat.le_of_ble_eq_true rfl, Nat.le_of_ble_eq_true rfl⟩, (by dsimp only; omega), (by dsimp only; omega)⟩ rfl (Nat.le_of_ble_eq_true rfl) f8 dX3_cut_24) hS (inA1.to g_f8) hn (fun H locs hR hz hk hS => ?_)
  have hW := hW.kept (fun k hk9 => hk _ (hW k hk9).lt (inA1.not (nW_f8 k hk9) (hW k hk9).lt))
  obtain ⟨q_hB, z9_, f8, hB⟩ := hR
  have s_hB : s.heap.size ≤ q_hB := Nat.le_trans hZ0_ z9_
  have g_hB := hn _ s_hB
  have nW_hB : ∀ k, k < 22 → ad k ≠ q_hB := fun k hk9 => Nat.ne_of_lt (Nat.lt_of_lt_of_le (t_hW k hk9) z9_)
  have l_f8_hB : qf8 < q_hB := Nat.lt_of_lt_of_le t_f8 z9_
  have nW_f8 := cwO hC hW f8.cl
  refine lv_astore (pc := 27) (lv' := [(5, .ref qf8), (4, .ref (ad (nn r_))), (0, .ref (ad 15)), (1, .int r_), (2, .int pl), (3, .int md)]) hx hb dX3_cut_27 hl (by decide) rfl (fun ls hl => ?_)
  refine lv_aload (pc := 29) hx hb dX3_cut_29 (lv_at hl 0 rfl) ?_
  refine lv_aload (pc := 31) hx hb dX3_cut_31 (lv_at hl 1 rfl) ?_
  refine lv_iload_n (pc := 33) hx hb dX3_cut_33 rfl (lv_at hl 4 rfl) ?_
  refine lv_iload_n (pc := 34) hx hb dX3_cut_34 rfl (lv_at hl 5 rfl) ?_
  refine k_l (pc := 35) (k_V E hC hS hA hl.1 (c1.recv hC (hW.fr (i := (nn r_)) hi_3) rfl) rfl (c_X0_cutTo l D tk N0 sa hAD H.size g ((nn r_)) hi_3 pl md ) kw_525 kw_526 kw_527 kw_2 kw_528 (n := 2) (by decide +kernel) rfl ⟨⟨rfl, rfl⟩, ⟨Nat.le_of_ble_eq_true rfl, Nat.le_of_ble_eq_true rfl⟩, (by dsimp only; omega), (by dsimp only; omega)⟩ rfl (Nat.le_of_ble_eq_true rfl) hW dX3_cut_35) hS (fun q z w => absurd w (Nat.not_le.mpr z)) hn (fun r_10 H locs hR hz hk hS => ?_)
  have er_10 := hR
  have hW := hW.new hk
  have f8 := f8.kept (hk _ f8.lt (Nat.not_le.mpr f8.lt))
  have hB := hB.kept (hk _ hB.lt (Nat.not_le.mpr hB.lt))
  refine lv_iload_n (pc := 38) hx hb dX3_cut_38 rfl (lv_at hl 4 rfl) ?_
  have hZ0_ := hS.1
  have t_hW := fun k (hk9 : k < 22) => (hW k hk9).lt
  have t_f8 := f8.lt
  have t_hB := hB.lt
  obtain ⟨Q_12, eQ_12⟩ : ∃ z9 : Nat × Nat, z9 = tx_wd r_10 ((nn pl)) (0, 16) := ⟨_, rfl⟩
  have e2Q_12 : (tx_wd r_10 ((nn pl)) (0, 16)).2 = Q_12.2 := by rw [eQ_12]
  have e1Q_12 : (tx_wd r_10 ((nn pl)) (0, 16)).1 = Q_12.1 := by rw [eQ_12]
  have hQ_12 := tx_wd_ok r_10 ((nn pl)) (q := (0, 16)) (by dsimp only; omega)
  rw [← eQ_12] at hQ_12; dsimp only [tx_ok] at hQ_12
  have hM9 : (tx_wd (f_cutNum (tT g (nn r_)) (tB g (nn r_)) pl md) (nn pl) (0, 16)).2 = Q_12.2 := by rw [eQ_12, er_10]
  have hM8 : (tx_wd (f_cutNum (tT g (nn r_)) (tB g (nn r_)) pl md) (nn pl) (0, 16)).1 = Q_12.1 := by rw [eQ_12, er_10]
  have hkp := (bW_k (k := 9) (by decide) ek_5).2
  refine k_v (pc := 39) (k_S E hC hS hA hl.1 (c_X3_writeDecimal l D tk N0 sa H.size r_10 pl qf8 q_hB 0 16 0 (hA _ g_f8) (hA _ g_hB) (by omega) (by omega) (nn pl) (bW_k (k := 9) (by decide) ek_5).1 (bW_k (k := 9) (by decide) ek_5).2 (by rw [er_10]; exact hdg _ (bR_lt ek_2))) kw_542 kw_543 kw_1 kw_544 (n := 3) (by decide +kernel) rfl ⟨⟨rfl, rfl⟩, ⟨Nat.le_of_ble_eq_true rfl, Nat.le_of_ble_eq_true rfl⟩, (by dsimp only; omega), (by dsimp only; omega)⟩ rfl (Nat.le_of_ble_eq_true rfl) ⟨f8, hB⟩ dX3_cut_39) hS (inA2.to g_f8 g_hB) hn (fun H locs hR hz hk hS => ?_)
  have hW := hW.kept (fun k hk9 => hk _ (hW k hk9).lt (inA2.not (nW_f8 k hk9) (nW_hB k hk9) (hW k hk9).lt))
  obtain ⟨v_14, ml_14, hv_14, f8, hB⟩ := hR
  have g_hB := hv_14.elim (fun e9 => e9 ▸ g_hB) (fun z9 => hn _ (Nat.le_trans hZ0_ z9))
  have nW_hB : ∀ k, k < 22 → ad k ≠ v_14 := fun k hk9 => hv_14.elim (fun e9 => e9 ▸ nW_hB k hk9) (fun z9 => Nat.ne_of_lt (Nat.lt_of_lt_of_le (t_hW k hk9) z9))
  have l_f8_hB : qf8 < v_14 := hv_14.elim (fun e9 => e9 ▸ l_f8_hB) (fun z9 => Nat.lt_of_lt_of_le t_f8 z9)
  have hv_14 := hv_14.imp_right (fun z9 => Nat.le_trans hZ0_ z9)
  rw [← eQ_12] at f8 hB
  refine lv_aload (pc := 42) hx hb dX3_cut_42 (lv_at hl 0 rfl) ?_
  have hZ0_ := hS.1
  have t_hW := fun k (hk9 : k < 22) => (hW k hk9).lt
  have t_f8 := f8.lt
  have t_hB := hB.lt
  refine k_r (pc := 44) (k_V E hC hS hA hl.1 (c1.recv hC f8 rfl) rfl (c_J4_toString_0e30d l D tk N0 sa H.size qf8 v_14 Q_12.2 Q_12.1 ml_14 (by omega) (by omega)) kw_315 kw_316 kw_317 kw_19 kw_318 (n := 0) (by decide +kernel) rfl ⟨⟨rfl, rfl⟩, ⟨Nat.le_of_ble_eq_true rfl, Nat.le_of_ble_eq_true rfl⟩, (by dsimp only; omega), (by dsimp only; omega)⟩ rfl (Nat.le_of_ble_eq_true rfl) ⟨f8, hB⟩ dX3_cut_44) hS (fun q z w => absurd w (Nat.not_le.mpr z)) hn (fun r_16 H locs hR hz hk hS => ?_)
  have hW := hW.new hk
  have f8 := f8.kept (hk _ f8.lt (Nat.not_le.mpr f8.lt))
  have hB := hB.kept (hk _ hB.lt (Nat.not_le.mpr hB.lt))
  obtain ⟨q_f17, z9_, y9_, f17⟩ := hR
  have f17 := SM.sx f17
  have zr_f17 : s.heap.size ≤ r_16 := Nat.le_trans hZ0_ z9_
  refine vx_ret ?_
  refine r_aret (pc := 47) E hr (Or.inl ⟨_, rfl⟩) hlk hS (by omega) (by omega) ?_ dX3_cut_47
  rw [hM8]
  exact ⟨(by first | assumption | (simp [xo, ek_2, ek_5, ek_7]; done)), zr_f17, f17⟩
set_option maxHeartbeats 4000000 in
set_option maxRecDepth 100000 in
/-- Bestratios.exact()Ljava/lang/String; -/
theorem c_X3_exact (l : Launch) (D : va_G) (tk : Nat → ClassId) (N0 : Nat) (sa : Nat → Nat) {ad : Nat → Nat} (hAD : ADok N0 ad) (sz : Nat) (g : CS) : Met l yX3_exact (wsy yX3_exact cX3_exact 1 (some (.object "java/lang/String"))) ({ frames := 8, cells := 4 + ((tx_wf (tT g 9) (tB g 9) (0, 16)).2 - 16), slots := 20 + 2 * ((tx_wf (tT g 9) (tB g 9) (0, 16)).2 - 16) + (4 + (tx_wf (tT g 9) (tB g 9) (0, 16)).1), locals := 177 } : Room) (cP D tk N0 sa [.ref (ad 15)] sz (fun H => CW D tk ad g H)) (kQr (fun r H => sz ≤ r ∧ SX D tk r ((tx_wf (tT g 9) (tB g 9) (0, 16)).1) H) (nwA sz)) (4 + ((tx_wf (tT g 9) (tB g 9) (0, 16)).2 - 16)) (20 + 2 * ((tx_wf (tT g 9) (tB g 9) (0, 16)).2 - 16) + (4 + (tx_wf (tT g 9) (tB g 9) (0, 16)).1)) (nwA sz) := by
  refine mStart RX3 rfl (by decide +kernel) (Nat.le_of_ble_eq_true rfl) ?_
  intro p e s m args below meth c E hr hlk hnm hsz hC hF ls hl
  subst hsz
  obtain ⟨hx, hb, -⟩ := id E
  have hA : ∀ q, (nwA s.heap.size) q → N0 ≤ q := fun q h => Nat.le_trans hC.2.1 h
  have hn : ∀ q, s.heap.size ≤ q → (nwA s.heap.size) q := fun q h => h
  have hS : va_S (nwA s.heap.size) s.heap s.heap [] := va_S.rf
  have hl : lv_has ls 1 [(0, .ref (ad 15))] := hl
  have hW : CW D tk ad g s.heap := hF
  refine lv_aload_n (pc := 0) hx hb dX3_exact_0 rfl (lv_at hl 0 rfl) ?_
  refine r_get (pc := 1) E hC hW.obj 2 (v := .ref (ad 21)) rfl rfl (by decide) uX3 (List.mem_cons_of_mem _ kw_116) (fun _ h => h) dX3_exact_1 ?_
  refine r_getN (pc := 4) "Bestratios" E hC hW.tal 0 (v := .ref (ad 9)) rfl rfl (by decide) uX1 kn_85 (fun _ h => h) dX3_exact_4 ?_
  have hZ0_ := hS.1
  refine k_r (pc := 7) (k_S E hC hS hA hl.1 (c_X3_textOf l D tk N0 sa hAD s.heap.size g 9 (by decide)) kw_511 kw_512 kw_1 kw_513 (n := 1) (by decide +kernel) rfl ⟨⟨rfl, rfl⟩, ⟨Nat.le_of_ble_eq_true rfl, Nat.le_of_ble_eq_true rfl⟩, (by dsimp only; omega), (by dsimp only; omega)⟩ rfl (Nat.le_of_ble_eq_true rfl) hW dX3_exact_7) hS (fun q z w => absurd w (Nat.not_le.mpr z)) hn (fun r_1 H locs hR hz hk hS => ?_)
  have hW := hW.new hk
  obtain ⟨z9_, f3⟩ := hR
  have zr_f3 : s.heap.size ≤ r_1 := Nat.le_trans hZ0_ z9_
  refine r_aret (pc := 10) E hr (Or.inl ⟨_, rfl⟩) hlk hS (by omega) (by omega) ?_ dX3_exact_10
  exact ⟨zr_f3, f3⟩
set_option maxHeartbeats 4000000 in
set_option maxRecDepth 100000 in
/-- Bestratios.error()Ljava/lang/String; -/
theorem c_X3_error (l : Launch) (D : va_G) (tk : Nat → ClassId) (N0 : Nat) (sa : Nat → Nat) {ad : Nat → Nat} (hAD : ADok N0 ad) (sz : Nat) (g : CS) : Met l yX3_error (wsy yX3_error cX3_error 1 (some (.object "java/lang/String"))) ({ frames := 8, cells := 4 + ((tx_wf (tT g 11) (tB g 11) (0, 16)).2 - 16), slots := 20 + 2 * ((tx_wf (tT g 11) (tB g 11) (0, 16)).2 - 16) + (4 + (tx_wf (tT g 11) (tB g 11) (0, 16)).1), locals := 177 } : Room) (cP D tk N0 sa [.ref (ad 15)] sz (fun H => CW D tk ad g H)) (kQr (fun r H => sz ≤ r ∧ SX D tk r ((tx_wf (tT g 11) (tB g 11) (0, 16)).1) H) (nwA sz)) (4 + ((tx_wf (tT g 11) (tB g 11) (0, 16)).2 - 16)) (20 + 2 * ((tx_wf (tT g 11) (tB g 11) (0, 16)).2 - 16) + (4 + (tx_wf (tT g 11) (tB g 11) (0, 16)).1)) (nwA sz) := by
  refine mStart RX3 rfl (by decide +kernel) (Nat.le_of_ble_eq_true rfl) ?_
  intro p e s m args below meth c E hr hlk hnm hsz hC hF ls hl
  subst hsz
  obtain ⟨hx, hb, -⟩ := id E
  have hA : ∀ q, (nwA s.heap.size) q → N0 ≤ q := fun q h => Nat.le_trans hC.2.1 h
  have hn : ∀ q, s.heap.size ≤ q → (nwA s.heap.size) q := fun q h => h
  have hS : va_S (nwA s.heap.size) s.heap s.heap [] := va_S.rf
  have hl : lv_has ls 1 [(0, .ref (ad 15))] := hl
  have hW : CW D tk ad g s.heap := hF
  refine lv_aload_n (pc := 0) hx hb dX3_error_0 rfl (lv_at hl 0 rfl) ?_
  refine r_get (pc := 1) E hC hW.obj 2 (v := .ref (ad 21)) rfl rfl (by decide) uX3 (List.mem_cons_of_mem _ kw_116) (fun _ h => h) dX3_error_1 ?_
  refine r_getN (pc := 4) "Bestratios" E hC hW.tal 2 (v := .ref (ad 11)) rfl rfl (by decide) uX1 kn_89 (fun _ h => h) dX3_error_4 ?_
  have hZ0_ := hS.1
  refine k_r (pc := 7) (k_S E hC hS hA hl.1 (c_X3_textOf l D tk N0 sa hAD s.heap.size g 11 (by decide)) kw_511 kw_512 kw_1 kw_513 (n := 1) (by decide +kernel) rfl ⟨⟨rfl, rfl⟩, ⟨Nat.le_of_ble_eq_true rfl, Nat.le_of_ble_eq_true rfl⟩, (by dsimp only; omega), (by dsimp only; omega)⟩ rfl (Nat.le_of_ble_eq_true rfl) hW dX3_error_7) hS (fun q z w => absurd w (Nat.not_le.mpr z)) hn (fun r_1 H locs hR hz hk hS => ?_)
  have hW := hW.new hk
  obtain ⟨z9_, f3⟩ := hR
  have zr_f3 : s.heap.size ≤ r_1 := Nat.le_trans hZ0_ z9_
  refine r_aret (pc := 10) E hr (Or.inl ⟨_, rfl⟩) hlk hS (by omega) (by omega) ?_ dX3_error_10
  exact ⟨zr_f3, f3⟩
set_option maxHeartbeats 4000000 in
set_option maxRecDepth 100000 in
/-- Bestratios.rounded()Ljava/lang/String; -/
theorem c_X3_rounded (l : Launch) (D : va_G) (tk : Nat → ClassId) (N0 : Nat) (sa : Nat → Nat) {ad : Nat → Nat} (hAD : ADok N0 ad) (sz : Nat) (g : CS) (kp : Nat) (hpl : tI g 3 = nI kp) (hkp : kp ≤ 9) (hdg : txD (f_cutNum (tT g 10) (tB g 10) (tI g 3) 0) kp) : Met l yX3_rounded (wsy yX3_rounded cX3_rounded 2 (some (.object "java/lang/String"))) ({ frames := 8, cells := 4 + ((tx_wd (f_cutNum (tT g 10) (tB g 10) (tI g 3) 0) kp (0, 16)).2 - 16), slots := 20 + 2 * ((tx_wd (f_cutNum (tT g 10) (tB g 10) (tI g 3) 0) kp (0, 16)).2 - 16) + (4 + (tx_wd (f_cutNum (tT g 10) (tB g 10) (tI g 3) 0) kp (0, 16)).1), locals := 184 } : Room) (cP D tk N0 sa [.ref (ad 15)] sz (fun H => CW D tk ad g H)) (kQr (fun r H => sz ≤ r ∧ SX D tk r ((tx_wd (f_cutNum (tT g 10) (tB g 10) (tI g 3) 0) kp (0, 16)).1) H) (nwA sz)) (4 + ((tx_wd (f_cutNum (tT g 10) (tB g 10) (tI g 3) 0) kp (0, 16)).2 - 16)) (20 + 2 * ((tx_wd (f_cutNum (tT g 10) (tB g 10) (tI g 3) 0) kp (0, 16)).2 - 16) + (4 + (tx_wd (f_cutNum (tT g 10) (tB g 10) (tI g 3) 0) kp (0, 16)).1)) (nwA sz) := by
  refine mStart RX3 rfl (by decide +kernel) (Nat.le_of_ble_eq_true rfl) ?_
  intro p e s m args below meth c E hr hlk hnm hsz hC hF ls hl
  subst hsz
  obtain ⟨hx, hb, -⟩ := id E
  have hA : ∀ q, (nwA s.heap.size) q → N0 ≤ q := fun q h => Nat.le_trans hC.2.1 h
  have hn : ∀ q, s.heap.size ≤ q → (nwA s.heap.size) q := fun q h => h
  have hS : va_S (nwA s.heap.size) s.heap s.heap [] := va_S.rf
  have hl : lv_has ls 2 [(0, .ref (ad 15))] := hl
  have hW : CW D tk ad g s.heap := hF
  have hS0_ := hS
  refine r_new (pc := 0) E hC hS tyJ4_ok uJ4 (List.mem_cons_of_mem _ kw_149) (List.mem_cons_of_mem _ kw_150) (List.mem_cons_of_mem _ kw_19) (ci := 1) rfl (fs := [.null, .int 0, .int 0, .int 0]) (by decide) (by dsimp only; omega) (by dsimp only; omega) dX3_rounded_0 (fun qf1 H zq_ n_ ho_ hS => ?_)
  have nW_f1 : ∀ k, k < 22 → ad k ≠ qf1 := fun k hk9 => Nat.ne_of_lt (zq_ ▸ (hW k hk9).lt)
  have hW := hW.kept (fun k hk9 => ho_ _ (hW k hk9).lt)
  have f1 := n_
  have s_f1 : s.heap.size ≤ qf1 := zq_ ▸ hS0_.1
  have g_f1 := hn _ s_f1
  refine lv_dup (pc := 3) hx hb dX3_rounded_3 rfl ?_
  have hZ0_ := hS.1
  have t_hW := fun k (hk9 : k < 22) => (hW k hk9).lt
  have t_f1 := f1.lt
  refine k_v (pc := 4) (k_I E hC hS hA hl.1 (c_J4_init_da8c8 l D tk N0 sa H.size qf1 (hA _ g_f1)) kw_151 kw_152 kw_19 kw_153 rfl (n := 0) (by decide +kernel) rfl ⟨⟨rfl, rfl⟩, ⟨Nat.le_of_ble_eq_true rfl, Nat.le_of_ble_eq_true rfl⟩, (by dsimp only; omega), (by dsimp only; omega)⟩ rfl (Nat.le_of_ble_eq_true rfl) f1 dX3_rounded_4) hS (inA1.to g_f1) hn (fun H locs hR hz hk hS => ?_)
  have hW := hW.kept (fun k hk9 => hk _ (hW k hk9).lt (inA1.not (nW_f1 k hk9) (hW k hk9).lt))
  obtain ⟨q_hB, z9_, f1, hB⟩ := hR
  have s_hB : s.heap.size ≤ q_hB := Nat.le_trans hZ0_ z9_
  have g_hB := hn _ s_hB
  have nW_hB : ∀ k, k < 22 → ad k ≠ q_hB := fun k hk9 => Nat.ne_of_lt (Nat.lt_of_lt_of_le (t_hW k hk9) z9_)
  have l_f1_hB : qf1 < q_hB := Nat.lt_of_lt_of_le t_f1 z9_
  have nW_f1 := cwO hC hW f1.cl
  refine lv_astore_n (pc := 7) (lv' := [(1, .ref qf1), (0, .ref (ad 15))]) hx hb dX3_rounded_7 rfl hl (by decide) rfl (fun ls hl => ?_)
  refine lv_aload_n (pc := 8) hx hb dX3_rounded_8 rfl (lv_at hl 1 rfl) ?_
  refine lv_aload_n (pc := 9) hx hb dX3_rounded_9 rfl (lv_at hl 0 rfl) ?_
  have hZ0_ := hS.1
  have t_hW := fun k (hk9 : k < 22) => (hW k hk9).lt
  have t_f1 := f1.lt
  have t_hB := hB.lt
  obtain ⟨Q_3, eQ_3⟩ : ∃ z9 : Nat × Nat, z9 = tx_wd (f_cutNum (tT g 10) (tB g 10) (tI g 3) 0) kp (0, 16) := ⟨_, rfl⟩
  have e2Q_3 : (tx_wd (f_cutNum (tT g 10) (tB g 10) (tI g 3) 0) kp (0, 16)).2 = Q_3.2 := by rw [eQ_3]
  have e1Q_3 : (tx_wd (f_cutNum (tT g 10) (tB g 10) (tI g 3) 0) kp (0, 16)).1 = Q_3.1 := by rw [eQ_3]
  have hQ_3 := tx_wd_ok (f_cutNum (tT g 10) (tB g 10) (tI g 3) 0) kp (q := (0, 16)) (by dsimp only; omega)
  rw [← eQ_3] at hQ_3; dsimp only [tx_ok] at hQ_3
  refine k_v (pc := 10) (k_V E hC hS hA hl.1 (c1.recv hC hW.obj rfl) rfl (c_X3_writeRounded l D tk N0 sa hAD H.size g qf1 q_hB 0 16 0 (hA _ g_f1) (hA _ g_hB) (by omega) (by omega) kp hpl hkp hdg) kw_521 kw_523 kp_1 kw_1 kw_524 (n := 1) (by decide +kernel) rfl ⟨⟨rfl, rfl⟩, ⟨Nat.le_of_ble_eq_true rfl, Nat.le_of_ble_eq_true rfl⟩, (by dsimp only; omega), (by dsimp only; omega)⟩ rfl (Nat.le_of_ble_eq_true rfl) ⟨hW, f1, hB⟩ dX3_rounded_10) hS (inA2.to g_f1 g_hB) hn (fun H locs hR hz hk hS => ?_)
  have hW := hW.kept (fun k hk9 => hk _ (hW k hk9).lt (inA2.not (nW_f1 k hk9) (nW_hB k hk9) (hW k hk9).lt))
  obtain ⟨v_5, ml_5, hv_5, f1, hB⟩ := hR
  have g_hB := hv_5.elim (fun e9 => e9 ▸ g_hB) (fun z9 => hn _ (Nat.le_trans hZ0_ z9))
  have nW_hB : ∀ k, k < 22 → ad k ≠ v_5 := fun k hk9 => hv_5.elim (fun e9 => e9 ▸ nW_hB k hk9) (fun z9 => Nat.ne_of_lt (Nat.lt_of_lt_of_le (t_hW k hk9) z9))
  have l_f1_hB : qf1 < v_5 := hv_5.elim (fun e9 => e9 ▸ l_f1_hB) (fun z9 => Nat.lt_of_lt_of_le t_f1 z9)
  have hv_5 := hv_5.imp_right (fun z9 => Nat.le_trans hZ0_ z9)
  rw [← eQ_3] at f1 hB
  refine lv_aload_n (pc := 13) hx hb dX3_rounded_13 rfl (lv_at hl 0 rfl) ?_
  have hZ0_ := hS.1
  have t_hW := fun k (hk9 : k < 22) => (hW k hk9).lt
  have t_f1 := f1.lt
  have t_hB := hB.lt
  refine k_r (pc := 14) (k_V E hC hS hA hl.1 (c1.recv hC f1 rfl) rfl (c_J4_toString_0e30d l D tk N0 sa H.size qf1 v_5 Q_3.2 Q_3.1 ml_5 (by omega) (by omega)) kw_315 kw_316 kw_317 kw_19 kw_318 (n := 0) (by decide +kernel) rfl ⟨⟨rfl, rfl⟩, ⟨Nat.le_of_ble_eq_true rfl, Nat.le_of_ble_eq_true rfl⟩, (by dsimp only; omega), (by dsimp only; omega)⟩ rfl (Nat.le_of_ble_eq_true rfl) ⟨f1, hB⟩ dX3_rounded_14) hS (fun q z w => absurd w (Nat.not_le.mpr z)) hn (fun r_7 H locs hR hz hk hS => ?_)
  have hW := hW.new hk
  have f1 := f1.kept (hk _ f1.lt (Nat.not_le.mpr f1.lt))
  have hB := hB.kept (hk _ hB.lt (Nat.not_le.mpr hB.lt))
  obtain ⟨q_f8, z9_, y9_, f8⟩ := hR
  have f8 := SM.sx f8
  have zr_f8 : s.heap.size ≤ r_7 := Nat.le_trans hZ0_ z9_
  refine r_aret (pc := 17) E hr (Or.inl ⟨_, rfl⟩) hlk hS (by omega) (by omega) ?_ dX3_rounded_17
  rw [← eQ_3]
  exact ⟨zr_f8, f8⟩
/-! ===== the checksum's texts ===== -/
def tx_mrW (g : CS) (i : Nat) : CS := tx_wyW (f_depW (f_apart g 1 i) i) i
def tx_mrL (t b : Int64) : Nat → Nat → Nat × Nat → Nat × Nat
  | 0, _, q => q
  | n + 1, k, q => tx_mrL t b n (k + 1) (tx_wd (f_cutNum t b 3 (nI k)) 3 (0, q.2))
def tx_mr (g : CS) (i : Nat) (q : Nat × Nat) : Nat × Nat := tx_mrL (tT (tx_mrW g i) i) (tB (tx_mrW g i) i) 5 0 (tx_wy (f_depW (f_apart g 1 i) i) i (0, q.2))
theorem tx_mrL_m (t b : Int64) : ∀ (n k : Nat) (q : Nat × Nat), q.2 ≤ (tx_mrL t b n k q).2 := by
  intro n
  induction n with
  | zero => intro k q; exact Nat.le_refl _
  | succ n ih => intro k q; exact Nat.le_trans (tx_wd_m _ 3 (0, q.2)) (ih _ _)
theorem tx_mr_m (g : CS) (i : Nat) (q : Nat × Nat) : (tx_wy (f_depW (f_apart g 1 i) i) i (0, q.2)).2 ≤ (tx_mr g i q).2 := tx_mrL_m _ _ _ _ _
theorem tx_mrL_ok (t b : Int64) (B : Nat) : ∀ (n k : Nat) (q : Nat × Nat), q.1 ≤ q.2 → q.2 ≤ max B 3000 → (tx_mrL t b n k q).1 ≤ (tx_mrL t b n k q).2 ∧ (tx_mrL t b n k q).2 ≤ max B 3000 := by
  intro n
  induction n with
  | zero => intro k q h h2; exact ⟨h, h2⟩
  | succ n ih =>
    intro k q h h2
    have h3 := tx_wd_ok (f_cutNum t b 3 (nI k)) 3 (q := (0, q.2)) (Nat.zero_le _)
    unfold tx_ok at h3
    dsimp only at h3
    exact ih _ _ h3.2.2.1 (by omega)
theorem tx_mr_ok (g : CS) (i : Nat) (q : Nat × Nat) : (tx_mr g i q).1 ≤ (tx_mr g i q).2 ∧ q.2 ≤ (tx_mr g i q).2 ∧ (tx_mr g i q).2 ≤ max q.2 3000 := by
  have h3 := tx_wy_ok (f_depW (f_apart g 1 i) i) i (q := (0, q.2)) (Nat.zero_le _)
  unfold tx_ok at h3
  dsimp only at h3
  have h4 := tx_mrL_ok (tT (tx_mrW g i) i) (tB (tx_mrW g i) i) q.2 5 0 _ h3.2.2.1 (by omega)
  have h5 := tx_mr_m g i q
  exact ⟨h4.1, by omega, h4.2⟩
/-- what these leave as it is -/
def tx_sm (g g1 : CS) : Prop := tT g1 = tT g ∧ tB g1 = tB g ∧ tC g1 0 = tC g 0 ∧ tI g1 = tI g ∧ tV g1 0 = tV g 0
theorem tx_sm.rf (g : CS) : tx_sm g g := ⟨rfl, rfl, rfl, rfl, rfl⟩
theorem tx_sm.tr {g g1 g2 : CS} (h : tx_sm g g1) (h2 : tx_sm g1 g2) : tx_sm g g2 :=
  ⟨h2.1.trans h.1, h2.2.1.trans h.2.1, h2.2.2.1.trans h.2.2.1, h2.2.2.2.1.trans h.2.2.2.1, h2.2.2.2.2.trans h.2.2.2.2⟩
theorem tx_smC (g : CS) (v : Int32) : tx_sm g (uC g 1 v) := ⟨rfl, rfl, by simp [tC, uC, va_up], rfl, rfl⟩
theorem tx_smV (g : CS) (k : Nat) (v : Int64) : tx_sm g (uV g 1 k v) := ⟨rfl, rfl, rfl, rfl, by simp [tV, uV, va_up]⟩
theorem tx_smL (g : CS) (v : Int64) : tx_sm g (f_addLast g 1 v) := by
  unfold f_addLast
  split
  · exact tx_sm.rf g
  · split
    · exact tx_sm.rf g
    · exact (tx_smV g _ _).tr (tx_smC _ _)
theorem tx_smA (g : CS) (v : Int64) : tx_sm g (f_addTo g 1 v) := by
  unfold f_addTo
  split
  · exact tx_sm.rf g
  · split
    · exact tx_sm.rf g
    · exact tx_smV g _ _
theorem tx_smP : ∀ (n : Nat) (g : CS) (t b : Int64), tx_sm g (apartL 1 n g t b) := by
  intro n
  induction n with
  | zero => intro g t b; exact tx_sm.rf g
  | succ n ih =>
    intro g t b
    unfold apartL
    split
    · exact tx_sm.rf g
    · exact (tx_smL g _).tr (ih _ _ _)
theorem tx_smp (g : CS) (i : Nat) : tx_sm g (f_apart g 1 i) := (tx_smC g 0).tr (tx_smP 64 _ _ _)
theorem tx_smW (g : CS) (i : Nat) : tx_sm g (tx_wyW g i) := by
  unfold tx_wyW
  split
  · exact tx_sm.rf g
  · exact (tx_smp g i).tr (tx_smA _ _)
theorem tx_smD (g : CS) (i : Nat) : tx_sm g (f_depW g i) := by
  unfold f_depW
  split
  · exact tx_sm.rf g
  · exact tx_smp g i
theorem tx_smR (g : CS) (i : Nat) : tx_sm g (tx_mrW g i) := ((tx_smp g i).tr (tx_smD _ i)).tr (tx_smW _ i)
/-- the TALLY's three texts -/
def tx_mt (g : CS) (kp : Nat) (q : Nat × Nat) : Nat × Nat := tx_wf (tT g 11) (tB g 11) (0, (tx_wd (f_cutNum (tT g 10) (tB g 10) (tI g 3) 0) kp (0, (tx_wf (tT g 9) (tB g 9) (0, q.2)).2)).2)
theorem tx_mt_m2 (g : CS) (kp : Nat) (q : Nat × Nat) : (tx_wd (f_cutNum (tT g 10) (tB g 10) (tI g 3) 0) kp (0, (tx_wf (tT g 9) (tB g 9) (0, q.2)).2)).2 ≤ (tx_mt g kp q).2 := tx_wf_m _ _ (0, _)
theorem tx_mt_m1 (g : CS) (kp : Nat) (q : Nat × Nat) : (tx_wf (tT g 9) (tB g 9) (0, q.2)).2 ≤ (tx_mt g kp q).2 := Nat.le_trans (tx_wd_m _ kp (0, _)) (tx_mt_m2 g kp q)
theorem tx_mt_ok (g : CS) (kp : Nat) (q : Nat × Nat) (hkp : kp ≤ 9) : (tx_mt g kp q).1 ≤ (tx_mt g kp q).2 ∧ q.2 ≤ (tx_mt g kp q).2 ∧ (tx_mt g kp q).2 ≤ max q.2 3000 := by
  have h1 := tx_wf_ok (tT g 9) (tB g 9) (q := (0, q.2)) (Nat.zero_le _)
  have h2 := tx_wd_ok (f_cutNum (tT g 10) (tB g 10) (tI g 3) 0) kp (q := (0, (tx_wf (tT g 9) (tB g 9) (0, q.2)).2)) (Nat.zero_le _)
  have h3 := tx_wf_ok (tT g 11) (tB g 11) (q := (0, (tx_wd (f_cutNum (tT g 10) (tB g 10) (tI g 3) 0) kp (0, (tx_wf (tT g 9) (tB g 9) (0, q.2)).2)).2)) (Nat.zero_le _)
  unfold tx_ok at h1 h2 h3
  dsimp only at h1 h2 h3
  unfold tx_mt
  omega
/-- the checksum's world -/
def tx_dgL : Nat → Nat → CS → CS
  | 0, _, g => g
  | n + 1, k, g => tx_dgL n (k + 1) (tx_mrW g k)
def tx_dgW (g : CS) : CS := (f_isS (tx_dgL 6 0 g)).2
set_option maxHeartbeats 4000000 in
set_option maxRecDepth 100000 in
/-- Bestratios.mixedWithTally(JLjava/lang/StringBuilder;)J -/
theorem c_X3_mixedWithTally (l : Launch) (D : va_G) (tk : Nat → ClassId) (N0 : Nat) (sa : Nat → Nat) {ad : Nat → Nat} (hAD : ADok N0 ad) (sz : Nat) (g : CS) (s0_ : Int64) (a9 v0 n0 c0 : Nat) (ml : Int32) (ha9 : N0 ≤ a9) (hv0 : N0 ≤ v0) (hn9 : n0 ≤ c0) (hcap : c0 ≤ 100000) (kp : Nat) (hpl : tI g 3 = nI kp) (hkp : kp ≤ 9) (hdg : txD (f_cutNum (tT g 10) (tB g 10) (tI g 3) 0) kp) : Met l yX3_mixedWithTally (wsy yX3_mixedWithTally cX3_mixedWithTally 6 (some .long)) ({ frames := 8, cells := (tx_mt g kp (n0, c0)).2 - c0, slots := 2 * ((tx_mt g kp (n0, c0)).2 - c0), locals := 184 } : Room) (cP D tk N0 sa [.ref (ad 15), .long s0_, .ref a9] sz (fun H => CW D tk ad g H ∧ SBo D a9 v0 ml (nI n0) H ∧ BA D tk v0 c0 H)) (kQl (fun r H => (∃ v1 ml1, (v1 = v0 ∨ sz ≤ v1) ∧ SBo D a9 v1 ml1 (nI (tx_mt g kp (n0, c0)).1) H ∧ BA D tk v1 (tx_mt g kp (n0, c0)).2 H)) (inA2 a9 v0 sz)) ((tx_mt g kp (n0, c0)).2 - c0) (2 * ((tx_mt g kp (n0, c0)).2 - c0)) (inA2 a9 v0 sz) := by
  refine mStart RX3 rfl (by decide +kernel) (Nat.le_of_ble_eq_true rfl) ?_
  intro p e s m args below meth c E hr hlk hnm hsz hC hF ls hl
  subst hsz
  obtain ⟨hx, hb, -⟩ := id E
  have hA : ∀ q, (inA2 a9 v0 s.heap.size) q → N0 ≤ q := fun q h => h.elim (fun z => z ▸ ha9) (fun z => z.elim (fun w => w ▸ hv0) (fun w => Nat.le_trans hC.2.1 w))
  have hn : ∀ q, s.heap.size ≤ q → (inA2 a9 v0 s.heap.size) q := fun q h => Or.inr (Or.inr h)
  have hS : va_S (inA2 a9 v0 s.heap.size) s.heap s.heap [] := va_S.rf
  have hl : lv_has ls 6 [(0, .ref (ad 15)), (1, .long s0_), (3, .ref a9)] := hl
  obtain ⟨hW, f0, hB⟩ : CW D tk ad g s.heap ∧ SBo D a9 v0 ml (nI n0) s.heap ∧ BA D tk v0 c0 s.heap := hF
  have g_f0 : (inA2 a9 v0 s.heap.size) a9 := Or.inl rfl
  have g_hB : (inA2 a9 v0 s.heap.size) v0 := Or.inr (Or.inl rfl)
  have nW_f0 := cwO hC hW f0.cl
  have nW_hB := cwB hC hW hB.cl
  have hm0 : c0 ≤ (tx_mt g kp (n0, c0)).2 := (tx_mt_ok g kp (n0, c0) hkp).2.1
  refine lv_aload_n (pc := 0) hx hb dX3_mixedWithTally_0 rfl (lv_at hl 2 rfl) ?_
  refine lv_iconst (pc := 1) (v := 0) hx hb dX3_mixedWithTally_1 (by decide) ?_
  have hZ0_ := hS.1
  have t_hW := fun k (hk9 : k < 22) => (hW k hk9).lt
  have t_f0 := f0.lt
  have t_hB := hB.lt
  have hz_1 := tx_gz c0
  refine k_v (pc := 2) (k_V E hC hS hA hl.1 (c1.recv hC f0 rfl) rfl (c_J4_setLength_d00df l D tk N0 sa s.heap.size a9 v0 c0 n0 ml (hA _ g_f0) (hA _ g_hB) (by omega) (by omega)) kw_703 kw_704 kw_705 kw_19 kw_706 (n := 1) (by decide +kernel) rfl ⟨⟨rfl, rfl⟩, ⟨Nat.le_of_ble_eq_true rfl, Nat.le_of_ble_eq_true rfl⟩, (by dsimp only; omega), (by dsimp only; omega)⟩ rfl (Nat.le_of_ble_eq_true rfl) ⟨f0, hB⟩ dX3_mixedWithTally_2) hS (inA2.to g_f0 g_hB) hn (fun H locs hR hz hk hS => ?_)
  have hW := hW.kept (fun k hk9 => hk _ (hW k hk9).lt (inA2.not (nW_f0 k hk9) (nW_hB k hk9) (hW k hk9).lt))
  obtain ⟨v_3, ml_3, hv_3, f0, hB⟩ := hR
  have g_hB := hv_3.elim (fun e9 => e9 ▸ g_hB) (fun z9 => hn _ (Nat.le_trans hZ0_ z9))
  have nW_hB : ∀ k, k < 22 → ad k ≠ v_3 := fun k hk9 => hv_3.elim (fun e9 => e9 ▸ nW_hB k hk9) (fun z9 => Nat.ne_of_lt (Nat.lt_of_lt_of_le (t_hW k hk9) z9))
  have hv_3 := hv_3.imp_right (fun z9 => Nat.le_trans hZ0_ z9)
  rw [(tx_gz c0).1] at hB
  refine lv_aload_n (pc := 5) hx hb dX3_mixedWithTally_5 rfl (lv_at hl 2 rfl) ?_
  refine lv_aload_n (pc := 6) hx hb dX3_mixedWithTally_6 rfl (lv_at hl 0 rfl) ?_
  refine r_get (pc := 7) E hC hW.obj 2 (v := .ref (ad 21)) rfl rfl (by decide) uX3 (List.mem_cons_of_mem _ kw_116) (fun _ h => h) dX3_mixedWithTally_7 ?_
  refine r_getN (pc := 10) "Bestratios" E hC hW.tal 0 (v := .ref (ad 9)) rfl rfl (by decide) uX1 kn_85 (fun _ h => h) dX3_mixedWithTally_10 ?_
  have hZ0_ := hS.1
  have t_hW := fun k (hk9 : k < 22) => (hW k hk9).lt
  have t_f0 := f0.lt
  have t_hB := hB.lt
  obtain ⟨Q_4, eQ_4⟩ : ∃ z9 : Nat × Nat, z9 = tx_wf (tT g 9) (tB g 9) (0, c0) := ⟨_, rfl⟩
  have e2Q_4 : (tx_wf (tT g 9) (tB g 9) (0, c0)).2 = Q_4.2 := by rw [eQ_4]
  have e1Q_4 : (tx_wf (tT g 9) (tB g 9) (0, c0)).1 = Q_4.1 := by rw [eQ_4]
  have hQ_4 := tx_wf_ok (tT g 9) (tB g 9) (q := (0, c0)) (by dsimp only; omega)
  rw [← eQ_4] at hQ_4; dsimp only [tx_ok] at hQ_4
  have hm1 := tx_mt_m1 g kp (n0, c0)
  dsimp only at hm1
  rw [← eQ_4] at hm1
  refine k_v (pc := 13) (k_S E hC hS hA hl.1 (c_X3_writeFraction l D tk N0 sa hAD H.size g 9 (by decide) a9 v_3 0 c0 ml_3 (hA _ g_f0) (hA _ g_hB) (by omega) (by omega)) kw_514 kw_515 kw_1 kw_516 (n := 2) (by decide +kernel) rfl ⟨⟨rfl, rfl⟩, ⟨Nat.le_of_ble_eq_true rfl, Nat.le_of_ble_eq_true rfl⟩, (by dsimp only; omega), (by dsimp only; omega)⟩ rfl (Nat.le_of_ble_eq_true rfl) ⟨hW, f0, hB⟩ dX3_mixedWithTally_13) hS (inA2.to g_f0 g_hB) hn (fun H locs hR hz hk hS => ?_)
  have hW := hW.kept (fun k hk9 => hk _ (hW k hk9).lt (inA2.not (nW_f0 k hk9) (nW_hB k hk9) (hW k hk9).lt))
  obtain ⟨v_6, ml_6, hv_6, f0, hB⟩ := hR
  have g_hB := hv_6.elim (fun e9 => e9 ▸ g_hB) (fun z9 => hn _ (Nat.le_trans hZ0_ z9))
  have nW_hB : ∀ k, k < 22 → ad k ≠ v_6 := fun k hk9 => hv_6.elim (fun e9 => e9 ▸ nW_hB k hk9) (fun z9 => Nat.ne_of_lt (Nat.lt_of_lt_of_le (t_hW k hk9) z9))
  have hv_6 := hv_6.imp_right (fun z9 => Nat.le_trans hZ0_ z9)
  have hv_6 := hv_6.elim (fun e9 => e9 ▸ hv_3) Or.inr
  rw [← eQ_4] at f0 hB
  refine lv_lload_n (pc := 16) hx hb dX3_mixedWithTally_16 rfl (lv_at hl 1 rfl) ?_
  refine lv_aload_n (pc := 17) hx hb dX3_mixedWithTally_17 rfl (lv_at hl 2 rfl) ?_
  refine k_i (pc := 18) (k_V E hC hS hA hl.1 (c1.recv hC f0 rfl) rfl (c_J4_length_8abf5 l D tk N0 sa H.size a9 v_6 Q_4.2 ml_6 (nI Q_4.1)) kw_777 kw_337 kw_1820 kw_19 kw_338 (n := 0) (by decide +kernel) rfl ⟨⟨rfl, rfl⟩, ⟨Nat.le_of_ble_eq_true rfl, Nat.le_of_ble_eq_true rfl⟩, (by dsimp only; omega), (by dsimp only; omega)⟩ rfl (Nat.le_of_ble_eq_true rfl) ⟨f0, hB⟩ dX3_mixedWithTally_18) hS (fun q z w => absurd w (Nat.not_le.mpr z)) hn (fun r_8 H locs hR hz hk hS => ?_)
  have hW := hW.new hk
  have f0 := f0.kept (hk _ f0.lt (Nat.not_le.mpr f0.lt))
  have hB := hB.kept (hk _ hB.lt (Nat.not_le.mpr hB.lt))
  rw [show r_8 = nI Q_4.1 from hR]
  refine lv_i2l (pc := 21) (v := (nI Q_4.1).toInt64) hx hb dX3_mixedWithTally_21 rfl ?_
  refine k_l (pc := 22) (k_S E hC hS hA hl.1 (c_X3_mixed l D tk N0 sa H.size s0_ ((nI Q_4.1).toInt64) ) kw_682 kw_683 kw_1 kw_684 (n := 2) (by decide +kernel) rfl ⟨⟨rfl, rfl⟩, ⟨Nat.le_of_ble_eq_true rfl, Nat.le_of_ble_eq_true rfl⟩, (by dsimp only; omega), (by dsimp only; omega)⟩ rfl (Nat.le_of_ble_eq_true rfl) trivial dX3_mixedWithTally_22) hS (fun q z w => absurd w (Nat.not_le.mpr z)) hn (fun r_9 H locs hR hz hk hS => ?_)
  have er_9 := hR
  have hW := hW.new hk
  have f0 := f0.kept (hk _ f0.lt (Nat.not_le.mpr f0.lt))
  have hB := hB.kept (hk _ hB.lt (Nat.not_le.mpr hB.lt))
  refine lv_lstore (pc := 25) (lv' := [(4, .long r_9), (0, .ref (ad 15)), (1, .long s0_), (3, .ref a9)]) hx hb dX3_mixedWithTally_25 hl (by decide) rfl (fun ls hl => ?_)
  refine lv_aload_n (pc := 27) hx hb dX3_mixedWithTally_27 rfl (lv_at hl 3 rfl) ?_
  refine lv_iconst (pc := 28) (v := 0) hx hb dX3_mixedWithTally_28 (by decide) ?_
  have hZ0_ := hS.1
  have t_hW := fun k (hk9 : k < 22) => (hW k hk9).lt
  have t_f0 := f0.lt
  have t_hB := hB.lt
  have hz_11 := tx_gz Q_4.2
  refine k_v (pc := 29) (k_V E hC hS hA hl.1 (c1.recv hC f0 rfl) rfl (c_J4_setLength_d00df l D tk N0 sa H.size a9 v_6 Q_4.2 Q_4.1 ml_6 (hA _ g_f0) (hA _ g_hB) (by omega) (by omega)) kw_703 kw_704 kw_705 kw_19 kw_706 (n := 1) (by decide +kernel) rfl ⟨⟨rfl, rfl⟩, ⟨Nat.le_of_ble_eq_true rfl, Nat.le_of_ble_eq_true rfl⟩, (by dsimp only; omega), (by dsimp only; omega)⟩ rfl (Nat.le_of_ble_eq_true rfl) ⟨f0, hB⟩ dX3_mixedWithTally_29) hS (inA2.to g_f0 g_hB) hn (fun H locs hR hz hk hS => ?_)
  have hW := hW.kept (fun k hk9 => hk _ (hW k hk9).lt (inA2.not (nW_f0 k hk9) (nW_hB k hk9) (hW k hk9).lt))
  obtain ⟨v_13, ml_13, hv_13, f0, hB⟩ := hR
  have g_hB := hv_13.elim (fun e9 => e9 ▸ g_hB) (fun z9 => hn _ (Nat.le_trans hZ0_ z9))
  have nW_hB : ∀ k, k < 22 → ad k ≠ v_13 := fun k hk9 => hv_13.elim (fun e9 => e9 ▸ nW_hB k hk9) (fun z9 => Nat.ne_of_lt (Nat.lt_of_lt_of_le (t_hW k hk9) z9))
  have hv_13 := hv_13.imp_right (fun z9 => Nat.le_trans hZ0_ z9)
  have hv_13 := hv_13.elim (fun e9 => e9 ▸ hv_6) Or.inr
  rw [(tx_gz Q_4.2).1] at hB
  refine lv_aload_n (pc := 32) hx hb dX3_mixedWithTally_32 rfl (lv_at hl 1 rfl) ?_
  refine lv_aload_n (pc := 33) hx hb dX3_mixedWithTally_33 rfl (lv_at hl 3 rfl) ?_
  have hZ0_ := hS.1
  have t_hW := fun k (hk9 : k < 22) => (hW k hk9).lt
  have t_f0 := f0.lt
  have t_hB := hB.lt
  obtain ⟨Q_14, eQ_14⟩ : ∃ z9 : Nat × Nat, z9 = tx_wd (f_cutNum (tT g 10) (tB g 10) (tI g 3) 0) kp (0, Q_4.2) := ⟨_, rfl⟩
  have e2Q_14 : (tx_wd (f_cutNum (tT g 10) (tB g 10) (tI g 3) 0) kp (0, Q_4.2)).2 = Q_14.2 := by rw [eQ_14]
  have e1Q_14 : (tx_wd (f_cutNum (tT g 10) (tB g 10) (tI g 3) 0) kp (0, Q_4.2)).1 = Q_14.1 := by rw [eQ_14]
  have hQ_14 := tx_wd_ok (f_cutNum (tT g 10) (tB g 10) (tI g 3) 0) kp (q := (0, Q_4.2)) (by dsimp only; omega)
  rw [← eQ_14] at hQ_14; dsimp only [tx_ok] at hQ_14
  have hm2 := tx_mt_m2 g kp (n0, c0)
  dsimp only at hm2
  rw [← eQ_4, ← eQ_14] at hm2
  refine k_v (pc := 34) (k_V E hC hS hA hl.1 (c1.recv hC hW.obj rfl) rfl (c_X3_writeRounded l D tk N0 sa hAD H.size g a9 v_13 0 Q_4.2 ml_13 (hA _ g_f0) (hA _ g_hB) (by omega) (by omega) kp hpl hkp hdg) kw_521 kw_523 kp_1 kw_1 kw_524 (n := 1) (by decide +kernel) rfl ⟨⟨rfl, rfl⟩, ⟨Nat.le_of_ble_eq_true rfl, Nat.le_of_ble_eq_true rfl⟩, (by dsimp only; omega), (by dsimp only; omega)⟩ rfl (Nat.le_of_ble_eq_true rfl) ⟨hW, f0, hB⟩ dX3_mixedWithTally_34) hS (inA2.to g_f0 g_hB) hn (fun H locs hR hz hk hS => ?_)
  have hW := hW.kept (fun k hk9 => hk _ (hW k hk9).lt (inA2.not (nW_f0 k hk9) (nW_hB k hk9) (hW k hk9).lt))
  obtain ⟨v_16, ml_16, hv_16, f0, hB⟩ := hR
  have g_hB := hv_16.elim (fun e9 => e9 ▸ g_hB) (fun z9 => hn _ (Nat.le_trans hZ0_ z9))
  have nW_hB : ∀ k, k < 22 → ad k ≠ v_16 := fun k hk9 => hv_16.elim (fun e9 => e9 ▸ nW_hB k hk9) (fun z9 => Nat.ne_of_lt (Nat.lt_of_lt_of_le (t_hW k hk9) z9))
  have hv_16 := hv_16.imp_right (fun z9 => Nat.le_trans hZ0_ z9)
  have hv_16 := hv_16.elim (fun e9 => e9 ▸ hv_13) Or.inr
  rw [← eQ_14] at f0 hB
  refine lv_lload (pc := 37) hx hb dX3_mixedWithTally_37 (lv_at hl 0 rfl) ?_
  refine lv_aload_n (pc := 39) hx hb dX3_mixedWithTally_39 rfl (lv_at hl 3 rfl) ?_
  refine k_i (pc := 40) (k_V E hC hS hA hl.1 (c1.recv hC f0 rfl) rfl (c_J4_length_8abf5 l D tk N0 sa H.size a9 v_16 Q_14.2 ml_16 (nI Q_14.1)) kw_777 kw_337 kw_1820 kw_19 kw_338 (n := 0) (by decide +kernel) rfl ⟨⟨rfl, rfl⟩, ⟨Nat.le_of_ble_eq_true rfl, Nat.le_of_ble_eq_true rfl⟩, (by dsimp only; omega), (by dsimp only; omega)⟩ rfl (Nat.le_of_ble_eq_true rfl) ⟨f0, hB⟩ dX3_mixedWithTally_40) hS (fun q z w => absurd w (Nat.not_le.mpr z)) hn (fun r_18 H locs hR hz hk hS => ?_)
  have hW := hW.new hk
  have f0 := f0.kept (hk _ f0.lt (Nat.not_le.mpr f0.lt))
  have hB := hB.kept (hk _ hB.lt (Nat.not_le.mpr hB.lt))
  rw [show r_18 = nI Q_14.1 from hR]
  refine lv_i2l (pc := 43) (v := (nI Q_14.1).toInt64) hx hb dX3_mixedWithTally_43 rfl ?_
  refine k_l (pc := 44) (k_S E hC hS hA hl.1 (c_X3_mixed l D tk N0 sa H.size r_9 ((nI Q_14.1).toInt64) ) kw_682 kw_683 kw_1 kw_684 (n := 2) (by decide +kernel) rfl ⟨⟨rfl, rfl⟩, ⟨Nat.le_of_ble_eq_true rfl, Nat.le_of_ble_eq_true rfl⟩, (by dsimp only; omega), (by dsimp only; omega)⟩ rfl (Nat.le_of_ble_eq_true rfl) trivial dX3_mixedWithTally_44) hS (fun q z w => absurd w (Nat.not_le.mpr z)) hn (fun r_19 H locs hR hz hk hS => ?_)
  have er_19 := hR
  have hW := hW.new hk
  have f0 := f0.kept (hk _ f0.lt (Nat.not_le.mpr f0.lt))
  have hB := hB.kept (hk _ hB.lt (Nat.not_le.mpr hB.lt))
  refine lv_lstore (pc := 47) (lv' := [(4, .long r_19), (0, .ref (ad 15)), (1, .long s0_), (3, .ref a9)]) hx hb dX3_mixedWithTally_47 hl (by decide) rfl (fun ls hl => ?_)
  refine lv_aload_n (pc := 49) hx hb dX3_mixedWithTally_49 rfl (lv_at hl 3 rfl) ?_
  refine lv_iconst (pc := 50) (v := 0) hx hb dX3_mixedWithTally_50 (by decide) ?_
  have hZ0_ := hS.1
  have t_hW := fun k (hk9 : k < 22) => (hW k hk9).lt
  have t_f0 := f0.lt
  have t_hB := hB.lt
  have hz_21 := tx_gz Q_14.2
  refine k_v (pc := 51) (k_V E hC hS hA hl.1 (c1.recv hC f0 rfl) rfl (c_J4_setLength_d00df l D tk N0 sa H.size a9 v_16 Q_14.2 Q_14.1 ml_16 (hA _ g_f0) (hA _ g_hB) (by omega) (by omega)) kw_703 kw_704 kw_705 kw_19 kw_706 (n := 1) (by decide +kernel) rfl ⟨⟨rfl, rfl⟩, ⟨Nat.le_of_ble_eq_true rfl, Nat.le_of_ble_eq_true rfl⟩, (by dsimp only; omega), (by dsimp only; omega)⟩ rfl (Nat.le_of_ble_eq_true rfl) ⟨f0, hB⟩ dX3_mixedWithTally_51) hS (inA2.to g_f0 g_hB) hn (fun H locs hR hz hk hS => ?_)
  have hW := hW.kept (fun k hk9 => hk _ (hW k hk9).lt (inA2.not (nW_f0 k hk9) (nW_hB k hk9) (hW k hk9).lt))
  obtain ⟨v_23, ml_23, hv_23, f0, hB⟩ := hR
  have g_hB := hv_23.elim (fun e9 => e9 ▸ g_hB) (fun z9 => hn _ (Nat.le_trans hZ0_ z9))
  have nW_hB : ∀ k, k < 22 → ad k ≠ v_23 := fun k hk9 => hv_23.elim (fun e9 => e9 ▸ nW_hB k hk9) (fun z9 => Nat.ne_of_lt (Nat.lt_of_lt_of_le (t_hW k hk9) z9))
  have hv_23 := hv_23.imp_right (fun z9 => Nat.le_trans hZ0_ z9)
  have hv_23 := hv_23.elim (fun e9 => e9 ▸ hv_16) Or.inr
  rw [(tx_gz Q_14.2).1] at hB
  refine lv_aload_n (pc := 54) hx hb dX3_mixedWithTally_54 rfl (lv_at hl 3 rfl) ?_
  refine lv_aload_n (pc := 55) hx hb dX3_mixedWithTally_55 rfl (lv_at hl 1 rfl) ?_
  refine r_get (pc := 56) E hC hW.obj 2 (v := .ref (ad 21)) rfl rfl (by decide) uX3 (List.mem_cons_of_mem _ kw_116) (fun _ h => h) dX3_mixedWithTally_56 ?_
  refine r_getN (pc := 59) "Bestratios" E hC hW.tal 2 (v := .ref (ad 11)) rfl rfl (by decide) uX1 kn_89 (fun _ h => h) dX3_mixedWithTally_59 ?_
  have hZ0_ := hS.1
  have t_hW := fun k (hk9 : k < 22) => (hW k hk9).lt
  have t_f0 := f0.lt
  have t_hB := hB.lt
  obtain ⟨Q_24, eQ_24⟩ : ∃ z9 : Nat × Nat, z9 = tx_wf (tT g 11) (tB g 11) (0, Q_14.2) := ⟨_, rfl⟩
  have e2Q_24 : (tx_wf (tT g 11) (tB g 11) (0, Q_14.2)).2 = Q_24.2 := by rw [eQ_24]
  have e1Q_24 : (tx_wf (tT g 11) (tB g 11) (0, Q_14.2)).1 = Q_24.1 := by rw [eQ_24]
  have hQ_24 := tx_wf_ok (tT g 11) (tB g 11) (q := (0, Q_14.2)) (by dsimp only; omega)
  rw [← eQ_24] at hQ_24; dsimp only [tx_ok] at hQ_24
  have hm3 : tx_mt g kp (n0, c0) = Q_24 := by rw [eQ_24, eQ_14, eQ_4]; rfl
  have hm4 : (tx_mt g kp (n0, c0)).2 = Q_24.2 := by rw [hm3]
  refine k_v (pc := 62) (k_S E hC hS hA hl.1 (c_X3_writeFraction l D tk N0 sa hAD H.size g 11 (by decide) a9 v_23 0 Q_14.2 ml_23 (hA _ g_f0) (hA _ g_hB) (by omega) (by omega)) kw_514 kw_515 kw_1 kw_516 (n := 2) (by decide +kernel) rfl ⟨⟨rfl, rfl⟩, ⟨Nat.le_of_ble_eq_true rfl, Nat.le_of_ble_eq_true rfl⟩, (by dsimp only; omega), (by dsimp only; omega)⟩ rfl (Nat.le_of_ble_eq_true rfl) ⟨hW, f0, hB⟩ dX3_mixedWithTally_62) hS (inA2.to g_f0 g_hB) hn (fun H locs hR hz hk hS => ?_)
  have hW := hW.kept (fun k hk9 => hk _ (hW k hk9).lt (inA2.not (nW_f0 k hk9) (nW_hB k hk9) (hW k hk9).lt))
  obtain ⟨v_26, ml_26, hv_26, f0, hB⟩ := hR
  have g_hB := hv_26.elim (fun e9 => e9 ▸ g_hB) (fun z9 => hn _ (Nat.le_trans hZ0_ z9))
  have nW_hB : ∀ k, k < 22 → ad k ≠ v_26 := fun k hk9 => hv_26.elim (fun e9 => e9 ▸ nW_hB k hk9) (fun z9 => Nat.ne_of_lt (Nat.lt_of_lt_of_le (t_hW k hk9) z9))
  have hv_26 := hv_26.imp_right (fun z9 => Nat.le_trans hZ0_ z9)
  have hv_26 := hv_26.elim (fun e9 => e9 ▸ hv_23) Or.inr
  rw [← eQ_24] at f0 hB
  refine lv_lload (pc := 65) hx hb dX3_mixedWithTally_65 (lv_at hl 0 rfl) ?_
  refine lv_aload_n (pc := 67) hx hb dX3_mixedWithTally_67 rfl (lv_at hl 3 rfl) ?_
  refine k_i (pc := 68) (k_V E hC hS hA hl.1 (c1.recv hC f0 rfl) rfl (c_J4_length_8abf5 l D tk N0 sa H.size a9 v_26 Q_24.2 ml_26 (nI Q_24.1)) kw_777 kw_337 kw_1820 kw_19 kw_338 (n := 0) (by decide +kernel) rfl ⟨⟨rfl, rfl⟩, ⟨Nat.le_of_ble_eq_true rfl, Nat.le_of_ble_eq_true rfl⟩, (by dsimp only; omega), (by dsimp only; omega)⟩ rfl (Nat.le_of_ble_eq_true rfl) ⟨f0, hB⟩ dX3_mixedWithTally_68) hS (fun q z w => absurd w (Nat.not_le.mpr z)) hn (fun r_28 H locs hR hz hk hS => ?_)
  have hW := hW.new hk
  have f0 := f0.kept (hk _ f0.lt (Nat.not_le.mpr f0.lt))
  have hB := hB.kept (hk _ hB.lt (Nat.not_le.mpr hB.lt))
  rw [show r_28 = nI Q_24.1 from hR]
  refine lv_i2l (pc := 71) (v := (nI Q_24.1).toInt64) hx hb dX3_mixedWithTally_71 rfl ?_
  refine k_l (pc := 72) (k_S E hC hS hA hl.1 (c_X3_mixed l D tk N0 sa H.size r_19 ((nI Q_24.1).toInt64) ) kw_682 kw_683 kw_1 kw_684 (n := 2) (by decide +kernel) rfl ⟨⟨rfl, rfl⟩, ⟨Nat.le_of_ble_eq_true rfl, Nat.le_of_ble_eq_true rfl⟩, (by dsimp only; omega), (by dsimp only; omega)⟩ rfl (Nat.le_of_ble_eq_true rfl) trivial dX3_mixedWithTally_72) hS (fun q z w => absurd w (Nat.not_le.mpr z)) hn (fun r_29 H locs hR hz hk hS => ?_)
  have er_29 := hR
  have hW := hW.new hk
  have f0 := f0.kept (hk _ f0.lt (Nat.not_le.mpr f0.lt))
  have hB := hB.kept (hk _ hB.lt (Nat.not_le.mpr hB.lt))
  refine r_lret (pc := 75) E hr hlk hS (by omega) (by omega) ?_ dX3_mixedWithTally_75
  rw [hm3]
  exact ⟨_, _, hv_26, f0, hB⟩
set_option maxHeartbeats 4000000 in
set_option maxRecDepth 100000 in
/-- Bestratios.mixedWithRatio(JLBestratios$Fraction;Ljava/lang/StringBuilder;)J -/
theorem c_X3_mixedWithRatio (l : Launch) (D : va_G) (tk : Nat → ClassId) (N0 : Nat) (sa : Nat → Nat) {ad : Nat → Nat} (hAD : ADok N0 ad) (sz : Nat) (g : CS) (s0_ : Int64) (i : Nat) (hi : i < 15) (a9 v0 n0 c0 : Nat) (ml : Int32) (ha9 : N0 ≤ a9) (hv0 : N0 ≤ v0) (hn9 : n0 ≤ c0) (hcap : c0 ≤ 100000) (hdg : ∀ md, txD (f_cutNum (tT (tx_mrW g i) i) (tB (tx_mrW g i) i) 3 md) 3) : Met l yX3_mixedWithRatio (wsy yX3_mixedWithRatio cX3_mixedWithRatio 8 (some .long)) ({ frames := 7, cells := (tx_mr g i (n0, c0)).2 - c0, slots := 2 * ((tx_mr g i (n0, c0)).2 - c0), locals := 163 } : Room) (cP D tk N0 sa [.ref (ad 15), .long s0_, .ref (ad i), .ref a9] sz (fun H => CW D tk ad g H ∧ SBo D a9 v0 ml (nI n0) H ∧ BA D tk v0 c0 H)) (kQl (fun r H => (∃ v1 ml1, (v1 = v0 ∨ sz ≤ v1) ∧ SBo D a9 v1 ml1 (nI (tx_mr g i (n0, c0)).1) H ∧ BA D tk v1 (tx_mr g i (n0, c0)).2 H) ∧ CW D tk ad (tx_mrW g i) H) (inC2 ad a9 v0 sz)) ((tx_mr g i (n0, c0)).2 - c0) (2 * ((tx_mr g i (n0, c0)).2 - c0)) (inC2 ad a9 v0 sz) := by
  refine mStart RX3 rfl (by decide +kernel) (Nat.le_of_ble_eq_true rfl) ?_
  intro p e s m args below meth c E hr hlk hnm hsz hC hF ls hl
  subst hsz
  obtain ⟨hx, hb, -⟩ := id E
  have hA : ∀ q, (inC2 ad a9 v0 s.heap.size) q → N0 ≤ q := fun q h => h.elim (cwA.ge hAD hC.2.1 q) (fun z => z.elim (fun e => e ▸ ha9) (fun e => e ▸ hv0))
  have hn : ∀ q, s.heap.size ≤ q → (inC2 ad a9 v0 s.heap.size) q := fun q h => Or.inl (Or.inr h)
  have hS : va_S (inC2 ad a9 v0 s.heap.size) s.heap s.heap [] := va_S.rf
  have hl : lv_has ls 8 [(0, .ref (ad 15)), (1, .long s0_), (3, .ref (ad i)), (4, .ref a9)] := hl
  obtain ⟨Q, hQ⟩ : ∃ Q, Q = MQ below (kQl (fun r H => (∃ v1 ml1, (v1 = v0 ∨ s.heap.size ≤ v1) ∧ SBo D a9 v1 ml1 (nI (tx_mr g i (n0, c0)).1) H ∧ BA D tk v1 (tx_mr g i (n0, c0)).2 H) ∧ CW D tk ad (tx_mrW g i) H) (inC2 ad a9 v0 s.heap.size)) args s ((tx_mr g i (n0, c0)).2 - c0) (2 * ((tx_mr g i (n0, c0)).2 - c0)) (inC2 ad a9 v0 s.heap.size) := ⟨_, rfl⟩
  rw [← hQ]
  obtain ⟨hW, f0, hB⟩ : CW D tk ad g s.heap ∧ SBo D a9 v0 ml (nI n0) s.heap ∧ BA D tk v0 c0 s.heap := hF
  have g_f0 : (inC2 ad a9 v0 s.heap.size) a9 := Or.inr (Or.inl rfl)
  have g_hB : (inC2 ad a9 v0 s.heap.size) v0 := Or.inr (Or.inr rfl)
  have nW_f0 := cwO hC hW f0.cl
  have nW_hB := cwB hC hW hB.cl
  have g_v0 := g_hB
  have hm0 : c0 ≤ (tx_mr g i (n0, c0)).2 := (tx_mr_ok g i (n0, c0)).2.1
  refine lv_lload_n (pc := 0) hx hb dX3_mixedWithRatio_0 rfl (lv_at hl 1 rfl) ?_
  refine lv_lstore (pc := 1) (lv' := [(5, .long s0_), (0, .ref (ad 15)), (1, .long s0_), (3, .ref (ad i)), (4, .ref a9)]) hx hb dX3_mixedWithRatio_1 hl (by decide) rfl (fun ls hl => ?_)
  refine lv_iconst (pc := 3) (v := 0) hx hb dX3_mixedWithRatio_3 (by decide) ?_
  refine lv_istore (pc := 4) (lv' := [(7, .int 0), (5, .long s0_), (0, .ref (ad 15)), (1, .long s0_), (3, .ref (ad i)), (4, .ref a9)]) hx hb dX3_mixedWithRatio_4 hl (by decide) rfl (fun ls hl => ?_)
  have loop_6 : ∀ (n : Nat) (k : Nat)(s9 : Int64) (y9 : Int32), 4 - k < n → k ≤ 4 → y9 = nI k → ∀ (H : Heap) (locs : List Loc) (ls : Array Slot), va_S (inC2 ad a9 v0 s.heap.size) s.heap H locs → CW D tk ad g H → SBo D a9 v0 ml (nI n0) H → BA D tk v0 c0 H → lv_has ls 8 [(0, .ref (ad 15)), (1, .long s0_), (3, .ref (ad i)), (4, .ref a9), (5, .long s9), (7, .int y9)] → W p l e ({ frames := 7, cells := (tx_mr g i (n0, c0)).2 - c0, slots := 2 * ((tx_mr g i (n0, c0)).2 - c0), locals := 163 } : Room) s m args below meth c H locs (0) (0) Q (F0 m 6 ls []) := by
    intro n
    induction n with
    | zero =>
      intro k s9 y9 hf9 hk9 hx9 H locs ls hS hW f0 hB hl
      omega
    | succ n ih_6 =>
      intro k s9 y9 hf9 hk9 hx9 H locs ls hS hW f0 hB hl
      refine lv_iload (pc := 6) hx hb dX3_mixedWithRatio_6 (lv_at hl 5 rfl) ?_
      refine lv_iconst (pc := 8) (v := 3) hx hb dX3_mixedWithRatio_8 (by decide) ?_
      refine lv_icmp_gt (pc := 9) (tgt := 31) hx hb dX3_mixedWithRatio_9 (by decide) (fun c_1 => ?_) (fun c_1 => ?_)
      · refine lv_aload_n (pc := 31) hx hb dX3_mixedWithRatio_31 rfl (lv_at hl 0 rfl) ?_
        refine r_get (pc := 32) E hC hW.obj 8 (v := .ref (ad 19)) rfl rfl (by decide) uX3 (List.mem_cons_of_mem _ kw_122) (fun _ h => h) dX3_mixedWithRatio_32 ?_
        refine lv_aload_n (pc := 35) hx hb dX3_mixedWithRatio_35 rfl (lv_at hl 2 rfl) ?_
        refine k_v (pc := 36) (k_V E hC hS hA hl.1 (c1.recv hC (hW.tm (j := 1) (by decide)) rfl) rfl (c_X2_takeApart l D tk N0 sa hAD H.size g 1 (by decide) i hi ) kw_563 kw_564 kw_565 kw_3 kw_566 (n := 1) (by decide +kernel) rfl ⟨⟨rfl, rfl⟩, ⟨Nat.le_of_ble_eq_true rfl, Nat.le_of_ble_eq_true rfl⟩, (by dsimp only; omega), (by dsimp only; omega)⟩ rfl (Nat.le_of_ble_eq_true rfl) hW dX3_mixedWithRatio_36) hS (fun q _ w => Or.inl (cwA.go hS.1 q w)) hn (fun H locs hR hz hk hS => ?_)
        have hW := hR
        have f0 := f0.kept (hk _ f0.lt (cwN nW_f0 f0.lt))
        have hB := hB.kept (hk _ hB.lt (cwN nW_hB hB.lt))
        obtain ⟨g_4, eg_4⟩ : ∃ z, z = f_apart g 1 i := ⟨_, rfl⟩
        rw [← eg_4] at hW
        refine lv_lload (pc := 39) hx hb dX3_mixedWithRatio_39 (lv_at hl 4 rfl) ?_
        refine lv_aload_n (pc := 41) hx hb dX3_mixedWithRatio_41 rfl (lv_at hl 0 rfl) ?_
        refine r_get (pc := 42) E hC hW.obj 8 (v := .ref (ad 19)) rfl rfl (by decide) uX3 (List.mem_cons_of_mem _ kw_122) (fun _ h => h) dX3_mixedWithRatio_42 ?_
        refine r_getN (pc := 45) "Bestratios" E hC (hW.tm (j := 1) (by decide)) 1 (v := .int (tC g_4 1)) rfl rfl (by decide) uX2 kn_69 (fun _ h => h) dX3_mixedWithRatio_45 ?_
        refine lv_i2l (pc := 48) (v := (tC g_4 1).toInt64) hx hb dX3_mixedWithRatio_48 rfl ?_
        refine k_l (pc := 49) (k_S E hC hS hA hl.1 (c_X3_mixed l D tk N0 sa H.size s9 ((tC g_4 1).toInt64) ) kw_682 kw_683 kw_1 kw_684 (n := 2) (by decide +kernel) rfl ⟨⟨rfl, rfl⟩, ⟨Nat.le_of_ble_eq_true rfl, Nat.le_of_ble_eq_true rfl⟩, (by dsimp only; omega), (by dsimp only; omega)⟩ rfl (Nat.le_of_ble_eq_true rfl) trivial dX3_mixedWithRatio_49) hS (fun q z w => absurd w (Nat.not_le.mpr z)) hn (fun r_5 H locs hR hz hk hS => ?_)
        have er_5 := hR
        have hW := hW.new hk
        have f0 := f0.kept (hk _ f0.lt (Nat.not_le.mpr f0.lt))
        have hB := hB.kept (hk _ hB.lt (Nat.not_le.mpr hB.lt))
        refine lv_lstore (pc := 52) (lv' := [(5, .long r_5), (0, .ref (ad 15)), (1, .long s0_), (3, .ref (ad i)), (4, .ref a9), (7, .int y9)]) hx hb dX3_mixedWithRatio_52 hl (by decide) rfl (fun ls hl => ?_)
        refine lv_lload (pc := 54) hx hb dX3_mixedWithRatio_54 (lv_at hl 0 rfl) ?_
        refine lv_aload_n (pc := 56) hx hb dX3_mixedWithRatio_56 rfl (lv_at hl 1 rfl) ?_
        refine lv_aload_n (pc := 57) hx hb dX3_mixedWithRatio_57 rfl (lv_at hl 3 rfl) ?_
        refine k_l (pc := 58) (k_V E hC hS hA hl.1 (c1.recv hC hW.obj rfl) rfl (c_X3_depthOf l D tk N0 sa hAD H.size g_4 i hi ) kw_694 kw_696 kp_11 kw_1 kw_697 (n := 1) (by decide +kernel) rfl ⟨⟨rfl, rfl⟩, ⟨Nat.le_of_ble_eq_true rfl, Nat.le_of_ble_eq_true rfl⟩, (by dsimp only; omega), (by dsimp only; omega)⟩ rfl (Nat.le_of_ble_eq_true rfl) hW dX3_mixedWithRatio_58) hS (fun q _ w => Or.inl (cwA.go hS.1 q w)) hn (fun r_7 H locs hR hz hk hS => ?_)
        obtain ⟨er_7, hW⟩ := hR
        have f0 := f0.kept (hk _ f0.lt (cwN nW_f0 f0.lt))
        have hB := hB.kept (hk _ hB.lt (cwN nW_hB hB.lt))
        obtain ⟨g_9, eg_9⟩ : ∃ z, z = f_depW g_4 i := ⟨_, rfl⟩
        rw [← eg_9] at hW
        refine k_l (pc := 61) (k_S E hC hS hA hl.1 (c_X3_mixed l D tk N0 sa H.size r_5 r_7 ) kw_682 kw_683 kw_1 kw_684 (n := 2) (by decide +kernel) rfl ⟨⟨rfl, rfl⟩, ⟨Nat.le_of_ble_eq_true rfl, Nat.le_of_ble_eq_true rfl⟩, (by dsimp only; omega), (by dsimp only; omega)⟩ rfl (Nat.le_of_ble_eq_true rfl) trivial dX3_mixedWithRatio_61) hS (fun q z w => absurd w (Nat.not_le.mpr z)) hn (fun r_10 H locs hR hz hk hS => ?_)
        have er_10 := hR
        have hW := hW.new hk
        have f0 := f0.kept (hk _ f0.lt (Nat.not_le.mpr f0.lt))
        have hB := hB.kept (hk _ hB.lt (Nat.not_le.mpr hB.lt))
        refine lv_lstore (pc := 64) (lv' := [(5, .long r_10), (0, .ref (ad 15)), (1, .long s0_), (3, .ref (ad i)), (4, .ref a9), (7, .int y9)]) hx hb dX3_mixedWithRatio_64 hl (by decide) rfl (fun ls hl => ?_)
        refine lv_aload (pc := 66) hx hb dX3_mixedWithRatio_66 (lv_at hl 4 rfl) ?_
        refine lv_iconst (pc := 68) (v := 0) hx hb dX3_mixedWithRatio_68 (by decide) ?_
        have hZ0_ := hS.1
        have t_hW := fun k (hk9 : k < 22) => (hW k hk9).lt
        have t_f0 := f0.lt
        have t_hB := hB.lt
        have hz_12 := tx_gz c0
        refine k_v (pc := 69) (k_V E hC hS hA hl.1 (c1.recv hC f0 rfl) rfl (c_J4_setLength_d00df l D tk N0 sa H.size a9 v0 c0 n0 ml (hA _ g_f0) (hA _ g_hB) (by omega) (by omega)) kw_703 kw_704 kw_705 kw_19 kw_706 (n := 1) (by decide +kernel) rfl ⟨⟨rfl, rfl⟩, ⟨Nat.le_of_ble_eq_true rfl, Nat.le_of_ble_eq_true rfl⟩, (by dsimp only; omega), (by dsimp only; omega)⟩ rfl (Nat.le_of_ble_eq_true rfl) ⟨f0, hB⟩ dX3_mixedWithRatio_69) hS (inA2.to g_f0 g_hB) hn (fun H locs hR hz hk hS => ?_)
        have hW := hW.kept (fun k hk9 => hk _ (hW k hk9).lt (inA2.not (nW_f0 k hk9) (nW_hB k hk9) (hW k hk9).lt))
        obtain ⟨v_14, ml_14, hv_14, f0, hB⟩ := hR
        have g_hB := hv_14.elim (fun e9 => e9 ▸ g_hB) (fun z9 => hn _ (Nat.le_trans hZ0_ z9))
        have nW_hB : ∀ k, k < 22 → ad k ≠ v_14 := fun k hk9 => hv_14.elim (fun e9 => e9 ▸ nW_hB k hk9) (fun z9 => Nat.ne_of_lt (Nat.lt_of_lt_of_le (t_hW k hk9) z9))
        have hv_14 := hv_14.imp_right (fun z9 => Nat.le_trans hZ0_ z9)
        rw [(tx_gz c0).1] at hB
        refine lv_aload_n (pc := 72) hx hb dX3_mixedWithRatio_72 rfl (lv_at hl 1 rfl) ?_
        refine lv_aload (pc := 73) hx hb dX3_mixedWithRatio_73 (lv_at hl 4 rfl) ?_
        refine lv_aload_n (pc := 75) hx hb dX3_mixedWithRatio_75 rfl (lv_at hl 3 rfl) ?_
        have hZ0_ := hS.1
        have t_hW := fun k (hk9 : k < 22) => (hW k hk9).lt
        have t_f0 := f0.lt
        have t_hB := hB.lt
        obtain ⟨Q_15, eQ_15⟩ : ∃ z9 : Nat × Nat, z9 = tx_wy g_9 i (0, c0) := ⟨_, rfl⟩
        have e2Q_15 : (tx_wy g_9 i (0, c0)).2 = Q_15.2 := by rw [eQ_15]
        have e1Q_15 : (tx_wy g_9 i (0, c0)).1 = Q_15.1 := by rw [eQ_15]
        have hQ_15 := tx_wy_ok g_9 i (q := (0, c0)) (by dsimp only; omega)
        rw [← eQ_15] at hQ_15; dsimp only [tx_ok] at hQ_15
        have hm1 := tx_mr_m g i (n0, c0)
        dsimp only at hm1
        rw [← eg_4, ← eg_9, ← eQ_15] at hm1
        refine k_v (pc := 76) (k_V E hC hS hA hl.1 (c1.recv hC hW.obj rfl) rfl (c_X3_writeWay l D tk N0 sa hAD H.size g_9 i hi a9 v_14 0 c0 ml_14 (hA _ g_f0) (hA _ g_hB) (by omega) (by omega)) kw_771 kw_773 kp_12 kw_1 kw_774 (n := 2) (by decide +kernel) rfl ⟨⟨rfl, rfl⟩, ⟨Nat.le_of_ble_eq_true rfl, Nat.le_of_ble_eq_true rfl⟩, (by dsimp only; omega), (by dsimp only; omega)⟩ rfl (Nat.le_of_ble_eq_true rfl) ⟨hW, f0, hB⟩ dX3_mixedWithRatio_76) hS (inC2.to (fun q w => Or.inl (cwA.go hS.1 q w)) g_f0 g_hB) hn (fun H locs hR hz hk hS => ?_)
        obtain ⟨⟨v_17, ml_17, hv_17, f0, hB⟩, hW⟩ := hR
        have g_hB := hv_17.elim (fun e9 => e9 ▸ g_hB) (fun z9 => hn _ (Nat.le_trans hZ0_ z9))
        have hv_17 := hv_17.imp_right (fun z9 => Nat.le_trans hZ0_ z9)
        have hv_17 := hv_17.elim (fun e9 => e9 ▸ hv_14) Or.inr
        rw [← eQ_15] at f0 hB
        obtain ⟨g_19, eg_19⟩ : ∃ z, z = tx_wyW g_9 i := ⟨_, rfl⟩
        rw [← eg_19] at hW
        have nW_hB := cwB hC hW hB.cl
        have hGG : g_19 = tx_mrW g i := by rw [eg_19, eg_9, eg_4]; rfl
        have hg7 : tx_mrL (tT g_19 i) (tB g_19 i) 5 0 Q_15 = tx_mr g i (n0, c0) := by rw [hGG, eQ_15, eg_9, eg_4]; rfl
        refine lv_lload (pc := 79) hx hb dX3_mixedWithRatio_79 (lv_at hl 0 rfl) ?_
        refine lv_aload (pc := 81) hx hb dX3_mixedWithRatio_81 (lv_at hl 4 rfl) ?_
        refine k_i (pc := 83) (k_V E hC hS hA hl.1 (c1.recv hC f0 rfl) rfl (c_J4_length_8abf5 l D tk N0 sa H.size a9 v_17 Q_15.2 ml_17 (nI Q_15.1)) kw_777 kw_337 kw_1820 kw_19 kw_338 (n := 0) (by decide +kernel) rfl ⟨⟨rfl, rfl⟩, ⟨Nat.le_of_ble_eq_true rfl, Nat.le_of_ble_eq_true rfl⟩, (by dsimp only; omega), (by dsimp only; omega)⟩ rfl (Nat.le_of_ble_eq_true rfl) ⟨f0, hB⟩ dX3_mixedWithRatio_83) hS (fun q z w => absurd w (Nat.not_le.mpr z)) hn (fun r_20 H locs hR hz hk hS => ?_)
        have hW := hW.new hk
        have f0 := f0.kept (hk _ f0.lt (Nat.not_le.mpr f0.lt))
        have hB := hB.kept (hk _ hB.lt (Nat.not_le.mpr hB.lt))
        rw [show r_20 = nI Q_15.1 from hR]
        refine lv_i2l (pc := 86) (v := (nI Q_15.1).toInt64) hx hb dX3_mixedWithRatio_86 rfl ?_
        refine k_l (pc := 87) (k_S E hC hS hA hl.1 (c_X3_mixed l D tk N0 sa H.size r_10 ((nI Q_15.1).toInt64) ) kw_682 kw_683 kw_1 kw_684 (n := 2) (by decide +kernel) rfl ⟨⟨rfl, rfl⟩, ⟨Nat.le_of_ble_eq_true rfl, Nat.le_of_ble_eq_true rfl⟩, (by dsimp only; omega), (by dsimp only; omega)⟩ rfl (Nat.le_of_ble_eq_true rfl) trivial dX3_mixedWithRatio_87) hS (fun q z w => absurd w (Nat.not_le.mpr z)) hn (fun r_21 H locs hR hz hk hS => ?_)
        have er_21 := hR
        have hW := hW.new hk
        have f0 := f0.kept (hk _ f0.lt (Nat.not_le.mpr f0.lt))
        have hB := hB.kept (hk _ hB.lt (Nat.not_le.mpr hB.lt))
        refine lv_lstore (pc := 90) (lv' := [(5, .long r_21), (0, .ref (ad 15)), (1, .long s0_), (3, .ref (ad i)), (4, .ref a9), (7, .int y9)]) hx hb dX3_mixedWithRatio_90 hl (by decide) rfl (fun ls hl => ?_)
        refine lv_iconst (pc := 92) (v := 0) hx hb dX3_mixedWithRatio_92 (by decide) ?_
        refine lv_istore (pc := 93) (lv' := [(7, .int 0), (5, .long r_21), (0, .ref (ad 15)), (1, .long s0_), (3, .ref (ad i)), (4, .ref a9)]) hx hb dX3_mixedWithRatio_93 hl (by decide) rfl (fun ls hl => ?_)
        have loop_95 : ∀ (n : Nat) (k8 : Nat) (v9 : Nat) (n9 : Nat) (c9 : Nat) (m9 : Int32)(s8 : Int64) (w9 : Int32), 5 - k8 < n → k8 ≤ 5 → w9 = nI k8 → v9 = v0 ∨ s.heap.size ≤ v9 → n9 ≤ c9 ∧ c0 ≤ c9 ∧ c9 ≤ max c0 3000 → tx_mrL (tT g_19 i) (tB g_19 i) (5 - k8) k8 (n9, c9) = tx_mr g i (n0, c0) → ∀ (H : Heap) (locs : List Loc) (ls : Array Slot), va_S (inC2 ad a9 v0 s.heap.size) s.heap H locs → CW D tk ad g_19 H → SBo D a9 v9 m9 (nI n9) H → BA D tk v9 c9 H → lv_has ls 8 [(0, .ref (ad 15)), (1, .long s0_), (3, .ref (ad i)), (4, .ref a9), (5, .long s8), (7, .int w9)] → W p l e ({ frames := 7, cells := (tx_mr g i (n0, c0)).2 - c0, slots := 2 * ((tx_mr g i (n0, c0)).2 - c0), locals := 163 } : Room) s m args below meth c H locs (c9 - c0) (2 * (c9 - c0)) Q (F0 m 95 ls []) := by
          intro n
          induction n with
          | zero =>
            intro k8 v9 n9 c9 m9 s8 w9 hf8 hk8 hx8 hv9 hb9 hg9 H locs ls hS hW f0 hB hl
            omega
          | succ n ih_95 =>
            intro k8 v9 n9 c9 m9 s8 w9 hf8 hk8 hx8 hv9 hb9 hg9 H locs ls hS hW f0 hB hl
            have g_hB := hv9.elim (fun e9 => e9 ▸ g_v0) (fun z9 => hn _ z9)
            have nW_hB := cwB hC hW hB.cl
            refine lv_iload (pc := 95) hx hb dX3_mixedWithRatio_95 (lv_at hl 5 rfl) ?_
            refine lv_iconst (pc := 97) (v := 4) hx hb dX3_mixedWithRatio_97 (by decide) ?_
            refine lv_icmp_gt (pc := 98) (tgt := 139) hx hb dX3_mixedWithRatio_98 (by decide) (fun c_23 => ?_) (fun c_23 => ?_)
            · have e0 : 5 - k8 = 0 := by have := (i_lt (k := 4) (by decide) hx8 (by decide) (by omega)).mp c_23; omega
              have hR9 : tx_mr g i (n0, c0) = (n9, c9) := by rw [← hg9, e0]; rfl
              have hR2 : (tx_mr g i (n0, c0)).2 = c9 := by rw [hR9]
              refine lv_lload (pc := 139) hx hb dX3_mixedWithRatio_139 (lv_at hl 4 rfl) ?_
              try rw [hQ]
              refine r_lret (pc := 141) E hr hlk hS (by omega) (by omega) ?_ dX3_mixedWithRatio_141
              rw [hR9]
              exact ⟨⟨_, _, hv9, f0, hB⟩, hW.to (by exact hGG)⟩
            · have hm9 := tx_mrL_m (tT g_19 i) (tB g_19 i) (5 - k8) k8 (n9, c9)
              rw [hg9] at hm9
              dsimp only at hm9
              have hlt8 : k8 < 5 := Nat.not_le.mp (fun z => c_23 ((i_lt (k := 4) (by decide) hx8 (by decide) (by omega)).mpr (by omega)))
              have e200 : 5 - k8 = (5 - (k8 + 1)) + 1 := by omega
              rw [e200] at hg9
              have hg8 : tx_mrL (tT g_19 i) (tB g_19 i) (5 - (k8 + 1)) (k8 + 1) (tx_wd (f_cutNum (tT g_19 i) (tB g_19 i) 3 (nI k8)) 3 (0, c9)) = tx_mr g i (n0, c0) := hg9
              refine lv_aload (pc := 101) hx hb dX3_mixedWithRatio_101 (lv_at hl 3 rfl) ?_
              refine lv_iconst (pc := 103) (v := 0) hx hb dX3_mixedWithRatio_103 (by decide) ?_
              have hZ0_ := hS.1
              have t_hW := fun k (hk9 : k < 22) => (hW k hk9).lt
              have t_f0 := f0.lt
              have t_hB := hB.lt
              have hz_24 := tx_gz c9
              refine k_v (pc := 104) (k_V E hC hS hA hl.1 (c1.recv hC f0 rfl) rfl (c_J4_setLength_d00df l D tk N0 sa H.size a9 v9 c9 n9 m9 (hA _ g_f0) (hA _ g_hB) (by omega) (by omega)) kw_703 kw_704 kw_705 kw_19 kw_706 (n := 1) (by decide +kernel) rfl ⟨⟨rfl, rfl⟩, ⟨Nat.le_of_ble_eq_true rfl, Nat.le_of_ble_eq_true rfl⟩, (by dsimp only; omega), (by dsimp only; omega)⟩ rfl (Nat.le_of_ble_eq_true rfl) ⟨f0, hB⟩ dX3_mixedWithRatio_104) hS (inA2.to g_f0 g_hB) hn (fun H locs hR hz hk hS => ?_)
              have hW := hW.kept (fun k hk9 => hk _ (hW k hk9).lt (inA2.not (nW_f0 k hk9) (nW_hB k hk9) (hW k hk9).lt))
              obtain ⟨v_26, ml_26, hv_26, f0, hB⟩ := hR
              have g_hB := hv_26.elim (fun e9 => e9 ▸ g_hB) (fun z9 => hn _ (Nat.le_trans hZ0_ z9))
              have nW_hB : ∀ k, k < 22 → ad k ≠ v_26 := fun k hk9 => hv_26.elim (fun e9 => e9 ▸ nW_hB k hk9) (fun z9 => Nat.ne_of_lt (Nat.lt_of_lt_of_le (t_hW k hk9) z9))
              have hv_26 := hv_26.imp_right (fun z9 => Nat.le_trans hZ0_ z9)
              have hv_26 := hv_26.elim (fun e9 => e9 ▸ hv9) Or.inr
              rw [(tx_gz c9).1] at hB
              refine lv_aload (pc := 107) hx hb dX3_mixedWithRatio_107 (lv_at hl 3 rfl) ?_
              refine lv_aload_n (pc := 109) hx hb dX3_mixedWithRatio_109 rfl (lv_at hl 2 rfl) ?_
              refine lv_iconst (pc := 110) (v := 3) hx hb dX3_mixedWithRatio_110 (by decide) ?_
              refine lv_iload (pc := 111) hx hb dX3_mixedWithRatio_111 (lv_at hl 5 rfl) ?_
              refine k_l (pc := 113) (k_V E hC hS hA hl.1 (c1.recv hC (hW.fr (i := i) hi) rfl) rfl (c_X0_cutTo l D tk N0 sa hAD H.size g_19 i hi 3 w9 ) kw_525 kw_526 kw_527 kw_2 kw_528 (n := 2) (by decide +kernel) rfl ⟨⟨rfl, rfl⟩, ⟨Nat.le_of_ble_eq_true rfl, Nat.le_of_ble_eq_true rfl⟩, (by dsimp only; omega), (by dsimp only; omega)⟩ rfl (Nat.le_of_ble_eq_true rfl) hW dX3_mixedWithRatio_113) hS (fun q z w => absurd w (Nat.not_le.mpr z)) hn (fun r_27 H locs hR hz hk hS => ?_)
              have er_27 := hR
              have hW := hW.new hk
              have f0 := f0.kept (hk _ f0.lt (Nat.not_le.mpr f0.lt))
              have hB := hB.kept (hk _ hB.lt (Nat.not_le.mpr hB.lt))
              refine lv_iconst (pc := 116) (v := 3) hx hb dX3_mixedWithRatio_116 (by decide) ?_
              have hZ0_ := hS.1
              have t_hW := fun k (hk9 : k < 22) => (hW k hk9).lt
              have t_f0 := f0.lt
              have t_hB := hB.lt
              obtain ⟨Q_29, eQ_29⟩ : ∃ z9 : Nat × Nat, z9 = tx_wd r_27 3 (0, c9) := ⟨_, rfl⟩
              have e2Q_29 : (tx_wd r_27 3 (0, c9)).2 = Q_29.2 := by rw [eQ_29]
              have e1Q_29 : (tx_wd r_27 3 (0, c9)).1 = Q_29.1 := by rw [eQ_29]
              have hQ_29 := tx_wd_ok r_27 3 (q := (0, c9)) (by dsimp only; omega)
              rw [← eQ_29] at hQ_29; dsimp only [tx_ok] at hQ_29
              rw [← hx8, ← er_27, ← eQ_29] at hg8
              have hm8 := tx_mrL_m (tT g_19 i) (tB g_19 i) (5 - (k8 + 1)) (k8 + 1) Q_29
              rw [hg8] at hm8
              refine k_v (pc := 117) (k_S E hC hS hA hl.1 (c_X3_writeDecimal l D tk N0 sa H.size r_27 3 a9 v_26 0 c9 ml_26 (hA _ g_f0) (hA _ g_hB) (by omega) (by omega) 3 rfl (by decide) (by rw [er_27, hGG]; exact hdg _)) kw_542 kw_543 kw_1 kw_544 (n := 3) (by decide +kernel) rfl ⟨⟨rfl, rfl⟩, ⟨Nat.le_of_ble_eq_true rfl, Nat.le_of_ble_eq_true rfl⟩, (by dsimp only; omega), (by dsimp only; omega)⟩ rfl (Nat.le_of_ble_eq_true rfl) ⟨f0, hB⟩ dX3_mixedWithRatio_117) hS (inA2.to g_f0 g_hB) hn (fun H locs hR hz hk hS => ?_)
              have hW := hW.kept (fun k hk9 => hk _ (hW k hk9).lt (inA2.not (nW_f0 k hk9) (nW_hB k hk9) (hW k hk9).lt))
              obtain ⟨v_31, ml_31, hv_31, f0, hB⟩ := hR
              have g_hB := hv_31.elim (fun e9 => e9 ▸ g_hB) (fun z9 => hn _ (Nat.le_trans hZ0_ z9))
              have nW_hB : ∀ k, k < 22 → ad k ≠ v_31 := fun k hk9 => hv_31.elim (fun e9 => e9 ▸ nW_hB k hk9) (fun z9 => Nat.ne_of_lt (Nat.lt_of_lt_of_le (t_hW k hk9) z9))
              have hv_31 := hv_31.imp_right (fun z9 => Nat.le_trans hZ0_ z9)
              have hv_31 := hv_31.elim (fun e9 => e9 ▸ hv_26) Or.inr
              rw [← eQ_29] at f0 hB
              refine lv_lload (pc := 120) hx hb dX3_mixedWithRatio_120 (lv_at hl 4 rfl) ?_
              refine lv_aload (pc := 122) hx hb dX3_mixedWithRatio_122 (lv_at hl 3 rfl) ?_
              refine k_i (pc := 124) (k_V E hC hS hA hl.1 (c1.recv hC f0 rfl) rfl (c_J4_length_8abf5 l D tk N0 sa H.size a9 v_31 Q_29.2 ml_31 (nI Q_29.1)) kw_777 kw_337 kw_1820 kw_19 kw_338 (n := 0) (by decide +kernel) rfl ⟨⟨rfl, rfl⟩, ⟨Nat.le_of_ble_eq_true rfl, Nat.le_of_ble_eq_true rfl⟩, (by dsimp only; omega), (by dsimp only; omega)⟩ rfl (Nat.le_of_ble_eq_true rfl) ⟨f0, hB⟩ dX3_mixedWithRatio_124) hS (fun q z w => absurd w (Nat.not_le.mpr z)) hn (fun r_33 H locs hR hz hk hS => ?_)
              have hW := hW.new hk
              have f0 := f0.kept (hk _ f0.lt (Nat.not_le.mpr f0.lt))
              have hB := hB.kept (hk _ hB.lt (Nat.not_le.mpr hB.lt))
              rw [show r_33 = nI Q_29.1 from hR]
              refine lv_i2l (pc := 127) (v := (nI Q_29.1).toInt64) hx hb dX3_mixedWithRatio_127 rfl ?_
              refine k_l (pc := 128) (k_S E hC hS hA hl.1 (c_X3_mixed l D tk N0 sa H.size s8 ((nI Q_29.1).toInt64) ) kw_682 kw_683 kw_1 kw_684 (n := 2) (by decide +kernel) rfl ⟨⟨rfl, rfl⟩, ⟨Nat.le_of_ble_eq_true rfl, Nat.le_of_ble_eq_true rfl⟩, (by dsimp only; omega), (by dsimp only; omega)⟩ rfl (Nat.le_of_ble_eq_true rfl) trivial dX3_mixedWithRatio_128) hS (fun q z w => absurd w (Nat.not_le.mpr z)) hn (fun r_34 H locs hR hz hk hS => ?_)
              have er_34 := hR
              have hW := hW.new hk
              have f0 := f0.kept (hk _ f0.lt (Nat.not_le.mpr f0.lt))
              have hB := hB.kept (hk _ hB.lt (Nat.not_le.mpr hB.lt))
              refine lv_lstore (pc := 131) (lv' := [(5, .long r_34), (0, .ref (ad 15)), (1, .long s0_), (3, .ref (ad i)), (4, .ref a9), (7, .int w9)]) hx hb dX3_mixedWithRatio_131 hl (by decide) rfl (fun ls hl => ?_)
              obtain ⟨x_36, ex_36⟩ : ∃ z9 : Int32, z9 = w9 + 1 := ⟨_, rfl⟩
              refine lv_iinc (pc := 133) (v := x_36) (lv' := [(7, .int x_36), (5, .long r_34), (0, .ref (ad 15)), (1, .long s0_), (3, .ref (ad i)), (4, .ref a9)]) hx hb dX3_mixedWithRatio_133 hl (k := 5) rfl (by rw [ex_36]; rfl) (by decide) rfl (fun ls hl => ?_)
              refine lv_goto (pc := 136) (tgt := 95) hx hb dX3_mixedWithRatio_136 (by decide) ?_
              refine W.widen (k := Q_29.2 - c0) (n := 2 * (Q_29.2 - c0)) (by omega) (by omega) ?_
              exact ih_95  (k8 + 1) v_31 Q_29.1 Q_29.2 ml_31  r_34 x_36 (by omega) (by omega) (i_up hx8 ex_36) hv_31 (by omega) hg8 _ _ _ hS hW f0 hB (lv_sub hl [2, 3, 4, 5, 1, 0] rfl)
        refine W.widen (k := Q_15.2 - c0) (n := 2 * (Q_15.2 - c0)) (by omega) (by omega) ?_
        exact loop_95 6 0 v_17 Q_15.1 Q_15.2 ml_17  r_21 0 (by omega) (Nat.zero_le _) nI_0.symm hv_17 (by omega) (by rw [Nat.sub_zero]; exact hg7) _ _ _ hS hW f0 hB (lv_sub hl [2, 3, 4, 5, 1, 0] rfl)
      · have hlt9 : ¬ 3 < k := fun z => c_1 ((i_lt (k := 3) (by decide) hx9 (by decide) (by omega)).mpr z)
        refine lv_lload (pc := 12) hx hb dX3_mixedWithRatio_12 (lv_at hl 4 rfl) ?_
        refine lv_aload_n (pc := 14) hx hb dX3_mixedWithRatio_14 rfl (lv_at hl 2 rfl) ?_
        refine lv_iload (pc := 15) hx hb dX3_mixedWithRatio_15 (lv_at hl 5 rfl) ?_
        refine k_l (pc := 17) (k_S E hC hS hA hl.1 (c_X3_partOf l D tk N0 sa hAD H.size g i hi y9 ) kw_690 kw_691 kw_1 kw_692 (n := 2) (by decide +kernel) rfl ⟨⟨rfl, rfl⟩, ⟨Nat.le_of_ble_eq_true rfl, Nat.le_of_ble_eq_true rfl⟩, (by dsimp only; omega), (by dsimp only; omega)⟩ rfl (Nat.le_of_ble_eq_true rfl) hW dX3_mixedWithRatio_17) hS (fun q z w => absurd w (Nat.not_le.mpr z)) hn (fun r_37 H locs hR hz hk hS => ?_)
        have er_37 := hR
        have hW := hW.new hk
        have f0 := f0.kept (hk _ f0.lt (Nat.not_le.mpr f0.lt))
        have hB := hB.kept (hk _ hB.lt (Nat.not_le.mpr hB.lt))
        refine k_l (pc := 20) (k_S E hC hS hA hl.1 (c_X3_mixed l D tk N0 sa H.size s9 r_37 ) kw_682 kw_683 kw_1 kw_684 (n := 2) (by decide +kernel) rfl ⟨⟨rfl, rfl⟩, ⟨Nat.le_of_ble_eq_true rfl, Nat.le_of_ble_eq_true rfl⟩, (by dsimp only; omega), (by dsimp only; omega)⟩ rfl (Nat.le_of_ble_eq_true rfl) trivial dX3_mixedWithRatio_20) hS (fun q z w => absurd w (Nat.not_le.mpr z)) hn (fun r_39 H locs hR hz hk hS => ?_)
        have er_39 := hR
        have hW := hW.new hk
        have f0 := f0.kept (hk _ f0.lt (Nat.not_le.mpr f0.lt))
        have hB := hB.kept (hk _ hB.lt (Nat.not_le.mpr hB.lt))
        refine lv_lstore (pc := 23) (lv' := [(5, .long r_39), (0, .ref (ad 15)), (1, .long s0_), (3, .ref (ad i)), (4, .ref a9), (7, .int y9)]) hx hb dX3_mixedWithRatio_23 hl (by decide) rfl (fun ls hl => ?_)
        obtain ⟨x_41, ex_41⟩ : ∃ z9 : Int32, z9 = y9 + 1 := ⟨_, rfl⟩
        refine lv_iinc (pc := 25) (v := x_41) (lv' := [(7, .int x_41), (5, .long r_39), (0, .ref (ad 15)), (1, .long s0_), (3, .ref (ad i)), (4, .ref a9)]) hx hb dX3_mixedWithRatio_25 hl (k := 5) rfl (by rw [ex_41]; rfl) (by decide) rfl (fun ls hl => ?_)
        refine lv_goto (pc := 28) (tgt := 6) hx hb dX3_mixedWithRatio_28 (by decide) ?_
        exact ih_6  (k + 1)  r_39 x_41 (by have := hlt9; omega) (by omega) (i_up hx9 ex_41) _ _ _ hS hW f0 hB (lv_sub hl [2, 3, 4, 5, 1, 0] rfl)
  exact loop_6 5 0  s0_ 0 (by omega) (by omega) nI_0.symm _ _ _ hS hW f0 hB (lv_sub hl [2, 3, 4, 5, 1, 0] rfl)
set_option maxHeartbeats 4000000 in
set_option maxRecDepth 100000 in
/-- Bestratios.digest()J -/
theorem c_X3_digest (l : Launch) (D : va_G) (tk : Nat → ClassId) (N0 : Nat) (sa : Nat → Nat) {ad : Nat → Nat} (hAD : ADok N0 ad) (sz : Nat) (g : CS) (hdg : ∀ i, i < 6 → ∀ md, txD (f_cutNum (tT g i) (tB g i) 3 md) 3) (kp : Nat) (hpl : tI g 3 = nI kp) (hkp : kp ≤ 9) (hdr : txD (f_cutNum (tT g 10) (tB g 10) (tI g 3) 0) kp) : Met l yX3_digest (wsy yX3_digest cX3_digest 5 (some .long)) ({ frames := 9, cells := 2986, slots := 5988, locals := 209 } : Room) (cP D tk N0 sa [.ref (ad 15)] sz (fun H => CW D tk ad g H)) (kQl (fun r H => CW D tk ad (tx_dgW g) H) (cwA ad sz)) (2986) (5988) (cwA ad sz) := by
  refine mStart RX3 rfl (by decide +kernel) (Nat.le_of_ble_eq_true rfl) ?_
  intro p e s m args below meth c E hr hlk hnm hsz hC hF ls hl
  subst hsz
  obtain ⟨hx, hb, -⟩ := id E
  have hA : ∀ q, (cwA ad s.heap.size) q → N0 ≤ q := cwA.ge hAD hC.2.1
  have hn : ∀ q, s.heap.size ≤ q → (cwA ad s.heap.size) q := fun q h => Or.inr h
  have hS : va_S (cwA ad s.heap.size) s.heap s.heap [] := va_S.rf
  have hl : lv_has ls 5 [(0, .ref (ad 15))] := hl
  obtain ⟨Q, hQ⟩ : ∃ Q, Q = MQ below (kQl (fun r H => CW D tk ad (tx_dgW g) H) (cwA ad s.heap.size)) args s (2986) (5988) (cwA ad s.heap.size) := ⟨_, rfl⟩
  rw [← hQ]
  have hW : CW D tk ad g s.heap := hF
  have hS0_ := hS
  refine r_new (pc := 0) E hC hS tyJ4_ok uJ4 (List.mem_cons_of_mem _ kw_149) (List.mem_cons_of_mem _ kw_150) (List.mem_cons_of_mem _ kw_19) (ci := 1) rfl (fs := [.null, .int 0, .int 0, .int 0]) (by decide) (by dsimp only; omega) (by dsimp only; omega) dX3_digest_0 (fun qf1 H zq_ n_ ho_ hS => ?_)
  have nW_f1 : ∀ k, k < 22 → ad k ≠ qf1 := fun k hk9 => Nat.ne_of_lt (zq_ ▸ (hW k hk9).lt)
  have hW := hW.kept (fun k hk9 => ho_ _ (hW k hk9).lt)
  have f1 := n_
  have s_f1 : s.heap.size ≤ qf1 := zq_ ▸ hS0_.1
  have g_f1 := hn _ s_f1
  refine lv_dup (pc := 3) hx hb dX3_digest_3 rfl ?_
  have hZ0_ := hS.1
  have t_hW := fun k (hk9 : k < 22) => (hW k hk9).lt
  have t_f1 := f1.lt
  refine k_v (pc := 4) (k_I E hC hS hA hl.1 (c_J4_init_da8c8 l D tk N0 sa H.size qf1 (hA _ g_f1)) kw_151 kw_152 kw_19 kw_153 rfl (n := 0) (by decide +kernel) rfl ⟨⟨rfl, rfl⟩, ⟨Nat.le_of_ble_eq_true rfl, Nat.le_of_ble_eq_true rfl⟩, (by dsimp only; omega), (by dsimp only; omega)⟩ rfl (Nat.le_of_ble_eq_true rfl) f1 dX3_digest_4) hS (inA1.to g_f1) hn (fun H locs hR hz hk hS => ?_)
  have hW := hW.kept (fun k hk9 => hk _ (hW k hk9).lt (inA1.not (nW_f1 k hk9) (hW k hk9).lt))
  obtain ⟨q_hB, z9_, f1, hB⟩ := hR
  have s_hB : s.heap.size ≤ q_hB := Nat.le_trans hZ0_ z9_
  have g_hB := hn _ s_hB
  have nW_hB : ∀ k, k < 22 → ad k ≠ q_hB := fun k hk9 => Nat.ne_of_lt (Nat.lt_of_lt_of_le (t_hW k hk9) z9_)
  have l_f1_hB : qf1 < q_hB := Nat.lt_of_lt_of_le t_f1 z9_
  have nW_f1 := cwO hC hW f1.cl
  refine lv_astore_n (pc := 7) (lv' := [(1, .ref qf1), (0, .ref (ad 15))]) hx hb dX3_digest_7 rfl hl (by decide) rfl (fun ls hl => ?_)
  refine lv_ldc2 (pc := 8) (v := 7846) hx hb E.2.2.2.1 (E.2.2.2.2 _ (List.mem_cons_of_mem _ kw_673)) dX3_digest_8 ?_
  refine lv_lstore_n (pc := 11) (lv' := [(2, .long 7846), (1, .ref qf1), (0, .ref (ad 15))]) hx hb dX3_digest_11 rfl hl (by decide) rfl (fun ls hl => ?_)
  refine lv_iconst (pc := 12) (v := 0) hx hb dX3_digest_12 (by decide) ?_
  refine lv_istore (pc := 13) (lv' := [(4, .int 0), (2, .long 7846), (1, .ref qf1), (0, .ref (ad 15))]) hx hb dX3_digest_13 hl (by decide) rfl (fun ls hl => ?_)
  have loop_15 : ∀ (n : Nat) (k : Nat)(s9 : Int64) (y9 : Int32), 5 - k < n → k ≤ 5 → y9 = nI k → ∀ (H : Heap) (locs : List Loc) (ls : Array Slot), va_S (cwA ad s.heap.size) s.heap H locs → CW D tk ad g H → c1 D qf1 (.inr (1, [.ref q_hB, .int 0, .int 0, .int 0])) H → BA D tk q_hB 16 H → lv_has ls 5 [(0, .ref (ad 15)), (1, .ref qf1), (2, .long s9), (4, .int y9)] → W p l e ({ frames := 9, cells := 2986, slots := 5988, locals := 209 } : Room) s m args below meth c H locs (2) (20) Q (F0 m 15 ls []) := by
    intro n
    induction n with
    | zero =>
      intro k s9 y9 hf9 hk9 hx9 H locs ls hS hW f1 hB hl
      omega
    | succ n ih_15 =>
      intro k s9 y9 hf9 hk9 hx9 H locs ls hS hW f1 hB hl
      refine lv_iload (pc := 15) hx hb dX3_digest_15 (lv_at hl 3 rfl) ?_
      refine lv_iconst (pc := 17) (v := 4) hx hb dX3_digest_17 (by decide) ?_
      refine lv_icmp_gt (pc := 18) (tgt := 39) hx hb dX3_digest_18 (by decide) (fun c_3 => ?_) (fun c_3 => ?_)
      · refine lv_iconst (pc := 39) (v := 0) hx hb dX3_digest_39 (by decide) ?_
        refine lv_istore (pc := 40) (lv' := [(4, .int 0), (0, .ref (ad 15)), (1, .ref qf1), (2, .long s9)]) hx hb dX3_digest_40 hl (by decide) rfl (fun ls hl => ?_)
        have loop_42 : ∀ (n : Nat) (k8 : Nat) (v9 : Nat) (n9 : Nat) (c9 : Nat) (m9 : Int32)(g1 : CS) (s8 : Int64) (w9 : Int32), 6 - k8 < n → k8 ≤ 6 → w9 = nI k8 → s.heap.size ≤ v9 → n9 ≤ c9 ∧ 16 ≤ c9 ∧ c9 ≤ 3000 → tx_dgL (6 - k8) k8 g1 = tx_dgL 6 0 g → tx_sm g g1 → ∀ (H : Heap) (locs : List Loc) (ls : Array Slot), va_S (cwA ad s.heap.size) s.heap H locs → CW D tk ad g1 H → SBo D qf1 v9 m9 (nI n9) H → BA D tk v9 c9 H → lv_has ls 5 [(0, .ref (ad 15)), (1, .ref qf1), (2, .long s8), (4, .int w9)] → W p l e ({ frames := 9, cells := 2986, slots := 5988, locals := 209 } : Room) s m args below meth c H locs (2 + (c9 - 16)) (20 + 2 * (c9 - 16)) Q (F0 m 42 ls []) := by
          intro n
          induction n with
          | zero =>
            intro k8 v9 n9 c9 m9 g1 s8 w9 hf8 hk8 hx8 hv9 hb9 hg9 hs9 H locs ls hS hW f1 hB hl
            omega
          | succ n ih_42 =>
            intro k8 v9 n9 c9 m9 g1 s8 w9 hf8 hk8 hx8 hv9 hb9 hg9 hs9 H locs ls hS hW f1 hB hl
            have g_hB := hn _ hv9
            have nW_hB := cwB hC hW hB.cl
            refine lv_iload (pc := 42) hx hb dX3_digest_42 (lv_at hl 3 rfl) ?_
            refine lv_aload_n (pc := 44) hx hb dX3_digest_44 rfl (lv_at hl 0 rfl) ?_
            refine r_get (pc := 45) E hC hW.obj 0 (v := .ref (ad 16)) rfl rfl (by decide) uX3 (List.mem_cons_of_mem _ kw_114) (fun _ h => h) dX3_digest_45 ?_
            refine r_alen (pc := 48) E hC hW.row 2 rfl (v := 6) rfl dX3_digest_48 ?_
            refine lv_icmp_ge (pc := 49) (tgt := 72) hx hb dX3_digest_49 (by decide) (fun c_4 => ?_) (fun c_4 => ?_)
            · have e0 : 6 - k8 = 0 := by have := (i_le (n := 6) hx8 (by decide) (by omega) (by decide)).mp c_4; omega
              have hG9 : g1 = tx_dgL 6 0 g := by rw [← hg9, e0]; rfl
              have hpl1 : tI g1 3 = nI kp := by rw [hs9.2.2.2.1]; exact hpl
              have hdr1 : txD (f_cutNum (tT g1 10) (tB g1 10) (tI g1 3) 0) kp := by rw [hs9.1, hs9.2.1, hs9.2.2.2.1]; exact hdr
              refine lv_aload_n (pc := 72) hx hb dX3_digest_72 rfl (lv_at hl 0 rfl) ?_
              refine lv_lload_n (pc := 73) hx hb dX3_digest_73 rfl (lv_at hl 2 rfl) ?_
              refine k_l (pc := 74) (k_V E hC hS hA hl.1 (c1.recv hC hW.obj rfl) rfl (c_X3_mixedWithPairs l D tk N0 sa hAD H.size g1 s8 ) kw_778 kw_780 kp_13 kw_1 kw_781 (n := 1) (by decide +kernel) rfl ⟨⟨rfl, rfl⟩, ⟨Nat.le_of_ble_eq_true rfl, Nat.le_of_ble_eq_true rfl⟩, (by dsimp only; omega), (by dsimp only; omega)⟩ rfl (Nat.le_of_ble_eq_true rfl) hW dX3_digest_74) hS (fun q z w => absurd w (Nat.not_le.mpr z)) hn (fun r_5 H locs hR hz hk hS => ?_)
              have er_5 := hR
              have hW := hW.new hk
              have f1 := f1.kept (hk _ f1.lt (Nat.not_le.mpr f1.lt))
              have hB := hB.kept (hk _ hB.lt (Nat.not_le.mpr hB.lt))
              refine lv_lstore_n (pc := 77) (lv' := [(2, .long r_5), (0, .ref (ad 15)), (1, .ref qf1), (4, .int w9)]) hx hb dX3_digest_77 rfl hl (by decide) rfl (fun ls hl => ?_)
              refine lv_iconst (pc := 78) (v := 0) hx hb dX3_digest_78 (by decide) ?_
              refine lv_istore (pc := 79) (lv' := [(4, .int 0), (2, .long r_5), (0, .ref (ad 15)), (1, .ref qf1)]) hx hb dX3_digest_79 hl (by decide) rfl (fun ls hl => ?_)
              have loop_81 : ∀ (n : Nat) (k7 : Nat)(s7 : Int64) (u9 : Int32), (tC g1 0).toNatClampNeg - k7 < n → k7 ≤ (tC g1 0).toNatClampNeg → u9 = nI k7 → ∀ (H : Heap) (locs : List Loc) (ls : Array Slot), va_S (cwA ad s.heap.size) s.heap H locs → CW D tk ad g1 H → SBo D qf1 v9 m9 (nI n9) H → BA D tk v9 c9 H → lv_has ls 5 [(0, .ref (ad 15)), (1, .ref qf1), (2, .long s7), (4, .int u9)] → W p l e ({ frames := 9, cells := 2986, slots := 5988, locals := 209 } : Room) s m args below meth c H locs (2 + (c9 - 16)) (20 + 2 * (c9 - 16)) Q (F0 m 81 ls []) := by
                intro n
                induction n with
                | zero =>
                  intro k7 s7 u9 hf7 hk7 hx7 H locs ls hS hW f1 hB hl
                  omega
                | succ n ih_81 =>
                  intro k7 s7 u9 hf7 hk7 hx7 H locs ls hS hW f1 hB hl
                  refine lv_iload (pc := 81) hx hb dX3_digest_81 (lv_at hl 3 rfl) ?_
                  refine lv_aload_n (pc := 83) hx hb dX3_digest_83 rfl (lv_at hl 0 rfl) ?_
                  refine r_get (pc := 84) E hC hW.obj 1 (v := .ref (ad 17)) rfl rfl (by decide) uX3 (List.mem_cons_of_mem _ kw_115) (fun _ h => h) dX3_digest_84 ?_
                  refine r_getN (pc := 87) "Bestratios" E hC (hW.tm (j := 0) (by decide)) 1 (v := .int (tC g1 0)) rfl rfl (by decide) uX2 kn_69 (fun _ h => h) dX3_digest_87 ?_
                  refine lv_icmp_ge (pc := 90) (tgt := 113) hx hb dX3_digest_90 (by decide) (fun c_7 => ?_) (fun c_7 => ?_)
                  · refine lv_aload_n (pc := 113) hx hb dX3_digest_113 rfl (lv_at hl 0 rfl) ?_
                    refine lv_lload_n (pc := 114) hx hb dX3_digest_114 rfl (lv_at hl 2 rfl) ?_
                    refine lv_aload_n (pc := 115) hx hb dX3_digest_115 rfl (lv_at hl 1 rfl) ?_
                    have hZ0_ := hS.1
                    have t_hW := fun k (hk9 : k < 22) => (hW k hk9).lt
                    have t_f1 := f1.lt
                    have t_hB := hB.lt
                    obtain ⟨Q_8, eQ_8⟩ : ∃ z9 : Nat × Nat, z9 = tx_mt g1 kp (n9, c9) := ⟨_, rfl⟩
                    have e2Q_8 : (tx_mt g1 kp (n9, c9)).2 = Q_8.2 := by rw [eQ_8]
                    have e1Q_8 : (tx_mt g1 kp (n9, c9)).1 = Q_8.1 := by rw [eQ_8]
                    have hQ_8 := tx_mt_ok g1 kp (n9, c9) (by assumption)
                    rw [← eQ_8] at hQ_8; dsimp only [tx_ok] at hQ_8
                    refine k_l (pc := 116) (k_V E hC hS hA hl.1 (c1.recv hC hW.obj rfl) rfl (c_X3_mixedWithTally l D tk N0 sa hAD H.size g1 s7 qf1 v9 n9 c9 m9 (hA _ g_f1) (hA _ g_hB) (by omega) (by omega) kp hpl1 hkp hdr1) kw_782 kw_784 kp_14 kw_1 kw_785 (n := 2) (by decide +kernel) rfl ⟨⟨rfl, rfl⟩, ⟨Nat.le_of_ble_eq_true rfl, Nat.le_of_ble_eq_true rfl⟩, (by dsimp only; omega), (by dsimp only; omega)⟩ rfl (Nat.le_of_ble_eq_true rfl) ⟨hW, f1, hB⟩ dX3_digest_116) hS (inA2.to g_f1 g_hB) hn (fun r_9 H locs hR hz hk hS => ?_)
                    have hW := hW.kept (fun k hk9 => hk _ (hW k hk9).lt (inA2.not (nW_f1 k hk9) (nW_hB k hk9) (hW k hk9).lt))
                    obtain ⟨v_10, ml_10, hv_10, f1, hB⟩ := hR
                    have g_hB := hv_10.elim (fun e9 => e9 ▸ g_hB) (fun z9 => hn _ (Nat.le_trans hZ0_ z9))
                    have nW_hB : ∀ k, k < 22 → ad k ≠ v_10 := fun k hk9 => hv_10.elim (fun e9 => e9 ▸ nW_hB k hk9) (fun z9 => Nat.ne_of_lt (Nat.lt_of_lt_of_le (t_hW k hk9) z9))
                    have hv_10 := hv_10.imp_right (fun z9 => Nat.le_trans hZ0_ z9)
                    rw [← eQ_8] at f1 hB
                    refine lv_lstore_n (pc := 119) (lv' := [(2, .long r_9), (0, .ref (ad 15)), (1, .ref qf1), (4, .int u9)]) hx hb dX3_digest_119 rfl hl (by decide) rfl (fun ls hl => ?_)
                    refine lv_lload_n (pc := 120) hx hb dX3_digest_120 rfl (lv_at hl 0 rfl) ?_
                    refine lv_aload_n (pc := 121) hx hb dX3_digest_121 rfl (lv_at hl 1 rfl) ?_
                    refine k_i (pc := 122) (k_V E hC hS hA hl.1 (c1.recv hC hW.obj rfl) rfl (c_X3_isSound l D tk N0 sa hAD H.size g1  ) kw_786 kw_556 kw_557 kw_1 kw_558 (n := 0) (by decide +kernel) rfl ⟨⟨rfl, rfl⟩, ⟨Nat.le_of_ble_eq_true rfl, Nat.le_of_ble_eq_true rfl⟩, (by dsimp only; omega), (by dsimp only; omega)⟩ rfl (Nat.le_of_ble_eq_true rfl) hW dX3_digest_122) hS (fun q _ w => cwA.go hS.1 q w) hn (fun r_12 H locs hR hz hk hS => ?_)
                    obtain ⟨er_12, hW⟩ := hR
                    have f1 := f1.kept (hk _ f1.lt (cwN nW_f1 f1.lt))
                    have hB := hB.kept (hk _ hB.lt (cwN nW_hB hB.lt))
                    obtain ⟨g_14, eg_14⟩ : ∃ z, z = (f_isS g1).2 := ⟨_, rfl⟩
                    rw [← eg_14] at hW
                    refine lv_if_eq (pc := 125) (tgt := 132) hx hb dX3_digest_125 (by decide) (fun c_15 => ?_) (fun c_15 => ?_)
                    · refine lv_lconst (pc := 132) (v := 0) hx hb dX3_digest_132 (by decide) ?_
                      refine k_l (pc := 133) (k_S E hC hS hA hl.1 (c_X3_mixed l D tk N0 sa H.size r_9 0 ) kw_682 kw_683 kw_1 kw_684 (n := 2) (by decide +kernel) rfl ⟨⟨rfl, rfl⟩, ⟨Nat.le_of_ble_eq_true rfl, Nat.le_of_ble_eq_true rfl⟩, (by dsimp only; omega), (by dsimp only; omega)⟩ rfl (Nat.le_of_ble_eq_true rfl) trivial dX3_digest_133) hS (fun q z w => absurd w (Nat.not_le.mpr z)) hn (fun r_16 H locs hR hz hk hS => ?_)
                      have er_16 := hR
                      have hW := hW.new hk
                      have f1 := f1.kept (hk _ f1.lt (Nat.not_le.mpr f1.lt))
                      have hB := hB.kept (hk _ hB.lt (Nat.not_le.mpr hB.lt))
                      try rw [hQ]
                      refine r_lret (pc := 136) E hr hlk hS (by omega) (by omega) ?_ dX3_digest_136
                      exact hW.to (by rw [eg_14, hG9]; rfl)
                    · refine lv_lconst (pc := 128) (v := 1) hx hb dX3_digest_128 (by decide) ?_
                      refine lv_goto (pc := 129) (tgt := 133) hx hb dX3_digest_129 (by decide) ?_
                      refine k_l (pc := 133) (k_S E hC hS hA hl.1 (c_X3_mixed l D tk N0 sa H.size r_9 1 ) kw_682 kw_683 kw_1 kw_684 (n := 2) (by decide +kernel) rfl ⟨⟨rfl, rfl⟩, ⟨Nat.le_of_ble_eq_true rfl, Nat.le_of_ble_eq_true rfl⟩, (by dsimp only; omega), (by dsimp only; omega)⟩ rfl (Nat.le_of_ble_eq_true rfl) trivial dX3_digest_133) hS (fun q z w => absurd w (Nat.not_le.mpr z)) hn (fun r_18 H locs hR hz hk hS => ?_)
                      have er_18 := hR
                      have hW := hW.new hk
                      have f1 := f1.kept (hk _ f1.lt (Nat.not_le.mpr f1.lt))
                      have hB := hB.kept (hk _ hB.lt (Nat.not_le.mpr hB.lt))
                      try rw [hQ]
                      refine r_lret (pc := 136) E hr hlk hS (by omega) (by omega) ?_ dX3_digest_136
                      exact hW.to (by rw [eg_14, hG9]; rfl)
                  · have hlt7 := (i_mlt hx7 hk7).mp c_7
                    refine lv_lload_n (pc := 93) hx hb dX3_digest_93 rfl (lv_at hl 2 rfl) ?_
                    refine lv_aload_n (pc := 94) hx hb dX3_digest_94 rfl (lv_at hl 0 rfl) ?_
                    refine r_get (pc := 95) E hC hW.obj 1 (v := .ref (ad 17)) rfl rfl (by decide) uX3 (List.mem_cons_of_mem _ kw_115) (fun _ h => h) dX3_digest_95 ?_
                    refine lv_iload (pc := 98) hx hb dX3_digest_98 (lv_at hl 3 rfl) ?_
                    refine k_l (pc := 100) (k_V E hC hS hA hl.1 (c1.recv hC (hW.tm (j := 0) (by decide)) rfl) rfl (c_X2_at l D tk N0 sa hAD H.size g1 0 (by decide) u9 ) kw_277 kw_278 kw_279 kw_3 kw_280 (n := 1) (by decide +kernel) rfl ⟨⟨rfl, rfl⟩, ⟨Nat.le_of_ble_eq_true rfl, Nat.le_of_ble_eq_true rfl⟩, (by dsimp only; omega), (by dsimp only; omega)⟩ rfl (Nat.le_of_ble_eq_true rfl) hW dX3_digest_100) hS (fun q z w => absurd w (Nat.not_le.mpr z)) hn (fun r_20 H locs hR hz hk hS => ?_)
                    have er_20 := hR
                    have hW := hW.new hk
                    have f1 := f1.kept (hk _ f1.lt (Nat.not_le.mpr f1.lt))
                    have hB := hB.kept (hk _ hB.lt (Nat.not_le.mpr hB.lt))
                    refine k_l (pc := 103) (k_S E hC hS hA hl.1 (c_X3_mixed l D tk N0 sa H.size s7 r_20 ) kw_682 kw_683 kw_1 kw_684 (n := 2) (by decide +kernel) rfl ⟨⟨rfl, rfl⟩, ⟨Nat.le_of_ble_eq_true rfl, Nat.le_of_ble_eq_true rfl⟩, (by dsimp only; omega), (by dsimp only; omega)⟩ rfl (Nat.le_of_ble_eq_true rfl) trivial dX3_digest_103) hS (fun q z w => absurd w (Nat.not_le.mpr z)) hn (fun r_22 H locs hR hz hk hS => ?_)
                    have er_22 := hR
                    have hW := hW.new hk
                    have f1 := f1.kept (hk _ f1.lt (Nat.not_le.mpr f1.lt))
                    have hB := hB.kept (hk _ hB.lt (Nat.not_le.mpr hB.lt))
                    refine lv_lstore_n (pc := 106) (lv' := [(2, .long r_22), (0, .ref (ad 15)), (1, .ref qf1), (4, .int u9)]) hx hb dX3_digest_106 rfl hl (by decide) rfl (fun ls hl => ?_)
                    obtain ⟨x_24, ex_24⟩ : ∃ z9 : Int32, z9 = u9 + 1 := ⟨_, rfl⟩
                    refine lv_iinc (pc := 107) (v := x_24) (lv' := [(4, .int x_24), (2, .long r_22), (0, .ref (ad 15)), (1, .ref qf1)]) hx hb dX3_digest_107 hl (k := 3) rfl (by rw [ex_24]; rfl) (by decide) rfl (fun ls hl => ?_)
                    refine lv_goto (pc := 110) (tgt := 81) hx hb dX3_digest_110 (by decide) ?_
                    refine W.widen (k := 2 + (c9 - 16)) (n := 20 + 2 * (c9 - 16)) (by omega) (by omega) ?_
                    exact ih_81  (k7 + 1)  r_22 x_24 (by omega) (by omega) (i_up hx7 ex_24) _ _ _ hS hW f1 hB (lv_sub hl [2, 3, 1, 0] rfl)
              refine W.widen (k := 2 + (c9 - 16)) (n := 20 + 2 * (c9 - 16)) (by omega) (by omega) ?_
              exact loop_81 ((tC g1 0).toNatClampNeg + 1) 0  r_5 0 (by omega) (Nat.zero_le _) nI_0.symm _ _ _ hS hW f1 hB (lv_sub hl [2, 3, 1, 0] rfl)
            · have hlt8 : k8 < 6 := Nat.not_le.mp (fun z => c_4 ((i_le (n := 6) hx8 (by decide) (by omega) (by decide)).mpr z))
              have e200 : 6 - k8 = (6 - (k8 + 1)) + 1 := by omega
              rw [e200] at hg9
              have hg8 : tx_dgL (6 - (k8 + 1)) (k8 + 1) (tx_mrW g1 k8) = tx_dgL 6 0 g := hg9
              have hs8 := hs9.tr (tx_smR g1 k8)
              refine lv_aload_n (pc := 52) hx hb dX3_digest_52 rfl (lv_at hl 0 rfl) ?_
              refine lv_lload_n (pc := 53) hx hb dX3_digest_53 rfl (lv_at hl 2 rfl) ?_
              refine lv_aload_n (pc := 54) hx hb dX3_digest_54 rfl (lv_at hl 0 rfl) ?_
              refine r_get (pc := 55) E hC hW.obj 0 (v := .ref (ad 16)) rfl rfl (by decide) uX3 (List.mem_cons_of_mem _ kw_114) (fun _ h => h) dX3_digest_55 ?_
              refine lv_iload (pc := 58) hx hb dX3_digest_58 (lv_at hl 3 rfl) ?_
              refine r_aald (pc := 60) E hC hW.row (i_in hx8 hlt8 (by decide)) dX3_digest_60 ?_
              rw [show (w9).toNatClampNeg = k8 from (i_cl hx8 (by omega))]
              refine lv_aload_n (pc := 61) hx hb dX3_digest_61 rfl (lv_at hl 1 rfl) ?_
              have hZ0_ := hS.1
              have t_hW := fun k (hk9 : k < 22) => (hW k hk9).lt
              have t_f1 := f1.lt
              have t_hB := hB.lt
              obtain ⟨Q_25, eQ_25⟩ : ∃ z9 : Nat × Nat, z9 = tx_mr g1 k8 (n9, c9) := ⟨_, rfl⟩
              have e2Q_25 : (tx_mr g1 k8 (n9, c9)).2 = Q_25.2 := by rw [eQ_25]
              have e1Q_25 : (tx_mr g1 k8 (n9, c9)).1 = Q_25.1 := by rw [eQ_25]
              have hQ_25 := tx_mr_ok g1 k8 (n9, c9)
              rw [← eQ_25] at hQ_25; dsimp only [tx_ok] at hQ_25
              refine k_l (pc := 62) (k_V E hC hS hA hl.1 (c1.recv hC hW.obj rfl) rfl (c_X3_mixedWithRatio l D tk N0 sa hAD H.size g1 s8 k8 (by omega) qf1 v9 n9 c9 m9 (hA _ g_f1) (hA _ g_hB) (by omega) (by omega) (fun md => by rw [(hs8.1 : tT (tx_mrW g1 k8) = tT g), (hs8.2.1 : tB (tx_mrW g1 k8) = tB g)]; exact hdg k8 hlt8 md)) kw_686 kw_688 kp_10 kw_1 kw_689 (n := 3) (by decide +kernel) rfl ⟨⟨rfl, rfl⟩, ⟨Nat.le_of_ble_eq_true rfl, Nat.le_of_ble_eq_true rfl⟩, (by dsimp only; omega), (by dsimp only; omega)⟩ rfl (Nat.le_of_ble_eq_true rfl) ⟨hW, f1, hB⟩ dX3_digest_62) hS (inC2.to (fun q w => cwA.go hS.1 q w) g_f1 g_hB) hn (fun r_26 H locs hR hz hk hS => ?_)
              obtain ⟨⟨v_27, ml_27, hv_27, f1, hB⟩, hW⟩ := hR
              have g_hB := hv_27.elim (fun e9 => e9 ▸ g_hB) (fun z9 => hn _ (Nat.le_trans hZ0_ z9))
              have hv_27 := hv_27.imp_right (fun z9 => Nat.le_trans hZ0_ z9)
              rw [← eQ_25] at f1 hB
              obtain ⟨g_29, eg_29⟩ : ∃ z, z = tx_mrW g1 k8 := ⟨_, rfl⟩
              rw [← eg_29] at hW
              have nW_hB := cwB hC hW hB.cl
              refine lv_lstore_n (pc := 65) (lv' := [(2, .long r_26), (0, .ref (ad 15)), (1, .ref qf1), (4, .int w9)]) hx hb dX3_digest_65 rfl hl (by decide) rfl (fun ls hl => ?_)
              obtain ⟨x_30, ex_30⟩ : ∃ z9 : Int32, z9 = w9 + 1 := ⟨_, rfl⟩
              refine lv_iinc (pc := 66) (v := x_30) (lv' := [(4, .int x_30), (2, .long r_26), (0, .ref (ad 15)), (1, .ref qf1)]) hx hb dX3_digest_66 hl (k := 3) rfl (by rw [ex_30]; rfl) (by decide) rfl (fun ls hl => ?_)
              refine lv_goto (pc := 69) (tgt := 42) hx hb dX3_digest_69 (by decide) ?_
              refine W.widen (k := 2 + (Q_25.2 - 16)) (n := 20 + 2 * (Q_25.2 - 16)) (by omega) (by omega) ?_
              exact ih_42  (k8 + 1) v_27 Q_25.1 Q_25.2 ml_27 g_29  r_26 x_30 (by omega) (by omega) (i_up hx8 ex_30) (hv_27.elim (fun e9 => e9 ▸ hv9) id) (by omega) (by rw [eg_29]; exact hg8) (by rw [eg_29]; exact hs8) _ _ _ hS hW f1 hB (lv_sub hl [2, 3, 1, 0] rfl)
        refine W.widen (k := 2 + (16 - 16)) (n := 20 + 2 * (16 - 16)) (by omega) (by omega) ?_
        exact loop_42 7 0 q_hB 0 16 0 g  s9 0 (by omega) (by omega) nI_0.symm s_hB (by omega) (by rw [Nat.sub_zero]) (tx_sm.rf g) _ _ _ hS hW f1 hB (lv_sub hl [1, 2, 3, 0] rfl)
      · have hlt9 : ¬ 4 < k := fun z => c_3 ((i_lt (k := 4) (by decide) hx9 (by decide) (by omega)).mpr z)
        refine lv_lload_n (pc := 21) hx hb dX3_digest_21 rfl (lv_at hl 2 rfl) ?_
        refine lv_aload_n (pc := 22) hx hb dX3_digest_22 rfl (lv_at hl 0 rfl) ?_
        refine lv_iload (pc := 23) hx hb dX3_digest_23 (lv_at hl 3 rfl) ?_
        refine k_i (pc := 25) (k_V E hC hS hA hl.1 (c1.recv hC hW.obj rfl) rfl (c_X3_countOf l D tk N0 sa hAD H.size g y9 ) kw_674 kw_676 kp_8 kw_1 kw_677 (n := 1) (by decide +kernel) rfl ⟨⟨rfl, rfl⟩, ⟨Nat.le_of_ble_eq_true rfl, Nat.le_of_ble_eq_true rfl⟩, (by dsimp only; omega), (by dsimp only; omega)⟩ rfl (Nat.le_of_ble_eq_true rfl) hW dX3_digest_25) hS (fun q z w => absurd w (Nat.not_le.mpr z)) hn (fun r_31 H locs hR hz hk hS => ?_)
        have er_31 := hR
        have hW := hW.new hk
        have f1 := f1.kept (hk _ f1.lt (Nat.not_le.mpr f1.lt))
        have hB := hB.kept (hk _ hB.lt (Nat.not_le.mpr hB.lt))
        refine lv_i2l (pc := 28) (v := r_31.toInt64) hx hb dX3_digest_28 rfl ?_
        refine k_l (pc := 29) (k_S E hC hS hA hl.1 (c_X3_mixed l D tk N0 sa H.size s9 r_31.toInt64 ) kw_682 kw_683 kw_1 kw_684 (n := 2) (by decide +kernel) rfl ⟨⟨rfl, rfl⟩, ⟨Nat.le_of_ble_eq_true rfl, Nat.le_of_ble_eq_true rfl⟩, (by dsimp only; omega), (by dsimp only; omega)⟩ rfl (Nat.le_of_ble_eq_true rfl) trivial dX3_digest_29) hS (fun q z w => absurd w (Nat.not_le.mpr z)) hn (fun r_33 H locs hR hz hk hS => ?_)
        have er_33 := hR
        have hW := hW.new hk
        have f1 := f1.kept (hk _ f1.lt (Nat.not_le.mpr f1.lt))
        have hB := hB.kept (hk _ hB.lt (Nat.not_le.mpr hB.lt))
        refine lv_lstore_n (pc := 32) (lv' := [(2, .long r_33), (0, .ref (ad 15)), (1, .ref qf1), (4, .int y9)]) hx hb dX3_digest_32 rfl hl (by decide) rfl (fun ls hl => ?_)
        obtain ⟨x_35, ex_35⟩ : ∃ z9 : Int32, z9 = y9 + 1 := ⟨_, rfl⟩
        refine lv_iinc (pc := 33) (v := x_35) (lv' := [(4, .int x_35), (2, .long r_33), (0, .ref (ad 15)), (1, .ref qf1)]) hx hb dX3_digest_33 hl (k := 3) rfl (by rw [ex_35]; rfl) (by decide) rfl (fun ls hl => ?_)
        refine lv_goto (pc := 36) (tgt := 15) hx hb dX3_digest_36 (by decide) ?_
        refine W.widen (k := 2) (n := 20) (by omega) (by omega) ?_
        exact ih_15  (k + 1)  r_33 x_35 (by omega) (by omega) (i_up hx9 ex_35) _ _ _ hS hW f1 hB (lv_sub hl [2, 3, 1, 0] rfl)
  refine W.widen (k := 2) (n := 20) (by omega) (by omega) ?_
  exact loop_15 6 0  7846 0 (by omega) (by omega) nI_0.symm _ _ _ hS hW f1 hB (lv_sub hl [3, 2, 1, 0] rfl)
/-! ===== the reference: its numbers ===== -/
def m_isIn (v lo hi_ : Int32) : Int32 := if v < lo then 0 else if hi_ < v then 0 else 1
def m_bit (b : Int32) : Int32 := if b = 0 then 0 else 1
def m_isNo (v : Int32) : Int32 := if m_isIn v 0 5 = 0 then 1 else 0
def m_areNo (a b : Int32) : Int32 := if m_isNo a = 0 then (if m_isNo b = 0 then 0 else 1) else 1
def m_powL : Nat → Int64 → Int64
  | 0, u => u
  | n + 1, u => m_powL n (u * 10)
def m_pow (x : Int32) : Int64 := m_powL x.toNatClampNeg 1
def m_floor (a b : Int64) : Int64 := if a - a / b * b = 0 then a / b else if 0 ≤ a - a / b * b then (if 0 ≤ b then a / b else a / b - 1) else (if 0 ≤ b then a / b - 1 else a / b)
def m_div (a b : Int64) : Int64 := gcdL ((f_absJ b).toInt.natAbs + 1) (f_absJ a) (f_absJ b)
theorem m_rem {u v : Int64} (hv : ¬ v = 0) : (u - u / v * v).toInt = u.toInt.tmod v.toInt := by
  have hv0 : v.toInt ≠ 0 := fun z => hv (Int64.toInt_inj.mp (by rw [z]; rfl))
  have h1 : (u.toInt.tmod v.toInt).natAbs < v.toInt.natAbs := by
    rw [Int.natAbs_tmod]
    exact Nat.mod_lt _ (by omega)
  have h2 := v.le_toInt
  have h3 := v.toInt_lt
  have hd : u.toInt - u.toInt.tdiv v.toInt * v.toInt = u.toInt.tmod v.toInt := by
    have := Int.mul_tdiv_add_tmod u.toInt v.toInt
    rw [Int.mul_comm] at this
    omega
  have e : (u - u / v * v).toInt = (u.toInt - u.toInt.tdiv v.toInt * v.toInt).bmod (2 ^ 64) := by
    rw [Int64.toInt_sub, Int64.toInt_mul, Int64.toInt_div]
    simp
  rw [e, hd]
  simp only [Int.bmod]
  split <;> omega
theorem m_rem_lt {u v : Int64} (hv : ¬ v = 0) : (u - u / v * v).toInt.natAbs < v.toInt.natAbs := by
  have hv0 : v.toInt ≠ 0 := fun z => hv (Int64.toInt_inj.mp (by rw [z]; rfl))
  rw [m_rem hv, Int.natAbs_tmod]
  exact Nat.mod_lt _ (by omega)
/-! ===== its ratios: two numbers, never written again ===== -/
def pr2 (t b : Int64) : Nat → Int64 := vp_updL (vp_updL (fun _ => 0) 0 t) 1 b
abbrev L2 (D : va_G) (tk : Nat → ClassId) (a : Nat) (t b : Int64) (H : Heap) : Prop := c1 D a (.inl (tk 0, 2, .inr (.inl (pr2 t b)))) H
theorem L2.to {D : va_G} {tk : Nat → ClassId} {a : Nat} {t b t1 b1 : Int64} {H : Heap} (h : L2 D tk a t b H) (e1 : t = t1) (e2 : b = b1) : L2 D tk a t1 b1 H := by
  subst e1 e2; exact h
def nv : Option Nat → Value
  | none => .null
  | some a => .ref a
def kQo (Rr : Option Nat → Heap → Prop) (A : Nat → Prop) : Array Value → State → Outcome → State → Prop := fun _ st oc t => (∃ v : Option Nat, oc = .returned (some (nv v)) ∧ Rr v t.heap) ∧ va_F A st t
section LR12
variable {p : Program} {l : Launch} {e : Env} {R : Room} {s : State} {m : MethodId} {args : Array Value} {below : List Frame} {meth : Method} {c : Code} {H : Heap} {locs : List Loc} {cells slots : Nat} {Q : State → Prop}
variable {cc : ByteArray} {pc nL : Nat} {ls : Array Slot} {rest st0 : List Value} {Ts : List Cond} {own : String} {D : va_G} {tk : Nat → ClassId} {N0 : Nat} {sa : Nat → Nat} {A0 A1 : Nat → Prop} {mc ms : Nat} {a : Array Value}
theorem r_l0 (E : CallFix p m c cc nL s args Ts own) (hC : Ctx D tk N0 sa s) {q : Nat} {t b : Int64} (h : L2 D tk q t b H) (hdg : decode cc pc = .ok (.laload, 1))
    (kk : W p l e R s m args below meth c H locs cells slots Q (F0 m (pc + 1) ls (.long t :: rest))) : W p l e R s m args below meth c H locs cells slots Q (F0 m pc ls (.int 0 :: .ref q :: rest)) :=
  r_lald E hC h (by unfold vp_in; decide) hdg kk
theorem r_l1 (E : CallFix p m c cc nL s args Ts own) (hC : Ctx D tk N0 sa s) {q : Nat} {t b : Int64} (h : L2 D tk q t b H) (hdg : decode cc pc = .ok (.laload, 1))
    (kk : W p l e R s m args below meth c H locs cells slots Q (F0 m (pc + 1) ls (.long b :: rest))) : W p l e R s m args below meth c H locs cells slots Q (F0 m pc ls (.int 1 :: .ref q :: rest)) :=
  r_lald E hC h (by unfold vp_in; decide) hdg kk
theorem r_oret (E : CallFix p m c cc nL s args Ts own) {rt : FieldType} (hr : meth.sig.returnType = some rt) (hrt : (∃ n, rt = .object n) ∨ ∃ t, rt = .array t) (hlk : meth.locks = false) (hS : va_S A0 s.heap H locs) {mc ms : Nat} (hc : cells ≤ mc) (hs : slots ≤ ms) (v : Option Nat) {Rr : Option Nat → Heap → Prop} (hR : Rr v H) (hdg : decode cc pc = .ok (.areturn, 1)) : W p l e R s m args below meth c H locs cells slots (MQ below (kQo Rr A0) args s mc ms A0) (F0 m pc ls [nv v]) :=
  W.widen hc hs (W.aret E.1 E.2.1 hr hrt (by cases v with | none => exact Or.inl rfl | some q => exact Or.inr ⟨q, rfl⟩) (fun t ht _ => ⟨⟨v, rfl, by rw [ht]; exact hR⟩, hS.F ht⟩) hS.2.2 hdg hlk)
theorem k_o {Rr : Option Nat → Heap → Prop} (hr : va_Run p l e R s m args below meth c H locs cells slots mc ms (F0 m pc ls st0) rest (kQo Rr A1 a) A1) (hS : va_S A0 s.heap H locs) (hAA : ∀ q, q < H.size → A1 q → A0 q) (hnew : ∀ q, s.heap.size ≤ q → A0 q)
    (kk : ∀ (r : Option Nat) (H1 : Heap) (locs1 : List Loc), Rr r H1 → H.size ≤ H1.size → (∀ q : Nat, q < H.size → ¬ A1 q → H1[q]? = H[q]?) → va_S A0 s.heap H1 locs1 → W p l e R s m args below meth c H1 locs1 (cells + mc) (slots + ms) Q (F0 m (pc + 3) ls (nv r :: rest))) : W p l e R s m args below meth c H locs cells slots Q (F0 m pc ls st0) := by
  have hf : ∀ q, A1 q → A0 q := fun q h => by
    rcases Nat.lt_or_ge q H.size with z | z
    · exact hAA q z h
    · exact hnew q (Nat.le_trans hS.1 z)
  intro T hT X
  obtain ⟨v, st₀, t, T', L, h0, X', hL, e1, e2, ⟨⟨u, hv, hp⟩, hz, hk⟩, st⟩ := hr T hT X
  cases hv
  rw [h0] at hz hk
  obtain ⟨t2, a1, b1⟩ := kk u T'.heap (locs ++ L) (by rw [e1]; exact hp) (by rw [e1]; exact hz) (fun q h1 h2 => by rw [e1]; exact hk q h1 h2)
    ⟨Nat.le_trans hS.1 (by rw [e1]; exact hz), fun q h1 h2 => by rw [e1, hk q (Nat.lt_of_lt_of_le h1 hS.1) (fun z => h2 (hAA q (Nat.lt_of_lt_of_le h1 hS.1) z))]; exact hS.2.1 q h1 h2, fun q hq => by
      rcases List.mem_append.mp hq with h | h
      · exact hS.2.2 q h
      · exact hf _ (hL q h)⟩ T' rfl X'
  exact ⟨t2, st t2 a1, b1⟩
end LR12
/-- lowest terms -/
def m_sg (b : Int64) : Int64 := if 0 ≤ b then 1 else -1
def m_loT (t b : Int64) : Int64 := m_sg b * (t / m_div t b)
def m_loB (t b : Int64) : Int64 := m_sg b * (b / m_div t b)
def m_fit (t b : Int64) : Int32 := if t < -1000000000 then 0 else if 1000000000 < t then 0 else if 1000000000 < b then 0 else 1
def m_ord (t b t2 b2 : Int64) : Int32 := if t * b2 < t2 * b then -1 else if t2 * b < t * b2 then 1 else 0
def m_cut3 (t b low left : Int64) (md : Int32) : Int64 := if left = 0 then low else if md = 1 then low else if md = 2 then low + 1 else if md = 0 then (if 0 ≤ t then low else low + 1) else if 2 * left = b then (if md = 3 then (if 0 ≤ t then low + 1 else low) else if low - low / 2 * 2 = 0 then low else low + 1) else if b ≤ 2 * left then low + 1 else low
def m_cut (t b : Int64) (pl md : Int32) : Int64 := m_cut3 t b (m_floor (t * m_pow pl) b) (t * m_pow pl - m_floor (t * m_pow pl) b * b) md
def m_one (t b : Int64) : Int32 := if t = 1 then (if b = 1 then 1 else 0) else 0
def m_abv (t : Int64) : Int32 := if t ≤ 0 then 0 else 1
set_option maxHeartbeats 4000000 in
set_option maxRecDepth 100000 in
/-- BestratiosModel.isIn(III)Z -/
theorem c_X5_isIn (l : Launch) (D : va_G) (tk : Nat → ClassId) (N0 : Nat) (sa : Nat → Nat)  (sz : Nat) (v_ : Int32) (lo : Int32) (hi_ : Int32) : Met l yX5_isIn (wsy yX5_isIn cX5_isIn 3 (some .boolean)) ({ frames := 0, cells := 0, slots := 0, locals := 0 } : Room) (cP D tk N0 sa [.int v_, .int lo, .int hi_] sz (fun H => True)) (kQi (fun r H => r = m_isIn v_ lo hi_) (nwA sz)) (0) (0) (nwA sz) := by
  refine mStart RX5 rfl (by decide +kernel) (Nat.le_of_ble_eq_true rfl) ?_
  intro p e s m args below meth c E hr hlk hnm hsz hC hF ls hl
  subst hsz
  obtain ⟨hx, hb, -⟩ := id E
  have hA : ∀ q, (nwA s.heap.size) q → N0 ≤ q := fun q h => Nat.le_trans hC.2.1 h
  have hn : ∀ q, s.heap.size ≤ q → (nwA s.heap.size) q := fun q h => h
  have hS : va_S (nwA s.heap.size) s.heap s.heap [] := va_S.rf
  have hl : lv_has ls 3 [(0, .int v_), (1, .int lo), (2, .int hi_)] := hl
  refine lv_iload_n (pc := 0) hx hb dX5_isIn_0 rfl (lv_at hl 0 rfl) ?_
  refine lv_iload_n (pc := 1) hx hb dX5_isIn_1 rfl (lv_at hl 1 rfl) ?_
  refine lv_icmp_lt (pc := 2) (tgt := 14) hx hb dX5_isIn_2 (by decide) (fun c_1 => ?_) (fun c_1 => ?_)
  · refine lv_iconst (pc := 14) (v := 0) hx hb dX5_isIn_14 (by decide) ?_
    refine r_zret (pc := 15) E hr hlk hS (by decide) (by decide) rfl ?_ dX5_isIn_15
    first | with_reducible rfl | (simp [m_isIn, c_1, Int32.not_le.mpr c_1, p_TB, p_TV, p_TC, p_TI, p_BT, p_BV, p_BC, p_BI, p_VT, p_VB, p_VC, p_VI, p_CT, p_CB, p_CV, p_CI, p_IT, p_IB, p_IV, p_IC, p_TT, p_BB, p_CC, p_II]; done)
  · refine lv_iload_n (pc := 5) hx hb dX5_isIn_5 rfl (lv_at hl 0 rfl) ?_
    refine lv_iload_n (pc := 6) hx hb dX5_isIn_6 rfl (lv_at hl 2 rfl) ?_
    refine lv_icmp_gt (pc := 7) (tgt := 14) hx hb dX5_isIn_7 (by decide) (fun c_2 => ?_) (fun c_2 => ?_)
    · refine lv_iconst (pc := 14) (v := 0) hx hb dX5_isIn_14 (by decide) ?_
      refine r_zret (pc := 15) E hr hlk hS (by decide) (by decide) rfl ?_ dX5_isIn_15
      first | with_reducible rfl | (simp [m_isIn, c_1, Int32.not_lt.mp c_1, c_2, Int32.not_le.mpr c_2, p_TB, p_TV, p_TC, p_TI, p_BT, p_BV, p_BC, p_BI, p_VT, p_VB, p_VC, p_VI, p_CT, p_CB, p_CV, p_CI, p_IT, p_IB, p_IV, p_IC, p_TT, p_BB, p_CC, p_II]; done)
    · refine lv_iconst (pc := 10) (v := 1) hx hb dX5_isIn_10 (by decide) ?_
      refine lv_goto (pc := 11) (tgt := 15) hx hb dX5_isIn_11 (by decide) ?_
      refine r_zret (pc := 15) E hr hlk hS (by decide) (by decide) rfl ?_ dX5_isIn_15
      first | with_reducible rfl | (simp [m_isIn, c_1, Int32.not_lt.mp c_1, c_2, Int32.not_lt.mp c_2, p_TB, p_TV, p_TC, p_TI, p_BT, p_BV, p_BC, p_BI, p_VT, p_VB, p_VC, p_VI, p_CT, p_CB, p_CV, p_CI, p_IT, p_IB, p_IV, p_IC, p_TT, p_BB, p_CC, p_II]; done)
set_option maxHeartbeats 4000000 in
set_option maxRecDepth 100000 in
/-- BestratiosModel.bit(Z)I -/
theorem c_X5_bit (l : Launch) (D : va_G) (tk : Nat → ClassId) (N0 : Nat) (sa : Nat → Nat)  (sz : Nat) (b_ : Int32) : Met l yX5_bit (wsy yX5_bit cX5_bit 1 (some .int)) ({ frames := 0, cells := 0, slots := 0, locals := 0 } : Room) (cP D tk N0 sa [.int b_] sz (fun H => True)) (kQi (fun r H => r = m_bit b_) (nwA sz)) (0) (0) (nwA sz) := by
  refine mStart RX5 rfl (by decide +kernel) (Nat.le_of_ble_eq_true rfl) ?_
  intro p e s m args below meth c E hr hlk hnm hsz hC hF ls hl
  subst hsz
  obtain ⟨hx, hb, -⟩ := id E
  have hA : ∀ q, (nwA s.heap.size) q → N0 ≤ q := fun q h => Nat.le_trans hC.2.1 h
  have hn : ∀ q, s.heap.size ≤ q → (nwA s.heap.size) q := fun q h => h
  have hS : va_S (nwA s.heap.size) s.heap s.heap [] := va_S.rf
  have hl : lv_has ls 1 [(0, .int b_)] := hl
  refine lv_iload_n (pc := 0) hx hb dX5_bit_0 rfl (lv_at hl 0 rfl) ?_
  refine lv_if_eq (pc := 1) (tgt := 8) hx hb dX5_bit_1 (by decide) (fun c_1 => ?_) (fun c_1 => ?_)
  · refine lv_iconst (pc := 8) (v := 0) hx hb dX5_bit_8 (by decide) ?_
    refine r_iret (pc := 9) E hr hlk hS (by decide) (by decide) ?_ dX5_bit_9
    first | with_reducible rfl | (simp [m_bit, c_1, p_TB, p_TV, p_TC, p_TI, p_BT, p_BV, p_BC, p_BI, p_VT, p_VB, p_VC, p_VI, p_CT, p_CB, p_CV, p_CI, p_IT, p_IB, p_IV, p_IC, p_TT, p_BB, p_CC, p_II]; done)
  · refine lv_iconst (pc := 4) (v := 1) hx hb dX5_bit_4 (by decide) ?_
    refine lv_goto (pc := 5) (tgt := 9) hx hb dX5_bit_5 (by decide) ?_
    refine r_iret (pc := 9) E hr hlk hS (by decide) (by decide) ?_ dX5_bit_9
    first | with_reducible rfl | (simp [m_bit, c_1, p_TB, p_TV, p_TC, p_TI, p_BT, p_BV, p_BC, p_BI, p_VT, p_VB, p_VC, p_VI, p_CT, p_CB, p_CV, p_CI, p_IT, p_IB, p_IV, p_IC, p_TT, p_BB, p_CC, p_II]; done)
set_option maxHeartbeats 4000000 in
set_option maxRecDepth 100000 in
/-- BestratiosModel.isNo(I)Z -/
theorem c_X5_isNo (l : Launch) (D : va_G) (tk : Nat → ClassId) (N0 : Nat) (sa : Nat → Nat)  (sz : Nat) (v_ : Int32) : Met l yX5_isNo (wsy yX5_isNo cX5_isNo 1 (some .boolean)) ({ frames := 1, cells := 0, slots := 0, locals := 22 } : Room) (cP D tk N0 sa [.int v_] sz (fun H => True)) (kQi (fun r H => r = m_isNo v_) (nwA sz)) (0) (0) (nwA sz) := by
  refine mStart RX5 rfl (by decide +kernel) (Nat.le_of_ble_eq_true rfl) ?_
  intro p e s m args below meth c E hr hlk hnm hsz hC hF ls hl
  subst hsz
  obtain ⟨hx, hb, -⟩ := id E
  have hA : ∀ q, (nwA s.heap.size) q → N0 ≤ q := fun q h => Nat.le_trans hC.2.1 h
  have hn : ∀ q, s.heap.size ≤ q → (nwA s.heap.size) q := fun q h => h
  have hS : va_S (nwA s.heap.size) s.heap s.heap [] := va_S.rf
  have hl : lv_has ls 1 [(0, .int v_)] := hl
  refine lv_iload_n (pc := 0) hx hb dX5_isNo_0 rfl (lv_at hl 0 rfl) ?_
  refine lv_iconst (pc := 1) (v := 0) hx hb dX5_isNo_1 (by decide) ?_
  refine lv_iconst (pc := 2) (v := 5) hx hb dX5_isNo_2 (by decide) ?_
  refine k_i (pc := 3) (k_S E hC hS hA hl.1 (c_X5_isIn l D tk N0 sa s.heap.size v_ 0 5 ) kw_1248 kw_1249 kw_5 kw_1250 (n := 3) (by decide +kernel) rfl ⟨⟨rfl, rfl⟩, ⟨by decide, by decide⟩, by decide, by decide⟩ rfl (Nat.le_of_ble_eq_true rfl) trivial dX5_isNo_3) hS (fun q z w => absurd w (Nat.not_le.mpr z)) hn (fun r_1 H locs hR hz hk hS => ?_)
  have er_1 := hR
  refine lv_if_ne (pc := 6) (tgt := 13) hx hb dX5_isNo_6 (by decide) (fun c_3 => ?_) (fun c_3 => ?_)
  · refine lv_iconst (pc := 13) (v := 0) hx hb dX5_isNo_13 (by decide) ?_
    refine r_zret (pc := 14) E hr hlk hS (by decide) (by decide) rfl ?_ dX5_isNo_14
    subst er_1; first | with_reducible rfl | (simp [m_isNo, c_3, p_TB, p_TV, p_TC, p_TI, p_BT, p_BV, p_BC, p_BI, p_VT, p_VB, p_VC, p_VI, p_CT, p_CB, p_CV, p_CI, p_IT, p_IB, p_IV, p_IC, p_TT, p_BB, p_CC, p_II]; done)
  · refine lv_iconst (pc := 9) (v := 1) hx hb dX5_isNo_9 (by decide) ?_
    refine lv_goto (pc := 10) (tgt := 14) hx hb dX5_isNo_10 (by decide) ?_
    refine r_zret (pc := 14) E hr hlk hS (by decide) (by decide) rfl ?_ dX5_isNo_14
    subst er_1; first | with_reducible rfl | (simp [m_isNo, c_3, p_TB, p_TV, p_TC, p_TI, p_BT, p_BV, p_BC, p_BI, p_VT, p_VB, p_VC, p_VI, p_CT, p_CB, p_CV, p_CI, p_IT, p_IB, p_IV, p_IC, p_TT, p_BB, p_CC, p_II]; done)
set_option maxHeartbeats 4000000 in
set_option maxRecDepth 100000 in
/-- BestratiosModel.areNo(II)Z -/
theorem c_X5_areNo (l : Launch) (D : va_G) (tk : Nat → ClassId) (N0 : Nat) (sa : Nat → Nat)  (sz : Nat) (a_ : Int32) (b_ : Int32) : Met l yX5_areNo (wsy yX5_areNo cX5_areNo 2 (some .boolean)) ({ frames := 2, cells := 0, slots := 0, locals := 42 } : Room) (cP D tk N0 sa [.int a_, .int b_] sz (fun H => True)) (kQi (fun r H => r = m_areNo a_ b_) (nwA sz)) (0) (0) (nwA sz) := by
  refine mStart RX5 rfl (by decide +kernel) (Nat.le_of_ble_eq_true rfl) ?_
  intro p e s m args below meth c E hr hlk hnm hsz hC hF ls hl
  subst hsz
  obtain ⟨hx, hb, -⟩ := id E
  have hA : ∀ q, (nwA s.heap.size) q → N0 ≤ q := fun q h => Nat.le_trans hC.2.1 h
  have hn : ∀ q, s.heap.size ≤ q → (nwA s.heap.size) q := fun q h => h
  have hS : va_S (nwA s.heap.size) s.heap s.heap [] := va_S.rf
  have hl : lv_has ls 2 [(0, .int a_), (1, .int b_)] := hl
  refine lv_iload_n (pc := 0) hx hb dX5_areNo_0 rfl (lv_at hl 0 rfl) ?_
  refine k_i (pc := 1) (k_S E hC hS hA hl.1 (c_X5_isNo l D tk N0 sa s.heap.size a_ ) kw_1245 kw_1246 kw_5 kw_1247 (n := 1) (by decide +kernel) rfl ⟨⟨rfl, rfl⟩, ⟨by decide, by decide⟩, by decide, by decide⟩ rfl (Nat.le_of_ble_eq_true rfl) trivial dX5_areNo_1) hS (fun q z w => absurd w (Nat.not_le.mpr z)) hn (fun r_1 H locs hR hz hk hS => ?_)
  have er_1 := hR
  refine lv_if_ne (pc := 4) (tgt := 14) hx hb dX5_areNo_4 (by decide) (fun c_3 => ?_) (fun c_3 => ?_)
  · refine lv_iconst (pc := 14) (v := 1) hx hb dX5_areNo_14 (by decide) ?_
    refine lv_goto (pc := 15) (tgt := 19) hx hb dX5_areNo_15 (by decide) ?_
    refine r_zret (pc := 19) E hr hlk hS (by decide) (by decide) rfl ?_ dX5_areNo_19
    subst er_1; first | with_reducible rfl | (simp [m_areNo, c_3, p_TB, p_TV, p_TC, p_TI, p_BT, p_BV, p_BC, p_BI, p_VT, p_VB, p_VC, p_VI, p_CT, p_CB, p_CV, p_CI, p_IT, p_IB, p_IV, p_IC, p_TT, p_BB, p_CC, p_II]; done)
  · refine lv_iload_n (pc := 7) hx hb dX5_areNo_7 rfl (lv_at hl 1 rfl) ?_
    refine k_i (pc := 8) (k_S E hC hS hA hl.1 (c_X5_isNo l D tk N0 sa H.size b_ ) kw_1245 kw_1246 kw_5 kw_1247 (n := 1) (by decide +kernel) rfl ⟨⟨rfl, rfl⟩, ⟨by decide, by decide⟩, by decide, by decide⟩ rfl (Nat.le_of_ble_eq_true rfl) trivial dX5_areNo_8) hS (fun q z w => absurd w (Nat.not_le.mpr z)) hn (fun r_4 H locs hR hz hk hS => ?_)
    have er_4 := hR
    refine lv_if_eq (pc := 11) (tgt := 18) hx hb dX5_areNo_11 (by decide) (fun c_6 => ?_) (fun c_6 => ?_)
    · refine lv_iconst (pc := 18) (v := 0) hx hb dX5_areNo_18 (by decide) ?_
      refine r_zret (pc := 19) E hr hlk hS (by decide) (by decide) rfl ?_ dX5_areNo_19
      subst er_1 er_4; first | with_reducible rfl | (simp [m_areNo, c_3, c_6, p_TB, p_TV, p_TC, p_TI, p_BT, p_BV, p_BC, p_BI, p_VT, p_VB, p_VC, p_VI, p_CT, p_CB, p_CV, p_CI, p_IT, p_IB, p_IV, p_IC, p_TT, p_BB, p_CC, p_II]; done)
    · refine lv_iconst (pc := 14) (v := 1) hx hb dX5_areNo_14 (by decide) ?_
      refine lv_goto (pc := 15) (tgt := 19) hx hb dX5_areNo_15 (by decide) ?_
      refine r_zret (pc := 19) E hr hlk hS (by decide) (by decide) rfl ?_ dX5_areNo_19
      subst er_1 er_4; first | with_reducible rfl | (simp [m_areNo, c_3, c_6, p_TB, p_TV, p_TC, p_TI, p_BT, p_BV, p_BC, p_BI, p_VT, p_VB, p_VC, p_VI, p_CT, p_CB, p_CV, p_CI, p_IT, p_IB, p_IV, p_IC, p_TT, p_BB, p_CC, p_II]; done)
set_option maxHeartbeats 4000000 in
set_option maxRecDepth 100000 in
/-- BestratiosModel.add(JJ)J -/
theorem c_X5_add (l : Launch) (D : va_G) (tk : Nat → ClassId) (N0 : Nat) (sa : Nat → Nat)  (sz : Nat) (a_ : Int64) (b_ : Int64) : Met l yX5_add (wsy yX5_add cX5_add 4 (some .long)) ({ frames := 0, cells := 0, slots := 0, locals := 0 } : Room) (cP D tk N0 sa [.long a_, .long b_] sz (fun H => True)) (kQl (fun r H => r = a_ * 31 + b_) (nwA sz)) (0) (0) (nwA sz) := by
  refine mStart RX5 rfl (by decide +kernel) (Nat.le_of_ble_eq_true rfl) ?_
  intro p e s m args below meth c E hr hlk hnm hsz hC hF ls hl
  subst hsz
  obtain ⟨hx, hb, -⟩ := id E
  have hA : ∀ q, (nwA s.heap.size) q → N0 ≤ q := fun q h => Nat.le_trans hC.2.1 h
  have hn : ∀ q, s.heap.size ≤ q → (nwA s.heap.size) q := fun q h => h
  have hS : va_S (nwA s.heap.size) s.heap s.heap [] := va_S.rf
  have hl : lv_has ls 4 [(0, .long a_), (2, .long b_)] := hl
  refine lv_lload_n (pc := 0) hx hb dX5_add_0 rfl (lv_at hl 0 rfl) ?_
  refine lv_ldc2 (pc := 1) (v := 31) hx hb E.2.2.2.1 (E.2.2.2.2 _ (List.mem_cons_of_mem _ kw_1808)) dX5_add_1 ?_
  refine lv_lmul (pc := 4) hx hb dX5_add_4 ?_
  refine lv_lload_n (pc := 5) hx hb dX5_add_5 rfl (lv_at hl 1 rfl) ?_
  refine lv_ladd (pc := 6) hx hb dX5_add_6 ?_
  refine r_lret (pc := 7) E hr hlk hS (by decide) (by decide) ?_ dX5_add_7
  first | with_reducible rfl | (simp [p_TB, p_TV, p_TC, p_TI, p_BT, p_BV, p_BC, p_BI, p_VT, p_VB, p_VC, p_VI, p_CT, p_CB, p_CV, p_CI, p_IT, p_IB, p_IV, p_IC, p_TT, p_BB, p_CC, p_II]; done) | rfl
set_option maxHeartbeats 4000000 in
set_option maxRecDepth 100000 in
/-- BestratiosModel.power(I)J -/
theorem c_X5_power (l : Launch) (D : va_G) (tk : Nat → ClassId) (N0 : Nat) (sa : Nat → Nat)  (sz : Nat) (mm : Int32) : Met l yX5_power (wsy yX5_power cX5_power 4 (some .long)) ({ frames := 0, cells := 0, slots := 0, locals := 0 } : Room) (cP D tk N0 sa [.int mm] sz (fun H => True)) (kQl (fun r H => r = m_pow mm) (nwA sz)) (0) (0) (nwA sz) := by
  refine mStart RX5 rfl (by decide +kernel) (Nat.le_of_ble_eq_true rfl) ?_
  intro p e s m args below meth c E hr hlk hnm hsz hC hF ls hl
  subst hsz
  obtain ⟨hx, hb, -⟩ := id E
  have hA : ∀ q, (nwA s.heap.size) q → N0 ≤ q := fun q h => Nat.le_trans hC.2.1 h
  have hn : ∀ q, s.heap.size ≤ q → (nwA s.heap.size) q := fun q h => h
  have hS : va_S (nwA s.heap.size) s.heap s.heap [] := va_S.rf
  have hl : lv_has ls 4 [(0, .int mm)] := hl
  obtain ⟨Q, hQ⟩ : ∃ Q, Q = MQ below (kQl (fun r H => r = m_pow mm) (nwA s.heap.size)) args s (0) (0) (nwA s.heap.size) := ⟨_, rfl⟩
  rw [← hQ]
  refine lv_lconst (pc := 0) (v := 1) hx hb dX5_power_0 (by decide) ?_
  refine lv_lstore_n (pc := 1) (lv' := [(1, .long 1), (0, .int mm)]) hx hb dX5_power_1 rfl hl (by decide) rfl (fun ls hl => ?_)
  refine lv_iconst (pc := 2) (v := 0) hx hb dX5_power_2 (by decide) ?_
  refine lv_istore_n (pc := 3) (lv' := [(3, .int 0), (1, .long 1), (0, .int mm)]) hx hb dX5_power_3 rfl hl (by decide) rfl (fun ls hl => ?_)
  have loop_4 : ∀ (n : Nat) (k : Nat)(p9 : Int64) (x : Int32), mm.toNatClampNeg - k < n → k ≤ mm.toNatClampNeg → x = nI k → m_powL (mm.toNatClampNeg - k) p9 = m_pow mm → ∀ (H : Heap) (locs : List Loc) (ls : Array Slot), va_S (nwA s.heap.size) s.heap H locs → lv_has ls 4 [(0, .int mm), (1, .long p9), (3, .int x)] → W p l e ({ frames := 0, cells := 0, slots := 0, locals := 0 } : Room) s m args below meth c H locs (0) (0) Q (F0 m 4 ls []) := by
    intro n
    induction n with
    | zero =>
      intro k p9 x hf9 hk9 hx9 hg9 H locs ls hS hl
      omega
    | succ n ih_4 =>
      intro k p9 x hf9 hk9 hx9 hg9 H locs ls hS hl
      refine lv_iload_n (pc := 4) hx hb dX5_power_4 rfl (lv_at hl 2 rfl) ?_
      refine lv_iload_n (pc := 5) hx hb dX5_power_5 rfl (lv_at hl 0 rfl) ?_
      refine lv_icmp_ge (pc := 6) (tgt := 21) hx hb dX5_power_6 (by decide) (fun c_1 => ?_) (fun c_1 => ?_)
      · refine lv_lload_n (pc := 21) hx hb dX5_power_21 rfl (lv_at hl 1 rfl) ?_
        try rw [hQ]
        refine r_lret (pc := 22) E hr hlk hS (by decide) (by decide) ?_ dX5_power_22
        rw [← hg9]
        have e0 := (i_mle hx9 hk9).mp c_1
        (rw [e0]) <;> rfl
      · refine lv_lload_n (pc := 9) hx hb dX5_power_9 rfl (lv_at hl 1 rfl) ?_
        refine lv_ldc2 (pc := 10) (v := 10) hx hb E.2.2.2.1 (E.2.2.2.2 _ (List.mem_cons_of_mem _ kw_1281)) dX5_power_10 ?_
        refine lv_lmul (pc := 13) hx hb dX5_power_13 ?_
        obtain ⟨x_2, ex_2⟩ : ∃ z9 : Int64, z9 = p9 * 10 := ⟨_, rfl⟩
        rw [← ex_2]
        refine lv_lstore_n (pc := 14) (lv' := [(1, .long x_2), (0, .int mm), (3, .int x)]) hx hb dX5_power_14 rfl hl (by decide) rfl (fun ls hl => ?_)
        obtain ⟨x_3, ex_3⟩ : ∃ z9 : Int32, z9 = x + 1 := ⟨_, rfl⟩
        refine lv_iinc (pc := 15) (v := x_3) (lv' := [(3, .int x_3), (1, .long x_2), (0, .int mm)]) hx hb dX5_power_15 hl (k := 2) rfl (by rw [ex_3]; rfl) (by decide) rfl (fun ls hl => ?_)
        refine lv_goto (pc := 18) (tgt := 4) hx hb dX5_power_18 (by decide) ?_
        have hlt := (i_mlt hx9 hk9).mp c_1
        have e200 : mm.toNatClampNeg - k = (mm.toNatClampNeg - (k + 1)) + 1 := by omega
        rw [e200] at hg9
        exact ih_4  (k + 1)  x_2 x_3 (by omega) (by omega) (i_up hx9 ex_3) (by rw [← hg9]; subst ex_2; rfl) _ _ _ hS (lv_sub hl [2, 1, 0] rfl)
  exact loop_4 (mm.toNatClampNeg + 1) 0  1 0 (by omega) (Nat.zero_le _) nI_0.symm rfl _ _ _ hS (lv_sub hl [2, 1, 0] rfl)
set_option maxHeartbeats 4000000 in
set_option maxRecDepth 100000 in
/-- BestratiosModel.floor(JJ)J -/
theorem c_X5_floor (l : Launch) (D : va_G) (tk : Nat → ClassId) (N0 : Nat) (sa : Nat → Nat)  (sz : Nat) (a_ : Int64) (b_ : Int64) (hy : ¬ b_ = 0) : Met l yX5_floor (wsy yX5_floor cX5_floor 6 (some .long)) ({ frames := 0, cells := 0, slots := 0, locals := 0 } : Room) (cP D tk N0 sa [.long a_, .long b_] sz (fun H => True)) (kQl (fun r H => r = m_floor a_ b_) (nwA sz)) (0) (0) (nwA sz) := by
  refine mStart RX5 rfl (by decide +kernel) (Nat.le_of_ble_eq_true rfl) ?_
  intro p e s m args below meth c E hr hlk hnm hsz hC hF ls hl
  subst hsz
  obtain ⟨hx, hb, -⟩ := id E
  have hA : ∀ q, (nwA s.heap.size) q → N0 ≤ q := fun q h => Nat.le_trans hC.2.1 h
  have hn : ∀ q, s.heap.size ≤ q → (nwA s.heap.size) q := fun q h => h
  have hS : va_S (nwA s.heap.size) s.heap s.heap [] := va_S.rf
  have hl : lv_has ls 6 [(0, .long a_), (2, .long b_)] := hl
  refine lv_lload_n (pc := 0) hx hb dX5_floor_0 rfl (lv_at hl 0 rfl) ?_
  refine lv_lload_n (pc := 1) hx hb dX5_floor_1 rfl (lv_at hl 1 rfl) ?_
  refine lv_ldiv (pc := 2) hx hb dX5_floor_2 (hy) ?_
  obtain ⟨x_1, ex_1⟩ : ∃ z9 : Int64, z9 = a_ / b_ := ⟨_, rfl⟩
  rw [← ex_1]
  refine lv_lstore (pc := 3) (lv' := [(4, .long x_1), (0, .long a_), (2, .long b_)]) hx hb dX5_floor_3 hl (by decide) rfl (fun ls hl => ?_)
  refine lv_lload_n (pc := 5) hx hb dX5_floor_5 rfl (lv_at hl 1 rfl) ?_
  refine lv_lload_n (pc := 6) hx hb dX5_floor_6 rfl (lv_at hl 2 rfl) ?_
  refine lv_lrem (pc := 7) hx hb dX5_floor_7 (hy) ?_
  refine lv_lconst (pc := 8) (v := 0) hx hb dX5_floor_8 (by decide) ?_
  refine r_lceq (pc := 9) (tgt := 47) E dX5_floor_9 dX5_floor_10 (by decide) (fun c_2 => ?_) (fun c_2 => ?_)
  · refine lv_lload (pc := 47) hx hb dX5_floor_47 (lv_at hl 0 rfl) ?_
    refine r_lret (pc := 49) E hr hlk hS (by decide) (by decide) ?_ dX5_floor_49
    subst ex_1; first | with_reducible rfl | (simp [m_floor, c_2, p_TB, p_TV, p_TC, p_TI, p_BT, p_BV, p_BC, p_BI, p_VT, p_VB, p_VC, p_VI, p_CT, p_CB, p_CV, p_CI, p_IT, p_IB, p_IV, p_IC, p_TT, p_BB, p_CC, p_II]; done)
  · refine lv_lload_n (pc := 13) hx hb dX5_floor_13 rfl (lv_at hl 1 rfl) ?_
    refine lv_lload_n (pc := 14) hx hb dX5_floor_14 rfl (lv_at hl 2 rfl) ?_
    refine lv_lrem (pc := 15) hx hb dX5_floor_15 (hy) ?_
    refine lv_lconst (pc := 16) (v := 0) hx hb dX5_floor_16 (by decide) ?_
    refine r_lcge (pc := 17) (tgt := 25) E dX5_floor_17 dX5_floor_18 (by decide) (fun c_3 => ?_) (fun c_3 => ?_)
    · refine lv_iconst (pc := 25) (v := 0) hx hb dX5_floor_25 (by decide) ?_
      refine lv_lload_n (pc := 26) hx hb dX5_floor_26 rfl (lv_at hl 2 rfl) ?_
      refine lv_lconst (pc := 27) (v := 0) hx hb dX5_floor_27 (by decide) ?_
      refine r_lcge (pc := 28) (tgt := 36) E dX5_floor_28 dX5_floor_29 (by decide) (fun c_4 => ?_) (fun c_4 => ?_)
      · refine lv_iconst (pc := 36) (v := 0) hx hb dX5_floor_36 (by decide) ?_
        refine lv_icmp_eq (pc := 37) (tgt := 47) hx hb dX5_floor_37 (by decide) (fun c_5 => ?_) (fun c_5 => ?_)
        rotate_left
        · exact absurd (by decide) c_5
        refine lv_lload (pc := 47) hx hb dX5_floor_47 (lv_at hl 0 rfl) ?_
        refine r_lret (pc := 49) E hr hlk hS (by decide) (by decide) ?_ dX5_floor_49
        subst ex_1; first | with_reducible rfl | (simp [m_floor, c_2, c_3, Int64.not_lt.mpr c_3, c_4, Int64.not_lt.mpr c_4, p_TB, p_TV, p_TC, p_TI, p_BT, p_BV, p_BC, p_BI, p_VT, p_VB, p_VC, p_VI, p_CT, p_CB, p_CV, p_CI, p_IT, p_IB, p_IV, p_IC, p_TT, p_BB, p_CC, p_II]; done)
      · refine lv_iconst (pc := 32) (v := 1) hx hb dX5_floor_32 (by decide) ?_
        refine lv_goto (pc := 33) (tgt := 37) hx hb dX5_floor_33 (by decide) ?_
        refine lv_icmp_eq (pc := 37) (tgt := 47) hx hb dX5_floor_37 (by decide) (fun c_6 => ?_) (fun c_6 => ?_)
        · exact absurd c_6 (by decide)
        refine lv_lload (pc := 40) hx hb dX5_floor_40 (lv_at hl 0 rfl) ?_
        refine lv_lconst (pc := 42) (v := 1) hx hb dX5_floor_42 (by decide) ?_
        refine lv_lsub (pc := 43) hx hb dX5_floor_43 ?_
        refine lv_goto (pc := 44) (tgt := 49) hx hb dX5_floor_44 (by decide) ?_
        refine r_lret (pc := 49) E hr hlk hS (by decide) (by decide) ?_ dX5_floor_49
        subst ex_1; first | with_reducible rfl | (simp [m_floor, c_2, c_3, Int64.not_lt.mpr c_3, c_4, Int64.not_le.mp c_4, p_TB, p_TV, p_TC, p_TI, p_BT, p_BV, p_BC, p_BI, p_VT, p_VB, p_VC, p_VI, p_CT, p_CB, p_CV, p_CI, p_IT, p_IB, p_IV, p_IC, p_TT, p_BB, p_CC, p_II]; done)
    · refine lv_iconst (pc := 21) (v := 1) hx hb dX5_floor_21 (by decide) ?_
      refine lv_goto (pc := 22) (tgt := 26) hx hb dX5_floor_22 (by decide) ?_
      refine lv_lload_n (pc := 26) hx hb dX5_floor_26 rfl (lv_at hl 2 rfl) ?_
      refine lv_lconst (pc := 27) (v := 0) hx hb dX5_floor_27 (by decide) ?_
      refine r_lcge (pc := 28) (tgt := 36) E dX5_floor_28 dX5_floor_29 (by decide) (fun c_7 => ?_) (fun c_7 => ?_)
      · refine lv_iconst (pc := 36) (v := 0) hx hb dX5_floor_36 (by decide) ?_
        refine lv_icmp_eq (pc := 37) (tgt := 47) hx hb dX5_floor_37 (by decide) (fun c_8 => ?_) (fun c_8 => ?_)
        · exact absurd c_8 (by decide)
        refine lv_lload (pc := 40) hx hb dX5_floor_40 (lv_at hl 0 rfl) ?_
        refine lv_lconst (pc := 42) (v := 1) hx hb dX5_floor_42 (by decide) ?_
        refine lv_lsub (pc := 43) hx hb dX5_floor_43 ?_
        refine lv_goto (pc := 44) (tgt := 49) hx hb dX5_floor_44 (by decide) ?_
        refine r_lret (pc := 49) E hr hlk hS (by decide) (by decide) ?_ dX5_floor_49
        subst ex_1; first | with_reducible rfl | (simp [m_floor, c_2, c_3, Int64.not_le.mp c_3, c_7, Int64.not_lt.mpr c_7, p_TB, p_TV, p_TC, p_TI, p_BT, p_BV, p_BC, p_BI, p_VT, p_VB, p_VC, p_VI, p_CT, p_CB, p_CV, p_CI, p_IT, p_IB, p_IV, p_IC, p_TT, p_BB, p_CC, p_II]; done)
      · refine lv_iconst (pc := 32) (v := 1) hx hb dX5_floor_32 (by decide) ?_
        refine lv_goto (pc := 33) (tgt := 37) hx hb dX5_floor_33 (by decide) ?_
        refine lv_icmp_eq (pc := 37) (tgt := 47) hx hb dX5_floor_37 (by decide) (fun c_9 => ?_) (fun c_9 => ?_)
        rotate_left
        · exact absurd (by decide) c_9
        refine lv_lload (pc := 47) hx hb dX5_floor_47 (lv_at hl 0 rfl) ?_
        refine r_lret (pc := 49) E hr hlk hS (by decide) (by decide) ?_ dX5_floor_49
        subst ex_1; first | with_reducible rfl | (simp [m_floor, c_2, c_3, Int64.not_le.mp c_3, c_7, Int64.not_le.mp c_7, p_TB, p_TV, p_TC, p_TI, p_BT, p_BV, p_BC, p_BI, p_VT, p_VB, p_VC, p_VI, p_CT, p_CB, p_CV, p_CI, p_IT, p_IB, p_IV, p_IC, p_TT, p_BB, p_CC, p_II]; done)
set_option maxHeartbeats 4000000 in
set_option maxRecDepth 100000 in
/-- BestratiosModel.divisor(JJ)J -/
theorem c_X5_divisor (l : Launch) (D : va_G) (tk : Nat → ClassId) (N0 : Nat) (sa : Nat → Nat)  (sz : Nat) (a_ : Int64) (b_ : Int64) : Met l yX5_divisor (wsy yX5_divisor cX5_divisor 10 (some .long)) ({ frames := 1, cells := 0, slots := 0, locals := 21 } : Room) (cP D tk N0 sa [.long a_, .long b_] sz (fun H => True)) (kQl (fun r H => r = m_div a_ b_) (nwA sz)) (0) (0) (nwA sz) := by
  refine mStart RX5 rfl (by decide +kernel) (Nat.le_of_ble_eq_true rfl) ?_
  intro p e s m args below meth c E hr hlk hnm hsz hC hF ls hl
  subst hsz
  obtain ⟨hx, hb, -⟩ := id E
  have hA : ∀ q, (nwA s.heap.size) q → N0 ≤ q := fun q h => Nat.le_trans hC.2.1 h
  have hn : ∀ q, s.heap.size ≤ q → (nwA s.heap.size) q := fun q h => h
  have hS : va_S (nwA s.heap.size) s.heap s.heap [] := va_S.rf
  have hl : lv_has ls 10 [(0, .long a_), (2, .long b_)] := hl
  obtain ⟨Q, hQ⟩ : ∃ Q, Q = MQ below (kQl (fun r H => r = m_div a_ b_) (nwA s.heap.size)) args s (0) (0) (nwA s.heap.size) := ⟨_, rfl⟩
  rw [← hQ]
  refine lv_lload_n (pc := 0) hx hb dX5_divisor_0 rfl (lv_at hl 0 rfl) ?_
  refine k_l (pc := 1) (k_S E hC hS hA hl.1 (c_J9_abs_067f4 l D tk N0 sa s.heap.size a_ ) kw_1205 kw_1206 kw_9 kw_1207 (n := 1) (by decide +kernel) rfl ⟨⟨rfl, rfl⟩, ⟨by decide, by decide⟩, by decide, by decide⟩ rfl (Nat.le_of_ble_eq_true rfl) trivial dX5_divisor_1) hS (fun q z w => absurd w (Nat.not_le.mpr z)) hn (fun r_1 H locs hR hz hk hS => ?_)
  have er_1 := hR
  refine lv_lstore (pc := 4) (lv' := [(4, .long r_1), (0, .long a_), (2, .long b_)]) hx hb dX5_divisor_4 hl (by decide) rfl (fun ls hl => ?_)
  refine lv_lload_n (pc := 6) hx hb dX5_divisor_6 rfl (lv_at hl 2 rfl) ?_
  refine k_l (pc := 7) (k_S E hC hS hA hl.1 (c_J9_abs_067f4 l D tk N0 sa H.size b_ ) kw_1205 kw_1206 kw_9 kw_1207 (n := 1) (by decide +kernel) rfl ⟨⟨rfl, rfl⟩, ⟨by decide, by decide⟩, by decide, by decide⟩ rfl (Nat.le_of_ble_eq_true rfl) trivial dX5_divisor_7) hS (fun q z w => absurd w (Nat.not_le.mpr z)) hn (fun r_3 H locs hR hz hk hS => ?_)
  have er_3 := hR
  refine lv_lstore (pc := 10) (lv' := [(6, .long r_3), (4, .long r_1), (0, .long a_), (2, .long b_)]) hx hb dX5_divisor_10 hl (by decide) rfl (fun ls hl => ?_)
  have loop_12 : ∀ (n : Nat) (k : Nat)(u : Int64) (v : Int64), k ≤ n → v.toInt.natAbs < k → gcdL k u v = m_div a_ b_ → ∀ (H : Heap) (locs : List Loc) (ls : Array Slot), va_S (nwA s.heap.size) s.heap H locs → lv_has ls 10 [(0, .long a_), (2, .long b_), (4, .long u), (6, .long v)] → W p l e ({ frames := 1, cells := 0, slots := 0, locals := 21 } : Room) s m args below meth c H locs (0 + 0 + 0) (0 + 0 + 0) Q (F0 m 12 ls []) := by
    intro n
    induction n with
    | zero =>
      intro k u v hf9 hk9 hg9 H locs ls hS hl
      omega
    | succ n ih_12 =>
      intro k u v hf9 hk9 hg9 H locs ls hS hl
      refine lv_lload (pc := 12) hx hb dX5_divisor_12 (lv_at hl 3 rfl) ?_
      refine lv_lconst (pc := 14) (v := 0) hx hb dX5_divisor_14 (by decide) ?_
      refine r_lceq (pc := 15) (tgt := 37) E dX5_divisor_15 dX5_divisor_16 (by decide) (fun c_5 => ?_) (fun c_5 => ?_)
      · refine lv_lload (pc := 37) hx hb dX5_divisor_37 (lv_at hl 2 rfl) ?_
        try rw [hQ]
        refine r_lret (pc := 39) E hr hlk hS (by decide) (by decide) ?_ dX5_divisor_39
        rw [← hg9, gcdL_z c_5]
      · refine lv_lload (pc := 19) hx hb dX5_divisor_19 (lv_at hl 2 rfl) ?_
        refine lv_lload (pc := 21) hx hb dX5_divisor_21 (lv_at hl 3 rfl) ?_
        refine lv_lrem (pc := 23) hx hb dX5_divisor_23 (by assumption) ?_
        obtain ⟨x_6, ex_6⟩ : ∃ z9 : Int64, z9 = u - u / v * v := ⟨_, rfl⟩
        rw [← ex_6]
        refine lv_lstore (pc := 24) (lv' := [(8, .long x_6), (0, .long a_), (2, .long b_), (4, .long u), (6, .long v)]) hx hb dX5_divisor_24 hl (by decide) rfl (fun ls hl => ?_)
        refine lv_lload (pc := 26) hx hb dX5_divisor_26 (lv_at hl 4 rfl) ?_
        refine lv_lstore (pc := 28) (lv' := [(4, .long v), (8, .long x_6), (0, .long a_), (2, .long b_), (6, .long v)]) hx hb dX5_divisor_28 hl (by decide) rfl (fun ls hl => ?_)
        refine lv_lload (pc := 30) hx hb dX5_divisor_30 (lv_at hl 1 rfl) ?_
        refine lv_lstore (pc := 32) (lv' := [(6, .long x_6), (4, .long v), (8, .long x_6), (0, .long a_), (2, .long b_)]) hx hb dX5_divisor_32 hl (by decide) rfl (fun ls hl => ?_)
        refine lv_goto (pc := 34) (tgt := 12) hx hb dX5_divisor_34 (by decide) ?_
        have hv0 := c_5
        obtain ⟨k1, rfl⟩ : ∃ k1, k = k1 + 1 := ⟨k - 1, by omega⟩
        have hrl := m_rem_lt (u := u) hv0
        exact ih_12  k1  v x_6 (by omega) (by rw [ex_6]; omega) (by rw [← hg9, gcdL, if_neg hv0, ex_6]) _ _ _ hS (lv_sub hl [3, 4, 1, 0] rfl)
  exact loop_12 ((f_absJ b_).toInt.natAbs + 1) ((f_absJ b_).toInt.natAbs + 1)  r_1 r_3 (Nat.le_refl _) (by rw [er_3]; omega) (by rw [er_1, er_3]; rfl) _ _ _ hS (lv_sub hl [2, 3, 1, 0] rfl)
