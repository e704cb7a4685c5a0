set_option maxHeartbeats 4000000 in
set_option maxRecDepth 100000 in
/-- Bestratios.terms(I)Ljava/lang/String; -/
theorem c_X3_terms (l : Launch) (hlst : l.stackTraces = false) (D : va_G) (tk : Nat → ClassId) (N0 : Nat) (sa : Nat → Nat) {ad : Nat → Nat} (hAD : ADok N0 ad) (sz : Nat) (g : CS) (r_ : Int32) : vx_Met l yX3_terms (wsy yX3_terms cX3_terms 2 (some (.object "java/lang/String"))) ({ frames := 7, cells := 5 + ((tx_rt (f_apart g 1 (nn r_)) 1).2 - 16), slots := 26 + 2 * ((tx_rt (f_apart g 1 (nn r_)) 1).2 - 16) + (4 + (tx_rt (f_apart g 1 (nn r_)) 1).1), locals := 159 } : Room) (cP D tk N0 sa [.ref (ad 15), .int r_] sz (fun H => CW D tk ad g H)) (kQr (fun r H => bR r_ = 0 ∧ sz ≤ r ∧ SX D tk r ((tx_rt (f_apart g 1 (nn r_)) 1).1) H ∧ CW D tk ad (f_apart g 1 (nn r_)) H) (cwA ad sz)) (kX (fun E => (E = "java/lang/IndexOutOfBoundsException" ∧ bR r_ = 1)) sz) (5 + ((tx_rt (f_apart g 1 (nn r_)) 1).2 - 16)) (26 + 2 * ((tx_rt (f_apart g 1 (nn r_)) 1).2 - 16) + (4 + (tx_rt (f_apart g 1 (nn r_)) 1).1)) (cwA ad sz) := by
  refine mStartX RX3 rfl (by decide +kernel) (Nat.le_of_ble_eq_true rfl) ?_
  intro p e s m args below meth c E hr hlk htb hsz hC hF ls hl
  subst hsz
  obtain ⟨hx, hb, -⟩ := id E
  have hA : ∀ q, (cwA ad s.heap.size) q → N0 ≤ q := cwA.ge hAD hC.2.1
  have hn : ∀ q, s.heap.size ≤ q → (cwA ad s.heap.size) q := fun q h => Or.inr h
  have hS : va_S (cwA ad s.heap.size) s.heap s.heap [] := va_S.rf
  have hU : ∀ q, q < s.heap.size → s.heap[q]? = s.heap[q]? := fun _ _ => rfl
  have hl : lv_has ls 2 [(0, .ref (ad 15)), (1, .int r_)] := hl
  have hW : CW D tk ad g s.heap := hF
  refine lv_aload_n (pc := 0) hx hb dX3_terms_0 rfl (lv_at hl 0 rfl) ?_
  refine r_get (pc := 1) E hC hW.obj 8 (v := .ref (ad 19)) rfl rfl (by decide) uX3 (List.mem_cons_of_mem _ kw_122) (fun _ h => h) dX3_terms_1 ?_
  refine lv_aload_n (pc := 4) hx hb dX3_terms_4 rfl (lv_at hl 0 rfl) ?_
  refine lv_iload_n (pc := 5) hx hb dX3_terms_5 rfl (lv_at hl 1 rfl) ?_
  have hZ := hS.1
  refine kx_r (pc := 6) (kx_V E hC hS hA hl.1 (c1.recv hC hW.obj rfl) rfl (c_X3_ratioAt l hlst D tk N0 sa hAD s.heap.size g r_ ) kw_809 kw_811 kp_15 kw_1 kw_812 (n := 1) (by decide +kernel) rfl ⟨⟨rfl, rfl⟩, ⟨Nat.le_of_ble_eq_true rfl, Nat.le_of_ble_eq_true rfl⟩, (by dsimp only; omega), (by dsimp only; omega)⟩ rfl (Nat.le_of_ble_eq_true rfl) hW dX3_terms_6) hS (fun q z w => absurd w (Nat.not_le.mpr z)) hn hlk htb hU (fun E9 h9 => by rcases h9 with ⟨rfl, h9⟩ <;> first | (simp [h9]; done) | (simp [xo, h9]; done)) ⟨by (try dsimp only); omega, by (try dsimp only); omega⟩ (fun r_1 H locs hR hz hk hS => ?_)
  have hU := fun q (hq : q < s.heap.size) => (hk q (Nat.lt_of_lt_of_le hq hZ) (Nat.not_le.mpr (Nat.lt_of_lt_of_le hq hZ))).trans (hU q hq)
  obtain ⟨ek_2, er_1⟩ := hR
  have hW := hW.new hk
  have hi_3 : nn r_ < 15 := Nat.lt_of_lt_of_le (bR_lt ek_2) (by decide)
  subst er_1
  refine k_v (pc := 9) (k_V E hC hS hA hl.1 (c1.recv hC (hW.tm (j := 1) (by decide)) rfl) rfl (c_X2_takeApart l D tk N0 sa hAD H.size g 1 (by decide) ((nn r_)) hi_3 ) kw_563 kw_564 kw_565 kw_3 kw_566 (n := 1) (by decide +kernel) rfl ⟨⟨rfl, rfl⟩, ⟨Nat.le_of_ble_eq_true rfl, Nat.le_of_ble_eq_true rfl⟩, (by dsimp only; omega), (by dsimp only; omega)⟩ rfl (Nat.le_of_ble_eq_true rfl) hW dX3_terms_9) hS (fun q _ w => cwA.go hS.1 q w) hn (fun H locs hR hz hk hS => ?_)
  have hW := hR
  obtain ⟨g_6, eg_6⟩ : ∃ z, z = f_apart g 1 ((nn r_)) := ⟨_, rfl⟩
  rw [← eg_6] at hW
  have e29 : (tx_rt (f_apart g 1 (nn r_)) 1).2 = (tx_rt g_6 1).2 := by rw [eg_6]
  have e19 : (tx_rt (f_apart g 1 (nn r_)) 1).1 = (tx_rt g_6 1).1 := by rw [eg_6]
  refine lv_aload_n (pc := 12) hx hb dX3_terms_12 rfl (lv_at hl 0 rfl) ?_
  refine r_get (pc := 13) E hC hW.obj 8 (v := .ref (ad 19)) rfl rfl (by decide) uX3 (List.mem_cons_of_mem _ kw_122) (fun _ h => h) dX3_terms_13 ?_
  have hZ0_ := hS.1
  refine k_r (pc := 16) (k_S E hC hS hA hl.1 (c_X3_rowText l D tk N0 sa hAD H.size g_6 1 (by decide) (by rw [eg_6]; exact tx_aprt g 1 (nn r_))) kw_146 kw_147 kw_1 kw_148 (n := 1) (by decide +kernel) rfl ⟨⟨rfl, rfl⟩, ⟨Nat.le_of_ble_eq_true rfl, Nat.le_of_ble_eq_true rfl⟩, (by dsimp only; omega), (by dsimp only; omega)⟩ rfl (Nat.le_of_ble_eq_true rfl) hW dX3_terms_16) hS (fun q z w => absurd w (Nat.not_le.mpr z)) hn (fun r_7 H locs hR hz hk hS => ?_)
  have hW := hW.new hk
  obtain ⟨z9_, f9⟩ := hR
  have zr_f9 : s.heap.size ≤ r_7 := Nat.le_trans hZ0_ z9_
  refine vx_ret ?_
  refine r_aret (pc := 19) E hr (Or.inl ⟨_, rfl⟩) hlk hS (by omega) (by omega) ?_ dX3_terms_19
  rw [← eg_6]
  exact ⟨(by first | assumption | (simp [xo, ek_2]; done)), zr_f9, f9, hW.to (by rfl)⟩
