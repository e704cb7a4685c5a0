set_option maxHeartbeats 4000000 in
set_option maxRecDepth 100000 in
/-- Bestratios.text(I)Ljava/lang/String; -/
theorem c_X3_text (l : Launch) (hlst : l.stackTraces = false) (D : va_G) (tk : Nat → ClassId) (N0 : Nat) (sa : Nat → Nat) {ad : Nat → Nat} (hAD : ADok N0 ad) (sz : Nat) (g : CS) (r_ : Int32) : vx_Met l yX3_text (wsy yX3_text cX3_text 2 (some (.object "java/lang/String"))) ({ frames := 8, cells := 5 + ((tx_wf (tT g (nn r_)) (tB g (nn r_)) (0, 16)).2 - 16), slots := 26 + 2 * ((tx_wf (tT g (nn r_)) (tB g (nn r_)) (0, 16)).2 - 16) + (4 + (tx_wf (tT g (nn r_)) (tB g (nn r_)) (0, 16)).1), locals := 177 } : Room) (cP D tk N0 sa [.ref (ad 15), .int r_] sz (fun H => CW D tk ad g H)) (kQr (fun r H => bR r_ = 0 ∧ sz ≤ r ∧ SX D tk r ((tx_wf (tT g (nn r_)) (tB g (nn r_)) (0, 16)).1) H) (nwA sz)) (kX (fun E => (E = "java/lang/IndexOutOfBoundsException" ∧ bR r_ = 1)) sz) (5 + ((tx_wf (tT g (nn r_)) (tB g (nn r_)) (0, 16)).2 - 16)) (26 + 2 * ((tx_wf (tT g (nn r_)) (tB g (nn r_)) (0, 16)).2 - 16) + (4 + (tx_wf (tT g (nn r_)) (tB g (nn r_)) (0, 16)).1)) (nwA sz) := by
  refine mStartX RX3 rfl (by decide +kernel) (Nat.le_of_ble_eq_true rfl) ?_
  intro p e s m args below meth c E hr hlk htb hsz hC hF ls hl
  subst hsz
  obtain ⟨hx, hb, -⟩ := id E
  have hA : ∀ q, (nwA s.heap.size) q → N0 ≤ q := fun q h => Nat.le_trans hC.2.1 h
  have hn : ∀ q, s.heap.size ≤ q → (nwA s.heap.size) q := fun q h => h
  have hS : va_S (nwA s.heap.size) s.heap s.heap [] := va_S.rf
  have hU : ∀ q, q < s.heap.size → s.heap[q]? = s.heap[q]? := fun _ _ => rfl
  have hl : lv_has ls 2 [(0, .ref (ad 15)), (1, .int r_)] := hl
  have hW : CW D tk ad g s.heap := hF
  refine lv_aload_n (pc := 0) hx hb dX3_text_0 rfl (lv_at hl 0 rfl) ?_
  refine lv_iload_n (pc := 1) hx hb dX3_text_1 rfl (lv_at hl 1 rfl) ?_
  have hZ := hS.1
  refine kx_r (pc := 2) (kx_V E hC hS hA hl.1 (c1.recv hC hW.obj rfl) rfl (c_X3_ratioAt l hlst D tk N0 sa hAD s.heap.size g r_ ) kw_809 kw_811 kp_15 kw_1 kw_812 (n := 1) (by decide +kernel) rfl ⟨⟨rfl, rfl⟩, ⟨Nat.le_of_ble_eq_true rfl, Nat.le_of_ble_eq_true rfl⟩, (by dsimp only; omega), (by dsimp only; omega)⟩ rfl (Nat.le_of_ble_eq_true rfl) hW dX3_text_2) hS (fun q z w => absurd w (Nat.not_le.mpr z)) hn hlk htb hU (fun E9 h9 => by rcases h9 with ⟨rfl, h9⟩ <;> first | (simp [h9]; done) | (simp [xo, h9]; done)) ⟨by (try dsimp only); omega, by (try dsimp only); omega⟩ (fun r_1 H locs hR hz hk hS => ?_)
  have hU := fun q (hq : q < s.heap.size) => (hk q (Nat.lt_of_lt_of_le hq hZ) (Nat.not_le.mpr (Nat.lt_of_lt_of_le hq hZ))).trans (hU q hq)
  obtain ⟨ek_2, er_1⟩ := hR
  have hW := hW.new hk
  have hi_3 : nn r_ < 15 := Nat.lt_of_lt_of_le (bR_lt ek_2) (by decide)
  subst er_1
  have hZ0_ := hS.1
  have hZ := hS.1
  refine k_r (pc := 5) (k_S E hC hS hA hl.1 (c_X3_textOf l D tk N0 sa hAD H.size g ((nn r_)) hi_3) kw_511 kw_512 kw_1 kw_513 (n := 1) (by decide +kernel) rfl ⟨⟨rfl, rfl⟩, ⟨Nat.le_of_ble_eq_true rfl, Nat.le_of_ble_eq_true rfl⟩, (by dsimp only; omega), (by dsimp only; omega)⟩ rfl (Nat.le_of_ble_eq_true rfl) hW dX3_text_5) hS (fun q z w => absurd w (Nat.not_le.mpr z)) hn (fun r_4 H locs hR hz hk hS => ?_)
  have hU := fun q (hq : q < s.heap.size) => (hk q (Nat.lt_of_lt_of_le hq hZ) (Nat.not_le.mpr (Nat.lt_of_lt_of_le hq hZ))).trans (hU q hq)
  have hW := hW.new hk
  obtain ⟨z9_, f6⟩ := hR
  have zr_f6 : s.heap.size ≤ r_4 := Nat.le_trans hZ0_ z9_
  refine vx_ret ?_
  refine r_aret (pc := 8) E hr (Or.inl ⟨_, rfl⟩) hlk hS (by omega) (by omega) ?_ dX3_text_8
  exact ⟨(by first | assumption | (simp [xo, ek_2]; done)), zr_f6, f6⟩
