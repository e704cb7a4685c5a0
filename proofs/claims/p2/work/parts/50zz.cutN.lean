set_option maxHeartbeats 4000000 in
set_option maxRecDepth 100000 in
/-- Bestratios.cut(III)Ljava/lang/String; -/
theorem c_X3_cut_N (l : Launch) (hlst : l.stackTraces = false) (D : va_G) (tk : Nat → ClassId) (N0 : Nat) (sa : Nat → Nat) {ad : Nat → Nat} (hAD : ADok N0 ad) (sz : Nat) (g : CS) (r_ : Int32) (pl : Int32) (md : Int32) (hbw : ¬ bW pl 0 9 = 0) : vx_Met l yX3_cut (wsy yX3_cut cX3_cut 6 (some (.object "java/lang/String"))) ({ frames := 7, cells := 2, slots := 12, locals := 112 } : Room) (cP D tk N0 sa [.ref (ad 15), .int r_, .int pl, .int md] sz (fun H => CW D tk ad g H)) (kQr (fun r H => xo (bR r_) (xo (2 * bW pl 0 9) (2 * bW md 0 4)) = 0 ∧ sz ≤ r ∧ SX D tk r (0) H) (nwA sz)) (kX (fun E => (E = "java/lang/IndexOutOfBoundsException" ∧ xo (bR r_) (xo (2 * bW pl 0 9) (2 * bW md 0 4)) = 1) ∨ (E = "java/lang/IllegalArgumentException" ∧ xo (bR r_) (xo (2 * bW pl 0 9) (2 * bW md 0 4)) = 2)) sz) (2) (12) (nwA sz) := by
  refine mStartX RX3 rfl (by decide +kernel) (Nat.le_of_ble_eq_true rfl) ?_
  intro p e s m args below meth c E hr hlk htb hsz hC hF ls hl
  subst hsz
  obtain ⟨hx, hb, -⟩ := id E
  have hA : ∀ q, (nwA s.heap.size) q → N0 ≤ q := fun q h => Nat.le_trans hC.2.1 h
  have hn : ∀ q, s.heap.size ≤ q → (nwA s.heap.size) q := fun q h => h
  have hS : va_S (nwA s.heap.size) s.heap s.heap [] := va_S.rf
  have hU : ∀ q, q < s.heap.size → s.heap[q]? = s.heap[q]? := fun _ _ => rfl
  have hl : lv_has ls 6 [(0, .ref (ad 15)), (1, .int r_), (2, .int pl), (3, .int md)] := hl
  have hW : CW D tk ad g s.heap := hF
  refine lv_aload_n (pc := 0) hx hb dX3_cut_0 rfl (lv_at hl 0 rfl) ?_
  refine lv_iload_n (pc := 1) hx hb dX3_cut_1 rfl (lv_at hl 1 rfl) ?_
  have hZ := hS.1
  refine kx_r (pc := 2) (kx_V E hC hS hA hl.1 (c1.recv hC hW.obj rfl) rfl (c_X3_ratioAt l hlst D tk N0 sa hAD s.heap.size g r_ ) kw_809 kw_811 kp_15 kw_1 kw_812 (n := 1) (by decide +kernel) rfl ⟨⟨rfl, rfl⟩, ⟨Nat.le_of_ble_eq_true rfl, Nat.le_of_ble_eq_true rfl⟩, (by dsimp only; omega), (by dsimp only; omega)⟩ rfl (Nat.le_of_ble_eq_true rfl) hW dX3_cut_2) hS (fun q z w => absurd w (Nat.not_le.mpr z)) hn hlk htb hU (fun E9 h9 => by rcases h9 with ⟨rfl, h9⟩ <;> first | (simp [h9]; done) | (simp [xo, h9]; done)) ⟨by (try dsimp only); omega, by (try dsimp only); omega⟩ (fun r_1 H locs hR hz hk hS => ?_)
  have hU := fun q (hq : q < s.heap.size) => (hk q (Nat.lt_of_lt_of_le hq hZ) (Nat.not_le.mpr (Nat.lt_of_lt_of_le hq hZ))).trans (hU q hq)
  obtain ⟨ek_2, er_1⟩ := hR
  have hW := hW.new hk
  have hi_3 : nn r_ < 15 := Nat.lt_of_lt_of_le (bR_lt ek_2) (by decide)
  subst er_1
  refine lv_astore (pc := 5) (lv' := [(4, .ref (ad (nn r_))), (0, .ref (ad 15)), (1, .int r_), (2, .int pl), (3, .int md)]) hx hb dX3_cut_5 hl (by decide) rfl (fun ls hl => ?_)
  refine lv_iload_n (pc := 7) hx hb dX3_cut_7 rfl (lv_at hl 3 rfl) ?_
  refine lv_iconst (pc := 8) (v := 0) hx hb dX3_cut_8 (by decide) ?_
  refine lv_bipush (pc := 9) (v := 9) hx hb dX3_cut_9 (by decide) ?_
  have hZ := hS.1
  refine kx_v (pc := 11) (kx_S E hC hS hA hl.1 (c_X3_requireWithin l hlst D tk N0 sa H.size pl 0 9 ) kw_851 kw_852 kw_1 kw_853 (n := 3) (by decide +kernel) rfl ⟨⟨rfl, rfl⟩, ⟨Nat.le_of_ble_eq_true rfl, Nat.le_of_ble_eq_true rfl⟩, (by dsimp only; omega), (by dsimp only; omega)⟩ rfl (Nat.le_of_ble_eq_true rfl) trivial dX3_cut_11) hS (fun q z w => absurd w (Nat.not_le.mpr z)) hn hlk htb hU (fun E9 h9 => by rcases h9 with ⟨rfl, h9⟩ <;> first | (simp [h9]; done) | (simp [xo, h9, ek_2]; done)) ⟨by (try dsimp only); omega, by (try dsimp only); omega⟩ (fun H locs hR hz hk hS => ?_)
  have hU := fun q (hq : q < s.heap.size) => (hk q (Nat.lt_of_lt_of_le hq hZ) (Nat.not_le.mpr (Nat.lt_of_lt_of_le hq hZ))).trans (hU q hq)
  have ek_5 := hR
  have hW := hW.new hk
  exact absurd ek_5 hbw
