set_option maxHeartbeats 4000000 in
set_option maxRecDepth 100000 in
/-- Bestratios.putDecimal(III)I -/
theorem c_X3_putDecimal (l : Launch) (hlst : l.stackTraces = false) (D : va_G) (tk : Nat → ClassId) (N0 : Nat) (sa : Nat → Nat) {ad : Nat → Nat} (hAD : ADok N0 ad) (sz : Nat) (g : CS) (r_ : Int32) (nb : Int32) (pl : Int32) : vx_Met l yX3_putDecimal (wsy yX3_putDecimal cX3_putDecimal 5 (some .int)) ({ frames := 7, cells := 2, slots := 12, locals := 112 } : Room) (cP D tk N0 sa [.ref (ad 15), .int r_, .int nb, .int pl] sz (fun H => CW D tk ad g H)) (kQi (fun r H => xo (bR r_) (2 * bW pl 0 9) = 0 ∧ r = f_setR (f_become g 6 nb.toInt64 (f_p10 pl)) (nn r_) ∧ CW D tk ad (f_setW (f_become g 6 nb.toInt64 (f_p10 pl)) (nn r_)) H) (cwA ad sz)) (kX (fun E => (E = "java/lang/IndexOutOfBoundsException" ∧ xo (bR r_) (2 * bW pl 0 9) = 1) ∨ (E = "java/lang/IllegalArgumentException" ∧ xo (bR r_) (2 * bW pl 0 9) = 2)) sz) (2) (12) (cwA ad sz) := by
  refine mStartX RX3 rfl (by decide +kernel) (Nat.le_of_ble_eq_true rfl) ?_
  intro p e s m args below meth c E hr hlk htb hsz hC hF ls hl
  subst hsz
  obtain ⟨hx, hb, -⟩ := id E
  have hA : ∀ q, (cwA ad s.heap.size) q → N0 ≤ q := cwA.ge hAD hC.2.1
  have hn : ∀ q, s.heap.size ≤ q → (cwA ad s.heap.size) q := fun q h => Or.inr h
  have hS : va_S (cwA ad s.heap.size) s.heap s.heap [] := va_S.rf
  have hU : ∀ q, q < s.heap.size → s.heap[q]? = s.heap[q]? := fun _ _ => rfl
  have hl : lv_has ls 5 [(0, .ref (ad 15)), (1, .int r_), (2, .int nb), (3, .int pl)] := hl
  have hW : CW D tk ad g s.heap := hF
  refine lv_aload_n (pc := 0) hx hb dX3_putDecimal_0 rfl (lv_at hl 0 rfl) ?_
  refine lv_iload_n (pc := 1) hx hb dX3_putDecimal_1 rfl (lv_at hl 1 rfl) ?_
  have hZ := hS.1
  refine kx_r (pc := 2) (kx_V E hC hS hA hl.1 (c1.recv hC hW.obj rfl) rfl (c_X3_ratioAt l hlst D tk N0 sa hAD s.heap.size g r_ ) kw_809 kw_811 kp_15 kw_1 kw_812 (n := 1) (by decide +kernel) rfl ⟨⟨rfl, rfl⟩, ⟨by decide, by decide⟩, by decide, by decide⟩ rfl (Nat.le_of_ble_eq_true rfl) hW dX3_putDecimal_2) hS (fun q z w => absurd w (Nat.not_le.mpr z)) hn hlk htb hU (fun E9 h9 => by rcases h9 with ⟨rfl, h9⟩ <;> first | (simp [h9]; done) | (simp [xo, h9]; done)) ⟨by decide, by decide⟩ (fun r_1 H locs hR hz hk hS => ?_)
  have hU := fun q (hq : q < s.heap.size) => (hk q (Nat.lt_of_lt_of_le hq hZ) (Nat.not_le.mpr (Nat.lt_of_lt_of_le hq hZ))).trans (hU q hq)
  obtain ⟨ek_2, er_1⟩ := hR
  have hW := hW.new hk
  have hi_3 : nn r_ < 15 := Nat.lt_of_lt_of_le (bR_lt ek_2) (by decide)
  subst er_1
  refine lv_astore (pc := 5) (lv' := [(4, .ref (ad (nn r_))), (0, .ref (ad 15)), (1, .int r_), (2, .int nb), (3, .int pl)]) hx hb dX3_putDecimal_5 hl (by decide) rfl (fun ls hl => ?_)
  refine lv_iload_n (pc := 7) hx hb dX3_putDecimal_7 rfl (lv_at hl 4 rfl) ?_
  refine lv_iconst (pc := 8) (v := 0) hx hb dX3_putDecimal_8 (by decide) ?_
  refine lv_bipush (pc := 9) (v := 9) hx hb dX3_putDecimal_9 (by decide) ?_
  have hZ := hS.1
  refine kx_v (pc := 11) (kx_S E hC hS hA hl.1 (c_X3_requireWithin l hlst D tk N0 sa H.size pl 0 9 ) kw_851 kw_852 kw_1 kw_853 (n := 3) (by decide +kernel) rfl ⟨⟨rfl, rfl⟩, ⟨by decide, by decide⟩, by decide, by decide⟩ rfl (Nat.le_of_ble_eq_true rfl) trivial dX3_putDecimal_11) hS (fun q z w => absurd w (Nat.not_le.mpr z)) hn hlk htb hU (fun E9 h9 => by rcases h9 with ⟨rfl, h9⟩ <;> first | (simp [h9]; done) | (simp [xo, h9, ek_2]; done)) ⟨by decide, by decide⟩ (fun H locs hR hz hk hS => ?_)
  have hU := fun q (hq : q < s.heap.size) => (hk q (Nat.lt_of_lt_of_le hq hZ) (Nat.not_le.mpr (Nat.lt_of_lt_of_le hq hZ))).trans (hU q hq)
  have ek_5 := hR
  have hW := hW.new hk
  refine lv_aload_n (pc := 14) hx hb dX3_putDecimal_14 rfl (lv_at hl 1 rfl) ?_
  refine r_get (pc := 15) E hC hW.obj 5 (v := .ref (ad 6)) rfl rfl (by decide) uX3 (List.mem_cons_of_mem _ kw_119) (fun _ h => h) dX3_putDecimal_15 ?_
  refine lv_iload_n (pc := 18) hx hb dX3_putDecimal_18 rfl (lv_at hl 3 rfl) ?_
  refine lv_i2l (pc := 19) (v := nb.toInt64) hx hb dX3_putDecimal_19 rfl ?_
  refine lv_iload_n (pc := 20) hx hb dX3_putDecimal_20 rfl (lv_at hl 4 rfl) ?_
  have hZ := hS.1
  refine k_l (pc := 21) (k_S E hC hS hA hl.1 (c_X3_powerOfTen l D tk N0 sa H.size pl ) kw_532 kw_533 kw_1 kw_534 (n := 1) (by decide +kernel) rfl ⟨⟨rfl, rfl⟩, ⟨by decide, by decide⟩, by decide, by decide⟩ rfl (Nat.le_of_ble_eq_true rfl) trivial dX3_putDecimal_21) hS (fun q z w => absurd w (Nat.not_le.mpr z)) hn (fun r_6 H locs hR hz hk hS => ?_)
  have hU := fun q (hq : q < s.heap.size) => (hk q (Nat.lt_of_lt_of_le hq hZ) (Nat.not_le.mpr (Nat.lt_of_lt_of_le hq hZ))).trans (hU q hq)
  have er_6 := hR
  have hW := hW.new hk
  refine k_v (pc := 24) (k_V E hC hS hA hl.1 (c1.recv hC (hW.fr (i := 6) (by decide)) rfl) rfl (c_X0_become l D tk N0 sa hAD H.size g 6 (by decide) nb.toInt64 r_6 ) kw_829 kw_495 kw_496 kw_2 kw_497 (n := 2) (by decide +kernel) rfl ⟨⟨rfl, rfl⟩, ⟨by decide, by decide⟩, by decide, by decide⟩ rfl (Nat.le_of_ble_eq_true rfl) hW dX3_putDecimal_24) hS (fun q _ w => cwA.go hS.1 q w) hn (fun H locs hR hz hk hS => ?_)
  have hW := hR
  obtain ⟨g_10, eg_10⟩ : ∃ z, z = f_become g 6 nb.toInt64 r_6 := ⟨_, rfl⟩
  rw [← eg_10] at hW
  refine lv_aload_n (pc := 27) hx hb dX3_putDecimal_27 rfl (lv_at hl 1 rfl) ?_
  refine lv_aload (pc := 28) hx hb dX3_putDecimal_28 (lv_at hl 0 rfl) ?_
  refine k_i (pc := 30) (k_V E hC hS hA hl.1 (c1.recv hC hW.obj rfl) rfl (c_X3_settle l D tk N0 sa hAD H.size g_10 ((nn r_)) hi_3 ) kw_830 kw_832 kp_16 kw_1 kw_833 (n := 1) (by decide +kernel) rfl ⟨⟨rfl, rfl⟩, ⟨by decide, by decide⟩, by decide, by decide⟩ rfl (Nat.le_of_ble_eq_true rfl) hW dX3_putDecimal_30) hS (fun q _ w => cwA.go hS.1 q w) hn (fun r_11 H locs hR hz hk hS => ?_)
  obtain ⟨er_11, hW⟩ := hR
  obtain ⟨g_13, eg_13⟩ : ∃ z, z = f_setW g_10 ((nn r_)) := ⟨_, rfl⟩
  rw [← eg_13] at hW
  refine vx_ret ?_
  refine r_iret (pc := 33) E hr hlk hS (by decide) (by decide) ?_ dX3_putDecimal_33
  exact ⟨(by subst er_6 eg_10 eg_13 er_11; first | assumption | (simp [xo, ek_2, ek_5]; done)), (by subst er_6 eg_10 eg_13 er_11; first | with_reducible rfl | (simp [p_TB, p_TV, p_TC, p_TI, p_BT, p_BV, p_BC, p_BI, p_VT, p_VB, p_VC, p_VI, p_CT, p_CB, p_CV, p_CI, p_IT, p_IB, p_IV, p_IC, p_TT, p_BB, p_CC, p_II]; done) | rfl), hW.to (by subst er_6 eg_10 eg_13 er_11; first | with_reducible rfl | (simp [p_TB, p_TV, p_TC, p_TI, p_BT, p_BV, p_BC, p_BI, p_VT, p_VB, p_VC, p_VI, p_CT, p_CB, p_CV, p_CI, p_IT, p_IB, p_IV, p_IC, p_TT, p_BB, p_CC, p_II]; done) | rfl)⟩
