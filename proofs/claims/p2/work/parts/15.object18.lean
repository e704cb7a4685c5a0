set_option maxHeartbeats 4000000 in
set_option maxRecDepth 100000 in
/-- Bestratios.part(II)I -/
theorem c_X3_part (l : Launch) (hlst : l.stackTraces = false) (D : va_G) (tk : Nat → ClassId) (N0 : Nat) (sa : Nat → Nat) {ad : Nat → Nat} (hAD : ADok N0 ad) (sz : Nat) (g : CS) (r_ : Int32) (w_ : Int32) : vx_Met l yX3_part (wsy yX3_part cX3_part 4 (some .int)) ({ frames := 7, cells := 2, slots := 12, locals := 112 } : Room) (cP D tk N0 sa [.ref (ad 15), .int r_, .int w_] sz (fun H => CW D tk ad g H)) (kQi (fun r H => xo (bR r_) (2 * bW w_ 0 3) = 0 ∧ r = (f_part g (nn r_) w_).toInt32) (nwA sz)) (kX (fun E => (E = "java/lang/IndexOutOfBoundsException" ∧ xo (bR r_) (2 * bW w_ 0 3) = 1) ∨ (E = "java/lang/IllegalArgumentException" ∧ xo (bR r_) (2 * bW w_ 0 3) = 2)) sz) (2) (12) (nwA sz) := by
  refine mStartX RX3 rfl (by decide +kernel) (Nat.le_of_ble_eq_true rfl) ?_
  intro p e s m args below meth c E hr hlk htb hsz hC hF ls hl
  subst hsz
  obtain ⟨hx, hb, -⟩ := id E
  have hA : ∀ q, (nwA s.heap.size) q → N0 ≤ q := fun q h => Nat.le_trans hC.2.1 h
  have hn : ∀ q, s.heap.size ≤ q → (nwA s.heap.size) q := fun q h => h
  have hS : va_S (nwA s.heap.size) s.heap s.heap [] := va_S.rf
  have hU : ∀ q, q < s.heap.size → s.heap[q]? = s.heap[q]? := fun _ _ => rfl
  have hl : lv_has ls 4 [(0, .ref (ad 15)), (1, .int r_), (2, .int w_)] := hl
  have hW : CW D tk ad g s.heap := hF
  refine lv_aload_n (pc := 0) hx hb dX3_part_0 rfl (lv_at hl 0 rfl) ?_
  refine lv_iload_n (pc := 1) hx hb dX3_part_1 rfl (lv_at hl 1 rfl) ?_
  have hZ := hS.1
  refine kx_r (pc := 2) (kx_V E hC hS hA hl.1 (c1.recv hC hW.obj rfl) rfl (c_X3_ratioAt l hlst D tk N0 sa hAD s.heap.size g r_ ) kw_809 kw_811 kp_15 kw_1 kw_812 (n := 1) (by decide +kernel) rfl ⟨⟨rfl, rfl⟩, ⟨by decide, by decide⟩, by decide, by decide⟩ rfl (Nat.le_of_ble_eq_true rfl) hW dX3_part_2) hS (fun q z w => absurd w (Nat.not_le.mpr z)) hn hlk htb hU (fun E9 h9 => by rcases h9 with ⟨rfl, h9⟩ <;> first | (simp [h9]; done) | (simp [xo, h9]; done)) ⟨by decide, by decide⟩ (fun r_1 H locs hR hz hk hS => ?_)
  have hU := fun q (hq : q < s.heap.size) => (hk q (Nat.lt_of_lt_of_le hq hZ) (Nat.not_le.mpr (Nat.lt_of_lt_of_le hq hZ))).trans (hU q hq)
  obtain ⟨ek_2, er_1⟩ := hR
  have hW := hW.new hk
  have hi_3 : nn r_ < 15 := Nat.lt_of_lt_of_le (bR_lt ek_2) (by decide)
  subst er_1
  refine lv_astore_n (pc := 5) (lv' := [(3, .ref (ad (nn r_))), (0, .ref (ad 15)), (1, .int r_), (2, .int w_)]) hx hb dX3_part_5 rfl hl (by decide) rfl (fun ls hl => ?_)
  refine lv_iload_n (pc := 6) hx hb dX3_part_6 rfl (lv_at hl 3 rfl) ?_
  refine lv_iconst (pc := 7) (v := 0) hx hb dX3_part_7 (by decide) ?_
  refine lv_iconst (pc := 8) (v := 3) hx hb dX3_part_8 (by decide) ?_
  have hZ := hS.1
  refine kx_v (pc := 9) (kx_S E hC hS hA hl.1 (c_X3_requireWithin l hlst D tk N0 sa H.size w_ 0 3 ) kw_851 kw_852 kw_1 kw_853 (n := 3) (by decide +kernel) rfl ⟨⟨rfl, rfl⟩, ⟨by decide, by decide⟩, by decide, by decide⟩ rfl (Nat.le_of_ble_eq_true rfl) trivial dX3_part_9) hS (fun q z w => absurd w (Nat.not_le.mpr z)) hn hlk htb hU (fun E9 h9 => by rcases h9 with ⟨rfl, h9⟩ <;> first | (simp [h9]; done) | (simp [xo, h9, ek_2]; done)) ⟨by decide, by decide⟩ (fun H locs hR hz hk hS => ?_)
  have hU := fun q (hq : q < s.heap.size) => (hk q (Nat.lt_of_lt_of_le hq hZ) (Nat.not_le.mpr (Nat.lt_of_lt_of_le hq hZ))).trans (hU q hq)
  have ek_5 := hR
  have hW := hW.new hk
  refine lv_aload_n (pc := 12) hx hb dX3_part_12 rfl (lv_at hl 0 rfl) ?_
  refine lv_iload_n (pc := 13) hx hb dX3_part_13 rfl (lv_at hl 3 rfl) ?_
  have hZ := hS.1
  refine k_l (pc := 14) (k_S E hC hS hA hl.1 (c_X3_partOf l D tk N0 sa hAD H.size g ((nn r_)) hi_3 w_ ) kw_690 kw_691 kw_1 kw_692 (n := 2) (by decide +kernel) rfl ⟨⟨rfl, rfl⟩, ⟨by decide, by decide⟩, by decide, by decide⟩ rfl (Nat.le_of_ble_eq_true rfl) hW dX3_part_14) hS (fun q z w => absurd w (Nat.not_le.mpr z)) hn (fun r_6 H locs hR hz hk hS => ?_)
  have hU := fun q (hq : q < s.heap.size) => (hk q (Nat.lt_of_lt_of_le hq hZ) (Nat.not_le.mpr (Nat.lt_of_lt_of_le hq hZ))).trans (hU q hq)
  have er_6 := hR
  have hW := hW.new hk
  refine lv_l2i (pc := 17) (v := r_6.toInt32) hx hb dX3_part_17 rfl ?_
  refine vx_ret ?_
  refine r_iret (pc := 18) E hr hlk hS (by decide) (by decide) ?_ dX3_part_18
  exact ⟨(by subst er_6; first | assumption | (simp [xo, ek_2, ek_5]; done)), (by subst er_6; first | with_reducible rfl | (simp [p_TB, p_TV, p_TC, p_TI, p_BT, p_BV, p_BC, p_BI, p_VT, p_VB, p_VC, p_VI, p_CT, p_CB, p_CV, p_CI, p_IT, p_IB, p_IV, p_IC, p_TT, p_BB, p_CC, p_II]; done) | rfl)⟩
