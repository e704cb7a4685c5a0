set_option maxHeartbeats 4000000 in
set_option maxRecDepth 100000 in
/-- Bestratios.depth(I)I -/
theorem c_X3_depth (l : Launch) (hlst : l.stackTraces = false) (D : va_G) (tk : Nat → ClassId) (N0 : Nat) (sa : Nat → Nat) {ad : Nat → Nat} (hAD : ADok N0 ad) (sz : Nat) (g : CS) (r_ : Int32) : vx_Met l yX3_depth (wsy yX3_depth cX3_depth 2 (some .int)) ({ frames := 7, cells := 1, slots := 6, locals := 111 } : Room) (cP D tk N0 sa [.ref (ad 15), .int r_] sz (fun H => CW D tk ad g H)) (kQi (fun r H => bR r_ = 0 ∧ r = (f_depR g (nn r_)).toInt32 ∧ CW D tk ad (f_depW g (nn r_)) H) (cwA ad sz)) (kX (fun E => (E = "java/lang/IndexOutOfBoundsException" ∧ bR r_ = 1)) sz) (1) (6) (cwA ad sz) := by
  refine mStartX RX3 rfl (by decide +kernel) (Nat.le_of_ble_eq_true rfl) ?_
  intro p e s m args below meth c E hr hlk htb hsz hC hF ls hl
  subst hsz
  obtain ⟨hx, hb, -⟩ := id E
  have hA : ∀ q, (cwA ad s.heap.size) q → N0 ≤ q := cwA.ge hAD hC.2.1
  have hn : ∀ q, s.heap.size ≤ q → (cwA ad s.heap.size) q := fun q h => Or.inr h
  have hS : va_S (cwA ad s.heap.size) s.heap s.heap [] := va_S.rf
  have hU : ∀ q, q < s.heap.size → s.heap[q]? = s.heap[q]? := fun _ _ => rfl
  have hl : lv_has ls 2 [(0, .ref (ad 15)), (1, .int r_)] := hl
  have hW : CW D tk ad g s.heap := hF
  refine lv_aload_n (pc := 0) hx hb dX3_depth_0 rfl (lv_at hl 0 rfl) ?_
  refine lv_aload_n (pc := 1) hx hb dX3_depth_1 rfl (lv_at hl 0 rfl) ?_
  refine lv_iload_n (pc := 2) hx hb dX3_depth_2 rfl (lv_at hl 1 rfl) ?_
  have hZ := hS.1
  refine kx_r (pc := 3) (kx_V E hC hS hA hl.1 (c1.recv hC hW.obj rfl) rfl (c_X3_ratioAt l hlst D tk N0 sa hAD s.heap.size g r_ ) kw_809 kw_811 kp_15 kw_1 kw_812 (n := 1) (by decide +kernel) rfl ⟨⟨rfl, rfl⟩, ⟨by decide, by decide⟩, by decide, by decide⟩ rfl (Nat.le_of_ble_eq_true rfl) hW dX3_depth_3) hS (fun q z w => absurd w (Nat.not_le.mpr z)) hn hlk htb hU (fun E9 h9 => by rcases h9 with ⟨rfl, h9⟩ <;> first | (simp [h9]; done) | (simp [xo, h9]; done)) ⟨by decide, by decide⟩ (fun r_1 H locs hR hz hk hS => ?_)
  have hU := fun q (hq : q < s.heap.size) => (hk q (Nat.lt_of_lt_of_le hq hZ) (Nat.not_le.mpr (Nat.lt_of_lt_of_le hq hZ))).trans (hU q hq)
  obtain ⟨ek_2, er_1⟩ := hR
  have hW := hW.new hk
  have hi_3 : nn r_ < 15 := Nat.lt_of_lt_of_le (bR_lt ek_2) (by decide)
  subst er_1
  refine k_l (pc := 6) (k_V E hC hS hA hl.1 (c1.recv hC hW.obj rfl) rfl (c_X3_depthOf l D tk N0 sa hAD H.size g ((nn r_)) hi_3 ) kw_694 kw_696 kp_11 kw_1 kw_697 (n := 1) (by decide +kernel) rfl ⟨⟨rfl, rfl⟩, ⟨by decide, by decide⟩, by decide, by decide⟩ rfl (Nat.le_of_ble_eq_true rfl) hW dX3_depth_6) hS (fun q _ w => cwA.go hS.1 q w) hn (fun r_4 H locs hR hz hk hS => ?_)
  obtain ⟨er_4, hW⟩ := hR
  obtain ⟨g_6, eg_6⟩ : ∃ z, z = f_depW g ((nn r_)) := ⟨_, rfl⟩
  rw [← eg_6] at hW
  refine lv_l2i (pc := 9) (v := r_4.toInt32) hx hb dX3_depth_9 rfl ?_
  refine vx_ret ?_
  refine r_iret (pc := 10) E hr hlk hS (by decide) (by decide) ?_ dX3_depth_10
  exact ⟨(by subst eg_6 er_4; first | assumption | (simp [xo, ek_2]; done)), (by subst eg_6 er_4; first | with_reducible rfl | (simp [p_TB, p_TV, p_TC, p_TI, p_BT, p_BV, p_BC, p_BI, p_VT, p_VB, p_VC, p_VI, p_CT, p_CB, p_CV, p_CI, p_IT, p_IB, p_IV, p_IC, p_TT, p_BB, p_CC, p_II]; done) | rfl), hW.to (by subst eg_6 er_4; first | with_reducible rfl | (simp [p_TB, p_TV, p_TC, p_TI, p_BT, p_BV, p_BC, p_BI, p_VT, p_VB, p_VC, p_VI, p_CT, p_CB, p_CV, p_CI, p_IT, p_IB, p_IV, p_IC, p_TT, p_BB, p_CC, p_II]; done) | rfl)⟩
