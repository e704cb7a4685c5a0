set_option maxHeartbeats 4000000 in
set_option maxRecDepth 100000 in
/-- Bestratios.lower(III)I -/
theorem c_X3_lower (l : Launch) (hlst : l.stackTraces = false) (D : va_G) (tk : Nat → ClassId) (N0 : Nat) (sa : Nat → Nat) {ad : Nat → Nat} (hAD : ADok N0 ad) (sz : Nat) (g : CS) (r_ : Int32) (q_ : Int32) (n_ : Int32) : vx_Met l yX3_lower (wsy yX3_lower cX3_lower 4 (some .int)) ({ frames := 8, cells := 3, slots := 18, locals := 138 } : Room) (cP D tk N0 sa [.ref (ad 15), .int r_, .int q_, .int n_] sz (fun H => CW D tk ad g H)) (kQi (fun r H => xo (bR r_) (xo (bR q_) (2 * bW n_ 1 200)) = 0 ∧ r = f_setR (f_nb g 6 (nn q_) n_ 1) (nn r_) ∧ CW D tk ad (f_setW (f_nb g 6 (nn q_) n_ 1) (nn r_)) H) (cwA ad sz)) (kX (fun E => (E = "java/lang/IndexOutOfBoundsException" ∧ xo (bR r_) (xo (bR q_) (2 * bW n_ 1 200)) = 1) ∨ (E = "java/lang/IllegalArgumentException" ∧ xo (bR r_) (xo (bR q_) (2 * bW n_ 1 200)) = 2)) sz) (3) (18) (cwA ad sz) := by
  refine mStartX RX3 rfl (by decide +kernel) (Nat.le_of_ble_eq_true rfl) ?_
  intro p e s m args below meth c E hr hlk htb hsz hC hF ls hl
  subst hsz
  obtain ⟨hx, hb, -⟩ := id E
  have hA : ∀ q, (cwA ad s.heap.size) q → N0 ≤ q := cwA.ge hAD hC.2.1
  have hn : ∀ q, s.heap.size ≤ q → (cwA ad s.heap.size) q := fun q h => Or.inr h
  have hS : va_S (cwA ad s.heap.size) s.heap s.heap [] := va_S.rf
  have hU : ∀ q, q < s.heap.size → s.heap[q]? = s.heap[q]? := fun _ _ => rfl
  have hl : lv_has ls 4 [(0, .ref (ad 15)), (1, .int r_), (2, .int q_), (3, .int n_)] := hl
  have hW : CW D tk ad g s.heap := hF
  refine lv_aload_n (pc := 0) hx hb dX3_lower_0 rfl (lv_at hl 0 rfl) ?_
  refine lv_iload_n (pc := 1) hx hb dX3_lower_1 rfl (lv_at hl 1 rfl) ?_
  refine lv_iload_n (pc := 2) hx hb dX3_lower_2 rfl (lv_at hl 2 rfl) ?_
  refine lv_iload_n (pc := 3) hx hb dX3_lower_3 rfl (lv_at hl 3 rfl) ?_
  refine lv_iconst (pc := 4) (v := 1) hx hb dX3_lower_4 (by decide) ?_
  have hZ := hS.1
  refine kx_i (pc := 5) (kx_V E hC hS hA hl.1 (c1.recv hC hW.obj rfl) rfl (c_X3_takeNeighbour l hlst D tk N0 sa hAD s.heap.size g r_ q_ n_ 1 ) kw_1049 kw_1051 kp_18 kw_1 kw_1052 (n := 4) (by decide +kernel) rfl ⟨⟨rfl, rfl⟩, ⟨by decide, by decide⟩, by decide, by decide⟩ rfl (Nat.le_of_ble_eq_true rfl) hW dX3_lower_5) hS (fun q _ w => cwA.go hS.1 q w) hn hlk htb hU (fun E9 h9 => by rcases h9 with ⟨rfl, h9⟩ | ⟨rfl, h9⟩ <;> first | (simp [h9]; done) | (simp [xo, h9]; done)) ⟨by decide, by decide⟩ (fun r_1 H locs hR hz hk hS => ?_)
  obtain ⟨ek_2, er_1, hW⟩ := hR
  obtain ⟨g_3, eg_3⟩ : ∃ z, z = f_setW (f_nb g 6 (nn q_) n_ 1) (nn r_) := ⟨_, rfl⟩
  rw [← eg_3] at hW
  refine vx_ret ?_
  refine r_iret (pc := 8) E hr hlk hS (by decide) (by decide) ?_ dX3_lower_8
  exact ⟨(by subst eg_3 er_1; first | assumption | (simp [xo, ek_2]; done)), (by subst eg_3 er_1; first | with_reducible rfl | (simp [p_TB, p_TV, p_TC, p_TI, p_BT, p_BV, p_BC, p_BI, p_VT, p_VB, p_VC, p_VI, p_CT, p_CB, p_CV, p_CI, p_IT, p_IB, p_IV, p_IC, p_TT, p_BB, p_CC, p_II]; done) | rfl), hW.to (by subst eg_3 er_1; first | with_reducible rfl | (simp [p_TB, p_TV, p_TC, p_TI, p_BT, p_BV, p_BC, p_BI, p_VT, p_VB, p_VC, p_VI, p_CT, p_CB, p_CV, p_CI, p_IT, p_IB, p_IV, p_IC, p_TT, p_BB, p_CC, p_II]; done) | rfl)⟩
