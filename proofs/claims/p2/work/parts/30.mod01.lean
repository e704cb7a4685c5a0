set_option maxHeartbeats 4000000 in
set_option maxRecDepth 100000 in
/-- BestratiosModel.bit(Z)I -/
theorem c_X5_bit (l : Launch) (D : va_G) (tk : Nat → ClassId) (N0 : Nat) (sa : Nat → Nat)  (sz : Nat) (b_ : Int32) : Met l yX5_bit (wsy yX5_bit cX5_bit 1 (some .int)) ({ frames := 0, cells := 0, slots := 0, locals := 0 } : Room) (cP D tk N0 sa [.int b_] sz (fun H => True)) (kQi (fun r H => r = m_bit b_) (nwA sz)) (0) (0) (nwA sz) := by
  refine mStart RX5 rfl (by decide +kernel) (Nat.le_of_ble_eq_true rfl) ?_
  intro p e s m args below meth c E hr hlk hnm hsz hC hF ls hl
  subst hsz
  obtain ⟨hx, hb, -⟩ := id E
  have hA : ∀ q, (nwA s.heap.size) q → N0 ≤ q := fun q h => Nat.le_trans hC.2.1 h
  have hn : ∀ q, s.heap.size ≤ q → (nwA s.heap.size) q := fun q h => h
  have hS : va_S (nwA s.heap.size) s.heap s.heap [] := va_S.rf
  have hl : lv_has ls 1 [(0, .int b_)] := hl
  refine lv_iload_n (pc := 0) hx hb dX5_bit_0 rfl (lv_at hl 0 rfl) ?_
  refine lv_if_eq (pc := 1) (tgt := 8) hx hb dX5_bit_1 (by decide) (fun c_1 => ?_) (fun c_1 => ?_)
  · refine lv_iconst (pc := 8) (v := 0) hx hb dX5_bit_8 (by decide) ?_
    refine r_iret (pc := 9) E hr hlk hS (by decide) (by decide) ?_ dX5_bit_9
    first | with_reducible rfl | (simp [m_bit, c_1, p_TB, p_TV, p_TC, p_TI, p_BT, p_BV, p_BC, p_BI, p_VT, p_VB, p_VC, p_VI, p_CT, p_CB, p_CV, p_CI, p_IT, p_IB, p_IV, p_IC, p_TT, p_BB, p_CC, p_II]; done)
  · refine lv_iconst (pc := 4) (v := 1) hx hb dX5_bit_4 (by decide) ?_
    refine lv_goto (pc := 5) (tgt := 9) hx hb dX5_bit_5 (by decide) ?_
    refine r_iret (pc := 9) E hr hlk hS (by decide) (by decide) ?_ dX5_bit_9
    first | with_reducible rfl | (simp [m_bit, c_1, p_TB, p_TV, p_TC, p_TI, p_BT, p_BV, p_BC, p_BI, p_VT, p_VB, p_VC, p_VI, p_CT, p_CB, p_CV, p_CI, p_IT, p_IB, p_IV, p_IC, p_TT, p_BB, p_CC, p_II]; done)
