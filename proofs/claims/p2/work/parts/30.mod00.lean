set_option maxHeartbeats 4000000 in
set_option maxRecDepth 100000 in
/-- BestratiosModel.isIn(III)Z -/
theorem c_X5_isIn (l : Launch) (D : va_G) (tk : Nat → ClassId) (N0 : Nat) (sa : Nat → Nat)  (sz : Nat) (v_ : Int32) (lo : Int32) (hi_ : Int32) : Met l yX5_isIn (wsy yX5_isIn cX5_isIn 3 (some .boolean)) ({ frames := 0, cells := 0, slots := 0, locals := 0 } : Room) (cP D tk N0 sa [.int v_, .int lo, .int hi_] sz (fun H => True)) (kQi (fun r H => r = m_isIn v_ lo hi_) (nwA sz)) (0) (0) (nwA sz) := by
  refine mStart RX5 rfl (by decide +kernel) (Nat.le_of_ble_eq_true rfl) ?_
  intro p e s m args below meth c E hr hlk hnm hsz hC hF ls hl
  subst hsz
  obtain ⟨hx, hb, -⟩ := id E
  have hA : ∀ q, (nwA s.heap.size) q → N0 ≤ q := fun q h => Nat.le_trans hC.2.1 h
  have hn : ∀ q, s.heap.size ≤ q → (nwA s.heap.size) q := fun q h => h
  have hS : va_S (nwA s.heap.size) s.heap s.heap [] := va_S.rf
  have hl : lv_has ls 3 [(0, .int v_), (1, .int lo), (2, .int hi_)] := hl
  refine lv_iload_n (pc := 0) hx hb dX5_isIn_0 rfl (lv_at hl 0 rfl) ?_
  refine lv_iload_n (pc := 1) hx hb dX5_isIn_1 rfl (lv_at hl 1 rfl) ?_
  refine lv_icmp_lt (pc := 2) (tgt := 14) hx hb dX5_isIn_2 (by decide) (fun c_1 => ?_) (fun c_1 => ?_)
  · refine lv_iconst (pc := 14) (v := 0) hx hb dX5_isIn_14 (by decide) ?_
    refine r_zret (pc := 15) E hr hlk hS (by decide) (by decide) rfl ?_ dX5_isIn_15
    first | with_reducible rfl | (simp [m_isIn, c_1, Int32.not_le.mpr c_1, p_TB, p_TV, p_TC, p_TI, p_BT, p_BV, p_BC, p_BI, p_VT, p_VB, p_VC, p_VI, p_CT, p_CB, p_CV, p_CI, p_IT, p_IB, p_IV, p_IC, p_TT, p_BB, p_CC, p_II]; done)
  · refine lv_iload_n (pc := 5) hx hb dX5_isIn_5 rfl (lv_at hl 0 rfl) ?_
    refine lv_iload_n (pc := 6) hx hb dX5_isIn_6 rfl (lv_at hl 2 rfl) ?_
    refine lv_icmp_gt (pc := 7) (tgt := 14) hx hb dX5_isIn_7 (by decide) (fun c_2 => ?_) (fun c_2 => ?_)
    · refine lv_iconst (pc := 14) (v := 0) hx hb dX5_isIn_14 (by decide) ?_
      refine r_zret (pc := 15) E hr hlk hS (by decide) (by decide) rfl ?_ dX5_isIn_15
      first | with_reducible rfl | (simp [m_isIn, c_1, Int32.not_lt.mp c_1, c_2, Int32.not_le.mpr c_2, p_TB, p_TV, p_TC, p_TI, p_BT, p_BV, p_BC, p_BI, p_VT, p_VB, p_VC, p_VI, p_CT, p_CB, p_CV, p_CI, p_IT, p_IB, p_IV, p_IC, p_TT, p_BB, p_CC, p_II]; done)
    · refine lv_iconst (pc := 10) (v := 1) hx hb dX5_isIn_10 (by decide) ?_
      refine lv_goto (pc := 11) (tgt := 15) hx hb dX5_isIn_11 (by decide) ?_
      refine r_zret (pc := 15) E hr hlk hS (by decide) (by decide) rfl ?_ dX5_isIn_15
      first | with_reducible rfl | (simp [m_isIn, c_1, Int32.not_lt.mp c_1, c_2, Int32.not_lt.mp c_2, p_TB, p_TV, p_TC, p_TI, p_BT, p_BV, p_BC, p_BI, p_VT, p_VB, p_VC, p_VI, p_CT, p_CB, p_CV, p_CI, p_IT, p_IB, p_IV, p_IC, p_TT, p_BB, p_CC, p_II]; done)
