set_option maxHeartbeats 4000000 in
set_option maxRecDepth 100000 in
/-- BestratiosModel.isNo(I)Z -/
theorem c_X5_isNo (l : Launch) (D : va_G) (tk : Nat → ClassId) (N0 : Nat) (sa : Nat → Nat)  (sz : Nat) (v_ : Int32) : Met l yX5_isNo (wsy yX5_isNo cX5_isNo 1 (some .boolean)) ({ frames := 1, cells := 0, slots := 0, locals := 22 } : Room) (cP D tk N0 sa [.int v_] sz (fun H => True)) (kQi (fun r H => r = m_isNo v_) (nwA sz)) (0) (0) (nwA sz) := by
  refine mStart RX5 rfl (by decide +kernel) (Nat.le_of_ble_eq_true rfl) ?_
  intro p e s m args below meth c E hr hlk hnm hsz hC hF ls hl
  subst hsz
  obtain ⟨hx, hb, -⟩ := id E
  have hA : ∀ q, (nwA s.heap.size) q → N0 ≤ q := fun q h => Nat.le_trans hC.2.1 h
  have hn : ∀ q, s.heap.size ≤ q → (nwA s.heap.size) q := fun q h => h
  have hS : va_S (nwA s.heap.size) s.heap s.heap [] := va_S.rf
  have hl : lv_has ls 1 [(0, .int v_)] := hl
  refine lv_iload_n (pc := 0) hx hb dX5_isNo_0 rfl (lv_at hl 0 rfl) ?_
  refine lv_iconst (pc := 1) (v := 0) hx hb dX5_isNo_1 (by decide) ?_
  refine lv_iconst (pc := 2) (v := 5) hx hb dX5_isNo_2 (by decide) ?_
  refine k_i (pc := 3) (k_S E hC hS hA hl.1 (c_X5_isIn l D tk N0 sa s.heap.size v_ 0 5 ) kw_1248 kw_1249 kw_5 kw_1250 (n := 3) (by decide +kernel) rfl ⟨⟨rfl, rfl⟩, ⟨by decide, by decide⟩, by decide, by decide⟩ rfl (Nat.le_of_ble_eq_true rfl) trivial dX5_isNo_3) hS (fun q z w => absurd w (Nat.not_le.mpr z)) hn (fun r_1 H locs hR hz hk hS => ?_)
  have er_1 := hR
  refine lv_if_ne (pc := 6) (tgt := 13) hx hb dX5_isNo_6 (by decide) (fun c_3 => ?_) (fun c_3 => ?_)
  · refine lv_iconst (pc := 13) (v := 0) hx hb dX5_isNo_13 (by decide) ?_
    refine r_zret (pc := 14) E hr hlk hS (by decide) (by decide) rfl ?_ dX5_isNo_14
    subst er_1; first | with_reducible rfl | (simp [m_isNo, c_3, p_TB, p_TV, p_TC, p_TI, p_BT, p_BV, p_BC, p_BI, p_VT, p_VB, p_VC, p_VI, p_CT, p_CB, p_CV, p_CI, p_IT, p_IB, p_IV, p_IC, p_TT, p_BB, p_CC, p_II]; done)
  · refine lv_iconst (pc := 9) (v := 1) hx hb dX5_isNo_9 (by decide) ?_
    refine lv_goto (pc := 10) (tgt := 14) hx hb dX5_isNo_10 (by decide) ?_
    refine r_zret (pc := 14) E hr hlk hS (by decide) (by decide) rfl ?_ dX5_isNo_14
    subst er_1; first | with_reducible rfl | (simp [m_isNo, c_3, p_TB, p_TV, p_TC, p_TI, p_BT, p_BV, p_BC, p_BI, p_VT, p_VB, p_VC, p_VI, p_CT, p_CB, p_CV, p_CI, p_IT, p_IB, p_IV, p_IC, p_TT, p_BB, p_CC, p_II]; done)
