set_option maxHeartbeats 4000000 in
set_option maxRecDepth 100000 in
/-- BestratiosModel.areNo(II)Z -/
theorem c_X5_areNo (l : Launch) (D : va_G) (tk : Nat → ClassId) (N0 : Nat) (sa : Nat → Nat)  (sz : Nat) (a_ : Int32) (b_ : Int32) : Met l yX5_areNo (wsy yX5_areNo cX5_areNo 2 (some .boolean)) ({ frames := 2, cells := 0, slots := 0, locals := 42 } : Room) (cP D tk N0 sa [.int a_, .int b_] sz (fun H => True)) (kQi (fun r H => r = m_areNo a_ b_) (nwA sz)) (0) (0) (nwA sz) := by
  refine mStart RX5 rfl (by decide +kernel) (Nat.le_of_ble_eq_true rfl) ?_
  intro p e s m args below meth c E hr hlk hnm hsz hC hF ls hl
  subst hsz
  obtain ⟨hx, hb, -⟩ := id E
  have hA : ∀ q, (nwA s.heap.size) q → N0 ≤ q := fun q h => Nat.le_trans hC.2.1 h
  have hn : ∀ q, s.heap.size ≤ q → (nwA s.heap.size) q := fun q h => h
  have hS : va_S (nwA s.heap.size) s.heap s.heap [] := va_S.rf
  have hl : lv_has ls 2 [(0, .int a_), (1, .int b_)] := hl
  refine lv_iload_n (pc := 0) hx hb dX5_areNo_0 rfl (lv_at hl 0 rfl) ?_
  refine k_i (pc := 1) (k_S E hC hS hA hl.1 (c_X5_isNo l D tk N0 sa s.heap.size a_ ) kw_1245 kw_1246 kw_5 kw_1247 (n := 1) (by decide +kernel) rfl ⟨⟨rfl, rfl⟩, ⟨by decide, by decide⟩, by decide, by decide⟩ rfl (Nat.le_of_ble_eq_true rfl) trivial dX5_areNo_1) hS (fun q z w => absurd w (Nat.not_le.mpr z)) hn (fun r_1 H locs hR hz hk hS => ?_)
  have er_1 := hR
  refine lv_if_ne (pc := 4) (tgt := 14) hx hb dX5_areNo_4 (by decide) (fun c_3 => ?_) (fun c_3 => ?_)
  · refine lv_iconst (pc := 14) (v := 1) hx hb dX5_areNo_14 (by decide) ?_
    refine lv_goto (pc := 15) (tgt := 19) hx hb dX5_areNo_15 (by decide) ?_
    refine r_zret (pc := 19) E hr hlk hS (by decide) (by decide) rfl ?_ dX5_areNo_19
    subst er_1; first | with_reducible rfl | (simp [m_areNo, c_3, p_TB, p_TV, p_TC, p_TI, p_BT, p_BV, p_BC, p_BI, p_VT, p_VB, p_VC, p_VI, p_CT, p_CB, p_CV, p_CI, p_IT, p_IB, p_IV, p_IC, p_TT, p_BB, p_CC, p_II]; done)
  · refine lv_iload_n (pc := 7) hx hb dX5_areNo_7 rfl (lv_at hl 1 rfl) ?_
    refine k_i (pc := 8) (k_S E hC hS hA hl.1 (c_X5_isNo l D tk N0 sa H.size b_ ) kw_1245 kw_1246 kw_5 kw_1247 (n := 1) (by decide +kernel) rfl ⟨⟨rfl, rfl⟩, ⟨by decide, by decide⟩, by decide, by decide⟩ rfl (Nat.le_of_ble_eq_true rfl) trivial dX5_areNo_8) hS (fun q z w => absurd w (Nat.not_le.mpr z)) hn (fun r_4 H locs hR hz hk hS => ?_)
    have er_4 := hR
    refine lv_if_eq (pc := 11) (tgt := 18) hx hb dX5_areNo_11 (by decide) (fun c_6 => ?_) (fun c_6 => ?_)
    · refine lv_iconst (pc := 18) (v := 0) hx hb dX5_areNo_18 (by decide) ?_
      refine r_zret (pc := 19) E hr hlk hS (by decide) (by decide) rfl ?_ dX5_areNo_19
      subst er_1 er_4; first | with_reducible rfl | (simp [m_areNo, c_3, c_6, p_TB, p_TV, p_TC, p_TI, p_BT, p_BV, p_BC, p_BI, p_VT, p_VB, p_VC, p_VI, p_CT, p_CB, p_CV, p_CI, p_IT, p_IB, p_IV, p_IC, p_TT, p_BB, p_CC, p_II]; done)
    · refine lv_iconst (pc := 14) (v := 1) hx hb dX5_areNo_14 (by decide) ?_
      refine lv_goto (pc := 15) (tgt := 19) hx hb dX5_areNo_15 (by decide) ?_
      refine r_zret (pc := 19) E hr hlk hS (by decide) (by decide) rfl ?_ dX5_areNo_19
      subst er_1 er_4; first | with_reducible rfl | (simp [m_areNo, c_3, c_6, p_TB, p_TV, p_TC, p_TI, p_BT, p_BV, p_BC, p_BI, p_VT, p_VB, p_VC, p_VI, p_CT, p_CB, p_CV, p_CI, p_IT, p_IB, p_IV, p_IC, p_TT, p_BB, p_CC, p_II]; done)
