set_option maxHeartbeats 4000000 in
set_option maxRecDepth 100000 in
/-- BestratiosModel.floor(JJ)J -/
theorem c_X5_floor (l : Launch) (D : va_G) (tk : Nat → ClassId) (N0 : Nat) (sa : Nat → Nat)  (sz : Nat) (a_ : Int64) (b_ : Int64) (hy : ¬ b_ = 0) : Met l yX5_floor (wsy yX5_floor cX5_floor 6 (some .long)) ({ frames := 0, cells := 0, slots := 0, locals := 0 } : Room) (cP D tk N0 sa [.long a_, .long b_] sz (fun H => True)) (kQl (fun r H => r = m_floor a_ b_) (nwA sz)) (0) (0) (nwA sz) := by
  refine mStart RX5 rfl (by decide +kernel) (Nat.le_of_ble_eq_true rfl) ?_
  intro p e s m args below meth c E hr hlk hnm hsz hC hF ls hl
  subst hsz
  obtain ⟨hx, hb, -⟩ := id E
  have hA : ∀ q, (nwA s.heap.size) q → N0 ≤ q := fun q h => Nat.le_trans hC.2.1 h
  have hn : ∀ q, s.heap.size ≤ q → (nwA s.heap.size) q := fun q h => h
  have hS : va_S (nwA s.heap.size) s.heap s.heap [] := va_S.rf
  have hl : lv_has ls 6 [(0, .long a_), (2, .long b_)] := hl
  refine lv_lload_n (pc := 0) hx hb dX5_floor_0 rfl (lv_at hl 0 rfl) ?_
  refine lv_lload_n (pc := 1) hx hb dX5_floor_1 rfl (lv_at hl 1 rfl) ?_
  refine lv_ldiv (pc := 2) hx hb dX5_floor_2 (hy) ?_
  obtain ⟨x_1, ex_1⟩ : ∃ z9 : Int64, z9 = a_ / b_ := ⟨_, rfl⟩
  rw [← ex_1]
  refine lv_lstore (pc := 3) (lv' := [(4, .long x_1), (0, .long a_), (2, .long b_)]) hx hb dX5_floor_3 hl (by decide) rfl (fun ls hl => ?_)
  refine lv_lload_n (pc := 5) hx hb dX5_floor_5 rfl (lv_at hl 1 rfl) ?_
  refine lv_lload_n (pc := 6) hx hb dX5_floor_6 rfl (lv_at hl 2 rfl) ?_
  refine lv_lrem (pc := 7) hx hb dX5_floor_7 (hy) ?_
  refine lv_lconst (pc := 8) (v := 0) hx hb dX5_floor_8 (by decide) ?_
  refine r_lceq (pc := 9) (tgt := 47) E dX5_floor_9 dX5_floor_10 (by decide) (fun c_2 => ?_) (fun c_2 => ?_)
  · refine lv_lload (pc := 47) hx hb dX5_floor_47 (lv_at hl 0 rfl) ?_
    refine r_lret (pc := 49) E hr hlk hS (by decide) (by decide) ?_ dX5_floor_49
    subst ex_1; first | with_reducible rfl | (simp [m_floor, c_2, p_TB, p_TV, p_TC, p_TI, p_BT, p_BV, p_BC, p_BI, p_VT, p_VB, p_VC, p_VI, p_CT, p_CB, p_CV, p_CI, p_IT, p_IB, p_IV, p_IC, p_TT, p_BB, p_CC, p_II]; done)
  · refine lv_lload_n (pc := 13) hx hb dX5_floor_13 rfl (lv_at hl 1 rfl) ?_
    refine lv_lload_n (pc := 14) hx hb dX5_floor_14 rfl (lv_at hl 2 rfl) ?_
    refine lv_lrem (pc := 15) hx hb dX5_floor_15 (hy) ?_
    refine lv_lconst (pc := 16) (v := 0) hx hb dX5_floor_16 (by decide) ?_
    refine r_lcge (pc := 17) (tgt := 25) E dX5_floor_17 dX5_floor_18 (by decide) (fun c_3 => ?_) (fun c_3 => ?_)
    · refine lv_iconst (pc := 25) (v := 0) hx hb dX5_floor_25 (by decide) ?_
      refine lv_lload_n (pc := 26) hx hb dX5_floor_26 rfl (lv_at hl 2 rfl) ?_
      refine lv_lconst (pc := 27) (v := 0) hx hb dX5_floor_27 (by decide) ?_
      refine r_lcge (pc := 28) (tgt := 36) E dX5_floor_28 dX5_floor_29 (by decide) (fun c_4 => ?_) (fun c_4 => ?_)
      · refine lv_iconst (pc := 36) (v := 0) hx hb dX5_floor_36 (by decide) ?_
        refine lv_icmp_eq (pc := 37) (tgt := 47) hx hb dX5_floor_37 (by decide) (fun c_5 => ?_) (fun c_5 => ?_)
        rotate_left
        · exact absurd (by decide) c_5
        refine lv_lload (pc := 47) hx hb dX5_floor_47 (lv_at hl 0 rfl) ?_
        refine r_lret (pc := 49) E hr hlk hS (by decide) (by decide) ?_ dX5_floor_49
        subst ex_1; first | with_reducible rfl | (simp [m_floor, c_2, c_3, Int64.not_lt.mpr c_3, c_4, Int64.not_lt.mpr c_4, p_TB, p_TV, p_TC, p_TI, p_BT, p_BV, p_BC, p_BI, p_VT, p_VB, p_VC, p_VI, p_CT, p_CB, p_CV, p_CI, p_IT, p_IB, p_IV, p_IC, p_TT, p_BB, p_CC, p_II]; done)
      · refine lv_iconst (pc := 32) (v := 1) hx hb dX5_floor_32 (by decide) ?_
        refine lv_goto (pc := 33) (tgt := 37) hx hb dX5_floor_33 (by decide) ?_
        refine lv_icmp_eq (pc := 37) (tgt := 47) hx hb dX5_floor_37 (by decide) (fun c_6 => ?_) (fun c_6 => ?_)
        · exact absurd c_6 (by decide)
        refine lv_lload (pc := 40) hx hb dX5_floor_40 (lv_at hl 0 rfl) ?_
        refine lv_lconst (pc := 42) (v := 1) hx hb dX5_floor_42 (by decide) ?_
        refine lv_lsub (pc := 43) hx hb dX5_floor_43 ?_
        refine lv_goto (pc := 44) (tgt := 49) hx hb dX5_floor_44 (by decide) ?_
        refine r_lret (pc := 49) E hr hlk hS (by decide) (by decide) ?_ dX5_floor_49
        subst ex_1; first | with_reducible rfl | (simp [m_floor, c_2, c_3, Int64.not_lt.mpr c_3, c_4, Int64.not_le.mp c_4, p_TB, p_TV, p_TC, p_TI, p_BT, p_BV, p_BC, p_BI, p_VT, p_VB, p_VC, p_VI, p_CT, p_CB, p_CV, p_CI, p_IT, p_IB, p_IV, p_IC, p_TT, p_BB, p_CC, p_II]; done)
    · refine lv_iconst (pc := 21) (v := 1) hx hb dX5_floor_21 (by decide) ?_
      refine lv_goto (pc := 22) (tgt := 26) hx hb dX5_floor_22 (by decide) ?_
      refine lv_lload_n (pc := 26) hx hb dX5_floor_26 rfl (lv_at hl 2 rfl) ?_
      refine lv_lconst (pc := 27) (v := 0) hx hb dX5_floor_27 (by decide) ?_
      refine r_lcge (pc := 28) (tgt := 36) E dX5_floor_28 dX5_floor_29 (by decide) (fun c_7 => ?_) (fun c_7 => ?_)
      · refine lv_iconst (pc := 36) (v := 0) hx hb dX5_floor_36 (by decide) ?_
        refine lv_icmp_eq (pc := 37) (tgt := 47) hx hb dX5_floor_37 (by decide) (fun c_8 => ?_) (fun c_8 => ?_)
        · exact absurd c_8 (by decide)
        refine lv_lload (pc := 40) hx hb dX5_floor_40 (lv_at hl 0 rfl) ?_
        refine lv_lconst (pc := 42) (v := 1) hx hb dX5_floor_42 (by decide) ?_
        refine lv_lsub (pc := 43) hx hb dX5_floor_43 ?_
        refine lv_goto (pc := 44) (tgt := 49) hx hb dX5_floor_44 (by decide) ?_
        refine r_lret (pc := 49) E hr hlk hS (by decide) (by decide) ?_ dX5_floor_49
        subst ex_1; first | with_reducible rfl | (simp [m_floor, c_2, c_3, Int64.not_le.mp c_3, c_7, Int64.not_lt.mpr c_7, p_TB, p_TV, p_TC, p_TI, p_BT, p_BV, p_BC, p_BI, p_VT, p_VB, p_VC, p_VI, p_CT, p_CB, p_CV, p_CI, p_IT, p_IB, p_IV, p_IC, p_TT, p_BB, p_CC, p_II]; done)
      · refine lv_iconst (pc := 32) (v := 1) hx hb dX5_floor_32 (by decide) ?_
        refine lv_goto (pc := 33) (tgt := 37) hx hb dX5_floor_33 (by decide) ?_
        refine lv_icmp_eq (pc := 37) (tgt := 47) hx hb dX5_floor_37 (by decide) (fun c_9 => ?_) (fun c_9 => ?_)
        rotate_left
        · exact absurd (by decide) c_9
        refine lv_lload (pc := 47) hx hb dX5_floor_47 (lv_at hl 0 rfl) ?_
        refine r_lret (pc := 49) E hr hlk hS (by decide) (by decide) ?_ dX5_floor_49
        subst ex_1; first | with_reducible rfl | (simp [m_floor, c_2, c_3, Int64.not_le.mp c_3, c_7, Int64.not_le.mp c_7, p_TB, p_TV, p_TC, p_TI, p_BT, p_BV, p_BC, p_BI, p_VT, p_VB, p_VC, p_VI, p_CT, p_CB, p_CV, p_CI, p_IT, p_IB, p_IV, p_IC, p_TT, p_BB, p_CC, p_II]; done)
