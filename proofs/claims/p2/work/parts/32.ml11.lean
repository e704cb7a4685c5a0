set_option maxHeartbeats 4000000 in
set_option maxRecDepth 100000 in
/-- BestratiosModel.cutOf(JJII)J -/
theorem c_X5_cutOf (l : Launch) (D : va_G) (tk : Nat → ClassId) (N0 : Nat) (sa : Nat → Nat)  (sz : Nat) (t_ : Int64) (b_ : Int64) (pl : Int32) (md : Int32) (hy : ¬ b_ = 0) : Met l yX5_cutOf (wsy yX5_cutOf cX5_cutOf 12 (some .long)) ({ frames := 1, cells := 0, slots := 0, locals := 25 } : Room) (cP D tk N0 sa [.long t_, .long b_, .int pl, .int md] sz (fun H => True)) (kQl (fun r H => r = m_cut t_ b_ pl md) (nwA sz)) (0) (0) (nwA sz) := by
  refine mStart RX5 rfl (by decide +kernel) (Nat.le_of_ble_eq_true rfl) ?_
  intro p e s m args below meth c E hr hlk hnm hsz hC hF ls hl
  subst hsz
  obtain ⟨hx, hb, -⟩ := id E
  have hA : ∀ q, (nwA s.heap.size) q → N0 ≤ q := fun q h => Nat.le_trans hC.2.1 h
  have hn : ∀ q, s.heap.size ≤ q → (nwA s.heap.size) q := fun q h => h
  have hS : va_S (nwA s.heap.size) s.heap s.heap [] := va_S.rf
  have hl : lv_has ls 12 [(0, .long t_), (2, .long b_), (4, .int pl), (5, .int md)] := hl
  refine lv_lload_n (pc := 0) hx hb dX5_cutOf_0 rfl (lv_at hl 0 rfl) ?_
  refine lv_iload (pc := 1) hx hb dX5_cutOf_1 (lv_at hl 2 rfl) ?_
  refine k_l (pc := 3) (k_S E hC hS hA hl.1 (c_X5_power l D tk N0 sa s.heap.size pl ) kw_1278 kw_1279 kw_5 kw_1280 (n := 1) (by decide +kernel) rfl ⟨⟨rfl, rfl⟩, ⟨by decide, by decide⟩, by decide, by decide⟩ rfl (Nat.le_of_ble_eq_true rfl) trivial dX5_cutOf_3) hS (fun q z w => absurd w (Nat.not_le.mpr z)) hn (fun r_1 H locs hR hz hk hS => ?_)
  have er_1 := hR
  refine lv_lmul (pc := 6) hx hb dX5_cutOf_6 ?_
  obtain ⟨x_3, ex_3⟩ : ∃ z9 : Int64, z9 = t_ * r_1 := ⟨_, rfl⟩
  rw [← ex_3]
  refine lv_lstore (pc := 7) (lv' := [(6, .long x_3), (0, .long t_), (2, .long b_), (4, .int pl), (5, .int md)]) hx hb dX5_cutOf_7 hl (by decide) rfl (fun ls hl => ?_)
  refine lv_lload (pc := 9) hx hb dX5_cutOf_9 (lv_at hl 0 rfl) ?_
  refine lv_lload_n (pc := 11) hx hb dX5_cutOf_11 rfl (lv_at hl 2 rfl) ?_
  refine k_l (pc := 12) (k_S E hC hS hA hl.1 (c_X5_floor l D tk N0 sa H.size x_3 b_ (by assumption)) kw_1392 kw_1393 kw_5 kw_1394 (n := 2) (by decide +kernel) rfl ⟨⟨rfl, rfl⟩, ⟨by decide, by decide⟩, by decide, by decide⟩ rfl (Nat.le_of_ble_eq_true rfl) trivial dX5_cutOf_12) hS (fun q z w => absurd w (Nat.not_le.mpr z)) hn (fun r_4 H locs hR hz hk hS => ?_)
  have er_4 := hR
  refine lv_lstore (pc := 15) (lv' := [(8, .long r_4), (6, .long x_3), (0, .long t_), (2, .long b_), (4, .int pl), (5, .int md)]) hx hb dX5_cutOf_15 hl (by decide) rfl (fun ls hl => ?_)
  refine lv_lload (pc := 17) hx hb dX5_cutOf_17 (lv_at hl 1 rfl) ?_
  refine lv_lload (pc := 19) hx hb dX5_cutOf_19 (lv_at hl 0 rfl) ?_
  refine lv_lload_n (pc := 21) hx hb dX5_cutOf_21 rfl (lv_at hl 3 rfl) ?_
  refine lv_lmul (pc := 22) hx hb dX5_cutOf_22 ?_
  refine lv_lsub (pc := 23) hx hb dX5_cutOf_23 ?_
  obtain ⟨x_6, ex_6⟩ : ∃ z9 : Int64, z9 = x_3 - (r_4 * b_) := ⟨_, rfl⟩
  rw [← ex_6]
  refine lv_lstore (pc := 24) (lv' := [(10, .long x_6), (8, .long r_4), (6, .long x_3), (0, .long t_), (2, .long b_), (4, .int pl), (5, .int md)]) hx hb dX5_cutOf_24 hl (by decide) rfl (fun ls hl => ?_)
  refine lv_lload (pc := 26) hx hb dX5_cutOf_26 (lv_at hl 0 rfl) ?_
  refine lv_lconst (pc := 28) (v := 0) hx hb dX5_cutOf_28 (by decide) ?_
  refine r_lceq (pc := 29) (tgt := 39) E dX5_cutOf_29 dX5_cutOf_30 (by decide) (fun c_7 => ?_) (fun c_7 => ?_)
  · refine lv_lload (pc := 39) hx hb dX5_cutOf_39 (lv_at hl 1 rfl) ?_
    refine r_lret (pc := 41) E hr hlk hS (by decide) (by decide) ?_ dX5_cutOf_41
    subst er_1 ex_3 er_4 ex_6; first | with_reducible rfl | (simp [m_cut, m_cut3, c_7, p_TB, p_TV, p_TC, p_TI, p_BT, p_BV, p_BC, p_BI, p_VT, p_VB, p_VC, p_VI, p_CT, p_CB, p_CV, p_CI, p_IT, p_IB, p_IV, p_IC, p_TT, p_BB, p_CC, p_II]; done)
  · refine lv_iload (pc := 33) hx hb dX5_cutOf_33 (lv_at hl 6 rfl) ?_
    refine lv_iconst (pc := 35) (v := 1) hx hb dX5_cutOf_35 (by decide) ?_
    refine lv_icmp_ne (pc := 36) (tgt := 42) hx hb dX5_cutOf_36 (by decide) (fun c_8 => ?_) (fun c_8 => ?_)
    · refine lv_iload (pc := 42) hx hb dX5_cutOf_42 (lv_at hl 6 rfl) ?_
      refine lv_iconst (pc := 44) (v := 2) hx hb dX5_cutOf_44 (by decide) ?_
      refine lv_icmp_ne (pc := 45) (tgt := 53) hx hb dX5_cutOf_45 (by decide) (fun c_9 => ?_) (fun c_9 => ?_)
      · refine lv_iload (pc := 53) hx hb dX5_cutOf_53 (lv_at hl 6 rfl) ?_
        refine lv_if_ne (pc := 55) (tgt := 74) hx hb dX5_cutOf_55 (by decide) (fun c_10 => ?_) (fun c_10 => ?_)
        · refine lv_ldc2 (pc := 74) (v := 2) hx hb E.2.2.2.1 (E.2.2.2.2 _ (List.mem_cons_of_mem _ kw_1665)) dX5_cutOf_74 ?_
          refine lv_lload (pc := 77) hx hb dX5_cutOf_77 (lv_at hl 0 rfl) ?_
          refine lv_lmul (pc := 79) hx hb dX5_cutOf_79 ?_
          refine lv_lload_n (pc := 80) hx hb dX5_cutOf_80 rfl (lv_at hl 4 rfl) ?_
          refine r_lceq (pc := 81) (tgt := 106) E dX5_cutOf_81 dX5_cutOf_82 (by decide) (fun c_11 => ?_) (fun c_11 => ?_)
          · refine lv_iload (pc := 106) hx hb dX5_cutOf_106 (lv_at hl 6 rfl) ?_
            refine lv_iconst (pc := 108) (v := 3) hx hb dX5_cutOf_108 (by decide) ?_
            refine lv_icmp_ne (pc := 109) (tgt := 128) hx hb dX5_cutOf_109 (by decide) (fun c_12 => ?_) (fun c_12 => ?_)
            · refine lv_lload (pc := 128) hx hb dX5_cutOf_128 (lv_at hl 1 rfl) ?_
              refine lv_ldc2 (pc := 130) (v := 2) hx hb E.2.2.2.1 (E.2.2.2.2 _ (List.mem_cons_of_mem _ kw_1665)) dX5_cutOf_130 ?_
              refine lv_lrem (pc := 133) hx hb dX5_cutOf_133 (by decide) ?_
              refine lv_lconst (pc := 134) (v := 0) hx hb dX5_cutOf_134 (by decide) ?_
              refine r_lcne (pc := 135) (tgt := 144) E dX5_cutOf_135 dX5_cutOf_136 (by decide) (fun c_13 => ?_) (fun c_13 => ?_)
              · refine lv_lload (pc := 144) hx hb dX5_cutOf_144 (lv_at hl 1 rfl) ?_
                refine lv_lconst (pc := 146) (v := 1) hx hb dX5_cutOf_146 (by decide) ?_
                refine lv_ladd (pc := 147) hx hb dX5_cutOf_147 ?_
                refine r_lret (pc := 148) E hr hlk hS (by decide) (by decide) ?_ dX5_cutOf_148
                subst er_1 ex_3 er_4 ex_6; first | with_reducible rfl | (simp [m_cut, m_cut3, c_7, c_8, c_9, c_10, c_11, c_12, c_13, p_TB, p_TV, p_TC, p_TI, p_BT, p_BV, p_BC, p_BI, p_VT, p_VB, p_VC, p_VI, p_CT, p_CB, p_CV, p_CI, p_IT, p_IB, p_IV, p_IC, p_TT, p_BB, p_CC, p_II]; done)
              · refine lv_lload (pc := 139) hx hb dX5_cutOf_139 (lv_at hl 1 rfl) ?_
                refine lv_goto (pc := 141) (tgt := 148) hx hb dX5_cutOf_141 (by decide) ?_
                refine r_lret (pc := 148) E hr hlk hS (by decide) (by decide) ?_ dX5_cutOf_148
                subst er_1 ex_3 er_4 ex_6; first | with_reducible rfl | (simp [m_cut, m_cut3, c_7, c_8, c_9, c_10, c_11, c_12, c_13, p_TB, p_TV, p_TC, p_TI, p_BT, p_BV, p_BC, p_BI, p_VT, p_VB, p_VC, p_VI, p_CT, p_CB, p_CV, p_CI, p_IT, p_IB, p_IV, p_IC, p_TT, p_BB, p_CC, p_II]; done)
            · refine lv_lload_n (pc := 112) hx hb dX5_cutOf_112 rfl (lv_at hl 3 rfl) ?_
              refine lv_lconst (pc := 113) (v := 0) hx hb dX5_cutOf_113 (by decide) ?_
              refine r_lcge (pc := 114) (tgt := 123) E dX5_cutOf_114 dX5_cutOf_115 (by decide) (fun c_14 => ?_) (fun c_14 => ?_)
              · refine lv_lload (pc := 123) hx hb dX5_cutOf_123 (lv_at hl 1 rfl) ?_
                refine lv_lconst (pc := 125) (v := 1) hx hb dX5_cutOf_125 (by decide) ?_
                refine lv_ladd (pc := 126) hx hb dX5_cutOf_126 ?_
                refine r_lret (pc := 127) E hr hlk hS (by decide) (by decide) ?_ dX5_cutOf_127
                subst er_1 ex_3 er_4 ex_6; first | with_reducible rfl | (simp [m_cut, m_cut3, c_7, c_8, c_9, c_10, c_11, c_12, c_14, Int64.not_lt.mpr c_14, p_TB, p_TV, p_TC, p_TI, p_BT, p_BV, p_BC, p_BI, p_VT, p_VB, p_VC, p_VI, p_CT, p_CB, p_CV, p_CI, p_IT, p_IB, p_IV, p_IC, p_TT, p_BB, p_CC, p_II]; done)
              · refine lv_lload (pc := 118) hx hb dX5_cutOf_118 (lv_at hl 1 rfl) ?_
                refine lv_goto (pc := 120) (tgt := 127) hx hb dX5_cutOf_120 (by decide) ?_
                refine r_lret (pc := 127) E hr hlk hS (by decide) (by decide) ?_ dX5_cutOf_127
                subst er_1 ex_3 er_4 ex_6; first | with_reducible rfl | (simp [m_cut, m_cut3, c_7, c_8, c_9, c_10, c_11, c_12, c_14, Int64.not_le.mp c_14, p_TB, p_TV, p_TC, p_TI, p_BT, p_BV, p_BC, p_BI, p_VT, p_VB, p_VC, p_VI, p_CT, p_CB, p_CV, p_CI, p_IT, p_IB, p_IV, p_IC, p_TT, p_BB, p_CC, p_II]; done)
          · refine lv_ldc2 (pc := 85) (v := 2) hx hb E.2.2.2.1 (E.2.2.2.2 _ (List.mem_cons_of_mem _ kw_1665)) dX5_cutOf_85 ?_
            refine lv_lload (pc := 88) hx hb dX5_cutOf_88 (lv_at hl 0 rfl) ?_
            refine lv_lmul (pc := 90) hx hb dX5_cutOf_90 ?_
            refine lv_lload_n (pc := 91) hx hb dX5_cutOf_91 rfl (lv_at hl 4 rfl) ?_
            refine r_lcge (pc := 92) (tgt := 101) E dX5_cutOf_92 dX5_cutOf_93 (by decide) (fun c_15 => ?_) (fun c_15 => ?_)
            · refine lv_lload (pc := 101) hx hb dX5_cutOf_101 (lv_at hl 1 rfl) ?_
              refine lv_lconst (pc := 103) (v := 1) hx hb dX5_cutOf_103 (by decide) ?_
              refine lv_ladd (pc := 104) hx hb dX5_cutOf_104 ?_
              refine r_lret (pc := 105) E hr hlk hS (by decide) (by decide) ?_ dX5_cutOf_105
              subst er_1 ex_3 er_4 ex_6; first | with_reducible rfl | (simp [m_cut, m_cut3, c_7, c_8, c_9, c_10, c_11, c_15, Int64.not_lt.mpr c_15, p_TB, p_TV, p_TC, p_TI, p_BT, p_BV, p_BC, p_BI, p_VT, p_VB, p_VC, p_VI, p_CT, p_CB, p_CV, p_CI, p_IT, p_IB, p_IV, p_IC, p_TT, p_BB, p_CC, p_II]; done)
            · refine lv_lload (pc := 96) hx hb dX5_cutOf_96 (lv_at hl 1 rfl) ?_
              refine lv_goto (pc := 98) (tgt := 105) hx hb dX5_cutOf_98 (by decide) ?_
              refine r_lret (pc := 105) E hr hlk hS (by decide) (by decide) ?_ dX5_cutOf_105
              subst er_1 ex_3 er_4 ex_6; first | with_reducible rfl | (simp [m_cut, m_cut3, c_7, c_8, c_9, c_10, c_11, c_15, Int64.not_le.mp c_15, p_TB, p_TV, p_TC, p_TI, p_BT, p_BV, p_BC, p_BI, p_VT, p_VB, p_VC, p_VI, p_CT, p_CB, p_CV, p_CI, p_IT, p_IB, p_IV, p_IC, p_TT, p_BB, p_CC, p_II]; done)
        · refine lv_lload_n (pc := 58) hx hb dX5_cutOf_58 rfl (lv_at hl 3 rfl) ?_
          refine lv_lconst (pc := 59) (v := 0) hx hb dX5_cutOf_59 (by decide) ?_
          refine r_lcge (pc := 60) (tgt := 71) E dX5_cutOf_60 dX5_cutOf_61 (by decide) (fun c_16 => ?_) (fun c_16 => ?_)
          · refine lv_lload (pc := 71) hx hb dX5_cutOf_71 (lv_at hl 1 rfl) ?_
            refine r_lret (pc := 73) E hr hlk hS (by decide) (by decide) ?_ dX5_cutOf_73
            subst er_1 ex_3 er_4 ex_6; first | with_reducible rfl | (simp [m_cut, m_cut3, c_7, c_8, c_9, c_10, c_16, Int64.not_lt.mpr c_16, p_TB, p_TV, p_TC, p_TI, p_BT, p_BV, p_BC, p_BI, p_VT, p_VB, p_VC, p_VI, p_CT, p_CB, p_CV, p_CI, p_IT, p_IB, p_IV, p_IC, p_TT, p_BB, p_CC, p_II]; done)
          · refine lv_lload (pc := 64) hx hb dX5_cutOf_64 (lv_at hl 1 rfl) ?_
            refine lv_lconst (pc := 66) (v := 1) hx hb dX5_cutOf_66 (by decide) ?_
            refine lv_ladd (pc := 67) hx hb dX5_cutOf_67 ?_
            refine lv_goto (pc := 68) (tgt := 73) hx hb dX5_cutOf_68 (by decide) ?_
            refine r_lret (pc := 73) E hr hlk hS (by decide) (by decide) ?_ dX5_cutOf_73
            subst er_1 ex_3 er_4 ex_6; first | with_reducible rfl | (simp [m_cut, m_cut3, c_7, c_8, c_9, c_10, c_16, Int64.not_le.mp c_16, p_TB, p_TV, p_TC, p_TI, p_BT, p_BV, p_BC, p_BI, p_VT, p_VB, p_VC, p_VI, p_CT, p_CB, p_CV, p_CI, p_IT, p_IB, p_IV, p_IC, p_TT, p_BB, p_CC, p_II]; done)
      · refine lv_lload (pc := 48) hx hb dX5_cutOf_48 (lv_at hl 1 rfl) ?_
        refine lv_lconst (pc := 50) (v := 1) hx hb dX5_cutOf_50 (by decide) ?_
        refine lv_ladd (pc := 51) hx hb dX5_cutOf_51 ?_
        refine r_lret (pc := 52) E hr hlk hS (by decide) (by decide) ?_ dX5_cutOf_52
        subst er_1 ex_3 er_4 ex_6; first | with_reducible rfl | (simp [m_cut, m_cut3, c_7, c_8, c_9, p_TB, p_TV, p_TC, p_TI, p_BT, p_BV, p_BC, p_BI, p_VT, p_VB, p_VC, p_VI, p_CT, p_CB, p_CV, p_CI, p_IT, p_IB, p_IV, p_IC, p_TT, p_BB, p_CC, p_II]; done)
    · refine lv_lload (pc := 39) hx hb dX5_cutOf_39 (lv_at hl 1 rfl) ?_
      refine r_lret (pc := 41) E hr hlk hS (by decide) (by decide) ?_ dX5_cutOf_41
      subst er_1 ex_3 er_4 ex_6; first | with_reducible rfl | (simp [m_cut, m_cut3, c_7, c_8, p_TB, p_TV, p_TC, p_TI, p_BT, p_BV, p_BC, p_BI, p_VT, p_VB, p_VC, p_VI, p_CT, p_CB, p_CV, p_CI, p_IT, p_IB, p_IV, p_IC, p_TT, p_BB, p_CC, p_II]; done)
