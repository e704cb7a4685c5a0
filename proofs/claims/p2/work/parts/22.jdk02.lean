set_option maxHeartbeats 4000000 in
set_option maxRecDepth 100000 in
/-- java/lang/Math.abs(J)J -/
theorem c_J9_abs_067f4 (l : Launch) (D : va_G) (tk : Nat → ClassId) (N0 : Nat) (sa : Nat → Nat)  (sz : Nat) (a_ : Int64) : Met l yJ9_abs_067f4 (wsy yJ9_abs_067f4 cJ9_abs_067f4 2 (some .long)) ({ frames := 0, cells := 0, slots := 0, locals := 0 } : Room) (cP D tk N0 sa [.long a_] sz (fun H => True)) (kQl (fun r H => r = f_absJ a_) (nwA sz)) (0) (0) (nwA sz) := by
  refine mStart RJ9 rfl (by decide +kernel) (Nat.le_of_ble_eq_true rfl) ?_
  intro p e s m args below meth c E hr hlk hnm hsz hC hF ls hl
  subst hsz
  obtain ⟨hx, hb, -⟩ := id E
  have hA : ∀ q, (nwA s.heap.size) q → N0 ≤ q := fun q h => Nat.le_trans hC.2.1 h
  have hn : ∀ q, s.heap.size ≤ q → (nwA s.heap.size) q := fun q h => h
  have hS : va_S (nwA s.heap.size) s.heap s.heap [] := va_S.rf
  have hl : lv_has ls 2 [(0, .long a_)] := hl
  refine lv_lload_n (pc := 0) hx hb dJ9_abs_067f4_0 rfl (lv_at hl 0 rfl) ?_
  refine lv_lconst (pc := 1) (v := 0) hx hb dJ9_abs_067f4_1 (by decide) ?_
  refine r_lcge (pc := 2) (tgt := 11) E dJ9_abs_067f4_2 dJ9_abs_067f4_3 (by decide) (fun c_1 => ?_) (fun c_1 => ?_)
  · refine lv_lload_n (pc := 11) hx hb dJ9_abs_067f4_11 rfl (lv_at hl 0 rfl) ?_
    refine r_lret (pc := 12) E hr hlk hS (by decide) (by decide) ?_ dJ9_abs_067f4_12
    first | with_reducible rfl | (simp [f_absJ, c_1, Int64.not_lt.mpr c_1, p_TB, p_TV, p_TC, p_TI, p_BT, p_BV, p_BC, p_BI, p_VT, p_VB, p_VC, p_VI, p_CT, p_CB, p_CV, p_CI, p_IT, p_IB, p_IV, p_IC, p_TT, p_BB, p_CC, p_II]; done)
  · refine lv_lload_n (pc := 6) hx hb dJ9_abs_067f4_6 rfl (lv_at hl 0 rfl) ?_
    refine lv_lneg (pc := 7) hx hb dJ9_abs_067f4_7 ?_
    refine lv_goto (pc := 8) (tgt := 12) hx hb dJ9_abs_067f4_8 (by decide) ?_
    refine r_lret (pc := 12) E hr hlk hS (by decide) (by decide) ?_ dJ9_abs_067f4_12
    first | with_reducible rfl | (simp [f_absJ, c_1, Int64.not_le.mp c_1, p_TB, p_TV, p_TC, p_TI, p_BT, p_BV, p_BC, p_BI, p_VT, p_VB, p_VC, p_VI, p_CT, p_CB, p_CV, p_CI, p_IT, p_IB, p_IV, p_IC, p_TT, p_BB, p_CC, p_II]; done)
