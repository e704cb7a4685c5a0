set_option maxHeartbeats 4000000 in
set_option maxRecDepth 100000 in
/-- java/lang/Math.min(II)I -/
theorem c_J9_min_7cf53 (l : Launch) (D : va_G) (tk : Nat → ClassId) (N0 : Nat) (sa : Nat → Nat)  (sz : Nat) (a_ : Int32) (b_ : Int32) : Met l yJ9_min_7cf53 (wsy yJ9_min_7cf53 cJ9_min_7cf53 2 (some .int)) ({ frames := 0, cells := 0, slots := 0, locals := 0 } : Room) (cP D tk N0 sa [.int a_, .int b_] sz (fun H => True)) (kQi (fun r H => r = f_min a_ b_) (nwA sz)) (0) (0) (nwA sz) := by
  refine mStart RJ9 rfl (by decide +kernel) (Nat.le_of_ble_eq_true rfl) ?_
  intro p e s m args below meth c E hr hlk hnm hsz hC hF ls hl
  subst hsz
  obtain ⟨hx, hb, -⟩ := id E
  have hA : ∀ q, (nwA s.heap.size) q → N0 ≤ q := fun q h => Nat.le_trans hC.2.1 h
  have hn : ∀ q, s.heap.size ≤ q → (nwA s.heap.size) q := fun q h => h
  have hS : va_S (nwA s.heap.size) s.heap s.heap [] := va_S.rf
  have hl : lv_has ls 2 [(0, .int a_), (1, .int b_)] := hl
  refine lv_iload_n (pc := 0) hx hb dJ9_min_7cf53_0 rfl (lv_at hl 0 rfl) ?_
  refine lv_iload_n (pc := 1) hx hb dJ9_min_7cf53_1 rfl (lv_at hl 1 rfl) ?_
  refine lv_icmp_gt (pc := 2) (tgt := 9) hx hb dJ9_min_7cf53_2 (by decide) (fun c_1 => ?_) (fun c_1 => ?_)
  · refine lv_iload_n (pc := 9) hx hb dJ9_min_7cf53_9 rfl (lv_at hl 1 rfl) ?_
    refine r_iret (pc := 10) E hr hlk hS (by decide) (by decide) ?_ dJ9_min_7cf53_10
    first | with_reducible rfl | (simp [f_min, c_1, Int32.not_le.mpr c_1, p_TB, p_TV, p_TC, p_TI, p_BT, p_BV, p_BC, p_BI, p_VT, p_VB, p_VC, p_VI, p_CT, p_CB, p_CV, p_CI, p_IT, p_IB, p_IV, p_IC, p_TT, p_BB, p_CC, p_II]; done)
  · refine lv_iload_n (pc := 5) hx hb dJ9_min_7cf53_5 rfl (lv_at hl 0 rfl) ?_
    refine lv_goto (pc := 6) (tgt := 10) hx hb dJ9_min_7cf53_6 (by decide) ?_
    refine r_iret (pc := 10) E hr hlk hS (by decide) (by decide) ?_ dJ9_min_7cf53_10
    first | with_reducible rfl | (simp [f_min, c_1, Int32.not_lt.mp c_1, p_TB, p_TV, p_TC, p_TI, p_BT, p_BV, p_BC, p_BI, p_VT, p_VB, p_VC, p_VI, p_CT, p_CB, p_CV, p_CI, p_IT, p_IB, p_IV, p_IC, p_TT, p_BB, p_CC, p_II]; done)
