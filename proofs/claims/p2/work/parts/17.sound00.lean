set_option maxHeartbeats 4000000 in
set_option maxRecDepth 100000 in
/-- Bestratios.mixed(JJ)J -/
theorem c_X3_mixed (l : Launch) (D : va_G) (tk : Nat → ClassId) (N0 : Nat) (sa : Nat → Nat)  (sz : Nat) (a_ : Int64) (b_ : Int64) : Met l yX3_mixed (wsy yX3_mixed cX3_mixed 4 (some .long)) ({ frames := 0, cells := 0, slots := 0, locals := 0 } : Room) (cP D tk N0 sa [.long a_, .long b_] sz (fun H => True)) (kQl (fun r H => r = f_mixed a_ b_) (nwA sz)) (0) (0) (nwA sz) := by
  refine mStart RX3 rfl (by decide +kernel) (Nat.le_of_ble_eq_true rfl) ?_
  intro p e s m args below meth c E hr hlk hnm hsz hC hF ls hl
  subst hsz
  obtain ⟨hx, hb, -⟩ := id E
  have hA : ∀ q, (nwA s.heap.size) q → N0 ≤ q := fun q h => Nat.le_trans hC.2.1 h
  have hn : ∀ q, s.heap.size ≤ q → (nwA s.heap.size) q := fun q h => h
  have hS : va_S (nwA s.heap.size) s.heap s.heap [] := va_S.rf
  have hl : lv_has ls 4 [(0, .long a_), (2, .long b_)] := hl
  refine lv_lload_n (pc := 0) hx hb dX3_mixed_0 rfl (lv_at hl 0 rfl) ?_
  refine lv_ldc2 (pc := 1) (v := 31) hx hb E.2.2.2.1 (E.2.2.2.2 _ (List.mem_cons_of_mem _ kw_685)) dX3_mixed_1 ?_
  refine lv_lmul (pc := 4) hx hb dX3_mixed_4 ?_
  refine lv_lload_n (pc := 5) hx hb dX3_mixed_5 rfl (lv_at hl 1 rfl) ?_
  refine lv_ladd (pc := 6) hx hb dX3_mixed_6 ?_
  refine r_lret (pc := 7) E hr hlk hS (by decide) (by decide) ?_ dX3_mixed_7
  first | with_reducible rfl | (simp [f_mixed, p_TB, p_TV, p_TC, p_TI, p_BT, p_BV, p_BC, p_BI, p_VT, p_VB, p_VC, p_VI, p_CT, p_CB, p_CV, p_CI, p_IT, p_IB, p_IV, p_IC, p_TT, p_BB, p_CC, p_II]; done)
