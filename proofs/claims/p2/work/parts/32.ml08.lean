set_option maxHeartbeats 4000000 in
set_option maxRecDepth 100000 in
/-- BestratiosModel.isOne([J)Z -/
theorem c_X5_isOne (l : Launch) (D : va_G) (tk : Nat → ClassId) (N0 : Nat) (sa : Nat → Nat)  (sz : Nat) (pa : Nat) (ta : Int64) (ba : Int64) : Met l yX5_isOne (wsy yX5_isOne cX5_isOne 1 (some .boolean)) ({ frames := 0, cells := 0, slots := 0, locals := 0 } : Room) (cP D tk N0 sa [.ref pa] sz (fun H => L2 D tk pa ta ba H)) (kQi (fun r H => r = m_one ta ba) (nwA sz)) (0) (0) (nwA sz) := by
  refine mStart RX5 rfl (by decide +kernel) (Nat.le_of_ble_eq_true rfl) ?_
  intro p e s m args below meth c E hr hlk hnm hsz hC hF ls hl
  subst hsz
  obtain ⟨hx, hb, -⟩ := id E
  have hA : ∀ q, (nwA s.heap.size) q → N0 ≤ q := fun q h => Nat.le_trans hC.2.1 h
  have hn : ∀ q, s.heap.size ≤ q → (nwA s.heap.size) q := fun q h => h
  have hS : va_S (nwA s.heap.size) s.heap s.heap [] := va_S.rf
  have hl : lv_has ls 1 [(0, .ref pa)] := hl
  have fa : L2 D tk pa ta ba s.heap := hF
  refine lv_aload_n (pc := 0) hx hb dX5_isOne_0 rfl (lv_at hl 0 rfl) ?_
  refine lv_iconst (pc := 1) (v := 0) hx hb dX5_isOne_1 (by decide) ?_
  refine r_l0 (pc := 2) E hC fa dX5_isOne_2 ?_
  refine lv_lconst (pc := 3) (v := 1) hx hb dX5_isOne_3 (by decide) ?_
  refine r_lcne (pc := 4) (tgt := 20) E dX5_isOne_4 dX5_isOne_5 (by decide) (fun c_1 => ?_) (fun c_1 => ?_)
  · refine lv_iconst (pc := 20) (v := 0) hx hb dX5_isOne_20 (by decide) ?_
    refine r_zret (pc := 21) E hr hlk hS (by decide) (by decide) rfl ?_ dX5_isOne_21
    first | with_reducible rfl | (simp [m_one, c_1]; done)
  · refine lv_aload_n (pc := 8) hx hb dX5_isOne_8 rfl (lv_at hl 0 rfl) ?_
    refine lv_iconst (pc := 9) (v := 1) hx hb dX5_isOne_9 (by decide) ?_
    refine r_l1 (pc := 10) E hC fa dX5_isOne_10 ?_
    refine lv_lconst (pc := 11) (v := 1) hx hb dX5_isOne_11 (by decide) ?_
    refine r_lcne (pc := 12) (tgt := 20) E dX5_isOne_12 dX5_isOne_13 (by decide) (fun c_2 => ?_) (fun c_2 => ?_)
    · refine lv_iconst (pc := 20) (v := 0) hx hb dX5_isOne_20 (by decide) ?_
      refine r_zret (pc := 21) E hr hlk hS (by decide) (by decide) rfl ?_ dX5_isOne_21
      first | with_reducible rfl | (simp [m_one, c_1, c_2]; done)
    · refine lv_iconst (pc := 16) (v := 1) hx hb dX5_isOne_16 (by decide) ?_
      refine lv_goto (pc := 17) (tgt := 21) hx hb dX5_isOne_17 (by decide) ?_
      refine r_zret (pc := 21) E hr hlk hS (by decide) (by decide) rfl ?_ dX5_isOne_21
      first | with_reducible rfl | (simp [m_one, c_1, c_2]; done)
