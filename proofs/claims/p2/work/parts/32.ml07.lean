set_option maxHeartbeats 4000000 in
set_option maxRecDepth 100000 in
/-- BestratiosModel.isAbove([J)Z -/
theorem c_X5_isAbove (l : Launch) (D : va_G) (tk : Nat → ClassId) (N0 : Nat) (sa : Nat → Nat)  (sz : Nat) (pa : Nat) (ta : Int64) (ba : Int64) : Met l yX5_isAbove (wsy yX5_isAbove cX5_isAbove 1 (some .boolean)) ({ frames := 0, cells := 0, slots := 0, locals := 0 } : Room) (cP D tk N0 sa [.ref pa] sz (fun H => L2 D tk pa ta ba H)) (kQi (fun r H => r = m_abv ta) (nwA sz)) (0) (0) (nwA sz) := by
  refine mStart RX5 rfl (by decide +kernel) (Nat.le_of_ble_eq_true rfl) ?_
  intro p e s m args below meth c E hr hlk hnm hsz hC hF ls hl
  subst hsz
  obtain ⟨hx, hb, -⟩ := id E
  have hA : ∀ q, (nwA s.heap.size) q → N0 ≤ q := fun q h => Nat.le_trans hC.2.1 h
  have hn : ∀ q, s.heap.size ≤ q → (nwA s.heap.size) q := fun q h => h
  have hS : va_S (nwA s.heap.size) s.heap s.heap [] := va_S.rf
  have hl : lv_has ls 1 [(0, .ref pa)] := hl
  have fa : L2 D tk pa ta ba s.heap := hF
  refine lv_aload_n (pc := 0) hx hb dX5_isAbove_0 rfl (lv_at hl 0 rfl) ?_
  refine lv_iconst (pc := 1) (v := 0) hx hb dX5_isAbove_1 (by decide) ?_
  refine r_l0 (pc := 2) E hC fa dX5_isAbove_2 ?_
  refine lv_lconst (pc := 3) (v := 0) hx hb dX5_isAbove_3 (by decide) ?_
  refine r_lcle (pc := 4) (tgt := 12) E dX5_isAbove_4 dX5_isAbove_5 (by decide) (fun c_1 => ?_) (fun c_1 => ?_)
  · refine lv_iconst (pc := 12) (v := 0) hx hb dX5_isAbove_12 (by decide) ?_
    refine r_zret (pc := 13) E hr hlk hS (by decide) (by decide) rfl ?_ dX5_isAbove_13
    first | with_reducible rfl | (simp [m_abv, c_1, Int64.not_lt.mpr c_1]; done)
  · refine lv_iconst (pc := 8) (v := 1) hx hb dX5_isAbove_8 (by decide) ?_
    refine lv_goto (pc := 9) (tgt := 13) hx hb dX5_isAbove_9 (by decide) ?_
    refine r_zret (pc := 13) E hr hlk hS (by decide) (by decide) rfl ?_ dX5_isAbove_13
    first | with_reducible rfl | (simp [m_abv, c_1, Int64.not_le.mp c_1]; done)
