set_option maxHeartbeats 4000000 in
set_option maxRecDepth 100000 in
/-- BestratiosModel.isFit([J)Z -/
theorem c_X5_isFit_N (l : Launch) (D : va_G) (tk : Nat → ClassId) (N0 : Nat) (sa : Nat → Nat)  (sz : Nat)  : Met l yX5_isFit (wsy yX5_isFit cX5_isFit 1 (some .boolean)) ({ frames := 0, cells := 0, slots := 0, locals := 0 } : Room) (cP D tk N0 sa [.null] sz (fun H => True)) (kQi (fun r H => r = 0) (nwA sz)) (0) (0) (nwA sz) := by
  refine mStart RX5 rfl (by decide +kernel) (Nat.le_of_ble_eq_true rfl) ?_
  intro p e s m args below meth c E hr hlk hnm hsz hC hF ls hl
  subst hsz
  obtain ⟨hx, hb, -⟩ := id E
  have hA : ∀ q, (nwA s.heap.size) q → N0 ≤ q := fun q h => Nat.le_trans hC.2.1 h
  have hn : ∀ q, s.heap.size ≤ q → (nwA s.heap.size) q := fun q h => h
  have hS : va_S (nwA s.heap.size) s.heap s.heap [] := va_S.rf
  have hl : lv_has ls 1 [(0, .null)] := hl
  refine lv_aload_nN (pc := 0) hx hb dX5_isFit_0 rfl (lv_at hl 0 rfl) ?_
  refine lv_ifnullN (pc := 1) (tgt := 38) hx hb dX5_isFit_1 (by decide) ?_
  refine lv_iconst (pc := 38) (v := 0) hx hb dX5_isFit_38 (by decide) ?_
  refine r_zret (pc := 39) E hr hlk hS (by decide) (by decide) rfl ?_ dX5_isFit_39
  rfl
