set_option maxHeartbeats 4000000 in
set_option maxRecDepth 100000 in
/-- Bestratios.requireNotBelow0(I)V -/
theorem c_X3_requireNotBelow0 (l : Launch) (hlst : l.stackTraces = false) (D : va_G) (tk : Nat → ClassId) (N0 : Nat) (sa : Nat → Nat)  (sz : Nat) (x_ : Int32) : vx_Met l yX3_requireNotBelow0 (wsy yX3_requireNotBelow0 cX3_requireNotBelow0 1 none) ({ frames := 6, cells := 1, slots := 6, locals := 90 } : Room) (cP D tk N0 sa [.int x_] sz (fun H => True)) (kQv (fun H => bN x_ = 0) (nwA sz)) (kX (fun E => (E = "java/lang/IllegalArgumentException" ∧ bN x_ = 1)) sz) (1) (6) (nwA sz) := by
  refine mStartX RX3 rfl (by decide +kernel) (Nat.le_of_ble_eq_true rfl) ?_
  intro p e s m args below meth c E hr hlk htb hsz hC hF ls hl
  subst hsz
  obtain ⟨hx, hb, -⟩ := id E
  have hA : ∀ q, (nwA s.heap.size) q → N0 ≤ q := fun q h => Nat.le_trans hC.2.1 h
  have hn : ∀ q, s.heap.size ≤ q → (nwA s.heap.size) q := fun q h => h
  have hS : va_S (nwA s.heap.size) s.heap s.heap [] := va_S.rf
  have hU : ∀ q, q < s.heap.size → s.heap[q]? = s.heap[q]? := fun _ _ => rfl
  have hl : lv_has ls 1 [(0, .int x_)] := hl
  refine lv_iload_n (pc := 0) hx hb dX3_requireNotBelow0_0 rfl (lv_at hl 0 rfl) ?_
  refine lv_if_ge (pc := 1) (tgt := 15) hx hb dX3_requireNotBelow0_1 (by decide) (fun c_1 => ?_) (fun c_1 => ?_)
  · refine vx_ret ?_
    refine r_vret (pc := 15) E hr hlk hS (by decide) (by decide) ?_ dX3_requireNotBelow0_15
    exact (by first | assumption | (simp [xo, c_1, Int32.not_lt.mpr c_1, bN]; done))
  · exact r_throwW (pc := 4) 4 hlst E hC hS hA hl.1 hlk htb hU rfl (by decide +kernel) kw_826 kw_15 at_RX3_58 dX3_requireNotBelow0_4 dX3_requireNotBelow0_7 dX3_requireNotBelow0_8 dX3_requireNotBelow0_11 dX3_requireNotBelow0_14 (by decide) (Nat.le_of_ble_eq_true rfl) (by decide) (by decide) (by first | (simp [bN]; done) | (simp_all [bN]; done)) (by decide) (by decide)
