set_option maxHeartbeats 4000000 in
set_option maxRecDepth 100000 in
/-- Bestratios.requireWithin(III)V -/
theorem c_X3_requireWithin (l : Launch) (hlst : l.stackTraces = false) (D : va_G) (tk : Nat → ClassId) (N0 : Nat) (sa : Nat → Nat)  (sz : Nat) (x_ : Int32) (lo : Int32) (hi_ : Int32) : vx_Met l yX3_requireWithin (wsy yX3_requireWithin cX3_requireWithin 3 none) ({ frames := 6, cells := 1, slots := 6, locals := 90 } : Room) (cP D tk N0 sa [.int x_, .int lo, .int hi_] sz (fun H => True)) (kQv (fun H => bW x_ lo hi_ = 0) (nwA sz)) (kX (fun E => (E = "java/lang/IllegalArgumentException" ∧ bW x_ lo hi_ = 1)) sz) (1) (6) (nwA sz) := by
  refine mStartX RX3 rfl (by decide +kernel) (Nat.le_of_ble_eq_true rfl) ?_
  intro p e s m args below meth c E hr hlk htb hsz hC hF ls hl
  subst hsz
  obtain ⟨hx, hb, -⟩ := id E
  have hA : ∀ q, (nwA s.heap.size) q → N0 ≤ q := fun q h => Nat.le_trans hC.2.1 h
  have hn : ∀ q, s.heap.size ≤ q → (nwA s.heap.size) q := fun q h => h
  have hS : va_S (nwA s.heap.size) s.heap s.heap [] := va_S.rf
  have hU : ∀ q, q < s.heap.size → s.heap[q]? = s.heap[q]? := fun _ _ => rfl
  have hl : lv_has ls 3 [(0, .int x_), (1, .int lo), (2, .int hi_)] := hl
  refine lv_iload_n (pc := 0) hx hb dX3_requireWithin_0 rfl (lv_at hl 0 rfl) ?_
  refine lv_iload_n (pc := 1) hx hb dX3_requireWithin_1 rfl (lv_at hl 1 rfl) ?_
  refine lv_icmp_lt (pc := 2) (tgt := 10) hx hb dX3_requireWithin_2 (by decide) (fun c_1 => ?_) (fun c_1 => ?_)
  · exact r_throwW (pc := 10) 3 hlst E hC hS hA hl.1 hlk htb hU rfl (by decide +kernel) kw_826 kw_15 at_RX3_58 dX3_requireWithin_10 dX3_requireWithin_13 dX3_requireWithin_14 dX3_requireWithin_17 dX3_requireWithin_20 (by decide) (Nat.le_of_ble_eq_true rfl) (by decide) (by decide) (by first | (simp [bW]; done) | (simp_all [bW]; done)) (by decide) (by decide)
  · refine lv_iload_n (pc := 5) hx hb dX3_requireWithin_5 rfl (lv_at hl 0 rfl) ?_
    refine lv_iload_n (pc := 6) hx hb dX3_requireWithin_6 rfl (lv_at hl 2 rfl) ?_
    refine lv_icmp_le (pc := 7) (tgt := 21) hx hb dX3_requireWithin_7 (by decide) (fun c_2 => ?_) (fun c_2 => ?_)
    · refine vx_ret ?_
      refine r_vret (pc := 21) E hr hlk hS (by decide) (by decide) ?_ dX3_requireWithin_21
      exact (by first | assumption | (simp [xo, c_1, Int32.not_lt.mp c_1, c_2, Int32.not_lt.mpr c_2, bW]; done))
    · exact r_throwW (pc := 10) 3 hlst E hC hS hA hl.1 hlk htb hU rfl (by decide +kernel) kw_826 kw_15 at_RX3_58 dX3_requireWithin_10 dX3_requireWithin_13 dX3_requireWithin_14 dX3_requireWithin_17 dX3_requireWithin_20 (by decide) (Nat.le_of_ble_eq_true rfl) (by decide) (by decide) (by first | (simp [bW]; done) | (simp_all [bW]; done)) (by decide) (by decide)
