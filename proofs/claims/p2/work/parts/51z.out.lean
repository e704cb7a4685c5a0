set_option maxHeartbeats 4000000 in
set_option maxRecDepth 100000 in
/-- BestratiosLaw$Out.<init>()V -/
theorem c_X4_init (l : Launch) (D : va_G) (tk : Nat → ClassId) (N0 : Nat) (sa : Nat → Nat)  (sz : Nat) (uo : Nat) : Met l yX4_init (wsy yX4_init cX4_init 1 none) ({ frames := 1, cells := 0, slots := 0, locals := 20 } : Room) (cP D tk N0 sa [.ref uo] sz (fun H => c1 D uo (.inr (12, [.long 0, .null])) H)) (kQv (fun H => c1 D uo (.inr (12, [.long 0, .null])) H) (nwA sz)) (0) (0) (nwA sz) := by
  refine mStart RX4 rfl (by decide +kernel) (Nat.le_of_ble_eq_true rfl) ?_
  intro p e s m args below meth c E hr hlk hnm hsz hC hF ls hl
  subst hsz
  obtain ⟨hx, hb, -⟩ := id E
  have hA : ∀ q, (nwA s.heap.size) q → N0 ≤ q := fun q h => Nat.le_trans hC.2.1 h
  have hn : ∀ q, s.heap.size ≤ q → (nwA s.heap.size) q := fun q h => h
  have hS : va_S (nwA s.heap.size) s.heap s.heap [] := va_S.rf
  have hl : lv_has ls 1 [(0, .ref uo)] := hl
  have f0 : c1 D uo (.inr (12, [.long 0, .null])) s.heap := hF
  refine lv_aload_n (pc := 0) hx hb dX4_init_0 rfl (lv_at hl 0 rfl) ?_
  refine r_oinit (pc := 1) E hl.1 kw_792 (Nat.le_of_ble_eq_true rfl) (by decide) (by decide) dX4_init_1 ?_
  refine r_vret (pc := 4) E hr hlk hS (by decide) (by decide) ?_ dX4_init_4
  exact f0
