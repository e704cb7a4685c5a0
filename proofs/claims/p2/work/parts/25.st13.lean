set_option maxHeartbeats 4000000 in
set_option maxRecDepth 100000 in
/-- java/lang/Integer.intValue()I -/
theorem c_J6_intValue_8abf5 (l : Launch) (D : va_G) (tk : Nat → ClassId) (N0 : Nat) (sa : Nat → Nat)  (sz : Nat) (a : Nat) (x : Int32) : Met l yJ6_intValue_8abf5 (wsy yJ6_intValue_8abf5 cJ6_intValue_8abf5 1 (some .int)) ({ frames := 0, cells := 0, slots := 0, locals := 0 } : Room) (cP D tk N0 sa [.ref a] sz (fun H => xf D 2 a 0 (.int x) H)) (kQi (fun r H => r = x) (nwA sz)) (0) (0) (nwA sz) := by
  refine mStart RJ6 rfl (by decide +kernel) (Nat.le_of_ble_eq_true rfl) ?_
  intro p e s m args below meth c E hr hlk hnm hsz hC hF ls hl
  subst hsz
  obtain ⟨hx, hb, -⟩ := id E
  have hA : ∀ q, (nwA s.heap.size) q → N0 ≤ q := fun q h => Nat.le_trans hC.2.1 h
  have hn : ∀ q, s.heap.size ≤ q → (nwA s.heap.size) q := fun q h => h
  have hS : va_S (nwA s.heap.size) s.heap s.heap [] := va_S.rf
  have hl : lv_has ls 1 [(0, .ref a)] := hl
  have h0 : xf D 2 a 0 (.int x) s.heap := hF
  refine lv_aload_n (pc := 0) hx hb dJ6_intValue_8abf5_0 rfl (lv_at hl 0 rfl) ?_
  refine r_getX (pc := 1) E hC h0 rfl (by decide) uJ6 (List.mem_cons_of_mem _ kw_1589) (fun _ h => h) dJ6_intValue_8abf5_1 ?_
  refine r_iret (pc := 4) E hr hlk hS (by decide) (by decide) ?_ dJ6_intValue_8abf5_4
  rfl
