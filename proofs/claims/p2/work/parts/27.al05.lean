set_option maxHeartbeats 4000000 in
set_option maxRecDepth 100000 in
/-- java/util/ArrayList.size()I -/
theorem c_Jx4a65c_size_8abf5 (l : Launch) (D : va_G) (tk : Nat → ClassId) (N0 : Nat) (sa : Nat → Nat)  (sz : Nat) (a b n : Nat) (md : Int32) : Met l yJx4a65c_size_8abf5 (wsy yJx4a65c_size_8abf5 cJx4a65c_size_8abf5 1 (some .int)) ({ frames := 0, cells := 0, slots := 0, locals := 0 } : Room) (cP D tk N0 sa [.ref a] sz (fun H => c1 D a (.inr (7, [.int md, .ref b, .int (nI n)])) H)) (kQi (fun r H => r = nI n) (nwA sz)) (0) (0) (nwA sz) := by
  refine mStart RJx4a65c rfl (by decide +kernel) (Nat.le_of_ble_eq_true rfl) ?_
  intro p e s m args below meth c E hr hlk hnm hsz hC hF ls hl
  subst hsz
  obtain ⟨hx, hb, -⟩ := id E
  have hA : ∀ q, (nwA s.heap.size) q → N0 ≤ q := fun q h => Nat.le_trans hC.2.1 h
  have hn : ∀ q, s.heap.size ≤ q → (nwA s.heap.size) q := fun q h => h
  have hS : va_S (nwA s.heap.size) s.heap s.heap [] := va_S.rf
  have hl : lv_has ls 1 [(0, .ref a)] := hl
  have f0 : c1 D a (.inr (7, [.int md, .ref b, .int (nI n)])) s.heap := hF
  refine lv_aload_n (pc := 0) hx hb dJx4a65c_size_8abf5_0 rfl (lv_at hl 0 rfl) ?_
  refine r_get (pc := 1) E hC f0 2 (v := .int (nI n)) rfl rfl (by decide) uJx4a65c (List.mem_cons_of_mem _ kw_1187) (fun _ h => h) dJx4a65c_size_8abf5_1 ?_
  refine r_iret (pc := 4) E hr hlk hS (by decide) (by decide) ?_ dJx4a65c_size_8abf5_4
  rfl
