set_option maxHeartbeats 4000000 in
set_option maxRecDepth 100000 in
/-- java/util/Arrays.checkLength(II)V -/
theorem c_J7_checkLength_df160 (l : Launch) (D : va_G) (tk : Nat → ClassId) (N0 : Nat) (sa : Nat → Nat)  (sz : Nat) (fr to : Int32) (i j : Nat) (hfr : fr = nI i) (hto : to = nI j) (hij : i ≤ j) (hj9 : j ≤ 100000000) : Met l yJ7_checkLength_df160 (wsy yJ7_checkLength_df160 cJ7_checkLength_df160 2 none) ({ frames := 0, cells := 0, slots := 0, locals := 0 } : Room) (cP D tk N0 sa [.int fr, .int to] sz (fun H => True)) (kQv (fun H => True) (nwA sz)) (0) (0) (nwA sz) := by
  refine mStart RJ7 rfl (by decide +kernel) (Nat.le_of_ble_eq_true rfl) ?_
  intro p e s m args below meth c E hr hlk hnm hsz hC hF ls hl
  subst hsz
  obtain ⟨hx, hb, -⟩ := id E
  have hA : ∀ q, (nwA s.heap.size) q → N0 ≤ q := fun q h => Nat.le_trans hC.2.1 h
  have hn : ∀ q, s.heap.size ≤ q → (nwA s.heap.size) q := fun q h => h
  have hS : va_S (nwA s.heap.size) s.heap s.heap [] := va_S.rf
  have hl : lv_has ls 2 [(0, .int fr), (1, .int to)] := hl
  refine lv_iload_n (pc := 0) hx hb dJ7_checkLength_df160_0 rfl (lv_at hl 1 rfl) ?_
  refine lv_iload_n (pc := 1) hx hb dJ7_checkLength_df160_1 rfl (lv_at hl 0 rfl) ?_
  refine lv_icmp_ge (pc := 2) (tgt := 37) hx hb dJ7_checkLength_df160_2 (by decide) (fun c_1 => ?_) (fun c_1 => ?_)
  rotate_left
  · exact absurd (by rw [hfr, hto]; exact nI_le hij (by omega)) c_1
  refine r_vret (pc := 37) E hr hlk hS (by decide) (by decide) ?_ dJ7_checkLength_df160_37
  exact trivial
