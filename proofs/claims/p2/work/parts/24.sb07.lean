set_option maxHeartbeats 4000000 in
set_option maxRecDepth 100000 in
/-- java/lang/String.length()I -/
theorem c_J0_length_8abf5 (l : Launch) (D : va_G) (tk : Nat → ClassId) (N0 : Nat) (sa : Nat → Nat)  (sz : Nat) (t k : Nat) : Met l yJ0_length_8abf5 (wsy yJ0_length_8abf5 cJ0_length_8abf5 1 (some .int)) ({ frames := 1, cells := 0, slots := 0, locals := 20 } : Room) (cP D tk N0 sa [.ref t] sz (fun H => SX D tk t k H)) (kQi (fun r H => r = nI k) (nwA sz)) (0) (0) (nwA sz) := by
  refine mStart RJ0 rfl (by decide +kernel) (Nat.le_of_ble_eq_true rfl) ?_
  intro p e s m args below meth c E hr hlk hnm hsz hC hF ls hl
  subst hsz
  obtain ⟨hx, hb, -⟩ := id E
  have hA : ∀ q, (nwA s.heap.size) q → N0 ≤ q := fun q h => Nat.le_trans hC.2.1 h
  have hn : ∀ q, s.heap.size ≤ q → (nwA s.heap.size) q := fun q h => h
  have hS : va_S (nwA s.heap.size) s.heap s.heap [] := va_S.rf
  have hl : lv_has ls 1 [(0, .ref t)] := hl
  obtain ⟨b0, h0, h1, h2⟩ : SX D tk t k s.heap := hF
  refine lv_aload_n (pc := 0) hx hb dJ0_length_8abf5_0 rfl (lv_at hl 0 rfl) ?_
  refine r_getX (pc := 1) E hC h0 rfl (by decide) uJ0 (List.mem_cons_of_mem _ kw_475) (fun _ h => h) dJ0_length_8abf5_1 ?_
  obtain ⟨x_1, ex_1⟩ : ∃ z9 : Int32, z9 = nI k := ⟨_, rfl⟩
  refine r_alenX (pc := 4) E hC h2 (v := x_1) ex_1.symm dJ0_length_8abf5_4 ?_
  refine lv_aload_n (pc := 5) hx hb dJ0_length_8abf5_5 rfl (lv_at hl 0 rfl) ?_
  refine k_i (pc := 6) (k_V E hC hS hA hl.1 (xf.recv hC h0 rfl) rfl (c_J0_coder_7d493 l D tk N0 sa s.heap.size t k) kw_416 kw_417 kw_418 kw_20 kw_419 (n := 0) (by decide +kernel) rfl ⟨⟨rfl, rfl⟩, ⟨by decide, by decide⟩, by decide, by decide⟩ rfl (Nat.le_of_ble_eq_true rfl) ⟨_, h0, h1, h2⟩ dJ0_length_8abf5_6) hS (fun q z w => absurd w (Nat.not_le.mpr z)) hn (fun r_2 H locs hR hz hk hS => ?_)
  have h0 := h0.kept (hk _ h0.lt (Nat.not_le.mpr h0.lt))
  have h1 := h1.kept (hk _ h1.lt (Nat.not_le.mpr h1.lt))
  have h2 := h2.kept (hk _ h2.lt (Nat.not_le.mpr h2.lt))
  rw [show r_2 = 0 from hR]
  refine lv_ishr (pc := 9) hx hb dJ0_length_8abf5_9 ?_
  refine r_iret (pc := 10) E hr hlk hS (by decide) (by decide) ?_ dJ0_length_8abf5_10
  rw [sb_shr0]
  exact ex_1
