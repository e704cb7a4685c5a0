set_option maxHeartbeats 4000000 in
set_option maxRecDepth 100000 in
/-- java/lang/String.substring(I)Ljava/lang/String; -/
theorem c_J0_substring_b52d3 (l : Launch) (D : va_G) (tk : Nat → ClassId) (N0 : Nat) (sa : Nat → Nat)  (sz : Nat) (t k i : Nat) (fr : Int32) (hfr : fr = nI i) (hij : i ≤ k) (hk9 : k ≤ 100000000) : Met l yJ0_substring_b52d3 (wsy yJ0_substring_b52d3 cJ0_substring_b52d3 2 (some (.object "java/lang/String"))) ({ frames := 5, cells := 2, slots := 4 + (k - i), locals := 118 } : Room) (cP D tk N0 sa [.ref t, .int fr] sz (fun H => SX D tk t k H)) (kQr (fun r H => SX D tk r (k - i) H) (nwA sz)) (2) (4 + (k - i)) (nwA sz) := by
  refine mStart RJ0 rfl (by decide +kernel) (Nat.le_of_ble_eq_true rfl) ?_
  intro p e s m args below meth c E hr hlk hnm hsz hC hF ls hl
  subst hsz
  obtain ⟨hx, hb, -⟩ := id E
  have hA : ∀ q, (nwA s.heap.size) q → N0 ≤ q := fun q h => Nat.le_trans hC.2.1 h
  have hn : ∀ q, s.heap.size ≤ q → (nwA s.heap.size) q := fun q h => h
  have hS : va_S (nwA s.heap.size) s.heap s.heap [] := va_S.rf
  have hl : lv_has ls 2 [(0, .ref t), (1, .int fr)] := hl
  have st : SX D tk t k s.heap := hF
  refine lv_aload_n (pc := 0) hx hb dJ0_substring_b52d3_0 rfl (lv_at hl 0 rfl) ?_
  refine lv_iload_n (pc := 1) hx hb dJ0_substring_b52d3_1 rfl (lv_at hl 1 rfl) ?_
  refine lv_aload_n (pc := 2) hx hb dJ0_substring_b52d3_2 rfl (lv_at hl 0 rfl) ?_
  refine k_i (pc := 3) (k_V E hC hS hA hl.1 (st.recv hC) rfl (c_J0_length_8abf5 l D tk N0 sa s.heap.size t k) kw_1717 kw_413 kw_414 kw_20 kw_415 (n := 0) (by decide +kernel) rfl ⟨⟨rfl, rfl⟩, ⟨Nat.le_of_ble_eq_true rfl, Nat.le_of_ble_eq_true rfl⟩, (by dsimp only; omega), (by dsimp only; omega)⟩ rfl (Nat.le_of_ble_eq_true rfl) st dJ0_substring_b52d3_3) hS (fun q z w => absurd w (Nat.not_le.mpr z)) hn (fun r_1 H locs hR hz hk hS => ?_)
  have st := st.new hk
  rw [show r_1 = nI k from hR]
  have hZ0_ := hS.1
  have t_st := st.lt
  refine k_r (pc := 6) (k_V E hC hS hA hl.1 (st.recv hC) rfl (c_J0_substring_37a41 l D tk N0 sa H.size t k i k fr (nI k) hfr rfl hij (Nat.le_refl k) hk9) kw_1746 kw_1714 kw_1715 kw_20 kw_1716 (n := 2) (by decide +kernel) rfl ⟨⟨rfl, rfl⟩, ⟨Nat.le_of_ble_eq_true rfl, Nat.le_of_ble_eq_true rfl⟩, (by dsimp only; omega), (by dsimp only; omega)⟩ rfl (Nat.le_of_ble_eq_true rfl) st dJ0_substring_b52d3_6) hS (fun q z w => absurd w (Nat.not_le.mpr z)) hn (fun r_2 H locs hR hz hk hS => ?_)
  have st := st.new hk
  have f3 := hR
  refine r_aret (pc := 9) E hr (Or.inl ⟨_, rfl⟩) hlk hS (by omega) (by omega) ?_ dJ0_substring_b52d3_9
  exact f3
