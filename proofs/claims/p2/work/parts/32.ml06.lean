set_option maxHeartbeats 4000000 in
set_option maxRecDepth 100000 in
/-- BestratiosModel.order([J[J)I -/
theorem c_X5_order (l : Launch) (D : va_G) (tk : Nat → ClassId) (N0 : Nat) (sa : Nat → Nat)  (sz : Nat) (pa : Nat) (ta : Int64) (ba : Int64) (pb : Nat) (tb : Int64) (bb : Int64) : Met l yX5_order (wsy yX5_order cX5_order 6 (some .int)) ({ frames := 1, cells := 0, slots := 0, locals := 20 } : Room) (cP D tk N0 sa [.ref pa, .ref pb] sz (fun H => L2 D tk pa ta ba H ∧ L2 D tk pb tb bb H)) (kQi (fun r H => r = m_ord ta ba tb bb) (nwA sz)) (0) (0) (nwA sz) := by
  refine mStart RX5 rfl (by decide +kernel) (Nat.le_of_ble_eq_true rfl) ?_
  intro p e s m args below meth c E hr hlk hnm hsz hC hF ls hl
  subst hsz
  obtain ⟨hx, hb, -⟩ := id E
  have hA : ∀ q, (nwA s.heap.size) q → N0 ≤ q := fun q h => Nat.le_trans hC.2.1 h
  have hn : ∀ q, s.heap.size ≤ q → (nwA s.heap.size) q := fun q h => h
  have hS : va_S (nwA s.heap.size) s.heap s.heap [] := va_S.rf
  have hl : lv_has ls 6 [(0, .ref pa), (1, .ref pb)] := hl
  obtain ⟨fa, fb⟩ : L2 D tk pa ta ba s.heap ∧ L2 D tk pb tb bb s.heap := hF
  refine lv_aload_n (pc := 0) hx hb dX5_order_0 rfl (lv_at hl 0 rfl) ?_
  refine lv_iconst (pc := 1) (v := 0) hx hb dX5_order_1 (by decide) ?_
  refine r_l0 (pc := 2) E hC fa dX5_order_2 ?_
  refine lv_aload_n (pc := 3) hx hb dX5_order_3 rfl (lv_at hl 1 rfl) ?_
  refine lv_iconst (pc := 4) (v := 1) hx hb dX5_order_4 (by decide) ?_
  refine r_l1 (pc := 5) E hC fb dX5_order_5 ?_
  refine lv_lmul (pc := 6) hx hb dX5_order_6 ?_
  obtain ⟨x_1, ex_1⟩ : ∃ z9 : Int64, z9 = ta * bb := ⟨_, rfl⟩
  rw [← ex_1]
  refine lv_lstore_n (pc := 7) (lv' := [(2, .long x_1), (0, .ref pa), (1, .ref pb)]) hx hb dX5_order_7 rfl hl (by decide) rfl (fun ls hl => ?_)
  refine lv_aload_n (pc := 8) hx hb dX5_order_8 rfl (lv_at hl 2 rfl) ?_
  refine lv_iconst (pc := 9) (v := 0) hx hb dX5_order_9 (by decide) ?_
  refine r_l0 (pc := 10) E hC fb dX5_order_10 ?_
  refine lv_aload_n (pc := 11) hx hb dX5_order_11 rfl (lv_at hl 1 rfl) ?_
  refine lv_iconst (pc := 12) (v := 1) hx hb dX5_order_12 (by decide) ?_
  refine r_l1 (pc := 13) E hC fa dX5_order_13 ?_
  refine lv_lmul (pc := 14) hx hb dX5_order_14 ?_
  obtain ⟨x_2, ex_2⟩ : ∃ z9 : Int64, z9 = tb * ba := ⟨_, rfl⟩
  rw [← ex_2]
  refine lv_lstore (pc := 15) (lv' := [(4, .long x_2), (2, .long x_1), (0, .ref pa), (1, .ref pb)]) hx hb dX5_order_15 hl (by decide) rfl (fun ls hl => ?_)
  refine lv_lload_n (pc := 17) hx hb dX5_order_17 rfl (lv_at hl 1 rfl) ?_
  refine lv_lload (pc := 18) hx hb dX5_order_18 (lv_at hl 0 rfl) ?_
  refine r_lcge (pc := 20) (tgt := 28) E dX5_order_20 dX5_order_21 (by decide) (fun c_3 => ?_) (fun c_3 => ?_)
  · refine lv_lload_n (pc := 28) hx hb dX5_order_28 rfl (lv_at hl 1 rfl) ?_
    refine lv_lload (pc := 29) hx hb dX5_order_29 (lv_at hl 0 rfl) ?_
    refine r_lcle (pc := 31) (tgt := 39) E dX5_order_31 dX5_order_32 (by decide) (fun c_4 => ?_) (fun c_4 => ?_)
    · refine lv_iconst (pc := 39) (v := 0) hx hb dX5_order_39 (by decide) ?_
      refine k_i (pc := 40) (k_S E hC hS hA hl.1 (c_X5_bit l D tk N0 sa s.heap.size 0 ) kw_1271 kw_1272 kw_5 kw_1273 (n := 1) (by decide +kernel) rfl ⟨⟨rfl, rfl⟩, ⟨by decide, by decide⟩, by decide, by decide⟩ rfl (Nat.le_of_ble_eq_true rfl) trivial dX5_order_40) hS (fun q z w => absurd w (Nat.not_le.mpr z)) hn (fun r_5 H locs hR hz hk hS => ?_)
      have er_5 := hR
      have fa := fa.kept (hk _ fa.lt (Nat.not_le.mpr fa.lt))
      have fb := fb.kept (hk _ fb.lt (Nat.not_le.mpr fb.lt))
      refine r_iret (pc := 43) E hr hlk hS (by decide) (by decide) ?_ dX5_order_43
      subst ex_1 ex_2 er_5; first | with_reducible rfl | (simp [m_ord, m_bit, c_3, Int64.not_lt.mpr c_3, c_4, Int64.not_lt.mpr c_4]; done)
    · refine lv_iconst (pc := 35) (v := 1) hx hb dX5_order_35 (by decide) ?_
      refine lv_goto (pc := 36) (tgt := 40) hx hb dX5_order_36 (by decide) ?_
      refine k_i (pc := 40) (k_S E hC hS hA hl.1 (c_X5_bit l D tk N0 sa s.heap.size 1 ) kw_1271 kw_1272 kw_5 kw_1273 (n := 1) (by decide +kernel) rfl ⟨⟨rfl, rfl⟩, ⟨by decide, by decide⟩, by decide, by decide⟩ rfl (Nat.le_of_ble_eq_true rfl) trivial dX5_order_40) hS (fun q z w => absurd w (Nat.not_le.mpr z)) hn (fun r_7 H locs hR hz hk hS => ?_)
      have er_7 := hR
      have fa := fa.kept (hk _ fa.lt (Nat.not_le.mpr fa.lt))
      have fb := fb.kept (hk _ fb.lt (Nat.not_le.mpr fb.lt))
      refine r_iret (pc := 43) E hr hlk hS (by decide) (by decide) ?_ dX5_order_43
      subst ex_1 ex_2 er_7; first | with_reducible rfl | (simp [m_ord, m_bit, c_3, Int64.not_lt.mpr c_3, c_4, Int64.not_le.mp c_4]; done)
  · refine lv_iconst (pc := 24) (v := (-1)) hx hb dX5_order_24 (by decide) ?_
    refine lv_goto (pc := 25) (tgt := 43) hx hb dX5_order_25 (by decide) ?_
    refine r_iret (pc := 43) E hr hlk hS (by decide) (by decide) ?_ dX5_order_43
    subst ex_1 ex_2; first | with_reducible rfl | (simp [m_ord, m_bit, c_3, Int64.not_le.mp c_3]; done)
