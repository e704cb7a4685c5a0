set_option maxHeartbeats 4000000 in
set_option maxRecDepth 100000 in
/-- java/util/Objects.checkIndex(II)I -/
theorem c_J15_checkIndex_7cf53 (l : Launch) (D : va_G) (tk : Nat → ClassId) (N0 : Nat) (sa : Nat → Nat)  (sz : Nat) (ix ln : Int32) (i n : Nat) (hix : ix = nI i) (hln : ln = nI n) (hin : i < n) (hn9 : n ≤ 100000000) : Met l yJ15_checkIndex_7cf53 (wsy yJ15_checkIndex_7cf53 cJ15_checkIndex_7cf53 2 (some .int)) ({ frames := 1, cells := 0, slots := 0, locals := 22 } : Room) (cP D tk N0 sa [.int ix, .int ln] sz (fun H => True)) (kQi (fun r H => r = ix) (nwA sz)) (0) (0) (nwA sz) := by
  refine mStart RJ15 rfl (by decide +kernel) (Nat.le_of_ble_eq_true rfl) ?_
  intro p e s m args below meth c E hr hlk hnm hsz hC hF ls hl
  subst hsz
  obtain ⟨hx, hb, -⟩ := id E
  have hA : ∀ q, (nwA s.heap.size) q → N0 ≤ q := fun q h => Nat.le_trans hC.2.1 h
  have hn : ∀ q, s.heap.size ≤ q → (nwA s.heap.size) q := fun q h => h
  have hS : va_S (nwA s.heap.size) s.heap s.heap [] := va_S.rf
  have hl : lv_has ls 2 [(0, .int ix), (1, .int ln)] := hl
  refine lv_iload_n (pc := 0) hx hb dJ15_checkIndex_7cf53_0 rfl (lv_at hl 0 rfl) ?_
  refine lv_iload_n (pc := 1) hx hb dJ15_checkIndex_7cf53_1 rfl (lv_at hl 1 rfl) ?_
  refine lv_null (pc := 2) hx hb dJ15_checkIndex_7cf53_2 ?_
  refine k_i (pc := 3) (k_S E hC hS hA hl.1 (c_J3_checkIndex_8e157 l D tk N0 sa s.heap.size ix ln i n hix hln hin hn9) kw_1557 kw_275 kw_26 kw_276 (n := 3) (by decide +kernel) rfl ⟨⟨rfl, rfl⟩, ⟨by decide, by decide⟩, by decide, by decide⟩ rfl (Nat.le_of_ble_eq_true rfl) trivial dJ15_checkIndex_7cf53_3) hS (fun q z w => absurd w (Nat.not_le.mpr z)) hn (fun r_1 H locs hR hz hk hS => ?_)
  rw [show r_1 = ix from hR]
  refine r_iret (pc := 6) E hr hlk hS (by decide) (by decide) ?_ dJ15_checkIndex_7cf53_6
  rfl
