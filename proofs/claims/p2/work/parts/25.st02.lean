set_option maxHeartbeats 4000000 in
set_option maxRecDepth 100000 in
/-- java/lang/String.checkBoundsBeginEnd(III)V -/
theorem c_J0_checkBoundsBeginEnd_23922 (l : Launch) (D : va_G) (tk : Nat → ClassId) (N0 : Nat) (sa : Nat → Nat)  (sz : Nat) (fr to ln : Int32) (i j n : Nat) (hfr : fr = nI i) (hto : to = nI j) (hln : ln = nI n) (hij : i ≤ j) (hjn : j ≤ n) (hn9 : n ≤ 100000000) : Met l yJ0_checkBoundsBeginEnd_23922 (wsy yJ0_checkBoundsBeginEnd_23922 cJ0_checkBoundsBeginEnd_23922 3 none) ({ frames := 1, cells := 0, slots := 0, locals := 23 } : Room) (cP D tk N0 sa [.int fr, .int to, .int ln] sz (fun H => True)) (kQv (fun H => True) (nwA sz)) (0) (0) (nwA sz) := by
  refine mStart RJ0 rfl (by decide +kernel) (Nat.le_of_ble_eq_true rfl) ?_
  intro p e s m args below meth c E hr hlk hnm hsz hC hF ls hl
  subst hsz
  obtain ⟨hx, hb, -⟩ := id E
  have hA : ∀ q, (nwA s.heap.size) q → N0 ≤ q := fun q h => Nat.le_trans hC.2.1 h
  have hn : ∀ q, s.heap.size ≤ q → (nwA s.heap.size) q := fun q h => h
  have hS : va_S (nwA s.heap.size) s.heap s.heap [] := va_S.rf
  have hl : lv_has ls 3 [(0, .int fr), (1, .int to), (2, .int ln)] := hl
  rcases hC.xt.2.1 with hz9 | ⟨t9, hz9⟩
  · refine lv_iload_n (pc := 0) hx hb dJ0_checkBoundsBeginEnd_23922_0 rfl (lv_at hl 0 rfl) ?_
    refine lv_iload_n (pc := 1) hx hb dJ0_checkBoundsBeginEnd_23922_1 rfl (lv_at hl 1 rfl) ?_
    refine lv_iload_n (pc := 2) hx hb dJ0_checkBoundsBeginEnd_23922_2 rfl (lv_at hl 2 rfl) ?_
    refine va_gets (pc := 3) hx hb (hz9.narrow hA) hS E.2.2.2.1 (E.2.2.2.2 _ (List.mem_cons_of_mem _ kw_251)) (fun _ h => h) dJ0_checkBoundsBeginEnd_23922_3 ?_
    refine k_i (pc := 6) (k_S E hC hS hA hl.1 (c_J3_checkFromToIndex_8c36e l D tk N0 sa s.heap.size fr to ln i j n hfr hto hln hij hjn hn9) kw_307 kw_308 kw_26 kw_309 (n := 4) (by decide +kernel) rfl ⟨⟨rfl, rfl⟩, ⟨by decide, by decide⟩, by decide, by decide⟩ rfl (Nat.le_of_ble_eq_true rfl) trivial dJ0_checkBoundsBeginEnd_23922_6) hS (fun q z w => absurd w (Nat.not_le.mpr z)) hn (fun r_1 H locs hR hz hk hS => ?_)
    refine lv_pop (pc := 9) hx hb dJ0_checkBoundsBeginEnd_23922_9 rfl ?_
    refine r_vret (pc := 10) E hr hlk hS (by decide) (by decide) ?_ dJ0_checkBoundsBeginEnd_23922_10
    exact trivial
  · refine lv_iload_n (pc := 0) hx hb dJ0_checkBoundsBeginEnd_23922_0 rfl (lv_at hl 0 rfl) ?_
    refine lv_iload_n (pc := 1) hx hb dJ0_checkBoundsBeginEnd_23922_1 rfl (lv_at hl 1 rfl) ?_
    refine lv_iload_n (pc := 2) hx hb dJ0_checkBoundsBeginEnd_23922_2 rfl (lv_at hl 2 rfl) ?_
    refine va_gets (pc := 3) hx hb (hz9.narrow hA) hS E.2.2.2.1 (E.2.2.2.2 _ (List.mem_cons_of_mem _ kw_251)) (fun _ h => h) dJ0_checkBoundsBeginEnd_23922_3 ?_
    refine k_i (pc := 6) (k_S E hC hS hA hl.1 (c_J3_checkFromToIndex_8c36e_A l D tk N0 sa s.heap.size fr to ln i j n t9 hfr hto hln hij hjn hn9) kw_307 kw_308 kw_26 kw_309 (n := 4) (by decide +kernel) rfl ⟨⟨rfl, rfl⟩, ⟨by decide, by decide⟩, by decide, by decide⟩ rfl (Nat.le_of_ble_eq_true rfl) trivial dJ0_checkBoundsBeginEnd_23922_6) hS (fun q z w => absurd w (Nat.not_le.mpr z)) hn (fun r_2 H locs hR hz hk hS => ?_)
    refine lv_pop (pc := 9) hx hb dJ0_checkBoundsBeginEnd_23922_9 rfl ?_
    refine r_vret (pc := 10) E hr hlk hS (by decide) (by decide) ?_ dJ0_checkBoundsBeginEnd_23922_10
    exact trivial
