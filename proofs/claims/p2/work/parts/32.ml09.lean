set_option maxHeartbeats 4000000 in
set_option maxRecDepth 100000 in
/-- BestratiosModel.nextOf([J)[J -/
theorem c_X5_nextOf (l : Launch) (D : va_G) (tk : Nat → ClassId) (N0 : Nat) (sa : Nat → Nat)  (sz : Nat) (pa : Nat) (ta : Int64) (ba : Int64) (hb0 : ¬ ba = 0) (hg : ¬ m_div (ba) ((2 * m_floor ta ba + 1) * ba - ta) = 0) : Met l yX5_nextOf (wsy yX5_nextOf cX5_nextOf 1 (some (.array .long))) ({ frames := 3, cells := 1, slots := 2, locals := 77 } : Room) (cP D tk N0 sa [.ref pa] sz (fun H => L2 D tk pa ta ba H)) (kQr (fun r H => sz ≤ r ∧ L2 D tk r (m_loT (ba) ((2 * m_floor ta ba + 1) * ba - ta)) (m_loB (ba) ((2 * m_floor ta ba + 1) * ba - ta)) H) (nwA sz)) (1) (2) (nwA sz) := by
  refine mStart RX5 rfl (by decide +kernel) (Nat.le_of_ble_eq_true rfl) ?_
  intro p e s m args below meth c E hr hlk hnm hsz hC hF ls hl
  subst hsz
  obtain ⟨hx, hb, -⟩ := id E
  have hA : ∀ q, (nwA s.heap.size) q → N0 ≤ q := fun q h => Nat.le_trans hC.2.1 h
  have hn : ∀ q, s.heap.size ≤ q → (nwA s.heap.size) q := fun q h => h
  have hS : va_S (nwA s.heap.size) s.heap s.heap [] := va_S.rf
  have hl : lv_has ls 1 [(0, .ref pa)] := hl
  have fa : L2 D tk pa ta ba s.heap := hF
  refine lv_aload_n (pc := 0) hx hb dX5_nextOf_0 rfl (lv_at hl 0 rfl) ?_
  refine lv_iconst (pc := 1) (v := 1) hx hb dX5_nextOf_1 (by decide) ?_
  refine r_l1 (pc := 2) E hC fa dX5_nextOf_2 ?_
  refine lv_ldc2 (pc := 3) (v := 2) hx hb E.2.2.2.1 (E.2.2.2.2 _ (List.mem_cons_of_mem _ kw_1665)) dX5_nextOf_3 ?_
  refine lv_aload_n (pc := 6) hx hb dX5_nextOf_6 rfl (lv_at hl 0 rfl) ?_
  refine lv_iconst (pc := 7) (v := 0) hx hb dX5_nextOf_7 (by decide) ?_
  refine r_l0 (pc := 8) E hC fa dX5_nextOf_8 ?_
  refine lv_aload_n (pc := 9) hx hb dX5_nextOf_9 rfl (lv_at hl 0 rfl) ?_
  refine lv_iconst (pc := 10) (v := 1) hx hb dX5_nextOf_10 (by decide) ?_
  refine r_l1 (pc := 11) E hC fa dX5_nextOf_11 ?_
  refine k_l (pc := 12) (k_S E hC hS hA hl.1 (c_X5_floor l D tk N0 sa s.heap.size ta ba hb0) kw_1392 kw_1393 kw_5 kw_1394 (n := 2) (by decide +kernel) rfl ⟨⟨rfl, rfl⟩, ⟨by decide, by decide⟩, by decide, by decide⟩ rfl (Nat.le_of_ble_eq_true rfl) trivial dX5_nextOf_12) hS (fun q z w => absurd w (Nat.not_le.mpr z)) hn (fun r_1 H locs hR hz hk hS => ?_)
  have er_1 := hR
  have fa := fa.kept (hk _ fa.lt (Nat.not_le.mpr fa.lt))
  refine lv_lmul (pc := 15) hx hb dX5_nextOf_15 ?_
  refine lv_lconst (pc := 16) (v := 1) hx hb dX5_nextOf_16 (by decide) ?_
  refine lv_ladd (pc := 17) hx hb dX5_nextOf_17 ?_
  refine lv_aload_n (pc := 18) hx hb dX5_nextOf_18 rfl (lv_at hl 0 rfl) ?_
  refine lv_iconst (pc := 19) (v := 1) hx hb dX5_nextOf_19 (by decide) ?_
  refine r_l1 (pc := 20) E hC fa dX5_nextOf_20 ?_
  refine lv_lmul (pc := 21) hx hb dX5_nextOf_21 ?_
  refine lv_aload_n (pc := 22) hx hb dX5_nextOf_22 rfl (lv_at hl 0 rfl) ?_
  refine lv_iconst (pc := 23) (v := 0) hx hb dX5_nextOf_23 (by decide) ?_
  refine r_l0 (pc := 24) E hC fa dX5_nextOf_24 ?_
  refine lv_lsub (pc := 25) hx hb dX5_nextOf_25 ?_
  have hZ0_ := hS.1
  have t_fa := fa.lt
  refine k_r (pc := 26) (k_S E hC hS hA hl.1 (c_X5_lowest l D tk N0 sa H.size ba ((((2 * r_1) + 1) * ba) - ta) (by rw [er_1]; exact hg)) kw_1199 kw_1200 kw_5 kw_1201 (n := 2) (by decide +kernel) rfl ⟨⟨rfl, rfl⟩, ⟨by decide, by decide⟩, by decide, by decide⟩ rfl (Nat.le_of_ble_eq_true rfl) trivial dX5_nextOf_26) hS (fun q z w => absurd w (Nat.not_le.mpr z)) hn (fun r_3 H locs hR hz hk hS => ?_)
  have fa := fa.kept (hk _ fa.lt (Nat.not_le.mpr fa.lt))
  obtain ⟨z9_, f4⟩ := hR
  have s_f4 : s.heap.size ≤ r_3 := Nat.le_trans hZ0_ z9_
  have g_f4 := hn _ s_f4
  have l_fa_f4 : pa < r_3 := Nat.lt_of_lt_of_le t_fa z9_
  refine r_aret (pc := 29) E hr (Or.inr ⟨_, rfl⟩) hlk hS (by decide) (by decide) ?_ dX5_nextOf_29
  exact ⟨s_f4, L2.to f4 (by rw [er_1]) (by rw [er_1])⟩
