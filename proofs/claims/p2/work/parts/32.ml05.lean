set_option maxHeartbeats 4000000 in
set_option maxRecDepth 100000 in
/-- BestratiosModel.between([J[J)[J -/
theorem c_X5_between (l : Launch) (D : va_G) (tk : Nat → ClassId) (N0 : Nat) (sa : Nat → Nat)  (sz : Nat) (pa : Nat) (ta : Int64) (ba : Int64) (pb : Nat) (tb : Int64) (bb : Int64) (hg : ¬ m_div (ta + tb) (ba + bb) = 0) : Met l yX5_between (wsy yX5_between cX5_between 2 (some (.array .long))) ({ frames := 3, cells := 1, slots := 2, locals := 77 } : Room) (cP D tk N0 sa [.ref pa, .ref pb] sz (fun H => L2 D tk pa ta ba H ∧ L2 D tk pb tb bb H)) (kQr (fun r H => sz ≤ r ∧ L2 D tk r (m_loT (ta + tb) (ba + bb)) (m_loB (ta + tb) (ba + bb)) H) (nwA sz)) (1) (2) (nwA sz) := by
  refine mStart RX5 rfl (by decide +kernel) (Nat.le_of_ble_eq_true rfl) ?_
  intro p e s m args below meth c E hr hlk hnm hsz hC hF ls hl
  subst hsz
  obtain ⟨hx, hb, -⟩ := id E
  have hA : ∀ q, (nwA s.heap.size) q → N0 ≤ q := fun q h => Nat.le_trans hC.2.1 h
  have hn : ∀ q, s.heap.size ≤ q → (nwA s.heap.size) q := fun q h => h
  have hS : va_S (nwA s.heap.size) s.heap s.heap [] := va_S.rf
  have hl : lv_has ls 2 [(0, .ref pa), (1, .ref pb)] := hl
  obtain ⟨fa, fb⟩ : L2 D tk pa ta ba s.heap ∧ L2 D tk pb tb bb s.heap := hF
  refine lv_aload_n (pc := 0) hx hb dX5_between_0 rfl (lv_at hl 0 rfl) ?_
  refine lv_iconst (pc := 1) (v := 0) hx hb dX5_between_1 (by decide) ?_
  refine r_l0 (pc := 2) E hC fa dX5_between_2 ?_
  refine lv_aload_n (pc := 3) hx hb dX5_between_3 rfl (lv_at hl 1 rfl) ?_
  refine lv_iconst (pc := 4) (v := 0) hx hb dX5_between_4 (by decide) ?_
  refine r_l0 (pc := 5) E hC fb dX5_between_5 ?_
  refine lv_ladd (pc := 6) hx hb dX5_between_6 ?_
  refine lv_aload_n (pc := 7) hx hb dX5_between_7 rfl (lv_at hl 0 rfl) ?_
  refine lv_iconst (pc := 8) (v := 1) hx hb dX5_between_8 (by decide) ?_
  refine r_l1 (pc := 9) E hC fa dX5_between_9 ?_
  refine lv_aload_n (pc := 10) hx hb dX5_between_10 rfl (lv_at hl 1 rfl) ?_
  refine lv_iconst (pc := 11) (v := 1) hx hb dX5_between_11 (by decide) ?_
  refine r_l1 (pc := 12) E hC fb dX5_between_12 ?_
  refine lv_ladd (pc := 13) hx hb dX5_between_13 ?_
  have hZ0_ := hS.1
  have t_fa := fa.lt
  have t_fb := fb.lt
  refine k_r (pc := 14) (k_S E hC hS hA hl.1 (c_X5_lowest l D tk N0 sa s.heap.size (ta + tb) (ba + bb) hg) kw_1199 kw_1200 kw_5 kw_1201 (n := 2) (by decide +kernel) rfl ⟨⟨rfl, rfl⟩, ⟨by decide, by decide⟩, by decide, by decide⟩ rfl (Nat.le_of_ble_eq_true rfl) trivial dX5_between_14) hS (fun q z w => absurd w (Nat.not_le.mpr z)) hn (fun r_1 H locs hR hz hk hS => ?_)
  have fa := fa.kept (hk _ fa.lt (Nat.not_le.mpr fa.lt))
  have fb := fb.kept (hk _ fb.lt (Nat.not_le.mpr fb.lt))
  obtain ⟨z9_, f2⟩ := hR
  have s_f2 : s.heap.size ≤ r_1 := Nat.le_trans hZ0_ z9_
  have g_f2 := hn _ s_f2
  have l_fa_f2 : pa < r_1 := Nat.lt_of_lt_of_le t_fa z9_
  have l_fb_f2 : pb < r_1 := Nat.lt_of_lt_of_le t_fb z9_
  refine r_aret (pc := 17) E hr (Or.inr ⟨_, rfl⟩) hlk hS (by decide) (by decide) ?_ dX5_between_17
  exact ⟨s_f2, L2.to f2 (by rfl) (by rfl)⟩
