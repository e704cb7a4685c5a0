set_option maxHeartbeats 4000000 in
set_option maxRecDepth 100000 in
/-- BestratiosModel.inverse([J)[J -/
theorem c_X5_inverse (l : Launch) (D : va_G) (tk : Nat → ClassId) (N0 : Nat) (sa : Nat → Nat)  (sz : Nat) (pa : Nat) (ta : Int64) (ba : Int64) (hg : ¬ ta = 0 → ¬ m_div ba ta = 0) : Met l yX5_inverse (wsy yX5_inverse cX5_inverse 1 (some (.array .long))) ({ frames := 3, cells := 1, slots := 2, locals := 77 } : Room) (cP D tk N0 sa [.ref pa] sz (fun H => L2 D tk pa ta ba H)) (kQo (fun v H => (v = none ∧ ta = 0) ∨ (∃ q, v = some q ∧ ¬ ta = 0 ∧ sz ≤ q ∧ L2 D tk q (m_loT ba ta) (m_loB ba ta) H)) (nwA sz)) (1) (2) (nwA sz) := by
  refine mStart RX5 rfl (by decide +kernel) (Nat.le_of_ble_eq_true rfl) ?_
  intro p e s m args below meth c E hr hlk hnm hsz hC hF ls hl
  subst hsz
  obtain ⟨hx, hb, -⟩ := id E
  have hA : ∀ q, (nwA s.heap.size) q → N0 ≤ q := fun q h => Nat.le_trans hC.2.1 h
  have hn : ∀ q, s.heap.size ≤ q → (nwA s.heap.size) q := fun q h => h
  have hS : va_S (nwA s.heap.size) s.heap s.heap [] := va_S.rf
  have hl : lv_has ls 1 [(0, .ref pa)] := hl
  have fa : L2 D tk pa ta ba s.heap := hF
  refine lv_aload_n (pc := 0) hx hb dX5_inverse_0 rfl (lv_at hl 0 rfl) ?_
  refine lv_iconst (pc := 1) (v := 0) hx hb dX5_inverse_1 (by decide) ?_
  refine r_l0 (pc := 2) E hC fa dX5_inverse_2 ?_
  refine lv_lconst (pc := 3) (v := 0) hx hb dX5_inverse_3 (by decide) ?_
  refine r_lcne (pc := 4) (tgt := 12) E dX5_inverse_4 dX5_inverse_5 (by decide) (fun c_1 => ?_) (fun c_1 => ?_)
  · refine lv_aload_n (pc := 12) hx hb dX5_inverse_12 rfl (lv_at hl 0 rfl) ?_
    refine lv_iconst (pc := 13) (v := 1) hx hb dX5_inverse_13 (by decide) ?_
    refine r_l1 (pc := 14) E hC fa dX5_inverse_14 ?_
    refine lv_aload_n (pc := 15) hx hb dX5_inverse_15 rfl (lv_at hl 0 rfl) ?_
    refine lv_iconst (pc := 16) (v := 0) hx hb dX5_inverse_16 (by decide) ?_
    refine r_l0 (pc := 17) E hC fa dX5_inverse_17 ?_
    have hZ0_ := hS.1
    have t_fa := fa.lt
    refine k_r (pc := 18) (k_S E hC hS hA hl.1 (c_X5_lowest l D tk N0 sa s.heap.size ba ta (hg c_1)) kw_1199 kw_1200 kw_5 kw_1201 (n := 2) (by decide +kernel) rfl ⟨⟨rfl, rfl⟩, ⟨by decide, by decide⟩, by decide, by decide⟩ rfl (Nat.le_of_ble_eq_true rfl) trivial dX5_inverse_18) hS (fun q z w => absurd w (Nat.not_le.mpr z)) hn (fun r_2 H locs hR hz hk hS => ?_)
    have fa := fa.kept (hk _ fa.lt (Nat.not_le.mpr fa.lt))
    obtain ⟨z9_, f3⟩ := hR
    have s_f3 : s.heap.size ≤ r_2 := Nat.le_trans hZ0_ z9_
    have g_f3 := hn _ s_f3
    have l_fa_f3 : pa < r_2 := Nat.lt_of_lt_of_le t_fa z9_
    refine r_oret (pc := 21) E hr (Or.inr ⟨_, rfl⟩) hlk hS (by decide) (by decide) (some r_2) ?_ dX5_inverse_21
    exact Or.inr ⟨_, rfl, c_1, s_f3, f3⟩
  · refine lv_null (pc := 8) hx hb dX5_inverse_8 ?_
    refine lv_goto (pc := 9) (tgt := 21) hx hb dX5_inverse_9 (by decide) ?_
    refine r_oret (pc := 21) E hr (Or.inr ⟨_, rfl⟩) hlk hS (by decide) (by decide) none ?_ dX5_inverse_21
    exact Or.inl ⟨rfl, c_1⟩
