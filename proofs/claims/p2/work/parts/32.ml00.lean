set_option maxHeartbeats 4000000 in
set_option maxRecDepth 100000 in
/-- BestratiosModel.lowest(JJ)[J -/
theorem c_X5_lowest (l : Launch) (D : va_G) (tk : Nat → ClassId) (N0 : Nat) (sa : Nat → Nat)  (sz : Nat) (t_ : Int64) (b_ : Int64) (hg : ¬ m_div t_ b_ = 0) : Met l yX5_lowest (wsy yX5_lowest cX5_lowest 8 (some (.array .long))) ({ frames := 2, cells := 1, slots := 2, locals := 50 } : Room) (cP D tk N0 sa [.long t_, .long b_] sz (fun H => True)) (kQr (fun r H => sz ≤ r ∧ L2 D tk r (m_loT t_ b_) (m_loB t_ b_) H) (nwA sz)) (1) (2) (nwA sz) := by
  refine mStart RX5 rfl (by decide +kernel) (Nat.le_of_ble_eq_true rfl) ?_
  intro p e s m args below meth c E hr hlk hnm hsz hC hF ls hl
  subst hsz
  obtain ⟨hx, hb, -⟩ := id E
  have hA : ∀ q, (nwA s.heap.size) q → N0 ≤ q := fun q h => Nat.le_trans hC.2.1 h
  have hn : ∀ q, s.heap.size ≤ q → (nwA s.heap.size) q := fun q h => h
  have hS : va_S (nwA s.heap.size) s.heap s.heap [] := va_S.rf
  have hl : lv_has ls 8 [(0, .long t_), (2, .long b_)] := hl
  refine lv_lload_n (pc := 0) hx hb dX5_lowest_0 rfl (lv_at hl 0 rfl) ?_
  refine lv_lload_n (pc := 1) hx hb dX5_lowest_1 rfl (lv_at hl 1 rfl) ?_
  refine k_l (pc := 2) (k_S E hC hS hA hl.1 (c_X5_divisor l D tk N0 sa s.heap.size t_ b_ ) kw_1202 kw_1203 kw_5 kw_1204 (n := 2) (by decide +kernel) rfl ⟨⟨rfl, rfl⟩, ⟨by decide, by decide⟩, by decide, by decide⟩ rfl (Nat.le_of_ble_eq_true rfl) trivial dX5_lowest_2) hS (fun q z w => absurd w (Nat.not_le.mpr z)) hn (fun r_1 H locs hR hz hk hS => ?_)
  have er_1 := hR
  refine lv_lstore (pc := 5) (lv' := [(4, .long r_1), (0, .long t_), (2, .long b_)]) hx hb dX5_lowest_5 hl (by decide) rfl (fun ls hl => ?_)
  refine lv_lload_n (pc := 7) hx hb dX5_lowest_7 rfl (lv_at hl 2 rfl) ?_
  refine lv_lconst (pc := 8) (v := 0) hx hb dX5_lowest_8 (by decide) ?_
  refine r_lcge (pc := 9) (tgt := 19) E dX5_lowest_9 dX5_lowest_10 (by decide) (fun c_3 => ?_) (fun c_3 => ?_)
  · refine lv_lconst (pc := 19) (v := 1) hx hb dX5_lowest_19 (by decide) ?_
    refine lv_lstore (pc := 20) (lv' := [(6, .long 1), (4, .long r_1), (0, .long t_), (2, .long b_)]) hx hb dX5_lowest_20 hl (by decide) rfl (fun ls hl => ?_)
    refine lv_iconst (pc := 22) (v := 2) hx hb dX5_lowest_22 (by decide) ?_
    have hS0_ := hS
    refine r_newl (pc := 23) E hC hS (N := 2) (by decide) (by decide) (by decide) (by decide) (by decide) dX5_lowest_23 (fun qf4 H zq_ n_ ho_ hS => ?_)
    have f4 := n_
    have s_f4 : s.heap.size ≤ qf4 := zq_ ▸ hS0_.1
    have g_f4 := hn _ s_f4
    refine lv_dup (pc := 25) hx hb dX5_lowest_25 rfl ?_
    refine lv_iconst (pc := 26) (v := 0) hx hb dX5_lowest_26 (by decide) ?_
    refine lv_lload (pc := 27) hx hb dX5_lowest_27 (lv_at hl 0 rfl) ?_
    refine lv_lload_n (pc := 29) hx hb dX5_lowest_29 rfl (lv_at hl 2 rfl) ?_
    refine lv_lload (pc := 30) hx hb dX5_lowest_30 (lv_at hl 1 rfl) ?_
    refine lv_ldiv (pc := 32) hx hb dX5_lowest_32 (by rw [er_1]; exact hg) ?_
    refine lv_lmul (pc := 33) hx hb dX5_lowest_33 ?_
    refine r_last (pc := 34) E hC f4 hS g_f4 (by unfold vp_in; decide) dX5_lowest_34 (fun H locs n_ ho hz hS => ?_)
    have f4 : c1 D qf4 (.inl (tk 0, 2, .inr (.inl (vp_updL (fun _ => 0) 0 (1 * (t_ / r_1)))))) H := n_
    refine lv_dup (pc := 35) hx hb dX5_lowest_35 rfl ?_
    refine lv_iconst (pc := 36) (v := 1) hx hb dX5_lowest_36 (by decide) ?_
    refine lv_lload (pc := 37) hx hb dX5_lowest_37 (lv_at hl 0 rfl) ?_
    refine lv_lload_n (pc := 39) hx hb dX5_lowest_39 rfl (lv_at hl 3 rfl) ?_
    refine lv_lload (pc := 40) hx hb dX5_lowest_40 (lv_at hl 1 rfl) ?_
    refine lv_ldiv (pc := 42) hx hb dX5_lowest_42 (by rw [er_1]; exact hg) ?_
    refine lv_lmul (pc := 43) hx hb dX5_lowest_43 ?_
    refine r_last (pc := 44) E hC f4 hS g_f4 (by unfold vp_in; decide) dX5_lowest_44 (fun H locs n_ ho hz hS => ?_)
    have f4 : L2 D tk qf4 (1 * (t_ / r_1)) (1 * (b_ / r_1)) H := n_
    refine r_aret (pc := 45) E hr (Or.inr ⟨_, rfl⟩) hlk hS (by decide) (by decide) ?_ dX5_lowest_45
    exact ⟨s_f4, L2.to f4 (by rw [er_1, m_loT, m_sg, if_pos c_3]) (by rw [er_1, m_loB, m_sg, if_pos c_3])⟩
  · refine lv_ldc2 (pc := 13) (v := (-1)) hx hb E.2.2.2.1 (E.2.2.2.2 _ (List.mem_cons_of_mem _ kw_1208)) dX5_lowest_13 ?_
    refine lv_goto (pc := 16) (tgt := 20) hx hb dX5_lowest_16 (by decide) ?_
    refine lv_lstore (pc := 20) (lv' := [(6, .long ((-1))), (4, .long r_1), (0, .long t_), (2, .long b_)]) hx hb dX5_lowest_20 hl (by decide) rfl (fun ls hl => ?_)
    refine lv_iconst (pc := 22) (v := 2) hx hb dX5_lowest_22 (by decide) ?_
    have hS0_ := hS
    refine r_newl (pc := 23) E hC hS (N := 2) (by decide) (by decide) (by decide) (by decide) (by decide) dX5_lowest_23 (fun qf5 H zq_ n_ ho_ hS => ?_)
    have f5 := n_
    have s_f5 : s.heap.size ≤ qf5 := zq_ ▸ hS0_.1
    have g_f5 := hn _ s_f5
    refine lv_dup (pc := 25) hx hb dX5_lowest_25 rfl ?_
    refine lv_iconst (pc := 26) (v := 0) hx hb dX5_lowest_26 (by decide) ?_
    refine lv_lload (pc := 27) hx hb dX5_lowest_27 (lv_at hl 0 rfl) ?_
    refine lv_lload_n (pc := 29) hx hb dX5_lowest_29 rfl (lv_at hl 2 rfl) ?_
    refine lv_lload (pc := 30) hx hb dX5_lowest_30 (lv_at hl 1 rfl) ?_
    refine lv_ldiv (pc := 32) hx hb dX5_lowest_32 (by rw [er_1]; exact hg) ?_
    refine lv_lmul (pc := 33) hx hb dX5_lowest_33 ?_
    refine r_last (pc := 34) E hC f5 hS g_f5 (by unfold vp_in; decide) dX5_lowest_34 (fun H locs n_ ho hz hS => ?_)
    have f5 : c1 D qf5 (.inl (tk 0, 2, .inr (.inl (vp_updL (fun _ => 0) 0 (((-1)) * (t_ / r_1)))))) H := n_
    refine lv_dup (pc := 35) hx hb dX5_lowest_35 rfl ?_
    refine lv_iconst (pc := 36) (v := 1) hx hb dX5_lowest_36 (by decide) ?_
    refine lv_lload (pc := 37) hx hb dX5_lowest_37 (lv_at hl 0 rfl) ?_
    refine lv_lload_n (pc := 39) hx hb dX5_lowest_39 rfl (lv_at hl 3 rfl) ?_
    refine lv_lload (pc := 40) hx hb dX5_lowest_40 (lv_at hl 1 rfl) ?_
    refine lv_ldiv (pc := 42) hx hb dX5_lowest_42 (by rw [er_1]; exact hg) ?_
    refine lv_lmul (pc := 43) hx hb dX5_lowest_43 ?_
    refine r_last (pc := 44) E hC f5 hS g_f5 (by unfold vp_in; decide) dX5_lowest_44 (fun H locs n_ ho hz hS => ?_)
    have f5 : L2 D tk qf5 (((-1)) * (t_ / r_1)) (((-1)) * (b_ / r_1)) H := n_
    refine r_aret (pc := 45) E hr (Or.inr ⟨_, rfl⟩) hlk hS (by decide) (by decide) ?_ dX5_lowest_45
    exact ⟨s_f5, L2.to f5 (by rw [er_1, m_loT, m_sg, if_neg c_3]) (by rw [er_1, m_loB, m_sg, if_neg c_3])⟩
