set_option maxHeartbeats 4000000 in
set_option maxRecDepth 100000 in
/-- BestratiosModel.divisor(JJ)J -/
theorem c_X5_divisor (l : Launch) (D : va_G) (tk : Nat → ClassId) (N0 : Nat) (sa : Nat → Nat)  (sz : Nat) (a_ : Int64) (b_ : Int64) : Met l yX5_divisor (wsy yX5_divisor cX5_divisor 10 (some .long)) ({ frames := 1, cells := 0, slots := 0, locals := 21 } : Room) (cP D tk N0 sa [.long a_, .long b_] sz (fun H => True)) (kQl (fun r H => r = m_div a_ b_) (nwA sz)) (0) (0) (nwA sz) := by
  refine mStart RX5 rfl (by decide +kernel) (Nat.le_of_ble_eq_true rfl) ?_
  intro p e s m args below meth c E hr hlk hnm hsz hC hF ls hl
  subst hsz
  obtain ⟨hx, hb, -⟩ := id E
  have hA : ∀ q, (nwA s.heap.size) q → N0 ≤ q := fun q h => Nat.le_trans hC.2.1 h
  have hn : ∀ q, s.heap.size ≤ q → (nwA s.heap.size) q := fun q h => h
  have hS : va_S (nwA s.heap.size) s.heap s.heap [] := va_S.rf
  have hl : lv_has ls 10 [(0, .long a_), (2, .long b_)] := hl
  obtain ⟨Q, hQ⟩ : ∃ Q, Q = MQ below (kQl (fun r H => r = m_div a_ b_) (nwA s.heap.size)) args s (0) (0) (nwA s.heap.size) := ⟨_, rfl⟩
  rw [← hQ]
  refine lv_lload_n (pc := 0) hx hb dX5_divisor_0 rfl (lv_at hl 0 rfl) ?_
  refine k_l (pc := 1) (k_S E hC hS hA hl.1 (c_J9_abs_067f4 l D tk N0 sa s.heap.size a_ ) kw_1205 kw_1206 kw_9 kw_1207 (n := 1) (by decide +kernel) rfl ⟨⟨rfl, rfl⟩, ⟨by decide, by decide⟩, by decide, by decide⟩ rfl (Nat.le_of_ble_eq_true rfl) trivial dX5_divisor_1) hS (fun q z w => absurd w (Nat.not_le.mpr z)) hn (fun r_1 H locs hR hz hk hS => ?_)
  have er_1 := hR
  refine lv_lstore (pc := 4) (lv' := [(4, .long r_1), (0, .long a_), (2, .long b_)]) hx hb dX5_divisor_4 hl (by decide) rfl (fun ls hl => ?_)
  refine lv_lload_n (pc := 6) hx hb dX5_divisor_6 rfl (lv_at hl 2 rfl) ?_
  refine k_l (pc := 7) (k_S E hC hS hA hl.1 (c_J9_abs_067f4 l D tk N0 sa H.size b_ ) kw_1205 kw_1206 kw_9 kw_1207 (n := 1) (by decide +kernel) rfl ⟨⟨rfl, rfl⟩, ⟨by decide, by decide⟩, by decide, by decide⟩ rfl (Nat.le_of_ble_eq_true rfl) trivial dX5_divisor_7) hS (fun q z w => absurd w (Nat.not_le.mpr z)) hn (fun r_3 H locs hR hz hk hS => ?_)
  have er_3 := hR
  refine lv_lstore (pc := 10) (lv' := [(6, .long r_3), (4, .long r_1), (0, .long a_), (2, .long b_)]) hx hb dX5_divisor_10 hl (by decide) rfl (fun ls hl => ?_)
  have loop_12 : ∀ (n : Nat) (k : Nat)(u : Int64) (v : Int64), k ≤ n → v.toInt.natAbs < k → gcdL k u v = m_div a_ b_ → ∀ (H : Heap) (locs : List Loc) (ls : Array Slot), va_S (nwA s.heap.size) s.heap H locs → lv_has ls 10 [(0, .long a_), (2, .long b_), (4, .long u), (6, .long v)] → W p l e ({ frames := 1, cells := 0, slots := 0, locals := 21 } : Room) s m args below meth c H locs (0 + 0 + 0) (0 + 0 + 0) Q (F0 m 12 ls []) := by
    intro n
    induction n with
    | zero =>
      intro k u v hf9 hk9 hg9 H locs ls hS hl
      omega
    | succ n ih_12 =>
      intro k u v hf9 hk9 hg9 H locs ls hS hl
      refine lv_lload (pc := 12) hx hb dX5_divisor_12 (lv_at hl 3 rfl) ?_
      refine lv_lconst (pc := 14) (v := 0) hx hb dX5_divisor_14 (by decide) ?_
      refine r_lceq (pc := 15) (tgt := 37) E dX5_divisor_15 dX5_divisor_16 (by decide) (fun c_5 => ?_) (fun c_5 => ?_)
      · refine lv_lload (pc := 37) hx hb dX5_divisor_37 (lv_at hl 2 rfl) ?_
        try rw [hQ]
        refine r_lret (pc := 39) E hr hlk hS (by decide) (by decide) ?_ dX5_divisor_39
        rw [← hg9, gcdL_z c_5]
      · refine lv_lload (pc := 19) hx hb dX5_divisor_19 (lv_at hl 2 rfl) ?_
        refine lv_lload (pc := 21) hx hb dX5_divisor_21 (lv_at hl 3 rfl) ?_
        refine lv_lrem (pc := 23) hx hb dX5_divisor_23 (by assumption) ?_
        obtain ⟨x_6, ex_6⟩ : ∃ z9 : Int64, z9 = u - u / v * v := ⟨_, rfl⟩
        rw [← ex_6]
        refine lv_lstore (pc := 24) (lv' := [(8, .long x_6), (0, .long a_), (2, .long b_), (4, .long u), (6, .long v)]) hx hb dX5_divisor_24 hl (by decide) rfl (fun ls hl => ?_)
        refine lv_lload (pc := 26) hx hb dX5_divisor_26 (lv_at hl 4 rfl) ?_
        refine lv_lstore (pc := 28) (lv' := [(4, .long v), (8, .long x_6), (0, .long a_), (2, .long b_), (6, .long v)]) hx hb dX5_divisor_28 hl (by decide) rfl (fun ls hl => ?_)
        refine lv_lload (pc := 30) hx hb dX5_divisor_30 (lv_at hl 1 rfl) ?_
        refine lv_lstore (pc := 32) (lv' := [(6, .long x_6), (4, .long v), (8, .long x_6), (0, .long a_), (2, .long b_)]) hx hb dX5_divisor_32 hl (by decide) rfl (fun ls hl => ?_)
        refine lv_goto (pc := 34) (tgt := 12) hx hb dX5_divisor_34 (by decide) ?_
        have hv0 := c_5
        obtain ⟨k1, rfl⟩ : ∃ k1, k = k1 + 1 := ⟨k - 1, by omega⟩
        have hrl := m_rem_lt (u := u) hv0
        exact ih_12  k1  v x_6 (by omega) (by rw [ex_6]; omega) (by rw [← hg9, gcdL, if_neg hv0, ex_6]) _ _ _ hS (lv_sub hl [3, 4, 1, 0] rfl)
  exact loop_12 ((f_absJ b_).toInt.natAbs + 1) ((f_absJ b_).toInt.natAbs + 1)  r_1 r_3 (Nat.le_refl _) (by rw [er_3]; omega) (by rw [er_1, er_3]; rfl) _ _ _ hS (lv_sub hl [2, 3, 1, 0] rfl)
