set_option maxHeartbeats 4000000 in
set_option maxRecDepth 100000 in
/-- BestratiosModel.power(I)J -/
theorem c_X5_power (l : Launch) (D : va_G) (tk : Nat → ClassId) (N0 : Nat) (sa : Nat → Nat)  (sz : Nat) (mm : Int32) : Met l yX5_power (wsy yX5_power cX5_power 4 (some .long)) ({ frames := 0, cells := 0, slots := 0, locals := 0 } : Room) (cP D tk N0 sa [.int mm] sz (fun H => True)) (kQl (fun r H => r = m_pow mm) (nwA sz)) (0) (0) (nwA sz) := by
  refine mStart RX5 rfl (by decide +kernel) (Nat.le_of_ble_eq_true rfl) ?_
  intro p e s m args below meth c E hr hlk hnm hsz hC hF ls hl
  subst hsz
  obtain ⟨hx, hb, -⟩ := id E
  have hA : ∀ q, (nwA s.heap.size) q → N0 ≤ q := fun q h => Nat.le_trans hC.2.1 h
  have hn : ∀ q, s.heap.size ≤ q → (nwA s.heap.size) q := fun q h => h
  have hS : va_S (nwA s.heap.size) s.heap s.heap [] := va_S.rf
  have hl : lv_has ls 4 [(0, .int mm)] := hl
  obtain ⟨Q, hQ⟩ : ∃ Q, Q = MQ below (kQl (fun r H => r = m_pow mm) (nwA s.heap.size)) args s (0) (0) (nwA s.heap.size) := ⟨_, rfl⟩
  rw [← hQ]
  refine lv_lconst (pc := 0) (v := 1) hx hb dX5_power_0 (by decide) ?_
  refine lv_lstore_n (pc := 1) (lv' := [(1, .long 1), (0, .int mm)]) hx hb dX5_power_1 rfl hl (by decide) rfl (fun ls hl => ?_)
  refine lv_iconst (pc := 2) (v := 0) hx hb dX5_power_2 (by decide) ?_
  refine lv_istore_n (pc := 3) (lv' := [(3, .int 0), (1, .long 1), (0, .int mm)]) hx hb dX5_power_3 rfl hl (by decide) rfl (fun ls hl => ?_)
  have loop_4 : ∀ (n : Nat) (k : Nat)(p9 : Int64) (x : Int32), mm.toNatClampNeg - k < n → k ≤ mm.toNatClampNeg → x = nI k → m_powL (mm.toNatClampNeg - k) p9 = m_pow mm → ∀ (H : Heap) (locs : List Loc) (ls : Array Slot), va_S (nwA s.heap.size) s.heap H locs → lv_has ls 4 [(0, .int mm), (1, .long p9), (3, .int x)] → W p l e ({ frames := 0, cells := 0, slots := 0, locals := 0 } : Room) s m args below meth c H locs (0) (0) Q (F0 m 4 ls []) := by
    intro n
    induction n with
    | zero =>
      intro k p9 x hf9 hk9 hx9 hg9 H locs ls hS hl
      omega
    | succ n ih_4 =>
      intro k p9 x hf9 hk9 hx9 hg9 H locs ls hS hl
      refine lv_iload_n (pc := 4) hx hb dX5_power_4 rfl (lv_at hl 2 rfl) ?_
      refine lv_iload_n (pc := 5) hx hb dX5_power_5 rfl (lv_at hl 0 rfl) ?_
      refine lv_icmp_ge (pc := 6) (tgt := 21) hx hb dX5_power_6 (by decide) (fun c_1 => ?_) (fun c_1 => ?_)
      · refine lv_lload_n (pc := 21) hx hb dX5_power_21 rfl (lv_at hl 1 rfl) ?_
        try rw [hQ]
        refine r_lret (pc := 22) E hr hlk hS (by decide) (by decide) ?_ dX5_power_22
        rw [← hg9]
        have e0 := (i_mle hx9 hk9).mp c_1
        (rw [e0]) <;> rfl
      · refine lv_lload_n (pc := 9) hx hb dX5_power_9 rfl (lv_at hl 1 rfl) ?_
        refine lv_ldc2 (pc := 10) (v := 10) hx hb E.2.2.2.1 (E.2.2.2.2 _ (List.mem_cons_of_mem _ kw_1281)) dX5_power_10 ?_
        refine lv_lmul (pc := 13) hx hb dX5_power_13 ?_
        obtain ⟨x_2, ex_2⟩ : ∃ z9 : Int64, z9 = p9 * 10 := ⟨_, rfl⟩
        rw [← ex_2]
        refine lv_lstore_n (pc := 14) (lv' := [(1, .long x_2), (0, .int mm), (3, .int x)]) hx hb dX5_power_14 rfl hl (by decide) rfl (fun ls hl => ?_)
        obtain ⟨x_3, ex_3⟩ : ∃ z9 : Int32, z9 = x + 1 := ⟨_, rfl⟩
        refine lv_iinc (pc := 15) (v := x_3) (lv' := [(3, .int x_3), (1, .long x_2), (0, .int mm)]) hx hb dX5_power_15 hl (k := 2) rfl (by rw [ex_3]; rfl) (by decide) rfl (fun ls hl => ?_)
        refine lv_goto (pc := 18) (tgt := 4) hx hb dX5_power_18 (by decide) ?_
        have hlt := (i_mlt hx9 hk9).mp c_1
        have e200 : mm.toNatClampNeg - k = (mm.toNatClampNeg - (k + 1)) + 1 := by omega
        rw [e200] at hg9
        exact ih_4  (k + 1)  x_2 x_3 (by omega) (by omega) (i_up hx9 ex_3) (by rw [← hg9]; subst ex_2; rfl) _ _ _ hS (lv_sub hl [2, 1, 0] rfl)
  exact loop_4 (mm.toNatClampNeg + 1) 0  1 0 (by omega) (Nat.zero_le _) nI_0.symm rfl _ _ _ hS (lv_sub hl [2, 1, 0] rfl)
