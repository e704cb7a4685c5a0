set_option maxHeartbeats 4000000 in
set_option maxRecDepth 100000 in
/-- java/lang/Math.floorDiv(JJ)J -/
theorem c_J9_floorDiv_f86c9 (l : Launch) (D : va_G) (tk : Nat → ClassId) (N0 : Nat) (sa : Nat → Nat)  (sz : Nat) (x : Int64) (y : Int64) (hy : ¬ y = 0) : Met l yJ9_floorDiv_f86c9 (wsy yJ9_floorDiv_f86c9 cJ9_floorDiv_f86c9 6 (some .long)) ({ frames := 0, cells := 0, slots := 0, locals := 0 } : Room) (cP D tk N0 sa [.long x, .long y] sz (fun H => True)) (kQl (fun r H => r = fdv x y) (nwA sz)) (0) (0) (nwA sz) := by
  refine mStart RJ9 rfl (by decide +kernel) (Nat.le_of_ble_eq_true rfl) ?_
  intro p e s m args below meth c E hr hlk hnm hsz hC hF ls hl
  subst hsz
  obtain ⟨hx, hb, -⟩ := id E
  have hA : ∀ q, (nwA s.heap.size) q → N0 ≤ q := fun q h => Nat.le_trans hC.2.1 h
  have hn : ∀ q, s.heap.size ≤ q → (nwA s.heap.size) q := fun q h => h
  have hS : va_S (nwA s.heap.size) s.heap s.heap [] := va_S.rf
  have hl : lv_has ls 6 [(0, .long x), (2, .long y)] := hl
  refine lv_lload_n (pc := 0) hx hb dJ9_floorDiv_f86c9_0 rfl (lv_at hl 0 rfl) ?_
  refine lv_lload_n (pc := 1) hx hb dJ9_floorDiv_f86c9_1 rfl (lv_at hl 1 rfl) ?_
  refine lv_ldiv (pc := 2) hx hb dJ9_floorDiv_f86c9_2 (hy) ?_
  obtain ⟨x_1, ex_1⟩ : ∃ z9 : Int64, z9 = x / y := ⟨_, rfl⟩
  rw [← ex_1]
  refine lv_lstore (pc := 3) (lv' := [(4, .long x_1), (0, .long x), (2, .long y)]) hx hb dJ9_floorDiv_f86c9_3 hl (by decide) rfl (fun ls hl => ?_)
  refine lv_lload_n (pc := 5) hx hb dJ9_floorDiv_f86c9_5 rfl (lv_at hl 1 rfl) ?_
  refine lv_lload_n (pc := 6) hx hb dJ9_floorDiv_f86c9_6 rfl (lv_at hl 2 rfl) ?_
  refine lv_lxor (pc := 7) hx hb dJ9_floorDiv_f86c9_7 ?_
  refine lv_lconst (pc := 8) (v := 0) hx hb dJ9_floorDiv_f86c9_8 (by decide) ?_
  refine r_lcge (pc := 9) (tgt := 27) E dJ9_floorDiv_f86c9_9 dJ9_floorDiv_f86c9_10 (by decide) (fun c_2 => ?_) (fun c_2 => ?_)
  · refine lv_lload (pc := 27) hx hb dJ9_floorDiv_f86c9_27 (lv_at hl 0 rfl) ?_
    refine r_lret (pc := 29) E hr hlk hS (by decide) (by decide) ?_ dJ9_floorDiv_f86c9_29
    subst ex_1; first | with_reducible rfl | (simp [fdv, c_2, Int64.not_lt.mpr c_2, p_TB, p_TV, p_TC, p_TI, p_BT, p_BV, p_BC, p_BI, p_VT, p_VB, p_VC, p_VI, p_CT, p_CB, p_CV, p_CI, p_IT, p_IB, p_IV, p_IC, p_TT, p_BB, p_CC, p_II]; done)
  · refine lv_lload (pc := 13) hx hb dJ9_floorDiv_f86c9_13 (lv_at hl 0 rfl) ?_
    refine lv_lload_n (pc := 15) hx hb dJ9_floorDiv_f86c9_15 rfl (lv_at hl 2 rfl) ?_
    refine lv_lmul (pc := 16) hx hb dJ9_floorDiv_f86c9_16 ?_
    refine lv_lload_n (pc := 17) hx hb dJ9_floorDiv_f86c9_17 rfl (lv_at hl 1 rfl) ?_
    refine r_lceq (pc := 18) (tgt := 27) E dJ9_floorDiv_f86c9_18 dJ9_floorDiv_f86c9_19 (by decide) (fun c_3 => ?_) (fun c_3 => ?_)
    · refine lv_lload (pc := 27) hx hb dJ9_floorDiv_f86c9_27 (lv_at hl 0 rfl) ?_
      refine r_lret (pc := 29) E hr hlk hS (by decide) (by decide) ?_ dJ9_floorDiv_f86c9_29
      subst ex_1; first | with_reducible rfl | (simp [fdv, c_2, Int64.not_le.mp c_2, c_3, p_TB, p_TV, p_TC, p_TI, p_BT, p_BV, p_BC, p_BI, p_VT, p_VB, p_VC, p_VI, p_CT, p_CB, p_CV, p_CI, p_IT, p_IB, p_IV, p_IC, p_TT, p_BB, p_CC, p_II]; done)
    · refine lv_lload (pc := 22) hx hb dJ9_floorDiv_f86c9_22 (lv_at hl 0 rfl) ?_
      refine lv_lconst (pc := 24) (v := 1) hx hb dJ9_floorDiv_f86c9_24 (by decide) ?_
      refine lv_lsub (pc := 25) hx hb dJ9_floorDiv_f86c9_25 ?_
      refine r_lret (pc := 26) E hr hlk hS (by decide) (by decide) ?_ dJ9_floorDiv_f86c9_26
      subst ex_1; first | with_reducible rfl | (simp [fdv, c_2, Int64.not_le.mp c_2, c_3, p_TB, p_TV, p_TC, p_TI, p_BT, p_BV, p_BC, p_BI, p_VT, p_VB, p_VC, p_VI, p_CT, p_CB, p_CV, p_CI, p_IT, p_IB, p_IV, p_IC, p_TT, p_BB, p_CC, p_II]; done)

set_option maxHeartbeats 4000000 in
set_option maxRecDepth 100000 in
/-- Bestratios.floorOf(JJ)J -/
theorem c_X3_floorOf (l : Launch) (D : va_G) (tk : Nat → ClassId) (N0 : Nat) (sa : Nat → Nat)  (sz : Nat) (n : Int64) (d : Int64) : Met l yX3_floorOf (wsy yX3_floorOf cX3_floorOf 4 (some .long)) ({ frames := 1, cells := 0, slots := 0, locals := 25 } : Room) (cP D tk N0 sa [.long n, .long d] sz (fun H => True)) (kQl (fun r H => r = f_floorOf n d) (nwA sz)) (0) (0) (nwA sz) := by
  refine mStart RX3 rfl (by decide +kernel) (Nat.le_of_ble_eq_true rfl) ?_
  intro p e s m args below meth c E hr hlk hnm hsz hC hF ls hl
  subst hsz
  obtain ⟨hx, hb, -⟩ := id E
  have hA : ∀ q, (nwA s.heap.size) q → N0 ≤ q := fun q h => Nat.le_trans hC.2.1 h
  have hn : ∀ q, s.heap.size ≤ q → (nwA s.heap.size) q := fun q h => h
  have hS : va_S (nwA s.heap.size) s.heap s.heap [] := va_S.rf
  have hl : lv_has ls 4 [(0, .long n), (2, .long d)] := hl
  refine lv_lload_n (pc := 0) hx hb dX3_floorOf_0 rfl (lv_at hl 1 rfl) ?_
  refine lv_lconst (pc := 1) (v := 0) hx hb dX3_floorOf_1 (by decide) ?_
  refine r_lcne (pc := 2) (tgt := 10) E dX3_floorOf_2 dX3_floorOf_3 (by decide) (fun c_1 => ?_) (fun c_1 => ?_)
  · refine lv_lload_n (pc := 10) hx hb dX3_floorOf_10 rfl (lv_at hl 0 rfl) ?_
    refine lv_lload_n (pc := 11) hx hb dX3_floorOf_11 rfl (lv_at hl 1 rfl) ?_
    refine k_l (pc := 12) (k_S E hC hS hA hl.1 (c_J9_floorDiv_f86c9 l D tk N0 sa s.heap.size n d (by assumption)) kw_504 kw_505 kw_9 kw_506 (n := 2) (by decide +kernel) rfl ⟨⟨rfl, rfl⟩, ⟨by decide, by decide⟩, by decide, by decide⟩ rfl (Nat.le_of_ble_eq_true rfl) trivial dX3_floorOf_12) hS (fun q z w => absurd w (Nat.not_le.mpr z)) hn (fun r_2 H locs hR hz hk hS => ?_)
    have er_2 := hR
    refine r_lret (pc := 15) E hr hlk hS (by decide) (by decide) ?_ dX3_floorOf_15
    subst er_2; first | with_reducible rfl | (simp [f_floorOf, c_1, p_TB, p_TV, p_TC, p_TI, p_BT, p_BV, p_BC, p_BI, p_VT, p_VB, p_VC, p_VI, p_CT, p_CB, p_CV, p_CI, p_IT, p_IB, p_IV, p_IC, p_TT, p_BB, p_CC, p_II]; done)
  · refine lv_lconst (pc := 6) (v := 0) hx hb dX3_floorOf_6 (by decide) ?_
    refine lv_goto (pc := 7) (tgt := 15) hx hb dX3_floorOf_7 (by decide) ?_
    refine r_lret (pc := 15) E hr hlk hS (by decide) (by decide) ?_ dX3_floorOf_15
    first | with_reducible rfl | (simp [f_floorOf, c_1, p_TB, p_TV, p_TC, p_TI, p_BT, p_BV, p_BC, p_BI, p_VT, p_VB, p_VC, p_VI, p_CT, p_CB, p_CV, p_CI, p_IT, p_IB, p_IV, p_IC, p_TT, p_BB, p_CC, p_II]; done)

set_option maxHeartbeats 4000000 in
set_option maxRecDepth 100000 in
/-- Bestratios.commonDivisor(JJ)J -/
theorem c_X3_commonDivisor (l : Launch) (D : va_G) (tk : Nat → ClassId) (N0 : Nat) (sa : Nat → Nat)  (sz : Nat) (a : Int64) (b : Int64) : Met l yX3_commonDivisor (wsy yX3_commonDivisor cX3_commonDivisor 11 (some .long)) ({ frames := 0, cells := 0, slots := 0, locals := 0 } : Room) (cP D tk N0 sa [.long a, .long b] sz (fun H => True)) (kQl (fun r H => r = f_gcd a b) (nwA sz)) (0) (0) (nwA sz) := by
  refine mStart RX3 rfl (by decide +kernel) (Nat.le_of_ble_eq_true rfl) ?_
  intro p e s m args below meth c E hr hlk hnm hsz hC hF ls hl
  subst hsz
  obtain ⟨hx, hb, -⟩ := id E
  have hA : ∀ q, (nwA s.heap.size) q → N0 ≤ q := fun q h => Nat.le_trans hC.2.1 h
  have hn : ∀ q, s.heap.size ≤ q → (nwA s.heap.size) q := fun q h => h
  have hS : va_S (nwA s.heap.size) s.heap s.heap [] := va_S.rf
  have hl : lv_has ls 11 [(0, .long a), (2, .long b)] := hl
  obtain ⟨Q, hQ⟩ : ∃ Q, Q = MQ below (kQl (fun r H => r = f_gcd a b) (nwA s.heap.size)) args s (0) (0) (nwA s.heap.size) := ⟨_, rfl⟩
  rw [← hQ]
  have loop_31 : ∀ (n : Nat) (k : Nat)(u : Int64) (v : Int64) (x : Int32), k ≤ 200 → 200 - k < n → x = nI k → gcdL (200 - k) u v = f_gcd a b → ∀ (H : Heap) (locs : List Loc) (ls : Array Slot), va_S (nwA s.heap.size) s.heap H locs → lv_has ls 11 [(0, .long a), (2, .long b), (4, .long u), (6, .long v), (8, .int x)] → W p l e ({ frames := 0, cells := 0, slots := 0, locals := 0 } : Room) s m args below meth c H locs (0) (0) Q (F0 m 31 ls []) := by
    intro n
    induction n with
    | zero =>
      intro k u v x hk9 hf9 hx9 hg9 H locs ls hS hl
      omega
    | succ n ih_31 =>
      intro k u v x hk9 hf9 hx9 hg9 H locs ls hS hl
      refine lv_iload (pc := 31) hx hb dX3_commonDivisor_31 (lv_at hl 4 rfl) ?_
      refine lv_sipush (pc := 33) (v := 200) hx hb dX3_commonDivisor_33 (by decide) ?_
      refine lv_icmp_ge (pc := 36) (tgt := 67) hx hb dX3_commonDivisor_36 (by decide) (fun c_1 => ?_) (fun c_1 => ?_)
      · refine lv_lload (pc := 67) hx hb dX3_commonDivisor_67 (lv_at hl 2 rfl) ?_
        try rw [hQ]
        refine r_lret (pc := 69) E hr hlk hS (by decide) (by decide) ?_ dX3_commonDivisor_69
        rw [← hg9]
        have e0 : 200 - k = 0 := by have := (i_le (n := 200) hx9 (by decide) (by omega) (by decide)).mp c_1; omega
        (rw [e0]) <;> simp [gcdL]
      · refine lv_lload (pc := 39) hx hb dX3_commonDivisor_39 (lv_at hl 3 rfl) ?_
        refine lv_lconst (pc := 41) (v := 0) hx hb dX3_commonDivisor_41 (by decide) ?_
        refine r_lceq (pc := 42) (tgt := 67) E dX3_commonDivisor_42 dX3_commonDivisor_43 (by decide) (fun c_2 => ?_) (fun c_2 => ?_)
        · refine lv_lload (pc := 67) hx hb dX3_commonDivisor_67 (lv_at hl 2 rfl) ?_
          try rw [hQ]
          refine r_lret (pc := 69) E hr hlk hS (by decide) (by decide) ?_ dX3_commonDivisor_69
          rw [← hg9]
          rw [gcdL_z c_2]
        · refine lv_lload (pc := 46) hx hb dX3_commonDivisor_46 (lv_at hl 2 rfl) ?_
          refine lv_lload (pc := 48) hx hb dX3_commonDivisor_48 (lv_at hl 3 rfl) ?_
          refine lv_lrem (pc := 50) hx hb dX3_commonDivisor_50 (by assumption) ?_
          obtain ⟨x_3, ex_3⟩ : ∃ z9 : Int64, z9 = u - u / v * v := ⟨_, rfl⟩
          rw [← ex_3]
          refine lv_lstore (pc := 51) (lv' := [(9, .long x_3), (0, .long a), (2, .long b), (4, .long u), (6, .long v), (8, .int x)]) hx hb dX3_commonDivisor_51 hl (by decide) rfl (fun ls hl => ?_)
          refine lv_lload (pc := 53) hx hb dX3_commonDivisor_53 (lv_at hl 4 rfl) ?_
          refine lv_lstore (pc := 55) (lv' := [(4, .long v), (9, .long x_3), (0, .long a), (2, .long b), (6, .long v), (8, .int x)]) hx hb dX3_commonDivisor_55 hl (by decide) rfl (fun ls hl => ?_)
          refine lv_lload (pc := 57) hx hb dX3_commonDivisor_57 (lv_at hl 1 rfl) ?_
          refine lv_lstore (pc := 59) (lv' := [(6, .long x_3), (4, .long v), (9, .long x_3), (0, .long a), (2, .long b), (8, .int x)]) hx hb dX3_commonDivisor_59 hl (by decide) rfl (fun ls hl => ?_)
          obtain ⟨x_4, ex_4⟩ : ∃ z9 : Int32, z9 = x + 1 := ⟨_, rfl⟩
          refine lv_iinc (pc := 61) (v := x_4) (lv' := [(8, .int x_4), (6, .long x_3), (4, .long v), (9, .long x_3), (0, .long a), (2, .long b)]) hx hb dX3_commonDivisor_61 hl (k := 5) rfl (by rw [ex_4]; rfl) (by decide) rfl (fun ls hl => ?_)
          refine lv_goto (pc := 64) (tgt := 31) hx hb dX3_commonDivisor_64 (by decide) ?_
          have hlt : k < 200 := Nat.not_le.mp (fun z => c_1 ((i_le (n := 200) hx9 (by decide) (by omega) (by decide)).mpr z))
          have e200 : 200 - k = (200 - (k + 1)) + 1 := by omega
          rw [e200] at hg9
          exact ih_31  (k + 1)  v x_3 x_4 (by omega) (by omega) (i_up hx9 ex_4) (by rw [← hg9]; simp only [gcdL, c_1, c_2, ex_3, ex_4, if_false]; done) _ _ _ hS (lv_sub hl [4, 5, 2, 1, 0] rfl)
  refine lv_lload_n (pc := 0) hx hb dX3_commonDivisor_0 rfl (lv_at hl 0 rfl) ?_
  refine lv_lconst (pc := 1) (v := 0) hx hb dX3_commonDivisor_1 (by decide) ?_
  refine r_lcge (pc := 2) (tgt := 11) E dX3_commonDivisor_2 dX3_commonDivisor_3 (by decide) (fun c_5 => ?_) (fun c_5 => ?_)
  · refine lv_lload_n (pc := 11) hx hb dX3_commonDivisor_11 rfl (lv_at hl 0 rfl) ?_
    refine lv_lstore (pc := 12) (lv' := [(4, .long a), (0, .long a), (2, .long b)]) hx hb dX3_commonDivisor_12 hl (by decide) rfl (fun ls hl => ?_)
    refine lv_lload_n (pc := 14) hx hb dX3_commonDivisor_14 rfl (lv_at hl 2 rfl) ?_
    refine lv_lconst (pc := 15) (v := 0) hx hb dX3_commonDivisor_15 (by decide) ?_
    refine r_lcge (pc := 16) (tgt := 25) E dX3_commonDivisor_16 dX3_commonDivisor_17 (by decide) (fun c_6 => ?_) (fun c_6 => ?_)
    · refine lv_lload_n (pc := 25) hx hb dX3_commonDivisor_25 rfl (lv_at hl 2 rfl) ?_
      refine lv_lstore (pc := 26) (lv' := [(6, .long b), (4, .long a), (0, .long a), (2, .long b)]) hx hb dX3_commonDivisor_26 hl (by decide) rfl (fun ls hl => ?_)
      refine lv_iconst (pc := 28) (v := 0) hx hb dX3_commonDivisor_28 (by decide) ?_
      refine lv_istore (pc := 29) (lv' := [(8, .int 0), (6, .long b), (4, .long a), (0, .long a), (2, .long b)]) hx hb dX3_commonDivisor_29 hl (by decide) rfl (fun ls hl => ?_)
      exact loop_31 201 0  a b 0 (by decide) (by decide) nI_0.symm (by simp [f_gcd, absL, c_5, c_6]) _ _ _ hS (lv_sub hl [3, 4, 2, 1, 0] rfl)
    · refine lv_lload_n (pc := 20) hx hb dX3_commonDivisor_20 rfl (lv_at hl 2 rfl) ?_
      refine lv_lneg (pc := 21) hx hb dX3_commonDivisor_21 ?_
      refine lv_goto (pc := 22) (tgt := 26) hx hb dX3_commonDivisor_22 (by decide) ?_
      obtain ⟨x_7, ex_7⟩ : ∃ z9 : Int64, z9 = -b := ⟨_, rfl⟩
      rw [← ex_7]
      refine lv_lstore (pc := 26) (lv' := [(6, .long x_7), (4, .long a), (0, .long a), (2, .long b)]) hx hb dX3_commonDivisor_26 hl (by decide) rfl (fun ls hl => ?_)
      refine lv_iconst (pc := 28) (v := 0) hx hb dX3_commonDivisor_28 (by decide) ?_
      refine lv_istore (pc := 29) (lv' := [(8, .int 0), (6, .long x_7), (4, .long a), (0, .long a), (2, .long b)]) hx hb dX3_commonDivisor_29 hl (by decide) rfl (fun ls hl => ?_)
      exact loop_31 201 0  a x_7 0 (by decide) (by decide) nI_0.symm (by simp [f_gcd, absL, c_5, c_6, ex_7]) _ _ _ hS (lv_sub hl [3, 4, 2, 1, 0] rfl)
  · refine lv_lload_n (pc := 6) hx hb dX3_commonDivisor_6 rfl (lv_at hl 0 rfl) ?_
    refine lv_lneg (pc := 7) hx hb dX3_commonDivisor_7 ?_
    refine lv_goto (pc := 8) (tgt := 12) hx hb dX3_commonDivisor_8 (by decide) ?_
    obtain ⟨x_8, ex_8⟩ : ∃ z9 : Int64, z9 = -a := ⟨_, rfl⟩
    rw [← ex_8]
    refine lv_lstore (pc := 12) (lv' := [(4, .long x_8), (0, .long a), (2, .long b)]) hx hb dX3_commonDivisor_12 hl (by decide) rfl (fun ls hl => ?_)
    refine lv_lload_n (pc := 14) hx hb dX3_commonDivisor_14 rfl (lv_at hl 2 rfl) ?_
    refine lv_lconst (pc := 15) (v := 0) hx hb dX3_commonDivisor_15 (by decide) ?_
    refine r_lcge (pc := 16) (tgt := 25) E dX3_commonDivisor_16 dX3_commonDivisor_17 (by decide) (fun c_9 => ?_) (fun c_9 => ?_)
    · refine lv_lload_n (pc := 25) hx hb dX3_commonDivisor_25 rfl (lv_at hl 2 rfl) ?_
      refine lv_lstore (pc := 26) (lv' := [(6, .long b), (4, .long x_8), (0, .long a), (2, .long b)]) hx hb dX3_commonDivisor_26 hl (by decide) rfl (fun ls hl => ?_)
      refine lv_iconst (pc := 28) (v := 0) hx hb dX3_commonDivisor_28 (by decide) ?_
      refine lv_istore (pc := 29) (lv' := [(8, .int 0), (6, .long b), (4, .long x_8), (0, .long a), (2, .long b)]) hx hb dX3_commonDivisor_29 hl (by decide) rfl (fun ls hl => ?_)
      exact loop_31 201 0  x_8 b 0 (by decide) (by decide) nI_0.symm (by simp [f_gcd, absL, c_5, ex_8, c_9]) _ _ _ hS (lv_sub hl [3, 4, 2, 1, 0] rfl)
    · refine lv_lload_n (pc := 20) hx hb dX3_commonDivisor_20 rfl (lv_at hl 2 rfl) ?_
      refine lv_lneg (pc := 21) hx hb dX3_commonDivisor_21 ?_
      refine lv_goto (pc := 22) (tgt := 26) hx hb dX3_commonDivisor_22 (by decide) ?_
      obtain ⟨x_10, ex_10⟩ : ∃ z9 : Int64, z9 = -b := ⟨_, rfl⟩
      rw [← ex_10]
      refine lv_lstore (pc := 26) (lv' := [(6, .long x_10), (4, .long x_8), (0, .long a), (2, .long b)]) hx hb dX3_commonDivisor_26 hl (by decide) rfl (fun ls hl => ?_)
      refine lv_iconst (pc := 28) (v := 0) hx hb dX3_commonDivisor_28 (by decide) ?_
      refine lv_istore (pc := 29) (lv' := [(8, .int 0), (6, .long x_10), (4, .long x_8), (0, .long a), (2, .long b)]) hx hb dX3_commonDivisor_29 hl (by decide) rfl (fun ls hl => ?_)
      exact loop_31 201 0  x_8 x_10 0 (by decide) (by decide) nI_0.symm (by simp [f_gcd, absL, c_5, ex_8, c_9, ex_10]) _ _ _ hS (lv_sub hl [3, 4, 2, 1, 0] rfl)

set_option maxHeartbeats 4000000 in
set_option maxRecDepth 100000 in
/-- Bestratios.powerOfTen(I)J -/
theorem c_X3_powerOfTen (l : Launch) (D : va_G) (tk : Nat → ClassId) (N0 : Nat) (sa : Nat → Nat)  (sz : Nat) (x : Int32) : Met l yX3_powerOfTen (wsy yX3_powerOfTen cX3_powerOfTen 1 (some .long)) ({ frames := 0, cells := 0, slots := 0, locals := 0 } : Room) (cP D tk N0 sa [.int x] sz (fun H => True)) (kQl (fun r H => r = f_p10 x) (nwA sz)) (0) (0) (nwA sz) := by
  refine mStart RX3 rfl (by decide +kernel) (Nat.le_of_ble_eq_true rfl) ?_
  intro p e s m args below meth c E hr hlk hnm hsz hC hF ls hl
  subst hsz
  obtain ⟨hx, hb, -⟩ := id E
  have hA : ∀ q, (nwA s.heap.size) q → N0 ≤ q := fun q h => Nat.le_trans hC.2.1 h
  have hn : ∀ q, s.heap.size ≤ q → (nwA s.heap.size) q := fun q h => h
  have hS : va_S (nwA s.heap.size) s.heap s.heap [] := va_S.rf
  have hl : lv_has ls 1 [(0, .int x)] := hl
  refine lv_iload_n (pc := 0) hx hb dX3_powerOfTen_0 rfl (lv_at hl 0 rfl) ?_
  refine lv_if_lt (pc := 1) (tgt := 20) hx hb dX3_powerOfTen_1 (by decide) (fun c_1 => ?_) (fun c_1 => ?_)
  · refine lv_lconst (pc := 20) (v := 1) hx hb dX3_powerOfTen_20 (by decide) ?_
    refine r_lret (pc := 21) E hr hlk hS (by decide) (by decide) ?_ dX3_powerOfTen_21
    first | with_reducible rfl | (simp [f_p10, c_1, Int32.not_le.mpr c_1, p_TB, p_TV, p_TC, p_TI, p_BT, p_BV, p_BC, p_BI, p_VT, p_VB, p_VC, p_VI, p_CT, p_CB, p_CV, p_CI, p_IT, p_IB, p_IV, p_IC, p_TT, p_BB, p_CC, p_II]; done)
  · refine lv_iload_n (pc := 4) hx hb dX3_powerOfTen_4 rfl (lv_at hl 0 rfl) ?_
    refine r_p10 (pc := 5) E hC hS hA (List.mem_cons_of_mem _ kw_535) (fun _ h => h) dX3_powerOfTen_5 ?_
    refine va_tlen (pc := 8) hx hb (hC.2.2.1.1.2.narrow hA) hS (v := 10) rfl dX3_powerOfTen_8 ?_
    refine lv_icmp_ge (pc := 9) (tgt := 20) hx hb dX3_powerOfTen_9 (by decide) (fun c_2 => ?_) (fun c_2 => ?_)
    · refine lv_lconst (pc := 20) (v := 1) hx hb dX3_powerOfTen_20 (by decide) ?_
      refine r_lret (pc := 21) E hr hlk hS (by decide) (by decide) ?_ dX3_powerOfTen_21
      first | with_reducible rfl | (simp [f_p10, c_1, Int32.not_lt.mp c_1, c_2, Int32.not_lt.mpr c_2, p_TB, p_TV, p_TC, p_TI, p_BT, p_BV, p_BC, p_BI, p_VT, p_VB, p_VC, p_VI, p_CT, p_CB, p_CV, p_CI, p_IT, p_IB, p_IV, p_IC, p_TT, p_BB, p_CC, p_II]; done)
    · refine r_p10 (pc := 12) E hC hS hA (List.mem_cons_of_mem _ kw_535) (fun _ h => h) dX3_powerOfTen_12 ?_
      refine lv_iload_n (pc := 15) hx hb dX3_powerOfTen_15 rfl (lv_at hl 0 rfl) ?_
      refine va_tl (pc := 16) hx hb (hC.2.2.1.1.2.narrow hA) hS (vp_of2 (n := 10) (k := 10) rfl (by assumption) (by assumption)) (v := .long (p10 (x).toNatClampNeg)) rfl dX3_powerOfTen_16 ?_
      refine lv_goto (pc := 17) (tgt := 21) hx hb dX3_powerOfTen_17 (by decide) ?_
      refine r_lret (pc := 21) E hr hlk hS (by decide) (by decide) ?_ dX3_powerOfTen_21
      first | with_reducible rfl | (simp [f_p10, c_1, Int32.not_lt.mp c_1, c_2, Int32.not_le.mp c_2, p_TB, p_TV, p_TC, p_TI, p_BT, p_BV, p_BC, p_BI, p_VT, p_VB, p_VC, p_VI, p_CT, p_CB, p_CV, p_CI, p_IT, p_IB, p_IV, p_IC, p_TT, p_BB, p_CC, p_II]; done)

set_option maxHeartbeats 4000000 in
set_option maxRecDepth 100000 in
/-- Bestratios.powerToLimit(JI)J -/
theorem c_X3_powerToLimit (l : Launch) (D : va_G) (tk : Nat → ClassId) (N0 : Nat) (sa : Nat → Nat)  (sz : Nat) (b : Int64) (mm : Int32) : Met l yX3_powerToLimit (wsy yX3_powerToLimit cX3_powerToLimit 6 (some .long)) ({ frames := 0, cells := 0, slots := 0, locals := 0 } : Room) (cP D tk N0 sa [.long b, .int mm] sz (fun H => True)) (kQl (fun r H => r = f_pow b mm) (nwA sz)) (0) (0) (nwA sz) := by
  refine mStart RX3 rfl (by decide +kernel) (Nat.le_of_ble_eq_true rfl) ?_
  intro p e s m args below meth c E hr hlk hnm hsz hC hF ls hl
  subst hsz
  obtain ⟨hx, hb, -⟩ := id E
  have hA : ∀ q, (nwA s.heap.size) q → N0 ≤ q := fun q h => Nat.le_trans hC.2.1 h
  have hn : ∀ q, s.heap.size ≤ q → (nwA s.heap.size) q := fun q h => h
  have hS : va_S (nwA s.heap.size) s.heap s.heap [] := va_S.rf
  have hl : lv_has ls 6 [(0, .long b), (2, .int mm)] := hl
  obtain ⟨Q, hQ⟩ : ∃ Q, Q = MQ below (kQl (fun r H => r = f_pow b mm) (nwA s.heap.size)) args s (0) (0) (nwA s.heap.size) := ⟨_, rfl⟩
  rw [← hQ]
  refine lv_lconst (pc := 0) (v := 1) hx hb dX3_powerToLimit_0 (by decide) ?_
  refine lv_lstore_n (pc := 1) (lv' := [(3, .long 1), (0, .long b), (2, .int mm)]) hx hb dX3_powerToLimit_1 rfl hl (by decide) rfl (fun ls hl => ?_)
  refine lv_iconst (pc := 2) (v := 0) hx hb dX3_powerToLimit_2 (by decide) ?_
  refine lv_istore (pc := 3) (lv' := [(5, .int 0), (3, .long 1), (0, .long b), (2, .int mm)]) hx hb dX3_powerToLimit_3 hl (by decide) rfl (fun ls hl => ?_)
  have loop_5 : ∀ (n : Nat) (k : Nat)(p9 : Int64) (x : Int32), mm.toNatClampNeg - k < n → k ≤ mm.toNatClampNeg → x = nI k → powL (mm.toNatClampNeg - k) b p9 = f_pow b mm → ∀ (H : Heap) (locs : List Loc) (ls : Array Slot), va_S (nwA s.heap.size) s.heap H locs → lv_has ls 6 [(0, .long b), (2, .int mm), (3, .long p9), (5, .int x)] → W p l e ({ frames := 0, cells := 0, slots := 0, locals := 0 } : Room) s m args below meth c H locs (0) (0) Q (F0 m 5 ls []) := by
    intro n
    induction n with
    | zero =>
      intro k p9 x hf9 hk9 hx9 hg9 H locs ls hS hl
      omega
    | succ n ih_5 =>
      intro k p9 x hf9 hk9 hx9 hg9 H locs ls hS hl
      refine lv_iload (pc := 5) hx hb dX3_powerToLimit_5 (lv_at hl 3 rfl) ?_
      refine lv_iload_n (pc := 7) hx hb dX3_powerToLimit_7 rfl (lv_at hl 1 rfl) ?_
      refine lv_icmp_ge (pc := 8) (tgt := 29) hx hb dX3_powerToLimit_8 (by decide) (fun c_1 => ?_) (fun c_1 => ?_)
      · refine lv_lload_n (pc := 29) hx hb dX3_powerToLimit_29 rfl (lv_at hl 2 rfl) ?_
        try rw [hQ]
        refine r_lret (pc := 30) E hr hlk hS (by decide) (by decide) ?_ dX3_powerToLimit_30
        rw [← hg9]
        have e0 := (i_mle hx9 hk9).mp c_1
        (rw [e0]) <;> simp [powL]
      · refine lv_lload_n (pc := 11) hx hb dX3_powerToLimit_11 rfl (lv_at hl 2 rfl) ?_
        refine lv_ldc2 (pc := 12) (v := 1000000000) hx hb E.2.2.2.1 (E.2.2.2.2 _ (List.mem_cons_of_mem _ kw_933)) dX3_powerToLimit_12 ?_
        refine r_lcgt (pc := 15) (tgt := 29) E dX3_powerToLimit_15 dX3_powerToLimit_16 (by decide) (fun c_2 => ?_) (fun c_2 => ?_)
        · refine lv_lload_n (pc := 29) hx hb dX3_powerToLimit_29 rfl (lv_at hl 2 rfl) ?_
          try rw [hQ]
          refine r_lret (pc := 30) E hr hlk hS (by decide) (by decide) ?_ dX3_powerToLimit_30
          rw [← hg9]
          rw [powL_z c_2]
        · refine lv_lload_n (pc := 19) hx hb dX3_powerToLimit_19 rfl (lv_at hl 2 rfl) ?_
          refine lv_lload_n (pc := 20) hx hb dX3_powerToLimit_20 rfl (lv_at hl 0 rfl) ?_
          refine lv_lmul (pc := 21) hx hb dX3_powerToLimit_21 ?_
          obtain ⟨x_3, ex_3⟩ : ∃ z9 : Int64, z9 = p9 * b := ⟨_, rfl⟩
          rw [← ex_3]
          refine lv_lstore_n (pc := 22) (lv' := [(3, .long x_3), (0, .long b), (2, .int mm), (5, .int x)]) hx hb dX3_powerToLimit_22 rfl hl (by decide) rfl (fun ls hl => ?_)
          obtain ⟨x_4, ex_4⟩ : ∃ z9 : Int32, z9 = x + 1 := ⟨_, rfl⟩
          refine lv_iinc (pc := 23) (v := x_4) (lv' := [(5, .int x_4), (3, .long x_3), (0, .long b), (2, .int mm)]) hx hb dX3_powerToLimit_23 hl (k := 3) rfl (by rw [ex_4]; rfl) (by decide) rfl (fun ls hl => ?_)
          refine lv_goto (pc := 26) (tgt := 5) hx hb dX3_powerToLimit_26 (by decide) ?_
          have hlt := (i_mlt hx9 hk9).mp c_1
          have e200 : mm.toNatClampNeg - k = (mm.toNatClampNeg - (k + 1)) + 1 := by omega
          rw [e200] at hg9
          exact ih_5  (k + 1)  x_3 x_4 (by omega) (by omega) (i_up hx9 ex_4) (by rw [← hg9]; subst ex_3; simp [powL, c_2]) _ _ _ hS (lv_sub hl [2, 3, 1, 0] rfl)
  exact loop_5 (mm.toNatClampNeg + 1) 0  1 0 (by omega) (Nat.zero_le _) nI_0.symm rfl _ _ _ hS (lv_sub hl [2, 3, 1, 0] rfl)

set_option maxHeartbeats 4000000 in
set_option maxRecDepth 100000 in
/-- Bestratios.isCutUpward(JJJI)Z -/
theorem c_X3_isCutUpward (l : Launch) (D : va_G) (tk : Nat → ClassId) (N0 : Nat) (sa : Nat → Nat)  (sz : Nat) (ls_ : Int64) (lf : Int64) (bt : Int64) (md : Int32) : Met l yX3_isCutUpward (wsy yX3_isCutUpward cX3_isCutUpward 7 (some .boolean)) ({ frames := 0, cells := 0, slots := 0, locals := 0 } : Room) (cP D tk N0 sa [.long ls_, .long lf, .long bt, .int md] sz (fun H => True)) (kQi (fun r H => r = f_cutUp ls_ lf bt md) (nwA sz)) (0) (0) (nwA sz) := by
  refine mStart RX3 rfl (by decide +kernel) (Nat.le_of_ble_eq_true rfl) ?_
  intro p e s m args below meth c E hr hlk hnm hsz hC hF ls hl
  subst hsz
  obtain ⟨hx, hb, -⟩ := id E
  have hA : ∀ q, (nwA s.heap.size) q → N0 ≤ q := fun q h => Nat.le_trans hC.2.1 h
  have hn : ∀ q, s.heap.size ≤ q → (nwA s.heap.size) q := fun q h => h
  have hS : va_S (nwA s.heap.size) s.heap s.heap [] := va_S.rf
  have hl : lv_has ls 7 [(0, .long ls_), (2, .long lf), (4, .long bt), (6, .int md)] := hl
  refine lv_iload (pc := 0) hx hb dX3_isCutUpward_0 (lv_at hl 3 rfl) ?_
  by_cases c_1_0 : md = 0
  · refine lv_tableIn (pc := 2) (tgt := 32) hx hb dX3_isCutUpward_2 (by rw [c_1_0]; decide) (by rw [c_1_0]; decide) (by rw [c_1_0]; rfl) (by decide) ?_
    refine lv_lload_n (pc := 32) hx hb dX3_isCutUpward_32 rfl (lv_at hl 0 rfl) ?_
    refine lv_lconst (pc := 33) (v := 0) hx hb dX3_isCutUpward_33 (by decide) ?_
    refine r_lcge (pc := 34) (tgt := 42) E dX3_isCutUpward_34 dX3_isCutUpward_35 (by decide) (fun c_2 => ?_) (fun c_2 => ?_)
    · refine lv_iconst (pc := 42) (v := 0) hx hb dX3_isCutUpward_42 (by decide) ?_
      refine r_zret (pc := 43) E hr hlk hS (by decide) (by decide) rfl ?_ dX3_isCutUpward_43
      first | with_reducible rfl | (simp [f_cutUp, c_1_0, c_2, Int64.not_lt.mpr c_2, p_TB, p_TV, p_TC, p_TI, p_BT, p_BV, p_BC, p_BI, p_VT, p_VB, p_VC, p_VI, p_CT, p_CB, p_CV, p_CI, p_IT, p_IB, p_IV, p_IC, p_TT, p_BB, p_CC, p_II]; done)
    · refine lv_iconst (pc := 38) (v := 1) hx hb dX3_isCutUpward_38 (by decide) ?_
      refine lv_goto (pc := 39) (tgt := 43) hx hb dX3_isCutUpward_39 (by decide) ?_
      refine r_zret (pc := 43) E hr hlk hS (by decide) (by decide) rfl ?_ dX3_isCutUpward_43
      first | with_reducible rfl | (simp [f_cutUp, c_1_0, c_2, Int64.not_le.mp c_2, p_TB, p_TV, p_TC, p_TI, p_BT, p_BV, p_BC, p_BI, p_VT, p_VB, p_VC, p_VI, p_CT, p_CB, p_CV, p_CI, p_IT, p_IB, p_IV, p_IC, p_TT, p_BB, p_CC, p_II]; done)
  · skip
    by_cases c_1_1 : md = 1
    · refine lv_tableIn (pc := 2) (tgt := 44) hx hb dX3_isCutUpward_2 (by rw [c_1_1]; decide) (by rw [c_1_1]; decide) (by rw [c_1_1]; rfl) (by decide) ?_
      refine lv_iconst (pc := 44) (v := 0) hx hb dX3_isCutUpward_44 (by decide) ?_
      refine r_zret (pc := 45) E hr hlk hS (by decide) (by decide) rfl ?_ dX3_isCutUpward_45
      first | with_reducible rfl | (simp [f_cutUp, c_1_1, p_TB, p_TV, p_TC, p_TI, p_BT, p_BV, p_BC, p_BI, p_VT, p_VB, p_VC, p_VI, p_CT, p_CB, p_CV, p_CI, p_IT, p_IB, p_IV, p_IC, p_TT, p_BB, p_CC, p_II]; done)
    · skip
      by_cases c_1_2 : md = 2
      · refine lv_tableIn (pc := 2) (tgt := 46) hx hb dX3_isCutUpward_2 (by rw [c_1_2]; decide) (by rw [c_1_2]; decide) (by rw [c_1_2]; rfl) (by decide) ?_
        refine lv_iconst (pc := 46) (v := 1) hx hb dX3_isCutUpward_46 (by decide) ?_
        refine r_zret (pc := 47) E hr hlk hS (by decide) (by decide) rfl ?_ dX3_isCutUpward_47
        first | with_reducible rfl | (simp [f_cutUp, c_1_2, p_TB, p_TV, p_TC, p_TI, p_BT, p_BV, p_BC, p_BI, p_VT, p_VB, p_VC, p_VI, p_CT, p_CB, p_CV, p_CI, p_IT, p_IB, p_IV, p_IC, p_TT, p_BB, p_CC, p_II]; done)
      · skip
        by_cases c_1_3 : md = 3
        · refine lv_tableIn (pc := 2) (tgt := 48) hx hb dX3_isCutUpward_2 (by rw [c_1_3]; decide) (by rw [c_1_3]; decide) (by rw [c_1_3]; rfl) (by decide) ?_
          refine lv_ldc2 (pc := 48) (v := 2) hx hb E.2.2.2.1 (E.2.2.2.2 _ (List.mem_cons_of_mem _ kw_541)) dX3_isCutUpward_48 ?_
          refine lv_lload_n (pc := 51) hx hb dX3_isCutUpward_51 rfl (lv_at hl 1 rfl) ?_
          refine lv_lmul (pc := 52) hx hb dX3_isCutUpward_52 ?_
          refine lv_lload (pc := 53) hx hb dX3_isCutUpward_53 (lv_at hl 2 rfl) ?_
          refine r_lcgt (pc := 55) (tgt := 76) E dX3_isCutUpward_55 dX3_isCutUpward_56 (by decide) (fun c_3 => ?_) (fun c_3 => ?_)
          · refine lv_iconst (pc := 76) (v := 1) hx hb dX3_isCutUpward_76 (by decide) ?_
            refine lv_goto (pc := 77) (tgt := 81) hx hb dX3_isCutUpward_77 (by decide) ?_
            refine r_zret (pc := 81) E hr hlk hS (by decide) (by decide) rfl ?_ dX3_isCutUpward_81
            first | with_reducible rfl | (simp [f_cutUp, c_1_3, c_3, Int64.not_le.mpr c_3, p_TB, p_TV, p_TC, p_TI, p_BT, p_BV, p_BC, p_BI, p_VT, p_VB, p_VC, p_VI, p_CT, p_CB, p_CV, p_CI, p_IT, p_IB, p_IV, p_IC, p_TT, p_BB, p_CC, p_II]; done)
          · refine lv_ldc2 (pc := 59) (v := 2) hx hb E.2.2.2.1 (E.2.2.2.2 _ (List.mem_cons_of_mem _ kw_541)) dX3_isCutUpward_59 ?_
            refine lv_lload_n (pc := 62) hx hb dX3_isCutUpward_62 rfl (lv_at hl 1 rfl) ?_
            refine lv_lmul (pc := 63) hx hb dX3_isCutUpward_63 ?_
            refine lv_lload (pc := 64) hx hb dX3_isCutUpward_64 (lv_at hl 2 rfl) ?_
            refine r_lcne (pc := 66) (tgt := 80) E dX3_isCutUpward_66 dX3_isCutUpward_67 (by decide) (fun c_4 => ?_) (fun c_4 => ?_)
            · refine lv_iconst (pc := 80) (v := 0) hx hb dX3_isCutUpward_80 (by decide) ?_
              refine r_zret (pc := 81) E hr hlk hS (by decide) (by decide) rfl ?_ dX3_isCutUpward_81
              first | with_reducible rfl | (simp [f_cutUp, c_1_3, c_3, Int64.not_lt.mp c_3, c_4, p_TB, p_TV, p_TC, p_TI, p_BT, p_BV, p_BC, p_BI, p_VT, p_VB, p_VC, p_VI, p_CT, p_CB, p_CV, p_CI, p_IT, p_IB, p_IV, p_IC, p_TT, p_BB, p_CC, p_II]; done)
            · refine lv_lload_n (pc := 70) hx hb dX3_isCutUpward_70 rfl (lv_at hl 0 rfl) ?_
              refine lv_lconst (pc := 71) (v := 0) hx hb dX3_isCutUpward_71 (by decide) ?_
              refine r_lclt (pc := 72) (tgt := 80) E dX3_isCutUpward_72 dX3_isCutUpward_73 (by decide) (fun c_5 => ?_) (fun c_5 => ?_)
              · refine lv_iconst (pc := 80) (v := 0) hx hb dX3_isCutUpward_80 (by decide) ?_
                refine r_zret (pc := 81) E hr hlk hS (by decide) (by decide) rfl ?_ dX3_isCutUpward_81
                first | with_reducible rfl | (simp [f_cutUp, c_1_3, c_3, Int64.not_lt.mp c_3, c_4, c_5, Int64.not_le.mpr c_5, p_TB, p_TV, p_TC, p_TI, p_BT, p_BV, p_BC, p_BI, p_VT, p_VB, p_VC, p_VI, p_CT, p_CB, p_CV, p_CI, p_IT, p_IB, p_IV, p_IC, p_TT, p_BB, p_CC, p_II]; done)
              · refine lv_iconst (pc := 76) (v := 1) hx hb dX3_isCutUpward_76 (by decide) ?_
                refine lv_goto (pc := 77) (tgt := 81) hx hb dX3_isCutUpward_77 (by decide) ?_
                refine r_zret (pc := 81) E hr hlk hS (by decide) (by decide) rfl ?_ dX3_isCutUpward_81
                first | with_reducible rfl | (simp [f_cutUp, c_1_3, c_3, Int64.not_lt.mp c_3, c_4, c_5, Int64.not_lt.mp c_5, p_TB, p_TV, p_TC, p_TI, p_BT, p_BV, p_BC, p_BI, p_VT, p_VB, p_VC, p_VI, p_CT, p_CB, p_CV, p_CI, p_IT, p_IB, p_IV, p_IC, p_TT, p_BB, p_CC, p_II]; done)
        · skip
          refine lv_tableOut (pc := 2) (tgt := 82) hx hb dX3_isCutUpward_2 (by have z0 := ne_ti (0) (0) (by decide) c_1_0; have z1 := ne_ti (1) (1) (by decide) c_1_1; have z2 := ne_ti (2) (2) (by decide) c_1_2; have z3 := ne_ti (3) (3) (by decide) c_1_3; omega) (by decide) ?_
          refine lv_ldc2 (pc := 82) (v := 2) hx hb E.2.2.2.1 (E.2.2.2.2 _ (List.mem_cons_of_mem _ kw_541)) dX3_isCutUpward_82 ?_
          refine lv_lload_n (pc := 85) hx hb dX3_isCutUpward_85 rfl (lv_at hl 1 rfl) ?_
          refine lv_lmul (pc := 86) hx hb dX3_isCutUpward_86 ?_
          refine lv_lload (pc := 87) hx hb dX3_isCutUpward_87 (lv_at hl 2 rfl) ?_
          refine r_lcgt (pc := 89) (tgt := 112) E dX3_isCutUpward_89 dX3_isCutUpward_90 (by decide) (fun c_6 => ?_) (fun c_6 => ?_)
          · refine lv_iconst (pc := 112) (v := 1) hx hb dX3_isCutUpward_112 (by decide) ?_
            refine lv_goto (pc := 113) (tgt := 117) hx hb dX3_isCutUpward_113 (by decide) ?_
            refine r_zret (pc := 117) E hr hlk hS (by decide) (by decide) rfl ?_ dX3_isCutUpward_117
            first | with_reducible rfl | (simp [f_cutUp, c_1_0, c_1_1, c_1_2, c_1_3, c_6, Int64.not_le.mpr c_6, p_TB, p_TV, p_TC, p_TI, p_BT, p_BV, p_BC, p_BI, p_VT, p_VB, p_VC, p_VI, p_CT, p_CB, p_CV, p_CI, p_IT, p_IB, p_IV, p_IC, p_TT, p_BB, p_CC, p_II]; done)
          · refine lv_ldc2 (pc := 93) (v := 2) hx hb E.2.2.2.1 (E.2.2.2.2 _ (List.mem_cons_of_mem _ kw_541)) dX3_isCutUpward_93 ?_
            refine lv_lload_n (pc := 96) hx hb dX3_isCutUpward_96 rfl (lv_at hl 1 rfl) ?_
            refine lv_lmul (pc := 97) hx hb dX3_isCutUpward_97 ?_
            refine lv_lload (pc := 98) hx hb dX3_isCutUpward_98 (lv_at hl 2 rfl) ?_
            refine r_lcne (pc := 100) (tgt := 116) E dX3_isCutUpward_100 dX3_isCutUpward_101 (by decide) (fun c_7 => ?_) (fun c_7 => ?_)
            · refine lv_iconst (pc := 116) (v := 0) hx hb dX3_isCutUpward_116 (by decide) ?_
              refine r_zret (pc := 117) E hr hlk hS (by decide) (by decide) rfl ?_ dX3_isCutUpward_117
              first | with_reducible rfl | (simp [f_cutUp, c_1_0, c_1_1, c_1_2, c_1_3, c_6, Int64.not_lt.mp c_6, c_7, p_TB, p_TV, p_TC, p_TI, p_BT, p_BV, p_BC, p_BI, p_VT, p_VB, p_VC, p_VI, p_CT, p_CB, p_CV, p_CI, p_IT, p_IB, p_IV, p_IC, p_TT, p_BB, p_CC, p_II]; done)
            · refine lv_lload_n (pc := 104) hx hb dX3_isCutUpward_104 rfl (lv_at hl 0 rfl) ?_
              refine lv_lconst (pc := 105) (v := 1) hx hb dX3_isCutUpward_105 (by decide) ?_
              refine lv_land (pc := 106) hx hb dX3_isCutUpward_106 ?_
              refine lv_lconst (pc := 107) (v := 1) hx hb dX3_isCutUpward_107 (by decide) ?_
              refine r_lcne (pc := 108) (tgt := 116) E dX3_isCutUpward_108 dX3_isCutUpward_109 (by decide) (fun c_8 => ?_) (fun c_8 => ?_)
              · refine lv_iconst (pc := 116) (v := 0) hx hb dX3_isCutUpward_116 (by decide) ?_
                refine r_zret (pc := 117) E hr hlk hS (by decide) (by decide) rfl ?_ dX3_isCutUpward_117
                first | with_reducible rfl | (simp [f_cutUp, c_1_0, c_1_1, c_1_2, c_1_3, c_6, Int64.not_lt.mp c_6, c_7, c_8, p_TB, p_TV, p_TC, p_TI, p_BT, p_BV, p_BC, p_BI, p_VT, p_VB, p_VC, p_VI, p_CT, p_CB, p_CV, p_CI, p_IT, p_IB, p_IV, p_IC, p_TT, p_BB, p_CC, p_II]; done)
              · refine lv_iconst (pc := 112) (v := 1) hx hb dX3_isCutUpward_112 (by decide) ?_
                refine lv_goto (pc := 113) (tgt := 117) hx hb dX3_isCutUpward_113 (by decide) ?_
                refine r_zret (pc := 117) E hr hlk hS (by decide) (by decide) rfl ?_ dX3_isCutUpward_117
                first | with_reducible rfl | (simp [f_cutUp, c_1_0, c_1_1, c_1_2, c_1_3, c_6, Int64.not_lt.mp c_6, c_7, c_8, p_TB, p_TV, p_TC, p_TI, p_BT, p_BV, p_BC, p_BI, p_VT, p_VB, p_VC, p_VI, p_CT, p_CB, p_CV, p_CI, p_IT, p_IB, p_IV, p_IC, p_TT, p_BB, p_CC, p_II]; done)

set_option maxHeartbeats 4000000 in
set_option maxRecDepth 100000 in
/-- Bestratios.cutNumber(JJII)J -/
theorem c_X3_cutNumber (l : Launch) (D : va_G) (tk : Nat → ClassId) (N0 : Nat) (sa : Nat → Nat)  (sz : Nat) (t : Int64) (b : Int64) (pl : Int32) (md : Int32) : Met l yX3_cutNumber (wsy yX3_cutNumber cX3_cutNumber 12 (some .long)) ({ frames := 2, cells := 0, slots := 0, locals := 48 } : Room) (cP D tk N0 sa [.long t, .long b, .int pl, .int md] sz (fun H => True)) (kQl (fun r H => r = f_cutNum t b pl md) (nwA sz)) (0) (0) (nwA sz) := by
  refine mStart RX3 rfl (by decide +kernel) (Nat.le_of_ble_eq_true rfl) ?_
  intro p e s m args below meth c E hr hlk hnm hsz hC hF ls hl
  subst hsz
  obtain ⟨hx, hb, -⟩ := id E
  have hA : ∀ q, (nwA s.heap.size) q → N0 ≤ q := fun q h => Nat.le_trans hC.2.1 h
  have hn : ∀ q, s.heap.size ≤ q → (nwA s.heap.size) q := fun q h => h
  have hS : va_S (nwA s.heap.size) s.heap s.heap [] := va_S.rf
  have hl : lv_has ls 12 [(0, .long t), (2, .long b), (4, .int pl), (5, .int md)] := hl
  refine lv_lload_n (pc := 0) hx hb dX3_cutNumber_0 rfl (lv_at hl 0 rfl) ?_
  refine lv_iload (pc := 1) hx hb dX3_cutNumber_1 (lv_at hl 2 rfl) ?_
  refine k_l (pc := 3) (k_S E hC hS hA hl.1 (c_X3_powerOfTen l D tk N0 sa s.heap.size pl ) kw_532 kw_533 kw_1 kw_534 (n := 1) (by decide +kernel) rfl ⟨⟨rfl, rfl⟩, ⟨by decide, by decide⟩, by decide, by decide⟩ rfl (Nat.le_of_ble_eq_true rfl) trivial dX3_cutNumber_3) hS (fun q z w => absurd w (Nat.not_le.mpr z)) hn (fun r_1 H locs hR hz hk hS => ?_)
  have er_1 := hR
  refine lv_lmul (pc := 6) hx hb dX3_cutNumber_6 ?_
  obtain ⟨x_3, ex_3⟩ : ∃ z9 : Int64, z9 = t * r_1 := ⟨_, rfl⟩
  rw [← ex_3]
  refine lv_lstore (pc := 7) (lv' := [(6, .long x_3), (0, .long t), (2, .long b), (4, .int pl), (5, .int md)]) hx hb dX3_cutNumber_7 hl (by decide) rfl (fun ls hl => ?_)
  refine lv_lload (pc := 9) hx hb dX3_cutNumber_9 (lv_at hl 0 rfl) ?_
  refine lv_lload_n (pc := 11) hx hb dX3_cutNumber_11 rfl (lv_at hl 2 rfl) ?_
  refine k_l (pc := 12) (k_S E hC hS hA hl.1 (c_X3_floorOf l D tk N0 sa H.size x_3 b ) kw_537 kw_502 kw_1 kw_503 (n := 2) (by decide +kernel) rfl ⟨⟨rfl, rfl⟩, ⟨by decide, by decide⟩, by decide, by decide⟩ rfl (Nat.le_of_ble_eq_true rfl) trivial dX3_cutNumber_12) hS (fun q z w => absurd w (Nat.not_le.mpr z)) hn (fun r_4 H locs hR hz hk hS => ?_)
  have er_4 := hR
  refine lv_lstore (pc := 15) (lv' := [(8, .long r_4), (6, .long x_3), (0, .long t), (2, .long b), (4, .int pl), (5, .int md)]) hx hb dX3_cutNumber_15 hl (by decide) rfl (fun ls hl => ?_)
  refine lv_lload (pc := 17) hx hb dX3_cutNumber_17 (lv_at hl 1 rfl) ?_
  refine lv_lload (pc := 19) hx hb dX3_cutNumber_19 (lv_at hl 0 rfl) ?_
  refine lv_lload_n (pc := 21) hx hb dX3_cutNumber_21 rfl (lv_at hl 3 rfl) ?_
  refine lv_lmul (pc := 22) hx hb dX3_cutNumber_22 ?_
  refine lv_lsub (pc := 23) hx hb dX3_cutNumber_23 ?_
  obtain ⟨x_6, ex_6⟩ : ∃ z9 : Int64, z9 = x_3 - (r_4 * b) := ⟨_, rfl⟩
  rw [← ex_6]
  refine lv_lstore (pc := 24) (lv' := [(10, .long x_6), (8, .long r_4), (6, .long x_3), (0, .long t), (2, .long b), (4, .int pl), (5, .int md)]) hx hb dX3_cutNumber_24 hl (by decide) rfl (fun ls hl => ?_)
  refine lv_lload (pc := 26) hx hb dX3_cutNumber_26 (lv_at hl 0 rfl) ?_
  refine lv_lconst (pc := 28) (v := 0) hx hb dX3_cutNumber_28 (by decide) ?_
  refine r_lcle (pc := 29) (tgt := 53) E dX3_cutNumber_29 dX3_cutNumber_30 (by decide) (fun c_7 => ?_) (fun c_7 => ?_)
  · refine lv_lload (pc := 53) hx hb dX3_cutNumber_53 (lv_at hl 1 rfl) ?_
    refine r_lret (pc := 55) E hr hlk hS (by decide) (by decide) ?_ dX3_cutNumber_55
    subst er_1 ex_3 er_4 ex_6; first | with_reducible rfl | (simp [f_cutNum, f_cut2, c_7, Int64.not_lt.mpr c_7, p_TB, p_TV, p_TC, p_TI, p_BT, p_BV, p_BC, p_BI, p_VT, p_VB, p_VC, p_VI, p_CT, p_CB, p_CV, p_CI, p_IT, p_IB, p_IV, p_IC, p_TT, p_BB, p_CC, p_II]; done)
  · refine lv_lload (pc := 33) hx hb dX3_cutNumber_33 (lv_at hl 1 rfl) ?_
    refine lv_lload (pc := 35) hx hb dX3_cutNumber_35 (lv_at hl 0 rfl) ?_
    refine lv_lload_n (pc := 37) hx hb dX3_cutNumber_37 rfl (lv_at hl 4 rfl) ?_
    refine lv_iload (pc := 38) hx hb dX3_cutNumber_38 (lv_at hl 6 rfl) ?_
    refine k_i (pc := 40) (k_S E hC hS hA hl.1 (c_X3_isCutUpward l D tk N0 sa H.size r_4 x_6 b md ) kw_538 kw_539 kw_1 kw_540 (n := 4) (by decide +kernel) rfl ⟨⟨rfl, rfl⟩, ⟨by decide, by decide⟩, by decide, by decide⟩ rfl (Nat.le_of_ble_eq_true rfl) trivial dX3_cutNumber_40) hS (fun q z w => absurd w (Nat.not_le.mpr z)) hn (fun r_8 H locs hR hz hk hS => ?_)
    have er_8 := hR
    refine lv_if_eq (pc := 43) (tgt := 53) hx hb dX3_cutNumber_43 (by decide) (fun c_10 => ?_) (fun c_10 => ?_)
    · refine lv_lload (pc := 53) hx hb dX3_cutNumber_53 (lv_at hl 1 rfl) ?_
      refine r_lret (pc := 55) E hr hlk hS (by decide) (by decide) ?_ dX3_cutNumber_55
      subst er_1 ex_3 er_4 ex_6 er_8; first | with_reducible rfl | (simp [f_cutNum, f_cut2, c_7, Int64.not_le.mp c_7, c_10, p_TB, p_TV, p_TC, p_TI, p_BT, p_BV, p_BC, p_BI, p_VT, p_VB, p_VC, p_VI, p_CT, p_CB, p_CV, p_CI, p_IT, p_IB, p_IV, p_IC, p_TT, p_BB, p_CC, p_II]; done)
    · refine lv_lload (pc := 46) hx hb dX3_cutNumber_46 (lv_at hl 1 rfl) ?_
      refine lv_lconst (pc := 48) (v := 1) hx hb dX3_cutNumber_48 (by decide) ?_
      refine lv_ladd (pc := 49) hx hb dX3_cutNumber_49 ?_
      refine lv_goto (pc := 50) (tgt := 55) hx hb dX3_cutNumber_50 (by decide) ?_
      refine r_lret (pc := 55) E hr hlk hS (by decide) (by decide) ?_ dX3_cutNumber_55
      subst er_1 ex_3 er_4 ex_6 er_8; first | with_reducible rfl | (simp [f_cutNum, f_cut2, c_7, Int64.not_le.mp c_7, c_10, p_TB, p_TV, p_TC, p_TI, p_BT, p_BV, p_BC, p_BI, p_VT, p_VB, p_VC, p_VI, p_CT, p_CB, p_CV, p_CI, p_IT, p_IB, p_IV, p_IC, p_TT, p_BB, p_CC, p_II]; done)
