set_option maxHeartbeats 4000000 in
set_option maxRecDepth 100000 in
/-- java/lang/Long.stringSize(J)I -/
theorem c_J13_stringSize_95d88 (l : Launch) (D : va_G) (tk : Nat → ClassId) (N0 : Nat) (sa : Nat → Nat)  (sz : Nat) (x : Int64) : Met l yJ13_stringSize_95d88 (wsy yJ13_stringSize_95d88 cJ13_stringSize_95d88 6 (some .int)) ({ frames := 0, cells := 0, slots := 0, locals := 0 } : Room) (cP D tk N0 sa [.long x] sz (fun H => True)) (kQi (fun r H => SSJ x r) (nwA sz)) (0) (0) (nwA sz) := by
  refine mStart RJ13 rfl (by decide +kernel) (Nat.le_of_ble_eq_true rfl) ?_
  intro p e s m args below meth c E hr hlk hnm hsz hC hF ls hl
  subst hsz
  obtain ⟨hx, hb, -⟩ := id E
  have hA : ∀ q, (nwA s.heap.size) q → N0 ≤ q := fun q h => Nat.le_trans hC.2.1 h
  have hn : ∀ q, s.heap.size ≤ q → (nwA s.heap.size) q := fun q h => h
  have hS : va_S (nwA s.heap.size) s.heap s.heap [] := va_S.rf
  have hl : lv_has ls 6 [(0, .long x)] := hl
  obtain ⟨Q, hQ⟩ : ∃ Q, Q = MQ below (kQi (fun r H => SSJ x r) (nwA s.heap.size)) args s (0) (0) (nwA s.heap.size) := ⟨_, rfl⟩
  rw [← hQ]
  refine lv_iconst (pc := 0) (v := 1) hx hb dJ13_stringSize_95d88_0 (by decide) ?_
  refine lv_istore_n (pc := 1) (lv' := [(2, .int 1), (0, .long x)]) hx hb dJ13_stringSize_95d88_1 rfl hl (by decide) rfl (fun ls hl => ?_)
  refine lv_lload_n (pc := 2) hx hb dJ13_stringSize_95d88_2 rfl (lv_at hl 1 rfl) ?_
  refine lv_lconst (pc := 3) (v := 0) hx hb dJ13_stringSize_95d88_3 (by decide) ?_
  refine r_lclt (pc := 4) (tgt := 13) E dJ13_stringSize_95d88_4 dJ13_stringSize_95d88_5 (by decide) (fun c_1 => ?_) (fun c_1 => ?_)
  · refine lv_ldc2 (pc := 13) (v := (-10)) hx hb E.2.2.2.1 (E.2.2.2.2 _ (List.mem_cons_of_mem _ kw_1364)) dJ13_stringSize_95d88_13 ?_
    refine lv_lstore_n (pc := 16) (lv' := [(3, .long ((-10))), (2, .int 1), (0, .long x)]) hx hb dJ13_stringSize_95d88_16 rfl hl (by decide) rfl (fun ls hl => ?_)
    refine lv_iconst (pc := 17) (v := 1) hx hb dJ13_stringSize_95d88_17 (by decide) ?_
    refine lv_istore (pc := 18) (lv' := [(5, .int 1), (3, .long ((-10))), (2, .int 1), (0, .long x)]) hx hb dJ13_stringSize_95d88_18 hl (by decide) rfl (fun ls hl => ?_)
    have loop_20 : ∀ (n : Nat) (k : Nat)(p9 : Int64) (y9 : Int32), 20 - k < n → 1 ≤ k ∧ k ≤ 19 → p9 = pQ k → y9 = nI k → k = 1 ∨ 10 ^ (k - 1) ≤ x.toInt.natAbs → ∀ (H : Heap) (locs : List Loc) (ls : Array Slot), va_S (nwA s.heap.size) s.heap H locs → lv_has ls 6 [(0, .long x), (2, .int 1), (3, .long p9), (5, .int y9)] → W p l e ({ frames := 0, cells := 0, slots := 0, locals := 0 } : Room) s m args below meth c H locs (0) (0) Q (F0 m 20 ls []) := by
      intro n
      induction n with
      | zero =>
        intro k p9 y9 hf9 hk9 hp9 hx9 hlo9 H locs ls hS hl
        omega
      | succ n ih_20 =>
        intro k p9 y9 hf9 hk9 hp9 hx9 hlo9 H locs ls hS hl
        refine lv_iload (pc := 20) hx hb dJ13_stringSize_95d88_20 (lv_at hl 3 rfl) ?_
        refine lv_bipush (pc := 22) (v := 19) hx hb dJ13_stringSize_95d88_22 (by decide) ?_
        refine lv_icmp_ge (pc := 24) (tgt := 50) hx hb dJ13_stringSize_95d88_24 (by decide) (fun c_2 => ?_) (fun c_2 => ?_)
        · refine lv_bipush (pc := 50) (v := 19) hx hb dJ13_stringSize_95d88_50 (by decide) ?_
          refine lv_iload_n (pc := 52) hx hb dJ13_stringSize_95d88_52 rfl (lv_at hl 1 rfl) ?_
          refine lv_iadd (pc := 53) hx hb dJ13_stringSize_95d88_53 ?_
          try rw [hQ]
          refine r_iret (pc := 54) E hr hlk hS (by decide) (by decide) ?_ dJ13_stringSize_95d88_54
          exact ssJC hk9 hx9 c_2 c_1 hlo9
        · refine lv_lload_n (pc := 27) hx hb dJ13_stringSize_95d88_27 rfl (lv_at hl 0 rfl) ?_
          refine lv_lload_n (pc := 28) hx hb dJ13_stringSize_95d88_28 rfl (lv_at hl 2 rfl) ?_
          refine r_lcle (pc := 29) (tgt := 38) E dJ13_stringSize_95d88_29 dJ13_stringSize_95d88_30 (by decide) (fun c_3 => ?_) (fun c_3 => ?_)
          · refine lv_ldc2 (pc := 38) (v := 10) hx hb E.2.2.2.1 (E.2.2.2.2 _ (List.mem_cons_of_mem _ kw_1365)) dJ13_stringSize_95d88_38 ?_
            refine lv_lload_n (pc := 41) hx hb dJ13_stringSize_95d88_41 rfl (lv_at hl 2 rfl) ?_
            refine lv_lmul (pc := 42) hx hb dJ13_stringSize_95d88_42 ?_
            obtain ⟨x_4, ex_4⟩ : ∃ z9 : Int64, z9 = 10 * p9 := ⟨_, rfl⟩
            rw [← ex_4]
            refine lv_lstore_n (pc := 43) (lv' := [(3, .long x_4), (0, .long x), (2, .int 1), (5, .int y9)]) hx hb dJ13_stringSize_95d88_43 rfl hl (by decide) rfl (fun ls hl => ?_)
            obtain ⟨x_5, ex_5⟩ : ∃ z9 : Int32, z9 = y9 + 1 := ⟨_, rfl⟩
            refine lv_iinc (pc := 44) (v := x_5) (lv' := [(5, .int x_5), (3, .long x_4), (0, .long x), (2, .int 1)]) hx hb dJ13_stringSize_95d88_44 hl (k := 3) rfl (by rw [ex_5]; rfl) (by decide) rfl (fun ls hl => ?_)
            refine lv_goto (pc := 47) (tgt := 20) hx hb dJ13_stringSize_95d88_47 (by decide) ?_
            have hlt : k < 19 := Nat.not_le.mp (fun z => c_2 ((i_le (n := 19) hx9 (by decide) (by omega) (by decide)).mpr z))
            exact ih_20  (k + 1)  x_4 x_5 (by omega) (by omega) (by rw [ex_4, hp9]; rfl) (i_up hx9 ex_5) (Or.inr (ss_lowJ hp9 hlt c_3)) _ _ _ hS (lv_sub hl [2, 3, 1, 0] rfl)
          · refine lv_iload (pc := 33) hx hb dJ13_stringSize_95d88_33 (lv_at hl 3 rfl) ?_
            refine lv_iload_n (pc := 35) hx hb dJ13_stringSize_95d88_35 rfl (lv_at hl 1 rfl) ?_
            refine lv_iadd (pc := 36) hx hb dJ13_stringSize_95d88_36 ?_
            try rw [hQ]
            refine r_iret (pc := 37) E hr hlk hS (by decide) (by decide) ?_ dJ13_stringSize_95d88_37
            exact ssJA hk9 hp9 hx9 c_1 c_2 c_3 hlo9
    exact loop_20 20 1  ((-10)) 1 (by decide) (by decide) (by decide) (by decide) (Or.inl rfl) _ _ _ hS (lv_sub hl [3, 2, 1, 0] rfl)
  · refine lv_iconst (pc := 8) (v := 0) hx hb dJ13_stringSize_95d88_8 (by decide) ?_
    refine lv_istore_n (pc := 9) (lv' := [(2, .int 0), (0, .long x)]) hx hb dJ13_stringSize_95d88_9 rfl hl (by decide) rfl (fun ls hl => ?_)
    refine lv_lload_n (pc := 10) hx hb dJ13_stringSize_95d88_10 rfl (lv_at hl 1 rfl) ?_
    refine lv_lneg (pc := 11) hx hb dJ13_stringSize_95d88_11 ?_
    obtain ⟨x_6, ex_6⟩ : ∃ z9 : Int64, z9 = -x := ⟨_, rfl⟩
    rw [← ex_6]
    refine lv_lstore_n (pc := 12) (lv' := [(0, .long x_6), (2, .int 0)]) hx hb dJ13_stringSize_95d88_12 rfl hl (by decide) rfl (fun ls hl => ?_)
    refine lv_ldc2 (pc := 13) (v := (-10)) hx hb E.2.2.2.1 (E.2.2.2.2 _ (List.mem_cons_of_mem _ kw_1364)) dJ13_stringSize_95d88_13 ?_
    refine lv_lstore_n (pc := 16) (lv' := [(3, .long ((-10))), (0, .long x_6), (2, .int 0)]) hx hb dJ13_stringSize_95d88_16 rfl hl (by decide) rfl (fun ls hl => ?_)
    refine lv_iconst (pc := 17) (v := 1) hx hb dJ13_stringSize_95d88_17 (by decide) ?_
    refine lv_istore (pc := 18) (lv' := [(5, .int 1), (3, .long ((-10))), (0, .long x_6), (2, .int 0)]) hx hb dJ13_stringSize_95d88_18 hl (by decide) rfl (fun ls hl => ?_)
    have loop_20 : ∀ (n : Nat) (k : Nat)(p9 : Int64) (y9 : Int32), 20 - k < n → 1 ≤ k ∧ k ≤ 19 → p9 = pQ k → y9 = nI k → k = 1 ∨ 10 ^ (k - 1) ≤ x_6.toInt.natAbs → ∀ (H : Heap) (locs : List Loc) (ls : Array Slot), va_S (nwA s.heap.size) s.heap H locs → lv_has ls 6 [(0, .long x_6), (2, .int 0), (3, .long p9), (5, .int y9)] → W p l e ({ frames := 0, cells := 0, slots := 0, locals := 0 } : Room) s m args below meth c H locs (0) (0) Q (F0 m 20 ls []) := by
      intro n
      induction n with
      | zero =>
        intro k p9 y9 hf9 hk9 hp9 hx9 hlo9 H locs ls hS hl
        omega
      | succ n ih_20 =>
        intro k p9 y9 hf9 hk9 hp9 hx9 hlo9 H locs ls hS hl
        refine lv_iload (pc := 20) hx hb dJ13_stringSize_95d88_20 (lv_at hl 3 rfl) ?_
        refine lv_bipush (pc := 22) (v := 19) hx hb dJ13_stringSize_95d88_22 (by decide) ?_
        refine lv_icmp_ge (pc := 24) (tgt := 50) hx hb dJ13_stringSize_95d88_24 (by decide) (fun c_7 => ?_) (fun c_7 => ?_)
        · refine lv_bipush (pc := 50) (v := 19) hx hb dJ13_stringSize_95d88_50 (by decide) ?_
          refine lv_iload_n (pc := 52) hx hb dJ13_stringSize_95d88_52 rfl (lv_at hl 1 rfl) ?_
          refine lv_iadd (pc := 53) hx hb dJ13_stringSize_95d88_53 ?_
          try rw [hQ]
          refine r_iret (pc := 54) E hr hlk hS (by decide) (by decide) ?_ dJ13_stringSize_95d88_54
          exact ssJD hk9 hx9 c_7 c_1 ex_6 hlo9
        · refine lv_lload_n (pc := 27) hx hb dJ13_stringSize_95d88_27 rfl (lv_at hl 0 rfl) ?_
          refine lv_lload_n (pc := 28) hx hb dJ13_stringSize_95d88_28 rfl (lv_at hl 2 rfl) ?_
          refine r_lcle (pc := 29) (tgt := 38) E dJ13_stringSize_95d88_29 dJ13_stringSize_95d88_30 (by decide) (fun c_8 => ?_) (fun c_8 => ?_)
          · refine lv_ldc2 (pc := 38) (v := 10) hx hb E.2.2.2.1 (E.2.2.2.2 _ (List.mem_cons_of_mem _ kw_1365)) dJ13_stringSize_95d88_38 ?_
            refine lv_lload_n (pc := 41) hx hb dJ13_stringSize_95d88_41 rfl (lv_at hl 2 rfl) ?_
            refine lv_lmul (pc := 42) hx hb dJ13_stringSize_95d88_42 ?_
            obtain ⟨x_9, ex_9⟩ : ∃ z9 : Int64, z9 = 10 * p9 := ⟨_, rfl⟩
            rw [← ex_9]
            refine lv_lstore_n (pc := 43) (lv' := [(3, .long x_9), (0, .long x_6), (2, .int 0), (5, .int y9)]) hx hb dJ13_stringSize_95d88_43 rfl hl (by decide) rfl (fun ls hl => ?_)
            obtain ⟨x_10, ex_10⟩ : ∃ z9 : Int32, z9 = y9 + 1 := ⟨_, rfl⟩
            refine lv_iinc (pc := 44) (v := x_10) (lv' := [(5, .int x_10), (3, .long x_9), (0, .long x_6), (2, .int 0)]) hx hb dJ13_stringSize_95d88_44 hl (k := 3) rfl (by rw [ex_10]; rfl) (by decide) rfl (fun ls hl => ?_)
            refine lv_goto (pc := 47) (tgt := 20) hx hb dJ13_stringSize_95d88_47 (by decide) ?_
            have hlt : k < 19 := Nat.not_le.mp (fun z => c_7 ((i_le (n := 19) hx9 (by decide) (by omega) (by decide)).mpr z))
            exact ih_20  (k + 1)  x_9 x_10 (by omega) (by omega) (by rw [ex_9, hp9]; rfl) (i_up hx9 ex_10) (Or.inr (ss_lowJ hp9 hlt c_8)) _ _ _ hS (lv_sub hl [2, 3, 1, 0] rfl)
          · refine lv_iload (pc := 33) hx hb dJ13_stringSize_95d88_33 (lv_at hl 3 rfl) ?_
            refine lv_iload_n (pc := 35) hx hb dJ13_stringSize_95d88_35 rfl (lv_at hl 1 rfl) ?_
            refine lv_iadd (pc := 36) hx hb dJ13_stringSize_95d88_36 ?_
            try rw [hQ]
            refine r_iret (pc := 37) E hr hlk hS (by decide) (by decide) ?_ dJ13_stringSize_95d88_37
            exact ssJB hk9 hp9 hx9 c_1 ex_6 c_7 c_8 hlo9
    exact loop_20 20 1  ((-10)) 1 (by decide) (by decide) (by decide) (by decide) (Or.inl rfl) _ _ _ hS (lv_sub hl [2, 3, 1, 0] rfl)
