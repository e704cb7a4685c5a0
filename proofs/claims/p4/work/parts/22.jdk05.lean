set_option maxHeartbeats 4000000 in
set_option maxRecDepth 100000 in
/-- java/lang/Integer.stringSize(I)I -/
theorem c_J6_stringSize_0f7a4 (l : Launch) (D : va_G) (tk : Nat → ClassId) (N0 : Nat) (sa : Nat → Nat)  (sz : Nat) (x : Int32) : Met l yJ6_stringSize_0f7a4 (wsy yJ6_stringSize_0f7a4 cJ6_stringSize_0f7a4 4 (some .int)) ({ frames := 0, cells := 0, slots := 0, locals := 0 } : Room) (cP D tk N0 sa [.int x] sz (fun H => True)) (kQi (fun r H => SSI x r) (nwA sz)) (0) (0) (nwA sz) := by
  refine mStart RJ6 rfl (by decide +kernel) (Nat.le_of_ble_eq_true rfl) ?_
  intro p e s m args below meth c E hr hlk hnm hsz hC hF ls hl
  subst hsz
  obtain ⟨hx, hb, -⟩ := id E
  have hA : ∀ q, (nwA s.heap.size) q → N0 ≤ q := fun q h => Nat.le_trans hC.2.1 h
  have hn : ∀ q, s.heap.size ≤ q → (nwA s.heap.size) q := fun q h => h
  have hS : va_S (nwA s.heap.size) s.heap s.heap [] := va_S.rf
  have hl : lv_has ls 4 [(0, .int x)] := hl
  obtain ⟨Q, hQ⟩ : ∃ Q, Q = MQ below (kQi (fun r H => SSI x r) (nwA s.heap.size)) args s (0) (0) (nwA s.heap.size) := ⟨_, rfl⟩
  rw [← hQ]
  refine lv_iconst (pc := 0) (v := 1) hx hb dJ6_stringSize_0f7a4_0 (by decide) ?_
  refine lv_istore_n (pc := 1) (lv' := [(1, .int 1), (0, .int x)]) hx hb dJ6_stringSize_0f7a4_1 rfl hl (by decide) rfl (fun ls hl => ?_)
  refine lv_iload_n (pc := 2) hx hb dJ6_stringSize_0f7a4_2 rfl (lv_at hl 1 rfl) ?_
  refine lv_if_lt (pc := 3) (tgt := 11) hx hb dJ6_stringSize_0f7a4_3 (by decide) (fun c_1 => ?_) (fun c_1 => ?_)
  · refine lv_bipush (pc := 11) (v := (-10)) hx hb dJ6_stringSize_0f7a4_11 (by decide) ?_
    refine lv_istore_n (pc := 13) (lv' := [(2, .int ((-10))), (1, .int 1), (0, .int x)]) hx hb dJ6_stringSize_0f7a4_13 rfl hl (by decide) rfl (fun ls hl => ?_)
    refine lv_iconst (pc := 14) (v := 1) hx hb dJ6_stringSize_0f7a4_14 (by decide) ?_
    refine lv_istore_n (pc := 15) (lv' := [(3, .int 1), (2, .int ((-10))), (1, .int 1), (0, .int x)]) hx hb dJ6_stringSize_0f7a4_15 rfl hl (by decide) rfl (fun ls hl => ?_)
    have loop_16 : ∀ (n : Nat) (k : Nat)(p9 : Int32) (y9 : Int32), 11 - k < n → 1 ≤ k ∧ k ≤ 10 → p9 = pP k → y9 = nI k → k = 1 ∨ 10 ^ (k - 1) ≤ x.toInt.natAbs → ∀ (H : Heap) (locs : List Loc) (ls : Array Slot), va_S (nwA s.heap.size) s.heap H locs → lv_has ls 4 [(0, .int x), (1, .int 1), (2, .int p9), (3, .int y9)] → W p l e ({ frames := 0, cells := 0, slots := 0, locals := 0 } : Room) s m args below meth c H locs (0) (0) Q (F0 m 16 ls []) := by
      intro n
      induction n with
      | zero =>
        intro k p9 y9 hf9 hk9 hp9 hx9 hlo9 H locs ls hS hl
        omega
      | succ n ih_16 =>
        intro k p9 y9 hf9 hk9 hp9 hx9 hlo9 H locs ls hS hl
        refine lv_iload_n (pc := 16) hx hb dJ6_stringSize_0f7a4_16 rfl (lv_at hl 3 rfl) ?_
        refine lv_bipush (pc := 17) (v := 10) hx hb dJ6_stringSize_0f7a4_17 (by decide) ?_
        refine lv_icmp_ge (pc := 19) (tgt := 42) hx hb dJ6_stringSize_0f7a4_19 (by decide) (fun c_2 => ?_) (fun c_2 => ?_)
        · refine lv_bipush (pc := 42) (v := 10) hx hb dJ6_stringSize_0f7a4_42 (by decide) ?_
          refine lv_iload_n (pc := 44) hx hb dJ6_stringSize_0f7a4_44 rfl (lv_at hl 1 rfl) ?_
          refine lv_iadd (pc := 45) hx hb dJ6_stringSize_0f7a4_45 ?_
          try rw [hQ]
          refine r_iret (pc := 46) E hr hlk hS (by decide) (by decide) ?_ dJ6_stringSize_0f7a4_46
          exact ssC hk9 hx9 c_2 c_1 hlo9
        · refine lv_iload_n (pc := 22) hx hb dJ6_stringSize_0f7a4_22 rfl (lv_at hl 0 rfl) ?_
          refine lv_iload_n (pc := 23) hx hb dJ6_stringSize_0f7a4_23 rfl (lv_at hl 2 rfl) ?_
          refine lv_icmp_le (pc := 24) (tgt := 31) hx hb dJ6_stringSize_0f7a4_24 (by decide) (fun c_3 => ?_) (fun c_3 => ?_)
          · refine lv_bipush (pc := 31) (v := 10) hx hb dJ6_stringSize_0f7a4_31 (by decide) ?_
            refine lv_iload_n (pc := 33) hx hb dJ6_stringSize_0f7a4_33 rfl (lv_at hl 2 rfl) ?_
            refine lv_imul (pc := 34) hx hb dJ6_stringSize_0f7a4_34 ?_
            obtain ⟨x_4, ex_4⟩ : ∃ z9 : Int32, z9 = 10 * p9 := ⟨_, rfl⟩
            rw [← ex_4]
            refine lv_istore_n (pc := 35) (lv' := [(2, .int x_4), (0, .int x), (1, .int 1), (3, .int y9)]) hx hb dJ6_stringSize_0f7a4_35 rfl hl (by decide) rfl (fun ls hl => ?_)
            obtain ⟨x_5, ex_5⟩ : ∃ z9 : Int32, z9 = y9 + 1 := ⟨_, rfl⟩
            refine lv_iinc (pc := 36) (v := x_5) (lv' := [(3, .int x_5), (2, .int x_4), (0, .int x), (1, .int 1)]) hx hb dJ6_stringSize_0f7a4_36 hl (k := 3) rfl (by rw [ex_5]; rfl) (by decide) rfl (fun ls hl => ?_)
            refine lv_goto (pc := 39) (tgt := 16) hx hb dJ6_stringSize_0f7a4_39 (by decide) ?_
            have hlt : k < 10 := Nat.not_le.mp (fun z => c_2 ((i_le (n := 10) hx9 (by decide) (by omega) (by decide)).mpr z))
            exact ih_16  (k + 1)  x_4 x_5 (by omega) (by omega) (by rw [ex_4, hp9]; rfl) (i_up hx9 ex_5) (Or.inr (ss_low hp9 hlt c_3)) _ _ _ hS (lv_sub hl [2, 3, 1, 0] rfl)
          · refine lv_iload_n (pc := 27) hx hb dJ6_stringSize_0f7a4_27 rfl (lv_at hl 3 rfl) ?_
            refine lv_iload_n (pc := 28) hx hb dJ6_stringSize_0f7a4_28 rfl (lv_at hl 1 rfl) ?_
            refine lv_iadd (pc := 29) hx hb dJ6_stringSize_0f7a4_29 ?_
            try rw [hQ]
            refine r_iret (pc := 30) E hr hlk hS (by decide) (by decide) ?_ dJ6_stringSize_0f7a4_30
            exact ssA hk9 hp9 hx9 c_1 c_2 c_3 hlo9
    exact loop_16 11 1  ((-10)) 1 (by decide) (by decide) (by decide) (by decide) (Or.inl rfl) _ _ _ hS (lv_sub hl [3, 2, 1, 0] rfl)
  · refine lv_iconst (pc := 6) (v := 0) hx hb dJ6_stringSize_0f7a4_6 (by decide) ?_
    refine lv_istore_n (pc := 7) (lv' := [(1, .int 0), (0, .int x)]) hx hb dJ6_stringSize_0f7a4_7 rfl hl (by decide) rfl (fun ls hl => ?_)
    refine lv_iload_n (pc := 8) hx hb dJ6_stringSize_0f7a4_8 rfl (lv_at hl 1 rfl) ?_
    refine lv_ineg (pc := 9) hx hb dJ6_stringSize_0f7a4_9 ?_
    obtain ⟨x_6, ex_6⟩ : ∃ z9 : Int32, z9 = -x := ⟨_, rfl⟩
    rw [← ex_6]
    refine lv_istore_n (pc := 10) (lv' := [(0, .int x_6), (1, .int 0)]) hx hb dJ6_stringSize_0f7a4_10 rfl hl (by decide) rfl (fun ls hl => ?_)
    refine lv_bipush (pc := 11) (v := (-10)) hx hb dJ6_stringSize_0f7a4_11 (by decide) ?_
    refine lv_istore_n (pc := 13) (lv' := [(2, .int ((-10))), (0, .int x_6), (1, .int 0)]) hx hb dJ6_stringSize_0f7a4_13 rfl hl (by decide) rfl (fun ls hl => ?_)
    refine lv_iconst (pc := 14) (v := 1) hx hb dJ6_stringSize_0f7a4_14 (by decide) ?_
    refine lv_istore_n (pc := 15) (lv' := [(3, .int 1), (2, .int ((-10))), (0, .int x_6), (1, .int 0)]) hx hb dJ6_stringSize_0f7a4_15 rfl hl (by decide) rfl (fun ls hl => ?_)
    have loop_16 : ∀ (n : Nat) (k : Nat)(p9 : Int32) (y9 : Int32), 11 - k < n → 1 ≤ k ∧ k ≤ 10 → p9 = pP k → y9 = nI k → k = 1 ∨ 10 ^ (k - 1) ≤ x_6.toInt.natAbs → ∀ (H : Heap) (locs : List Loc) (ls : Array Slot), va_S (nwA s.heap.size) s.heap H locs → lv_has ls 4 [(0, .int x_6), (1, .int 0), (2, .int p9), (3, .int y9)] → W p l e ({ frames := 0, cells := 0, slots := 0, locals := 0 } : Room) s m args below meth c H locs (0) (0) Q (F0 m 16 ls []) := by
      intro n
      induction n with
      | zero =>
        intro k p9 y9 hf9 hk9 hp9 hx9 hlo9 H locs ls hS hl
        omega
      | succ n ih_16 =>
        intro k p9 y9 hf9 hk9 hp9 hx9 hlo9 H locs ls hS hl
        refine lv_iload_n (pc := 16) hx hb dJ6_stringSize_0f7a4_16 rfl (lv_at hl 3 rfl) ?_
        refine lv_bipush (pc := 17) (v := 10) hx hb dJ6_stringSize_0f7a4_17 (by decide) ?_
        refine lv_icmp_ge (pc := 19) (tgt := 42) hx hb dJ6_stringSize_0f7a4_19 (by decide) (fun c_7 => ?_) (fun c_7 => ?_)
        · refine lv_bipush (pc := 42) (v := 10) hx hb dJ6_stringSize_0f7a4_42 (by decide) ?_
          refine lv_iload_n (pc := 44) hx hb dJ6_stringSize_0f7a4_44 rfl (lv_at hl 1 rfl) ?_
          refine lv_iadd (pc := 45) hx hb dJ6_stringSize_0f7a4_45 ?_
          try rw [hQ]
          refine r_iret (pc := 46) E hr hlk hS (by decide) (by decide) ?_ dJ6_stringSize_0f7a4_46
          exact ssD hk9 hx9 c_7 c_1 ex_6 hlo9
        · refine lv_iload_n (pc := 22) hx hb dJ6_stringSize_0f7a4_22 rfl (lv_at hl 0 rfl) ?_
          refine lv_iload_n (pc := 23) hx hb dJ6_stringSize_0f7a4_23 rfl (lv_at hl 2 rfl) ?_
          refine lv_icmp_le (pc := 24) (tgt := 31) hx hb dJ6_stringSize_0f7a4_24 (by decide) (fun c_8 => ?_) (fun c_8 => ?_)
          · refine lv_bipush (pc := 31) (v := 10) hx hb dJ6_stringSize_0f7a4_31 (by decide) ?_
            refine lv_iload_n (pc := 33) hx hb dJ6_stringSize_0f7a4_33 rfl (lv_at hl 2 rfl) ?_
            refine lv_imul (pc := 34) hx hb dJ6_stringSize_0f7a4_34 ?_
            obtain ⟨x_9, ex_9⟩ : ∃ z9 : Int32, z9 = 10 * p9 := ⟨_, rfl⟩
            rw [← ex_9]
            refine lv_istore_n (pc := 35) (lv' := [(2, .int x_9), (0, .int x_6), (1, .int 0), (3, .int y9)]) hx hb dJ6_stringSize_0f7a4_35 rfl hl (by decide) rfl (fun ls hl => ?_)
            obtain ⟨x_10, ex_10⟩ : ∃ z9 : Int32, z9 = y9 + 1 := ⟨_, rfl⟩
            refine lv_iinc (pc := 36) (v := x_10) (lv' := [(3, .int x_10), (2, .int x_9), (0, .int x_6), (1, .int 0)]) hx hb dJ6_stringSize_0f7a4_36 hl (k := 3) rfl (by rw [ex_10]; rfl) (by decide) rfl (fun ls hl => ?_)
            refine lv_goto (pc := 39) (tgt := 16) hx hb dJ6_stringSize_0f7a4_39 (by decide) ?_
            have hlt : k < 10 := Nat.not_le.mp (fun z => c_7 ((i_le (n := 10) hx9 (by decide) (by omega) (by decide)).mpr z))
            exact ih_16  (k + 1)  x_9 x_10 (by omega) (by omega) (by rw [ex_9, hp9]; rfl) (i_up hx9 ex_10) (Or.inr (ss_low hp9 hlt c_8)) _ _ _ hS (lv_sub hl [2, 3, 1, 0] rfl)
          · refine lv_iload_n (pc := 27) hx hb dJ6_stringSize_0f7a4_27 rfl (lv_at hl 3 rfl) ?_
            refine lv_iload_n (pc := 28) hx hb dJ6_stringSize_0f7a4_28 rfl (lv_at hl 1 rfl) ?_
            refine lv_iadd (pc := 29) hx hb dJ6_stringSize_0f7a4_29 ?_
            try rw [hQ]
            refine r_iret (pc := 30) E hr hlk hS (by decide) (by decide) ?_ dJ6_stringSize_0f7a4_30
            exact ssB hk9 hp9 hx9 c_1 ex_6 c_7 c_8 hlo9
    exact loop_16 11 1  ((-10)) 1 (by decide) (by decide) (by decide) (by decide) (Or.inl rfl) _ _ _ hS (lv_sub hl [2, 3, 1, 0] rfl)
set_option maxHeartbeats 4000000 in
set_option maxRecDepth 100000 in
/-- java/lang/Long.stringSize(J)I -/
theorem c_J13_stringSize_95d88 (l : Launch) (D : va_G) (tk : Nat → ClassId) (N0 : Nat) (sa : Nat → Nat)  (sz : Nat) (x : Int64) : Met l yJ13_stringSize_95d88 (wsy yJ13_stringSize_95d88 cJ13_stringSize_95d88 6 (some .int)) ({ frames := 0, cells := 0, slots := 0, locals := 0 } : Room) (cP D tk N0 sa [.long x] sz (fun H => True)) (kQi (fun r H => SSJ x r) (nwA sz)) (0) (0) (nwA sz) := by
  refine mStart RJ13 rfl (by decide +kernel) (Nat.le_of_ble_eq_true rfl) ?_
  intro p e s m args below meth c E hr hlk hnm hsz hC hF ls hl
  subst hsz
  obtain ⟨hx, hb, -⟩ := id E
  have hA : ∀ q, (nwA s.heap.size) q → N0 ≤ q := fun q h => Nat.le_trans hC.2.1 h
  have hn : ∀ q, s.heap.size ≤ q → (nwA s.heap.size) q := fun q h => h
  have hS : va_S (nwA s.heap.size) s.heap s.heap [] := va_S.rf
  have hl : lv_has ls 6 [(0, .long x)] := hl
  obtain ⟨Q, hQ⟩ : ∃ Q, Q = MQ below (kQi (fun r H => SSJ x r) (nwA s.heap.size)) args s (0) (0) (nwA s.heap.size) := ⟨_, rfl⟩
  rw [← hQ]
  refine lv_iconst (pc := 0) (v := 1) hx hb dJ13_stringSize_95d88_0 (by decide) ?_
  refine lv_istore_n (pc := 1) (lv' := [(2, .int 1), (0, .long x)]) hx hb dJ13_stringSize_95d88_1 rfl hl (by decide) rfl (fun ls hl => ?_)
  refine lv_lload_n (pc := 2) hx hb dJ13_stringSize_95d88_2 rfl (lv_at hl 1 rfl) ?_
  refine lv_lconst (pc := 3) (v := 0) hx hb dJ13_stringSize_95d88_3 (by decide) ?_
  refine r_lclt (pc := 4) (tgt := 13) E dJ13_stringSize_95d88_4 dJ13_stringSize_95d88_5 (by decide) (fun c_1 => ?_) (fun c_1 => ?_)
  · refine lv_ldc2 (pc := 13) (v := (-10)) hx hb E.2.2.2.1 (E.2.2.2.2 _ (List.mem_cons_of_mem _ kw_1364)) dJ13_stringSize_95d88_13 ?_
    refine lv_lstore_n (pc := 16) (lv' := [(3, .long ((-10))), (2, .int 1), (0, .long x)]) hx hb dJ13_stringSize_95d88_16 rfl hl (by decide) rfl (fun ls hl => ?_)
    refine lv_iconst (pc := 17) (v := 1) hx hb dJ13_stringSize_95d88_17 (by decide) ?_
    refine lv_istore (pc := 18) (lv' := [(5, .int 1), (3, .long ((-10))), (2, .int 1), (0, .long x)]) hx hb dJ13_stringSize_95d88_18 hl (by decide) rfl (fun ls hl => ?_)
    have loop_20 : ∀ (n : Nat) (k : Nat)(p9 : Int64) (y9 : Int32), 20 - k < n → 1 ≤ k ∧ k ≤ 19 → p9 = pQ k → y9 = nI k → k = 1 ∨ 10 ^ (k - 1) ≤ x.toInt.natAbs → ∀ (H : Heap) (locs : List Loc) (ls : Array Slot), va_S (nwA s.heap.size) s.heap H locs → lv_has ls 6 [(0, .long x), (2, .int 1), (3, .long p9), (5, .int y9)] → W p l e ({ frames := 0, cells := 0, slots := 0, locals := 0 } : Room) s m args below meth c H locs (0) (0) Q (F0 m 20 ls []) := by
      intro n
      induction n with
      | zero =>
        intro k p9 y9 hf9 hk9 hp9 hx9 hlo9 H locs ls hS hl
        omega
      | succ n ih_20 =>
        intro k p9 y9 hf9 hk9 hp9 hx9 hlo9 H locs ls hS hl
        refine lv_iload (pc := 20) hx hb dJ13_stringSize_95d88_20 (lv_at hl 3 rfl) ?_
        refine lv_bipush (pc := 22) (v := 19) hx hb dJ13_stringSize_95d88_22 (by decide) ?_
        refine lv_icmp_ge (pc := 24) (tgt := 50) hx hb dJ13_stringSize_95d88_24 (by decide) (fun c_2 => ?_) (fun c_2 => ?_)
        · refine lv_bipush (pc := 50) (v := 19) hx hb dJ13_stringSize_95d88_50 (by decide) ?_
          refine lv_iload_n (pc := 52) hx hb dJ13_stringSize_95d88_52 rfl (lv_at hl 1 rfl) ?_
          refine lv_iadd (pc := 53) hx hb dJ13_stringSize_95d88_53 ?_
          try rw [hQ]
          refine r_iret (pc := 54) E hr hlk hS (by decide) (by decide) ?_ dJ13_stringSize_95d88_54
          exact ssJC hk9 hx9 c_2 c_1 hlo9
        · refine lv_lload_n (pc := 27) hx hb dJ13_stringSize_95d88_27 rfl (lv_at hl 0 rfl) ?_
          refine lv_lload_n (pc := 28) hx hb dJ13_stringSize_95d88_28 rfl (lv_at hl 2 rfl) ?_
          refine r_lcle (pc := 29) (tgt := 38) E dJ13_stringSize_95d88_29 dJ13_stringSize_95d88_30 (by decide) (fun c_3 => ?_) (fun c_3 => ?_)
          · refine lv_ldc2 (pc := 38) (v := 10) hx hb E.2.2.2.1 (E.2.2.2.2 _ (List.mem_cons_of_mem _ kw_1365)) dJ13_stringSize_95d88_38 ?_
            refine lv_lload_n (pc := 41) hx hb dJ13_stringSize_95d88_41 rfl (lv_at hl 2 rfl) ?_
            refine lv_lmul (pc := 42) hx hb dJ13_stringSize_95d88_42 ?_
            obtain ⟨x_4, ex_4⟩ : ∃ z9 : Int64, z9 = 10 * p9 := ⟨_, rfl⟩
            rw [← ex_4]
            refine lv_lstore_n (pc := 43) (lv' := [(3, .long x_4), (0, .long x), (2, .int 1), (5, .int y9)]) hx hb dJ13_stringSize_95d88_43 rfl hl (by decide) rfl (fun ls hl => ?_)
            obtain ⟨x_5, ex_5⟩ : ∃ z9 : Int32, z9 = y9 + 1 := ⟨_, rfl⟩
            refine lv_iinc (pc := 44) (v := x_5) (lv' := [(5, .int x_5), (3, .long x_4), (0, .long x), (2, .int 1)]) hx hb dJ13_stringSize_95d88_44 hl (k := 3) rfl (by rw [ex_5]; rfl) (by decide) rfl (fun ls hl => ?_)
            refine lv_goto (pc := 47) (tgt := 20) hx hb dJ13_stringSize_95d88_47 (by decide) ?_
            have hlt : k < 19 := Nat.not_le.mp (fun z => c_2 ((i_le (n := 19) hx9 (by decide) (by omega) (by decide)).mpr z))
            exact ih_20  (k + 1)  x_4 x_5 (by omega) (by omega) (by rw [ex_4, hp9]; rfl) (i_up hx9 ex_5) (Or.inr (ss_lowJ hp9 hlt c_3)) _ _ _ hS (lv_sub hl [2, 3, 1, 0] rfl)
          · refine lv_iload (pc := 33) hx hb dJ13_stringSize_95d88_33 (lv_at hl 3 rfl) ?_
            refine lv_iload_n (pc := 35) hx hb dJ13_stringSize_95d88_35 rfl (lv_at hl 1 rfl) ?_
            refine lv_iadd (pc := 36) hx hb dJ13_stringSize_95d88_36 ?_
            try rw [hQ]
            refine r_iret (pc := 37) E hr hlk hS (by decide) (by decide) ?_ dJ13_stringSize_95d88_37
            exact ssJA hk9 hp9 hx9 c_1 c_2 c_3 hlo9
    exact loop_20 20 1  ((-10)) 1 (by decide) (by decide) (by decide) (by decide) (Or.inl rfl) _ _ _ hS (lv_sub hl [3, 2, 1, 0] rfl)
  · refine lv_iconst (pc := 8) (v := 0) hx hb dJ13_stringSize_95d88_8 (by decide) ?_
    refine lv_istore_n (pc := 9) (lv' := [(2, .int 0), (0, .long x)]) hx hb dJ13_stringSize_95d88_9 rfl hl (by decide) rfl (fun ls hl => ?_)
    refine lv_lload_n (pc := 10) hx hb dJ13_stringSize_95d88_10 rfl (lv_at hl 1 rfl) ?_
    refine lv_lneg (pc := 11) hx hb dJ13_stringSize_95d88_11 ?_
    obtain ⟨x_6, ex_6⟩ : ∃ z9 : Int64, z9 = -x := ⟨_, rfl⟩
    rw [← ex_6]
    refine lv_lstore_n (pc := 12) (lv' := [(0, .long x_6), (2, .int 0)]) hx hb dJ13_stringSize_95d88_12 rfl hl (by decide) rfl (fun ls hl => ?_)
    refine lv_ldc2 (pc := 13) (v := (-10)) hx hb E.2.2.2.1 (E.2.2.2.2 _ (List.mem_cons_of_mem _ kw_1364)) dJ13_stringSize_95d88_13 ?_
    refine lv_lstore_n (pc := 16) (lv' := [(3, .long ((-10))), (0, .long x_6), (2, .int 0)]) hx hb dJ13_stringSize_95d88_16 rfl hl (by decide) rfl (fun ls hl => ?_)
    refine lv_iconst (pc := 17) (v := 1) hx hb dJ13_stringSize_95d88_17 (by decide) ?_
    refine lv_istore (pc := 18) (lv' := [(5, .int 1), (3, .long ((-10))), (0, .long x_6), (2, .int 0)]) hx hb dJ13_stringSize_95d88_18 hl (by decide) rfl (fun ls hl => ?_)
    have loop_20 : ∀ (n : Nat) (k : Nat)(p9 : Int64) (y9 : Int32), 20 - k < n → 1 ≤ k ∧ k ≤ 19 → p9 = pQ k → y9 = nI k → k = 1 ∨ 10 ^ (k - 1) ≤ x_6.toInt.natAbs → ∀ (H : Heap) (locs : List Loc) (ls : Array Slot), va_S (nwA s.heap.size) s.heap H locs → lv_has ls 6 [(0, .long x_6), (2, .int 0), (3, .long p9), (5, .int y9)] → W p l e ({ frames := 0, cells := 0, slots := 0, locals := 0 } : Room) s m args below meth c H locs (0) (0) Q (F0 m 20 ls []) := by
      intro n
      induction n with
      | zero =>
        intro k p9 y9 hf9 hk9 hp9 hx9 hlo9 H locs ls hS hl
        omega
      | succ n ih_20 =>
        intro k p9 y9 hf9 hk9 hp9 hx9 hlo9 H locs ls hS hl
        refine lv_iload (pc := 20) hx hb dJ13_stringSize_95d88_20 (lv_at hl 3 rfl) ?_
        refine lv_bipush (pc := 22) (v := 19) hx hb dJ13_stringSize_95d88_22 (by decide) ?_
        refine lv_icmp_ge (pc := 24) (tgt := 50) hx hb dJ13_stringSize_95d88_24 (by decide) (fun c_7 => ?_) (fun c_7 => ?_)
        · refine lv_bipush (pc := 50) (v := 19) hx hb dJ13_stringSize_95d88_50 (by decide) ?_
          refine lv_iload_n (pc := 52) hx hb dJ13_stringSize_95d88_52 rfl (lv_at hl 1 rfl) ?_
          refine lv_iadd (pc := 53) hx hb dJ13_stringSize_95d88_53 ?_
          try rw [hQ]
          refine r_iret (pc := 54) E hr hlk hS (by decide) (by decide) ?_ dJ13_stringSize_95d88_54
          exact ssJD hk9 hx9 c_7 c_1 ex_6 hlo9
        · refine lv_lload_n (pc := 27) hx hb dJ13_stringSize_95d88_27 rfl (lv_at hl 0 rfl) ?_
          refine lv_lload_n (pc := 28) hx hb dJ13_stringSize_95d88_28 rfl (lv_at hl 2 rfl) ?_
          refine r_lcle (pc := 29) (tgt := 38) E dJ13_stringSize_95d88_29 dJ13_stringSize_95d88_30 (by decide) (fun c_8 => ?_) (fun c_8 => ?_)
          · refine lv_ldc2 (pc := 38) (v := 10) hx hb E.2.2.2.1 (E.2.2.2.2 _ (List.mem_cons_of_mem _ kw_1365)) dJ13_stringSize_95d88_38 ?_
            refine lv_lload_n (pc := 41) hx hb dJ13_stringSize_95d88_41 rfl (lv_at hl 2 rfl) ?_
            refine lv_lmul (pc := 42) hx hb dJ13_stringSize_95d88_42 ?_
            obtain ⟨x_9, ex_9⟩ : ∃ z9 : Int64, z9 = 10 * p9 := ⟨_, rfl⟩
            rw [← ex_9]
            refine lv_lstore_n (pc := 43) (lv' := [(3, .long x_9), (0, .long x_6), (2, .int 0), (5, .int y9)]) hx hb dJ13_stringSize_95d88_43 rfl hl (by decide) rfl (fun ls hl => ?_)
            obtain ⟨x_10, ex_10⟩ : ∃ z9 : Int32, z9 = y9 + 1 := ⟨_, rfl⟩
            refine lv_iinc (pc := 44) (v := x_10) (lv' := [(5, .int x_10), (3, .long x_9), (0, .long x_6), (2, .int 0)]) hx hb dJ13_stringSize_95d88_44 hl (k := 3) rfl (by rw [ex_10]; rfl) (by decide) rfl (fun ls hl => ?_)
            refine lv_goto (pc := 47) (tgt := 20) hx hb dJ13_stringSize_95d88_47 (by decide) ?_
            have hlt : k < 19 := Nat.not_le.mp (fun z => c_7 ((i_le (n := 19) hx9 (by decide) (by omega) (by decide)).mpr z))
            exact ih_20  (k + 1)  x_9 x_10 (by omega) (by omega) (by rw [ex_9, hp9]; rfl) (i_up hx9 ex_10) (Or.inr (ss_lowJ hp9 hlt c_8)) _ _ _ hS (lv_sub hl [2, 3, 1, 0] rfl)
          · refine lv_iload (pc := 33) hx hb dJ13_stringSize_95d88_33 (lv_at hl 3 rfl) ?_
            refine lv_iload_n (pc := 35) hx hb dJ13_stringSize_95d88_35 rfl (lv_at hl 1 rfl) ?_
            refine lv_iadd (pc := 36) hx hb dJ13_stringSize_95d88_36 ?_
            try rw [hQ]
            refine r_iret (pc := 37) E hr hlk hS (by decide) (by decide) ?_ dJ13_stringSize_95d88_37
            exact ssJB hk9 hp9 hx9 c_1 ex_6 c_7 c_8 hlo9
    exact loop_20 20 1  ((-10)) 1 (by decide) (by decide) (by decide) (by decide) (Or.inl rfl) _ _ _ hS (lv_sub hl [2, 3, 1, 0] rfl)
set_option maxHeartbeats 4000000 in
set_option maxRecDepth 100000 in
/-- java/lang/Integer.getChars(II[B)I -/
theorem c_J6_getChars_ba4f3 (l : Launch) (D : va_G) (tk : Nat → ClassId) (N0 : Nat) (sa : Nat → Nat)  (sz : Nat) (x ix : Int32) (b nb td kd : Nat) (hb9 : N0 ≤ b) (hk9 : x.toInt.natAbs < 10 ^ kd) (h19 : 1 ≤ kd) (ht9 : kd + (if x < 0 then 1 else 0) ≤ td) (htn : td ≤ nb) (hnb : nb < 2 ^ 31) (hix : ix = nI td) : Met l yJ6_getChars_ba4f3 (wsy yJ6_getChars_ba4f3 cJ6_getChars_ba4f3 7 (some .int)) ({ frames := 0, cells := 0, slots := 0, locals := 0 } : Room) (cP D tk N0 sa [.int x, .int ix, .ref b] sz (fun H => BA D tk b nb H)) (kQi (fun r H => BA D tk b nb H) (inA1 b sz)) (0) (0) (inA1 b sz) := by
  refine mStart RJ6 rfl (by decide +kernel) (Nat.le_of_ble_eq_true rfl) ?_
  intro p e s m args below meth c E hr hlk hnm hsz hC hF ls hl
  subst hsz
  obtain ⟨hx, hb, -⟩ := id E
  have hA : ∀ q, (inA1 b s.heap.size) q → N0 ≤ q := fun q h => h.elim (fun z => z ▸ hb9) (fun z => Nat.le_trans hC.2.1 z)
  have hn : ∀ q, s.heap.size ≤ q → (inA1 b s.heap.size) q := fun q h => Or.inr h
  have hS : va_S (inA1 b s.heap.size) s.heap s.heap [] := va_S.rf
  have hl : lv_has ls 7 [(0, .int x), (1, .int ix), (2, .ref b)] := hl
  obtain ⟨Q, hQ⟩ : ∃ Q, Q = MQ below (kQi (fun r H => BA D tk b nb H) (inA1 b s.heap.size)) args s (0) (0) (inA1 b s.heap.size) := ⟨_, rfl⟩
  rw [← hQ]
  have hB : BA D tk b nb s.heap := hF
  have g_hB : (inA1 b s.heap.size) b := Or.inl rfl
  refine lv_iload_n (pc := 0) hx hb dJ6_getChars_ba4f3_0 rfl (lv_at hl 1 rfl) ?_
  refine lv_istore (pc := 1) (lv' := [(5, .int ix), (0, .int x), (1, .int ix), (2, .ref b)]) hx hb dJ6_getChars_ba4f3_1 hl (by decide) rfl (fun ls hl => ?_)
  refine lv_iload_n (pc := 3) hx hb dJ6_getChars_ba4f3_3 rfl (lv_at hl 1 rfl) ?_
  refine lv_if_ge (pc := 4) (tgt := 11) hx hb dJ6_getChars_ba4f3_4 (by decide) (fun c_1 => ?_) (fun c_1 => ?_)
  · refine lv_iconst (pc := 11) (v := 0) hx hb dJ6_getChars_ba4f3_11 (by decide) ?_
    refine lv_istore (pc := 12) (lv' := [(6, .int 0), (5, .int ix), (0, .int x), (1, .int ix), (2, .ref b)]) hx hb dJ6_getChars_ba4f3_12 hl (by decide) rfl (fun ls hl => ?_)
    refine lv_iload (pc := 14) hx hb dJ6_getChars_ba4f3_14 (lv_at hl 0 rfl) ?_
    refine lv_if_ne (pc := 16) (tgt := 22) hx hb dJ6_getChars_ba4f3_16 (by decide) (fun c_2 => ?_) (fun c_2 => ?_)
    · exact absurd (by decide) c_2
    refine lv_iload_n (pc := 19) hx hb dJ6_getChars_ba4f3_19 rfl (lv_at hl 2 rfl) ?_
    refine lv_ineg (pc := 20) hx hb dJ6_getChars_ba4f3_20 ?_
    obtain ⟨x_3, ex_3⟩ : ∃ z9 : Int32, z9 = -x := ⟨_, rfl⟩
    rw [← ex_3]
    refine lv_istore_n (pc := 21) (lv' := [(0, .int x_3), (6, .int 0), (5, .int ix), (1, .int ix), (2, .ref b)]) hx hb dJ6_getChars_ba4f3_21 rfl hl (by decide) rfl (fun ls hl => ?_)
    have loop_22 : ∀ (n : Nat) (kk : Nat) (jj : Nat)(X9 : Int32) (y9 : Int32), kk < n → X9.toInt ≤ 0 → X9.toInt.natAbs < 10 ^ kk → 1 ≤ kk → kk + 0 ≤ jj ∧ jj ≤ nb → y9 = nI jj → ∀ (H : Heap) (locs : List Loc) (ls : Array Slot), va_S (inA1 b s.heap.size) s.heap H locs → BA D tk b nb H → lv_has ls 7 [(0, .int X9), (1, .int ix), (2, .ref b), (5, .int y9), (6, .int 0)] → W p l e ({ frames := 0, cells := 0, slots := 0, locals := 0 } : Room) s m args below meth c H locs (0) (0) Q (F0 m 22 ls []) := by
      intro n
      induction n with
      | zero =>
        intro kk jj X9 y9 hf9 hX9 hK9 h19 hj9 hx9 H locs ls hS hB hl
        omega
      | succ n ih_22 =>
        intro kk jj X9 y9 hf9 hX9 hK9 h19 hj9 hx9 H locs ls hS hB hl
        refine lv_iload_n (pc := 22) hx hb dJ6_getChars_ba4f3_22 rfl (lv_at hl 0 rfl) ?_
        refine lv_bipush (pc := 23) (v := (-100)) hx hb dJ6_getChars_ba4f3_23 (by decide) ?_
        refine lv_icmp_gt (pc := 25) (tgt := 72) hx hb dJ6_getChars_ba4f3_25 (by decide) (fun c_4 => ?_) (fun c_4 => ?_)
        · refine lv_aload_n (pc := 72) hx hb dJ6_getChars_ba4f3_72 rfl (lv_at hl 2 rfl) ?_
          obtain ⟨x_5, ex_5⟩ : ∃ z9 : Int32, z9 = y9 + (-1) := ⟨_, rfl⟩
          refine lv_iinc (pc := 73) (v := x_5) (lv' := [(5, .int x_5), (0, .int X9), (1, .int ix), (2, .ref b), (6, .int 0)]) hx hb dJ6_getChars_ba4f3_73 hl (k := 3) rfl (by rw [ex_5]; rfl) (by decide) rfl (fun ls hl => ?_)
          have hd_6 := i_dn hx9 (by omega) ex_5
          refine lv_iload (pc := 76) hx hb dJ6_getChars_ba4f3_76 (lv_at hl 0 rfl) ?_
          refine va_gets (pc := 78) hx hb (hC.ones.1.narrow hA) hS E.2.2.2.1 (E.2.2.2.2 _ (List.mem_cons_of_mem _ kw_294)) (fun _ h => h) dJ6_getChars_ba4f3_78 ?_
          refine lv_iload_n (pc := 81) hx hb dJ6_getChars_ba4f3_81 rfl (lv_at hl 1 rfl) ?_
          refine lv_ineg (pc := 82) hx hb dJ6_getChars_ba4f3_82 ?_
          refine va_tb (pc := 83) hx hb (hC.ones.2.narrow hA) hS (gc_last hX9 (Int32.not_le.mpr c_4)) rfl dJ6_getChars_ba4f3_83 ?_
          refine r_bastB (pc := 84) E hC hB hS g_hB (i_in hd_6 (by omega) (by omega)) dJ6_getChars_ba4f3_84 (fun H locs n_ ho hz hS => ?_)
          have hB := n_
          refine lv_iload_n (pc := 85) hx hb dJ6_getChars_ba4f3_85 rfl (lv_at hl 1 rfl) ?_
          refine lv_bipush (pc := 86) (v := (-9)) hx hb dJ6_getChars_ba4f3_86 (by decide) ?_
          refine lv_icmp_ge (pc := 88) (tgt := 104) hx hb dJ6_getChars_ba4f3_88 (by decide) (fun c_7 => ?_) (fun c_7 => ?_)
          · refine lv_iload (pc := 104) hx hb dJ6_getChars_ba4f3_104 (lv_at hl 4 rfl) ?_
            refine lv_if_eq (pc := 106) (tgt := 118) hx hb dJ6_getChars_ba4f3_106 (by decide) (fun c_8 => ?_) (fun c_8 => ?_)
            rotate_left
            · exact absurd (by decide) c_8
            refine lv_iload (pc := 118) hx hb dJ6_getChars_ba4f3_118 (lv_at hl 0 rfl) ?_
            try rw [hQ]
            refine r_iret (pc := 120) E hr hlk hS (by decide) (by decide) ?_ dJ6_getChars_ba4f3_120
            exact hB
          · have h2k := gc_two hK9 (Int32.not_le.mp c_7)
            refine lv_aload_n (pc := 91) hx hb dJ6_getChars_ba4f3_91 rfl (lv_at hl 3 rfl) ?_
            obtain ⟨x_9, ex_9⟩ : ∃ z9 : Int32, z9 = x_5 + (-1) := ⟨_, rfl⟩
            refine lv_iinc (pc := 92) (v := x_9) (lv' := [(5, .int x_9), (0, .int X9), (1, .int ix), (2, .ref b), (6, .int 0)]) hx hb dJ6_getChars_ba4f3_92 hl (k := 0) rfl (by rw [ex_9]; rfl) (by decide) rfl (fun ls hl => ?_)
            have hd_10 := i_dn hd_6 (by omega) ex_9
            refine lv_iload (pc := 95) hx hb dJ6_getChars_ba4f3_95 (lv_at hl 0 rfl) ?_
            refine va_gets (pc := 97) hx hb (hC.tens.1.narrow hA) hS E.2.2.2.1 (E.2.2.2.2 _ (List.mem_cons_of_mem _ kw_296)) (fun _ h => h) dJ6_getChars_ba4f3_97 ?_
            refine lv_iload_n (pc := 100) hx hb dJ6_getChars_ba4f3_100 rfl (lv_at hl 1 rfl) ?_
            refine lv_ineg (pc := 101) hx hb dJ6_getChars_ba4f3_101 ?_
            refine va_tb (pc := 102) hx hb (hC.tens.2.narrow hA) hS (gc_last hX9 (Int32.not_le.mpr c_4)) rfl dJ6_getChars_ba4f3_102 ?_
            refine r_bastB (pc := 103) E hC hB hS g_hB (i_in hd_10 (by omega) (by omega)) dJ6_getChars_ba4f3_103 (fun H locs n_ ho hz hS => ?_)
            have hB := n_
            refine lv_iload (pc := 104) hx hb dJ6_getChars_ba4f3_104 (lv_at hl 4 rfl) ?_
            refine lv_if_eq (pc := 106) (tgt := 118) hx hb dJ6_getChars_ba4f3_106 (by decide) (fun c_11 => ?_) (fun c_11 => ?_)
            rotate_left
            · exact absurd (by decide) c_11
            refine lv_iload (pc := 118) hx hb dJ6_getChars_ba4f3_118 (lv_at hl 0 rfl) ?_
            try rw [hQ]
            refine r_iret (pc := 120) E hr hlk hS (by decide) (by decide) ?_ dJ6_getChars_ba4f3_120
            exact hB
        · refine lv_iload_n (pc := 28) hx hb dJ6_getChars_ba4f3_28 rfl (lv_at hl 0 rfl) ?_
          refine lv_bipush (pc := 29) (v := 100) hx hb dJ6_getChars_ba4f3_29 (by decide) ?_
          refine lv_idiv (pc := 31) hx hb dJ6_getChars_ba4f3_31 (by decide) ?_
          obtain ⟨x_12, ex_12⟩ : ∃ z9 : Int32, z9 = X9 / 100 := ⟨_, rfl⟩
          rw [← ex_12]
          refine lv_istore_n (pc := 32) (lv' := [(3, .int x_12), (0, .int X9), (1, .int ix), (2, .ref b), (5, .int y9), (6, .int 0)]) hx hb dJ6_getChars_ba4f3_32 rfl hl (by decide) rfl (fun ls hl => ?_)
          refine lv_iload_n (pc := 33) hx hb dJ6_getChars_ba4f3_33 rfl (lv_at hl 0 rfl) ?_
          refine lv_bipush (pc := 34) (v := 100) hx hb dJ6_getChars_ba4f3_34 (by decide) ?_
          refine lv_imul (pc := 36) hx hb dJ6_getChars_ba4f3_36 ?_
          refine lv_iload_n (pc := 37) hx hb dJ6_getChars_ba4f3_37 rfl (lv_at hl 1 rfl) ?_
          refine lv_isub (pc := 38) hx hb dJ6_getChars_ba4f3_38 ?_
          obtain ⟨x_13, ex_13⟩ : ∃ z9 : Int32, z9 = (x_12 * 100) - X9 := ⟨_, rfl⟩
          rw [← ex_13]
          refine lv_istore (pc := 39) (lv' := [(4, .int x_13), (3, .int x_12), (0, .int X9), (1, .int ix), (2, .ref b), (5, .int y9), (6, .int 0)]) hx hb dJ6_getChars_ba4f3_39 hl (by decide) rfl (fun ls hl => ?_)
          refine lv_iload_n (pc := 41) hx hb dJ6_getChars_ba4f3_41 rfl (lv_at hl 1 rfl) ?_
          refine lv_istore_n (pc := 42) (lv' := [(0, .int x_12), (4, .int x_13), (3, .int x_12), (1, .int ix), (2, .ref b), (5, .int y9), (6, .int 0)]) hx hb dJ6_getChars_ba4f3_42 rfl hl (by decide) rfl (fun ls hl => ?_)
          obtain ⟨hs1, hs2, hs3, hs4⟩ := gc_step hX9 hK9 (Int32.not_lt.mp c_4) ex_12
          rw [← ex_13] at hs4
          refine lv_aload_n (pc := 43) hx hb dJ6_getChars_ba4f3_43 rfl (lv_at hl 4 rfl) ?_
          obtain ⟨x_14, ex_14⟩ : ∃ z9 : Int32, z9 = y9 + (-1) := ⟨_, rfl⟩
          refine lv_iinc (pc := 44) (v := x_14) (lv' := [(5, .int x_14), (0, .int x_12), (4, .int x_13), (3, .int x_12), (1, .int ix), (2, .ref b), (6, .int 0)]) hx hb dJ6_getChars_ba4f3_44 hl (k := 5) rfl (by rw [ex_14]; rfl) (by decide) rfl (fun ls hl => ?_)
          have hd_15 := i_dn hx9 (by omega) ex_14
          refine lv_iload (pc := 47) hx hb dJ6_getChars_ba4f3_47 (lv_at hl 0 rfl) ?_
          refine va_gets (pc := 49) hx hb (hC.ones.1.narrow hA) hS E.2.2.2.1 (E.2.2.2.2 _ (List.mem_cons_of_mem _ kw_294)) (fun _ h => h) dJ6_getChars_ba4f3_49 ?_
          refine lv_iload (pc := 52) hx hb dJ6_getChars_ba4f3_52 (lv_at hl 2 rfl) ?_
          refine va_tb (pc := 54) hx hb (hC.ones.2.narrow hA) hS hs4 rfl dJ6_getChars_ba4f3_54 ?_
          refine r_bastB (pc := 55) E hC hB hS g_hB (i_in hd_15 (by omega) (by omega)) dJ6_getChars_ba4f3_55 (fun H locs n_ ho hz hS => ?_)
          have hB := n_
          refine lv_aload_n (pc := 56) hx hb dJ6_getChars_ba4f3_56 rfl (lv_at hl 5 rfl) ?_
          obtain ⟨x_16, ex_16⟩ : ∃ z9 : Int32, z9 = x_14 + (-1) := ⟨_, rfl⟩
          refine lv_iinc (pc := 57) (v := x_16) (lv' := [(5, .int x_16), (0, .int x_12), (4, .int x_13), (3, .int x_12), (1, .int ix), (2, .ref b), (6, .int 0)]) hx hb dJ6_getChars_ba4f3_57 hl (k := 0) rfl (by rw [ex_16]; rfl) (by decide) rfl (fun ls hl => ?_)
          have hd_17 := i_dn hd_15 (by omega) ex_16
          refine lv_iload (pc := 60) hx hb dJ6_getChars_ba4f3_60 (lv_at hl 0 rfl) ?_
          refine va_gets (pc := 62) hx hb (hC.tens.1.narrow hA) hS E.2.2.2.1 (E.2.2.2.2 _ (List.mem_cons_of_mem _ kw_296)) (fun _ h => h) dJ6_getChars_ba4f3_62 ?_
          refine lv_iload (pc := 65) hx hb dJ6_getChars_ba4f3_65 (lv_at hl 2 rfl) ?_
          refine va_tb (pc := 67) hx hb (hC.tens.2.narrow hA) hS hs4 rfl dJ6_getChars_ba4f3_67 ?_
          refine r_bastB (pc := 68) E hC hB hS g_hB (i_in hd_17 (by omega) (by omega)) dJ6_getChars_ba4f3_68 (fun H locs n_ ho hz hS => ?_)
          have hB := n_
          refine lv_goto (pc := 69) (tgt := 22) hx hb dJ6_getChars_ba4f3_69 (by decide) ?_
          exact ih_22  (kk - 2) (jj - 2)  x_12 x_16 (by omega) hs2 hs3 (by omega) (by omega) (by rw [show jj - 2 = jj - 1 - 1 by omega]; exact hd_17) _ _ _ hS hB (lv_sub hl [1, 4, 5, 0, 6] rfl)
    have hneg := ss_neg (Int32.not_lt.mpr c_1)
    rw [← ex_3] at hneg
    rw [if_neg (Int32.not_lt.mpr c_1)] at ht9
    have h0x : 0 ≤ x.toInt := by have := Int32.le_iff_toInt_le.mp c_1; simpa using this
    exact loop_22 (kd + 1) kd td  x_3 ix (by omega) (by omega) (by rw [hneg, Int.natAbs_neg]; exact hk9) h19 ⟨ht9, htn⟩ hix _ _ _ hS hB (lv_sub hl [0, 3, 4, 2, 1] rfl)
  · refine lv_iconst (pc := 7) (v := 1) hx hb dJ6_getChars_ba4f3_7 (by decide) ?_
    refine lv_goto (pc := 8) (tgt := 12) hx hb dJ6_getChars_ba4f3_8 (by decide) ?_
    refine lv_istore (pc := 12) (lv' := [(6, .int 1), (5, .int ix), (0, .int x), (1, .int ix), (2, .ref b)]) hx hb dJ6_getChars_ba4f3_12 hl (by decide) rfl (fun ls hl => ?_)
    refine lv_iload (pc := 14) hx hb dJ6_getChars_ba4f3_14 (lv_at hl 0 rfl) ?_
    refine lv_if_ne (pc := 16) (tgt := 22) hx hb dJ6_getChars_ba4f3_16 (by decide) (fun c_18 => ?_) (fun c_18 => ?_)
    rotate_left
    · exact absurd c_18 (by decide)
    have loop_22 : ∀ (n : Nat) (kk : Nat) (jj : Nat)(X9 : Int32) (y9 : Int32), kk < n → X9.toInt ≤ 0 → X9.toInt.natAbs < 10 ^ kk → 1 ≤ kk → kk + 1 ≤ jj ∧ jj ≤ nb → y9 = nI jj → ∀ (H : Heap) (locs : List Loc) (ls : Array Slot), va_S (inA1 b s.heap.size) s.heap H locs → BA D tk b nb H → lv_has ls 7 [(0, .int X9), (1, .int ix), (2, .ref b), (5, .int y9), (6, .int 1)] → W p l e ({ frames := 0, cells := 0, slots := 0, locals := 0 } : Room) s m args below meth c H locs (0) (0) Q (F0 m 22 ls []) := by
      intro n
      induction n with
      | zero =>
        intro kk jj X9 y9 hf9 hX9 hK9 h19 hj9 hx9 H locs ls hS hB hl
        omega
      | succ n ih_22 =>
        intro kk jj X9 y9 hf9 hX9 hK9 h19 hj9 hx9 H locs ls hS hB hl
        refine lv_iload_n (pc := 22) hx hb dJ6_getChars_ba4f3_22 rfl (lv_at hl 0 rfl) ?_
        refine lv_bipush (pc := 23) (v := (-100)) hx hb dJ6_getChars_ba4f3_23 (by decide) ?_
        refine lv_icmp_gt (pc := 25) (tgt := 72) hx hb dJ6_getChars_ba4f3_25 (by decide) (fun c_19 => ?_) (fun c_19 => ?_)
        · refine lv_aload_n (pc := 72) hx hb dJ6_getChars_ba4f3_72 rfl (lv_at hl 2 rfl) ?_
          obtain ⟨x_20, ex_20⟩ : ∃ z9 : Int32, z9 = y9 + (-1) := ⟨_, rfl⟩
          refine lv_iinc (pc := 73) (v := x_20) (lv' := [(5, .int x_20), (0, .int X9), (1, .int ix), (2, .ref b), (6, .int 1)]) hx hb dJ6_getChars_ba4f3_73 hl (k := 3) rfl (by rw [ex_20]; rfl) (by decide) rfl (fun ls hl => ?_)
          have hd_21 := i_dn hx9 (by omega) ex_20
          refine lv_iload (pc := 76) hx hb dJ6_getChars_ba4f3_76 (lv_at hl 0 rfl) ?_
          refine va_gets (pc := 78) hx hb (hC.ones.1.narrow hA) hS E.2.2.2.1 (E.2.2.2.2 _ (List.mem_cons_of_mem _ kw_294)) (fun _ h => h) dJ6_getChars_ba4f3_78 ?_
          refine lv_iload_n (pc := 81) hx hb dJ6_getChars_ba4f3_81 rfl (lv_at hl 1 rfl) ?_
          refine lv_ineg (pc := 82) hx hb dJ6_getChars_ba4f3_82 ?_
          refine va_tb (pc := 83) hx hb (hC.ones.2.narrow hA) hS (gc_last hX9 (Int32.not_le.mpr c_19)) rfl dJ6_getChars_ba4f3_83 ?_
          refine r_bastB (pc := 84) E hC hB hS g_hB (i_in hd_21 (by omega) (by omega)) dJ6_getChars_ba4f3_84 (fun H locs n_ ho hz hS => ?_)
          have hB := n_
          refine lv_iload_n (pc := 85) hx hb dJ6_getChars_ba4f3_85 rfl (lv_at hl 1 rfl) ?_
          refine lv_bipush (pc := 86) (v := (-9)) hx hb dJ6_getChars_ba4f3_86 (by decide) ?_
          refine lv_icmp_ge (pc := 88) (tgt := 104) hx hb dJ6_getChars_ba4f3_88 (by decide) (fun c_22 => ?_) (fun c_22 => ?_)
          · refine lv_iload (pc := 104) hx hb dJ6_getChars_ba4f3_104 (lv_at hl 4 rfl) ?_
            refine lv_if_eq (pc := 106) (tgt := 118) hx hb dJ6_getChars_ba4f3_106 (by decide) (fun c_23 => ?_) (fun c_23 => ?_)
            · exact absurd c_23 (by decide)
            refine lv_aload_n (pc := 109) hx hb dJ6_getChars_ba4f3_109 rfl (lv_at hl 3 rfl) ?_
            obtain ⟨x_24, ex_24⟩ : ∃ z9 : Int32, z9 = x_20 + (-1) := ⟨_, rfl⟩
            refine lv_iinc (pc := 110) (v := x_24) (lv' := [(5, .int x_24), (0, .int X9), (1, .int ix), (2, .ref b), (6, .int 1)]) hx hb dJ6_getChars_ba4f3_110 hl (k := 0) rfl (by rw [ex_24]; rfl) (by decide) rfl (fun ls hl => ?_)
            have hd_25 := i_dn hd_21 (by omega) ex_24
            refine lv_iload (pc := 113) hx hb dJ6_getChars_ba4f3_113 (lv_at hl 0 rfl) ?_
            refine lv_bipush (pc := 115) (v := 45) hx hb dJ6_getChars_ba4f3_115 (by decide) ?_
            refine r_bastB (pc := 117) E hC hB hS g_hB (i_in hd_25 (by omega) (by omega)) dJ6_getChars_ba4f3_117 (fun H locs n_ ho hz hS => ?_)
            have hB := n_
            refine lv_iload (pc := 118) hx hb dJ6_getChars_ba4f3_118 (lv_at hl 0 rfl) ?_
            try rw [hQ]
            refine r_iret (pc := 120) E hr hlk hS (by decide) (by decide) ?_ dJ6_getChars_ba4f3_120
            exact hB
          · have h2k := gc_two hK9 (Int32.not_le.mp c_22)
            refine lv_aload_n (pc := 91) hx hb dJ6_getChars_ba4f3_91 rfl (lv_at hl 3 rfl) ?_
            obtain ⟨x_26, ex_26⟩ : ∃ z9 : Int32, z9 = x_20 + (-1) := ⟨_, rfl⟩
            refine lv_iinc (pc := 92) (v := x_26) (lv' := [(5, .int x_26), (0, .int X9), (1, .int ix), (2, .ref b), (6, .int 1)]) hx hb dJ6_getChars_ba4f3_92 hl (k := 0) rfl (by rw [ex_26]; rfl) (by decide) rfl (fun ls hl => ?_)
            have hd_27 := i_dn hd_21 (by omega) ex_26
            refine lv_iload (pc := 95) hx hb dJ6_getChars_ba4f3_95 (lv_at hl 0 rfl) ?_
            refine va_gets (pc := 97) hx hb (hC.tens.1.narrow hA) hS E.2.2.2.1 (E.2.2.2.2 _ (List.mem_cons_of_mem _ kw_296)) (fun _ h => h) dJ6_getChars_ba4f3_97 ?_
            refine lv_iload_n (pc := 100) hx hb dJ6_getChars_ba4f3_100 rfl (lv_at hl 1 rfl) ?_
            refine lv_ineg (pc := 101) hx hb dJ6_getChars_ba4f3_101 ?_
            refine va_tb (pc := 102) hx hb (hC.tens.2.narrow hA) hS (gc_last hX9 (Int32.not_le.mpr c_19)) rfl dJ6_getChars_ba4f3_102 ?_
            refine r_bastB (pc := 103) E hC hB hS g_hB (i_in hd_27 (by omega) (by omega)) dJ6_getChars_ba4f3_103 (fun H locs n_ ho hz hS => ?_)
            have hB := n_
            refine lv_iload (pc := 104) hx hb dJ6_getChars_ba4f3_104 (lv_at hl 4 rfl) ?_
            refine lv_if_eq (pc := 106) (tgt := 118) hx hb dJ6_getChars_ba4f3_106 (by decide) (fun c_28 => ?_) (fun c_28 => ?_)
            · exact absurd c_28 (by decide)
            refine lv_aload_n (pc := 109) hx hb dJ6_getChars_ba4f3_109 rfl (lv_at hl 3 rfl) ?_
            obtain ⟨x_29, ex_29⟩ : ∃ z9 : Int32, z9 = x_26 + (-1) := ⟨_, rfl⟩
            refine lv_iinc (pc := 110) (v := x_29) (lv' := [(5, .int x_29), (0, .int X9), (1, .int ix), (2, .ref b), (6, .int 1)]) hx hb dJ6_getChars_ba4f3_110 hl (k := 0) rfl (by rw [ex_29]; rfl) (by decide) rfl (fun ls hl => ?_)
            have hd_30 := i_dn hd_27 (by omega) ex_29
            refine lv_iload (pc := 113) hx hb dJ6_getChars_ba4f3_113 (lv_at hl 0 rfl) ?_
            refine lv_bipush (pc := 115) (v := 45) hx hb dJ6_getChars_ba4f3_115 (by decide) ?_
            refine r_bastB (pc := 117) E hC hB hS g_hB (i_in hd_30 (by omega) (by omega)) dJ6_getChars_ba4f3_117 (fun H locs n_ ho hz hS => ?_)
            have hB := n_
            refine lv_iload (pc := 118) hx hb dJ6_getChars_ba4f3_118 (lv_at hl 0 rfl) ?_
            try rw [hQ]
            refine r_iret (pc := 120) E hr hlk hS (by decide) (by decide) ?_ dJ6_getChars_ba4f3_120
            exact hB
        · refine lv_iload_n (pc := 28) hx hb dJ6_getChars_ba4f3_28 rfl (lv_at hl 0 rfl) ?_
          refine lv_bipush (pc := 29) (v := 100) hx hb dJ6_getChars_ba4f3_29 (by decide) ?_
          refine lv_idiv (pc := 31) hx hb dJ6_getChars_ba4f3_31 (by decide) ?_
          obtain ⟨x_31, ex_31⟩ : ∃ z9 : Int32, z9 = X9 / 100 := ⟨_, rfl⟩
          rw [← ex_31]
          refine lv_istore_n (pc := 32) (lv' := [(3, .int x_31), (0, .int X9), (1, .int ix), (2, .ref b), (5, .int y9), (6, .int 1)]) hx hb dJ6_getChars_ba4f3_32 rfl hl (by decide) rfl (fun ls hl => ?_)
          refine lv_iload_n (pc := 33) hx hb dJ6_getChars_ba4f3_33 rfl (lv_at hl 0 rfl) ?_
          refine lv_bipush (pc := 34) (v := 100) hx hb dJ6_getChars_ba4f3_34 (by decide) ?_
          refine lv_imul (pc := 36) hx hb dJ6_getChars_ba4f3_36 ?_
          refine lv_iload_n (pc := 37) hx hb dJ6_getChars_ba4f3_37 rfl (lv_at hl 1 rfl) ?_
          refine lv_isub (pc := 38) hx hb dJ6_getChars_ba4f3_38 ?_
          obtain ⟨x_32, ex_32⟩ : ∃ z9 : Int32, z9 = (x_31 * 100) - X9 := ⟨_, rfl⟩
          rw [← ex_32]
          refine lv_istore (pc := 39) (lv' := [(4, .int x_32), (3, .int x_31), (0, .int X9), (1, .int ix), (2, .ref b), (5, .int y9), (6, .int 1)]) hx hb dJ6_getChars_ba4f3_39 hl (by decide) rfl (fun ls hl => ?_)
          refine lv_iload_n (pc := 41) hx hb dJ6_getChars_ba4f3_41 rfl (lv_at hl 1 rfl) ?_
          refine lv_istore_n (pc := 42) (lv' := [(0, .int x_31), (4, .int x_32), (3, .int x_31), (1, .int ix), (2, .ref b), (5, .int y9), (6, .int 1)]) hx hb dJ6_getChars_ba4f3_42 rfl hl (by decide) rfl (fun ls hl => ?_)
          obtain ⟨hs1, hs2, hs3, hs4⟩ := gc_step hX9 hK9 (Int32.not_lt.mp c_19) ex_31
          rw [← ex_32] at hs4
          refine lv_aload_n (pc := 43) hx hb dJ6_getChars_ba4f3_43 rfl (lv_at hl 4 rfl) ?_
          obtain ⟨x_33, ex_33⟩ : ∃ z9 : Int32, z9 = y9 + (-1) := ⟨_, rfl⟩
          refine lv_iinc (pc := 44) (v := x_33) (lv' := [(5, .int x_33), (0, .int x_31), (4, .int x_32), (3, .int x_31), (1, .int ix), (2, .ref b), (6, .int 1)]) hx hb dJ6_getChars_ba4f3_44 hl (k := 5) rfl (by rw [ex_33]; rfl) (by decide) rfl (fun ls hl => ?_)
          have hd_34 := i_dn hx9 (by omega) ex_33
          refine lv_iload (pc := 47) hx hb dJ6_getChars_ba4f3_47 (lv_at hl 0 rfl) ?_
          refine va_gets (pc := 49) hx hb (hC.ones.1.narrow hA) hS E.2.2.2.1 (E.2.2.2.2 _ (List.mem_cons_of_mem _ kw_294)) (fun _ h => h) dJ6_getChars_ba4f3_49 ?_
          refine lv_iload (pc := 52) hx hb dJ6_getChars_ba4f3_52 (lv_at hl 2 rfl) ?_
          refine va_tb (pc := 54) hx hb (hC.ones.2.narrow hA) hS hs4 rfl dJ6_getChars_ba4f3_54 ?_
          refine r_bastB (pc := 55) E hC hB hS g_hB (i_in hd_34 (by omega) (by omega)) dJ6_getChars_ba4f3_55 (fun H locs n_ ho hz hS => ?_)
          have hB := n_
          refine lv_aload_n (pc := 56) hx hb dJ6_getChars_ba4f3_56 rfl (lv_at hl 5 rfl) ?_
          obtain ⟨x_35, ex_35⟩ : ∃ z9 : Int32, z9 = x_33 + (-1) := ⟨_, rfl⟩
          refine lv_iinc (pc := 57) (v := x_35) (lv' := [(5, .int x_35), (0, .int x_31), (4, .int x_32), (3, .int x_31), (1, .int ix), (2, .ref b), (6, .int 1)]) hx hb dJ6_getChars_ba4f3_57 hl (k := 0) rfl (by rw [ex_35]; rfl) (by decide) rfl (fun ls hl => ?_)
          have hd_36 := i_dn hd_34 (by omega) ex_35
          refine lv_iload (pc := 60) hx hb dJ6_getChars_ba4f3_60 (lv_at hl 0 rfl) ?_
          refine va_gets (pc := 62) hx hb (hC.tens.1.narrow hA) hS E.2.2.2.1 (E.2.2.2.2 _ (List.mem_cons_of_mem _ kw_296)) (fun _ h => h) dJ6_getChars_ba4f3_62 ?_
          refine lv_iload (pc := 65) hx hb dJ6_getChars_ba4f3_65 (lv_at hl 2 rfl) ?_
          refine va_tb (pc := 67) hx hb (hC.tens.2.narrow hA) hS hs4 rfl dJ6_getChars_ba4f3_67 ?_
          refine r_bastB (pc := 68) E hC hB hS g_hB (i_in hd_36 (by omega) (by omega)) dJ6_getChars_ba4f3_68 (fun H locs n_ ho hz hS => ?_)
          have hB := n_
          refine lv_goto (pc := 69) (tgt := 22) hx hb dJ6_getChars_ba4f3_69 (by decide) ?_
          exact ih_22  (kk - 2) (jj - 2)  x_31 x_35 (by omega) hs2 hs3 (by omega) (by omega) (by rw [show jj - 2 = jj - 1 - 1 by omega]; exact hd_36) _ _ _ hS hB (lv_sub hl [1, 4, 5, 0, 6] rfl)
    rw [if_pos (Int32.not_le.mp c_1)] at ht9
    have h0x : x.toInt < 0 := by have := Int32.lt_iff_toInt_lt.mp (Int32.not_le.mp c_1); simpa using this
    exact loop_22 (kd + 1) kd td  x ix (by omega) (by omega) hk9 h19 ⟨ht9, htn⟩ hix _ _ _ hS hB (lv_sub hl [2, 3, 4, 1, 0] rfl)
set_option maxHeartbeats 4000000 in
set_option maxRecDepth 100000 in
/-- java/lang/Long.getChars(JI[B)I -/
theorem c_J13_getChars_11360 (l : Launch) (D : va_G) (tk : Nat → ClassId) (N0 : Nat) (sa : Nat → Nat)  (sz : Nat) (x : Int64) (ix : Int32) (b nb td kd : Nat) (hb9 : N0 ≤ b) (hk9 : x.toInt.natAbs < 10 ^ kd) (h19 : 1 ≤ kd) (ht9 : kd + (if x < 0 then 1 else 0) ≤ td) (htn : td ≤ nb) (hnb : nb < 2 ^ 31) (hix : ix = nI td) : Met l yJ13_getChars_11360 (wsy yJ13_getChars_11360 cJ13_getChars_11360 11 (some .int)) ({ frames := 0, cells := 0, slots := 0, locals := 0 } : Room) (cP D tk N0 sa [.long x, .int ix, .ref b] sz (fun H => BA D tk b nb H)) (kQi (fun r H => BA D tk b nb H) (inA1 b sz)) (0) (0) (inA1 b sz) := by
  refine mStart RJ13 rfl (by decide +kernel) (Nat.le_of_ble_eq_true rfl) ?_
  intro p e s m args below meth c E hr hlk hnm hsz hC hF ls hl
  subst hsz
  obtain ⟨hx, hb, -⟩ := id E
  have hA : ∀ q, (inA1 b s.heap.size) q → N0 ≤ q := fun q h => h.elim (fun z => z ▸ hb9) (fun z => Nat.le_trans hC.2.1 z)
  have hn : ∀ q, s.heap.size ≤ q → (inA1 b s.heap.size) q := fun q h => Or.inr h
  have hS : va_S (inA1 b s.heap.size) s.heap s.heap [] := va_S.rf
  have hl : lv_has ls 11 [(0, .long x), (2, .int ix), (3, .ref b)] := hl
  obtain ⟨Q, hQ⟩ : ∃ Q, Q = MQ below (kQi (fun r H => BA D tk b nb H) (inA1 b s.heap.size)) args s (0) (0) (inA1 b s.heap.size) := ⟨_, rfl⟩
  rw [← hQ]
  have hB : BA D tk b nb s.heap := hF
  have g_hB : (inA1 b s.heap.size) b := Or.inl rfl
  refine lv_iload_n (pc := 0) hx hb dJ13_getChars_11360_0 rfl (lv_at hl 1 rfl) ?_
  refine lv_istore (pc := 1) (lv' := [(7, .int ix), (0, .long x), (2, .int ix), (3, .ref b)]) hx hb dJ13_getChars_11360_1 hl (by decide) rfl (fun ls hl => ?_)
  refine lv_lload_n (pc := 3) hx hb dJ13_getChars_11360_3 rfl (lv_at hl 1 rfl) ?_
  refine lv_lconst (pc := 4) (v := 0) hx hb dJ13_getChars_11360_4 (by decide) ?_
  refine r_lcge (pc := 5) (tgt := 13) E dJ13_getChars_11360_5 dJ13_getChars_11360_6 (by decide) (fun c_1 => ?_) (fun c_1 => ?_)
  · refine lv_iconst (pc := 13) (v := 0) hx hb dJ13_getChars_11360_13 (by decide) ?_
    refine lv_istore (pc := 14) (lv' := [(8, .int 0), (7, .int ix), (0, .long x), (2, .int ix), (3, .ref b)]) hx hb dJ13_getChars_11360_14 hl (by decide) rfl (fun ls hl => ?_)
    refine lv_iload (pc := 16) hx hb dJ13_getChars_11360_16 (lv_at hl 0 rfl) ?_
    refine lv_if_ne (pc := 18) (tgt := 24) hx hb dJ13_getChars_11360_18 (by decide) (fun c_2 => ?_) (fun c_2 => ?_)
    · exact absurd (by decide) c_2
    refine lv_lload_n (pc := 21) hx hb dJ13_getChars_11360_21 rfl (lv_at hl 2 rfl) ?_
    refine lv_lneg (pc := 22) hx hb dJ13_getChars_11360_22 ?_
    obtain ⟨x_3, ex_3⟩ : ∃ z9 : Int64, z9 = -x := ⟨_, rfl⟩
    rw [← ex_3]
    refine lv_lstore_n (pc := 23) (lv' := [(0, .long x_3), (8, .int 0), (7, .int ix), (2, .int ix), (3, .ref b)]) hx hb dJ13_getChars_11360_23 rfl hl (by decide) rfl (fun ls hl => ?_)
    have loop_24 : ∀ (n : Nat) (kk : Nat) (jj : Nat)(X9 : Int64) (y9 : Int32), kk < n → X9.toInt ≤ 0 → X9.toInt.natAbs < 10 ^ kk → 1 ≤ kk → kk + 0 ≤ jj ∧ jj ≤ nb → y9 = nI jj → ∀ (H : Heap) (locs : List Loc) (ls : Array Slot), va_S (inA1 b s.heap.size) s.heap H locs → BA D tk b nb H → lv_has ls 11 [(0, .long X9), (2, .int ix), (3, .ref b), (7, .int y9), (8, .int 0)] → W p l e ({ frames := 0, cells := 0, slots := 0, locals := 0 } : Room) s m args below meth c H locs (0) (0) Q (F0 m 24 ls []) := by
      intro n
      induction n with
      | zero =>
        intro kk jj X9 y9 hf9 hX9 hK9 h19 hj9 hx9 H locs ls hS hB hl
        omega
      | succ n ih_24 =>
        intro kk jj X9 y9 hf9 hX9 hK9 h19 hj9 hx9 H locs ls hS hB hl
        refine lv_lload_n (pc := 24) hx hb dJ13_getChars_11360_24 rfl (lv_at hl 0 rfl) ?_
        refine lv_ldc2 (pc := 25) (v := (-2147483648)) hx hb E.2.2.2.1 (E.2.2.2.2 _ (List.mem_cons_of_mem _ kw_1369)) dJ13_getChars_11360_25 ?_
        refine r_lcgt (pc := 28) (tgt := 82) E dJ13_getChars_11360_28 dJ13_getChars_11360_29 (by decide) (fun c_4 => ?_) (fun c_4 => ?_)
        · refine lv_lload_n (pc := 82) hx hb dJ13_getChars_11360_82 rfl (lv_at hl 0 rfl) ?_
          refine lv_l2i (pc := 83) (v := X9.toInt32) hx hb dJ13_getChars_11360_83 rfl ?_
          obtain ⟨x_5, ex_5⟩ : ∃ z9 : Int32, z9 = X9.toInt32 := ⟨_, rfl⟩
          rw [← ex_5]
          refine lv_istore (pc := 84) (lv' := [(10, .int x_5), (0, .long X9), (2, .int ix), (3, .ref b), (7, .int y9), (8, .int 0)]) hx hb dJ13_getChars_11360_84 hl (by decide) rfl (fun ls hl => ?_)
          have loop_86 : ∀ (n : Nat) (ii : Nat) (ll : Nat)(Z9 : Int32) (w9 : Int32), ii < n → Z9.toInt ≤ 0 → Z9.toInt.natAbs < 10 ^ ii → 1 ≤ ii → ii + 0 ≤ ll ∧ ll ≤ nb → w9 = nI ll → ∀ (H : Heap) (locs : List Loc) (ls : Array Slot), va_S (inA1 b s.heap.size) s.heap H locs → BA D tk b nb H → lv_has ls 11 [(0, .long X9), (2, .int ix), (3, .ref b), (7, .int w9), (8, .int 0), (10, .int Z9)] → W p l e ({ frames := 0, cells := 0, slots := 0, locals := 0 } : Room) s m args below meth c H locs (0) (0) Q (F0 m 86 ls []) := by
            intro n
            induction n with
            | zero =>
              intro ii ll Z9 w9 hf8 hZ9 hL9 h18 hi9 hw9 H locs ls hS hB hl
              omega
            | succ n ih_86 =>
              intro ii ll Z9 w9 hf8 hZ9 hL9 h18 hi9 hw9 H locs ls hS hB hl
              refine lv_iload (pc := 86) hx hb dJ13_getChars_11360_86 (lv_at hl 5 rfl) ?_
              refine lv_bipush (pc := 88) (v := (-100)) hx hb dJ13_getChars_11360_88 (by decide) ?_
              refine lv_icmp_gt (pc := 90) (tgt := 143) hx hb dJ13_getChars_11360_90 (by decide) (fun c_6 => ?_) (fun c_6 => ?_)
              · refine lv_aload_n (pc := 143) hx hb dJ13_getChars_11360_143 rfl (lv_at hl 2 rfl) ?_
                obtain ⟨x_7, ex_7⟩ : ∃ z9 : Int32, z9 = w9 + (-1) := ⟨_, rfl⟩
                refine lv_iinc (pc := 144) (v := x_7) (lv' := [(7, .int x_7), (0, .long X9), (2, .int ix), (3, .ref b), (8, .int 0), (10, .int Z9)]) hx hb dJ13_getChars_11360_144 hl (k := 3) rfl (by rw [ex_7]; rfl) (by decide) rfl (fun ls hl => ?_)
                have hd_8 := i_dn hw9 (by omega) ex_7
                refine lv_iload (pc := 147) hx hb dJ13_getChars_11360_147 (lv_at hl 0 rfl) ?_
                refine va_gets (pc := 149) hx hb (hC.ones.1.narrow hA) hS E.2.2.2.1 (E.2.2.2.2 _ (List.mem_cons_of_mem _ kw_1371)) (fun _ h => h) dJ13_getChars_11360_149 ?_
                refine lv_iload (pc := 152) hx hb dJ13_getChars_11360_152 (lv_at hl 5 rfl) ?_
                refine lv_ineg (pc := 154) hx hb dJ13_getChars_11360_154 ?_
                refine va_tb (pc := 155) hx hb (hC.ones.2.narrow hA) hS (gc_last hZ9 (Int32.not_le.mpr c_6)) rfl dJ13_getChars_11360_155 ?_
                refine r_bastB (pc := 156) E hC hB hS g_hB (i_in hd_8 (by omega) (by omega)) dJ13_getChars_11360_156 (fun H locs n_ ho hz hS => ?_)
                have hB := n_
                refine lv_iload (pc := 157) hx hb dJ13_getChars_11360_157 (lv_at hl 5 rfl) ?_
                refine lv_bipush (pc := 159) (v := (-9)) hx hb dJ13_getChars_11360_159 (by decide) ?_
                refine lv_icmp_ge (pc := 161) (tgt := 178) hx hb dJ13_getChars_11360_161 (by decide) (fun c_9 => ?_) (fun c_9 => ?_)
                · refine lv_iload (pc := 178) hx hb dJ13_getChars_11360_178 (lv_at hl 4 rfl) ?_
                  refine lv_if_eq (pc := 180) (tgt := 192) hx hb dJ13_getChars_11360_180 (by decide) (fun c_10 => ?_) (fun c_10 => ?_)
                  rotate_left
                  · exact absurd (by decide) c_10
                  refine lv_iload (pc := 192) hx hb dJ13_getChars_11360_192 (lv_at hl 0 rfl) ?_
                  try rw [hQ]
                  refine r_iret (pc := 194) E hr hlk hS (by decide) (by decide) ?_ dJ13_getChars_11360_194
                  exact hB
                · have h2k := gc_two hL9 (Int32.not_le.mp c_9)
                  refine lv_aload_n (pc := 164) hx hb dJ13_getChars_11360_164 rfl (lv_at hl 3 rfl) ?_
                  obtain ⟨x_11, ex_11⟩ : ∃ z9 : Int32, z9 = x_7 + (-1) := ⟨_, rfl⟩
                  refine lv_iinc (pc := 165) (v := x_11) (lv' := [(7, .int x_11), (0, .long X9), (2, .int ix), (3, .ref b), (8, .int 0), (10, .int Z9)]) hx hb dJ13_getChars_11360_165 hl (k := 0) rfl (by rw [ex_11]; rfl) (by decide) rfl (fun ls hl => ?_)
                  have hd_12 := i_dn hd_8 (by omega) ex_11
                  refine lv_iload (pc := 168) hx hb dJ13_getChars_11360_168 (lv_at hl 0 rfl) ?_
                  refine va_gets (pc := 170) hx hb (hC.tens.1.narrow hA) hS E.2.2.2.1 (E.2.2.2.2 _ (List.mem_cons_of_mem _ kw_1372)) (fun _ h => h) dJ13_getChars_11360_170 ?_
                  refine lv_iload (pc := 173) hx hb dJ13_getChars_11360_173 (lv_at hl 5 rfl) ?_
                  refine lv_ineg (pc := 175) hx hb dJ13_getChars_11360_175 ?_
                  refine va_tb (pc := 176) hx hb (hC.tens.2.narrow hA) hS (gc_last hZ9 (Int32.not_le.mpr c_6)) rfl dJ13_getChars_11360_176 ?_
                  refine r_bastB (pc := 177) E hC hB hS g_hB (i_in hd_12 (by omega) (by omega)) dJ13_getChars_11360_177 (fun H locs n_ ho hz hS => ?_)
                  have hB := n_
                  refine lv_iload (pc := 178) hx hb dJ13_getChars_11360_178 (lv_at hl 4 rfl) ?_
                  refine lv_if_eq (pc := 180) (tgt := 192) hx hb dJ13_getChars_11360_180 (by decide) (fun c_13 => ?_) (fun c_13 => ?_)
                  rotate_left
                  · exact absurd (by decide) c_13
                  refine lv_iload (pc := 192) hx hb dJ13_getChars_11360_192 (lv_at hl 0 rfl) ?_
                  try rw [hQ]
                  refine r_iret (pc := 194) E hr hlk hS (by decide) (by decide) ?_ dJ13_getChars_11360_194
                  exact hB
              · refine lv_iload (pc := 93) hx hb dJ13_getChars_11360_93 (lv_at hl 5 rfl) ?_
                refine lv_bipush (pc := 95) (v := 100) hx hb dJ13_getChars_11360_95 (by decide) ?_
                refine lv_idiv (pc := 97) hx hb dJ13_getChars_11360_97 (by decide) ?_
                obtain ⟨x_14, ex_14⟩ : ∃ z9 : Int32, z9 = Z9 / 100 := ⟨_, rfl⟩
                rw [← ex_14]
                refine lv_istore (pc := 98) (lv' := [(9, .int x_14), (0, .long X9), (2, .int ix), (3, .ref b), (7, .int w9), (8, .int 0), (10, .int Z9)]) hx hb dJ13_getChars_11360_98 hl (by decide) rfl (fun ls hl => ?_)
                refine lv_iload (pc := 100) hx hb dJ13_getChars_11360_100 (lv_at hl 0 rfl) ?_
                refine lv_bipush (pc := 102) (v := 100) hx hb dJ13_getChars_11360_102 (by decide) ?_
                refine lv_imul (pc := 104) hx hb dJ13_getChars_11360_104 ?_
                refine lv_iload (pc := 105) hx hb dJ13_getChars_11360_105 (lv_at hl 6 rfl) ?_
                refine lv_isub (pc := 107) hx hb dJ13_getChars_11360_107 ?_
                obtain ⟨x_15, ex_15⟩ : ∃ z9 : Int32, z9 = (x_14 * 100) - Z9 := ⟨_, rfl⟩
                rw [← ex_15]
                refine lv_istore (pc := 108) (lv' := [(6, .int x_15), (9, .int x_14), (0, .long X9), (2, .int ix), (3, .ref b), (7, .int w9), (8, .int 0), (10, .int Z9)]) hx hb dJ13_getChars_11360_108 hl (by decide) rfl (fun ls hl => ?_)
                refine lv_iload (pc := 110) hx hb dJ13_getChars_11360_110 (lv_at hl 1 rfl) ?_
                refine lv_istore (pc := 112) (lv' := [(10, .int x_14), (6, .int x_15), (9, .int x_14), (0, .long X9), (2, .int ix), (3, .ref b), (7, .int w9), (8, .int 0)]) hx hb dJ13_getChars_11360_112 hl (by decide) rfl (fun ls hl => ?_)
                obtain ⟨hs1, hs2, hs3, hs4⟩ := gc_step hZ9 hL9 (Int32.not_lt.mp c_6) ex_14
                rw [← ex_15] at hs4
                refine lv_aload_n (pc := 114) hx hb dJ13_getChars_11360_114 rfl (lv_at hl 5 rfl) ?_
                obtain ⟨x_16, ex_16⟩ : ∃ z9 : Int32, z9 = w9 + (-1) := ⟨_, rfl⟩
                refine lv_iinc (pc := 115) (v := x_16) (lv' := [(7, .int x_16), (10, .int x_14), (6, .int x_15), (9, .int x_14), (0, .long X9), (2, .int ix), (3, .ref b), (8, .int 0)]) hx hb dJ13_getChars_11360_115 hl (k := 6) rfl (by rw [ex_16]; rfl) (by decide) rfl (fun ls hl => ?_)
                have hd_17 := i_dn hw9 (by omega) ex_16
                refine lv_iload (pc := 118) hx hb dJ13_getChars_11360_118 (lv_at hl 0 rfl) ?_
                refine va_gets (pc := 120) hx hb (hC.ones.1.narrow hA) hS E.2.2.2.1 (E.2.2.2.2 _ (List.mem_cons_of_mem _ kw_1371)) (fun _ h => h) dJ13_getChars_11360_120 ?_
                refine lv_iload (pc := 123) hx hb dJ13_getChars_11360_123 (lv_at hl 2 rfl) ?_
                refine va_tb (pc := 125) hx hb (hC.ones.2.narrow hA) hS hs4 rfl dJ13_getChars_11360_125 ?_
                refine r_bastB (pc := 126) E hC hB hS g_hB (i_in hd_17 (by omega) (by omega)) dJ13_getChars_11360_126 (fun H locs n_ ho hz hS => ?_)
                have hB := n_
                refine lv_aload_n (pc := 127) hx hb dJ13_getChars_11360_127 rfl (lv_at hl 6 rfl) ?_
                obtain ⟨x_18, ex_18⟩ : ∃ z9 : Int32, z9 = x_16 + (-1) := ⟨_, rfl⟩
                refine lv_iinc (pc := 128) (v := x_18) (lv' := [(7, .int x_18), (10, .int x_14), (6, .int x_15), (9, .int x_14), (0, .long X9), (2, .int ix), (3, .ref b), (8, .int 0)]) hx hb dJ13_getChars_11360_128 hl (k := 0) rfl (by rw [ex_18]; rfl) (by decide) rfl (fun ls hl => ?_)
                have hd_19 := i_dn hd_17 (by omega) ex_18
                refine lv_iload (pc := 131) hx hb dJ13_getChars_11360_131 (lv_at hl 0 rfl) ?_
                refine va_gets (pc := 133) hx hb (hC.tens.1.narrow hA) hS E.2.2.2.1 (E.2.2.2.2 _ (List.mem_cons_of_mem _ kw_1372)) (fun _ h => h) dJ13_getChars_11360_133 ?_
                refine lv_iload (pc := 136) hx hb dJ13_getChars_11360_136 (lv_at hl 2 rfl) ?_
                refine va_tb (pc := 138) hx hb (hC.tens.2.narrow hA) hS hs4 rfl dJ13_getChars_11360_138 ?_
                refine r_bastB (pc := 139) E hC hB hS g_hB (i_in hd_19 (by omega) (by omega)) dJ13_getChars_11360_139 (fun H locs n_ ho hz hS => ?_)
                have hB := n_
                refine lv_goto (pc := 140) (tgt := 86) hx hb dJ13_getChars_11360_140 (by decide) ?_
                exact ih_86  (ii - 2) (ll - 2)  x_14 x_18 (by omega) hs2 hs3 (by omega) (by omega) (by rw [show ll - 2 = ll - 1 - 1 by omega]; exact hd_19) _ _ _ hS hB (lv_sub hl [4, 5, 6, 0, 7, 1] rfl)
          obtain ⟨hz1, hz2⟩ := gcJ_int hX9 (Int64.not_le.mpr c_4) hK9
          rw [← ex_5] at hz1 hz2
          exact loop_86 (kk + 1) kk jj  x_5 y9 (by omega) hz1 hz2 h19 hj9 hx9 _ _ _ hS hB (lv_sub hl [1, 2, 3, 4, 5, 0] rfl)
        · refine lv_lload_n (pc := 32) hx hb dJ13_getChars_11360_32 rfl (lv_at hl 0 rfl) ?_
          refine lv_ldc2 (pc := 33) (v := 100) hx hb E.2.2.2.1 (E.2.2.2.2 _ (List.mem_cons_of_mem _ kw_1370)) dJ13_getChars_11360_33 ?_
          refine lv_ldiv (pc := 36) hx hb dJ13_getChars_11360_36 (by decide) ?_
          obtain ⟨x_20, ex_20⟩ : ∃ z9 : Int64, z9 = X9 / 100 := ⟨_, rfl⟩
          rw [← ex_20]
          refine lv_lstore (pc := 37) (lv' := [(4, .long x_20), (0, .long X9), (2, .int ix), (3, .ref b), (7, .int y9), (8, .int 0)]) hx hb dJ13_getChars_11360_37 hl (by decide) rfl (fun ls hl => ?_)
          refine lv_lload (pc := 39) hx hb dJ13_getChars_11360_39 (lv_at hl 0 rfl) ?_
          refine lv_ldc2 (pc := 41) (v := 100) hx hb E.2.2.2.1 (E.2.2.2.2 _ (List.mem_cons_of_mem _ kw_1370)) dJ13_getChars_11360_41 ?_
          refine lv_lmul (pc := 44) hx hb dJ13_getChars_11360_44 ?_
          refine lv_lload_n (pc := 45) hx hb dJ13_getChars_11360_45 rfl (lv_at hl 1 rfl) ?_
          refine lv_lsub (pc := 46) hx hb dJ13_getChars_11360_46 ?_
          refine lv_l2i (pc := 47) (v := ((x_20 * 100) - X9).toInt32) hx hb dJ13_getChars_11360_47 rfl ?_
          obtain ⟨x_21, ex_21⟩ : ∃ z9 : Int32, z9 = ((x_20 * 100) - X9).toInt32 := ⟨_, rfl⟩
          rw [← ex_21]
          refine lv_istore (pc := 48) (lv' := [(6, .int x_21), (4, .long x_20), (0, .long X9), (2, .int ix), (3, .ref b), (7, .int y9), (8, .int 0)]) hx hb dJ13_getChars_11360_48 hl (by decide) rfl (fun ls hl => ?_)
          refine lv_lload (pc := 50) hx hb dJ13_getChars_11360_50 (lv_at hl 1 rfl) ?_
          refine lv_lstore_n (pc := 52) (lv' := [(0, .long x_20), (6, .int x_21), (4, .long x_20), (2, .int ix), (3, .ref b), (7, .int y9), (8, .int 0)]) hx hb dJ13_getChars_11360_52 rfl hl (by decide) rfl (fun ls hl => ?_)
          obtain ⟨hs1, hs2, hs3, hs4⟩ := gcJ_step hX9 hK9 (Int64.not_lt.mp c_4) ex_20
          rw [← ex_21] at hs4
          refine lv_aload_n (pc := 53) hx hb dJ13_getChars_11360_53 rfl (lv_at hl 4 rfl) ?_
          obtain ⟨x_22, ex_22⟩ : ∃ z9 : Int32, z9 = y9 + (-1) := ⟨_, rfl⟩
          refine lv_iinc (pc := 54) (v := x_22) (lv' := [(7, .int x_22), (0, .long x_20), (6, .int x_21), (4, .long x_20), (2, .int ix), (3, .ref b), (8, .int 0)]) hx hb dJ13_getChars_11360_54 hl (k := 5) rfl (by rw [ex_22]; rfl) (by decide) rfl (fun ls hl => ?_)
          have hd_23 := i_dn hx9 (by omega) ex_22
          refine lv_iload (pc := 57) hx hb dJ13_getChars_11360_57 (lv_at hl 0 rfl) ?_
          refine va_gets (pc := 59) hx hb (hC.ones.1.narrow hA) hS E.2.2.2.1 (E.2.2.2.2 _ (List.mem_cons_of_mem _ kw_1371)) (fun _ h => h) dJ13_getChars_11360_59 ?_
          refine lv_iload (pc := 62) hx hb dJ13_getChars_11360_62 (lv_at hl 2 rfl) ?_
          refine va_tb (pc := 64) hx hb (hC.ones.2.narrow hA) hS hs4 rfl dJ13_getChars_11360_64 ?_
          refine r_bastB (pc := 65) E hC hB hS g_hB (i_in hd_23 (by omega) (by omega)) dJ13_getChars_11360_65 (fun H locs n_ ho hz hS => ?_)
          have hB := n_
          refine lv_aload_n (pc := 66) hx hb dJ13_getChars_11360_66 rfl (lv_at hl 5 rfl) ?_
          obtain ⟨x_24, ex_24⟩ : ∃ z9 : Int32, z9 = x_22 + (-1) := ⟨_, rfl⟩
          refine lv_iinc (pc := 67) (v := x_24) (lv' := [(7, .int x_24), (0, .long x_20), (6, .int x_21), (4, .long x_20), (2, .int ix), (3, .ref b), (8, .int 0)]) hx hb dJ13_getChars_11360_67 hl (k := 0) rfl (by rw [ex_24]; rfl) (by decide) rfl (fun ls hl => ?_)
          have hd_25 := i_dn hd_23 (by omega) ex_24
          refine lv_iload (pc := 70) hx hb dJ13_getChars_11360_70 (lv_at hl 0 rfl) ?_
          refine va_gets (pc := 72) hx hb (hC.tens.1.narrow hA) hS E.2.2.2.1 (E.2.2.2.2 _ (List.mem_cons_of_mem _ kw_1372)) (fun _ h => h) dJ13_getChars_11360_72 ?_
          refine lv_iload (pc := 75) hx hb dJ13_getChars_11360_75 (lv_at hl 2 rfl) ?_
          refine va_tb (pc := 77) hx hb (hC.tens.2.narrow hA) hS hs4 rfl dJ13_getChars_11360_77 ?_
          refine r_bastB (pc := 78) E hC hB hS g_hB (i_in hd_25 (by omega) (by omega)) dJ13_getChars_11360_78 (fun H locs n_ ho hz hS => ?_)
          have hB := n_
          refine lv_goto (pc := 79) (tgt := 24) hx hb dJ13_getChars_11360_79 (by decide) ?_
          exact ih_24  (kk - 2) (jj - 2)  x_20 x_24 (by omega) hs2 hs3 (by omega) (by omega) (by rw [show jj - 2 = jj - 1 - 1 by omega]; exact hd_25) _ _ _ hS hB (lv_sub hl [1, 4, 5, 0, 6] rfl)
    have hneg := ss_negJ (Int64.not_lt.mpr c_1)
    rw [← ex_3] at hneg
    rw [if_neg (Int64.not_lt.mpr c_1)] at ht9
    have h0x : 0 ≤ x.toInt := by have := Int64.le_iff_toInt_le.mp c_1; simpa using this
    exact loop_24 (kd + 1) kd td  x_3 ix (by omega) (by omega) (by rw [hneg, Int.natAbs_neg]; exact hk9) h19 ⟨ht9, htn⟩ hix _ _ _ hS hB (lv_sub hl [0, 3, 4, 2, 1] rfl)
  · refine lv_iconst (pc := 9) (v := 1) hx hb dJ13_getChars_11360_9 (by decide) ?_
    refine lv_goto (pc := 10) (tgt := 14) hx hb dJ13_getChars_11360_10 (by decide) ?_
    refine lv_istore (pc := 14) (lv' := [(8, .int 1), (7, .int ix), (0, .long x), (2, .int ix), (3, .ref b)]) hx hb dJ13_getChars_11360_14 hl (by decide) rfl (fun ls hl => ?_)
    refine lv_iload (pc := 16) hx hb dJ13_getChars_11360_16 (lv_at hl 0 rfl) ?_
    refine lv_if_ne (pc := 18) (tgt := 24) hx hb dJ13_getChars_11360_18 (by decide) (fun c_26 => ?_) (fun c_26 => ?_)
    rotate_left
    · exact absurd c_26 (by decide)
    have loop_24 : ∀ (n : Nat) (kk : Nat) (jj : Nat)(X9 : Int64) (y9 : Int32), kk < n → X9.toInt ≤ 0 → X9.toInt.natAbs < 10 ^ kk → 1 ≤ kk → kk + 1 ≤ jj ∧ jj ≤ nb → y9 = nI jj → ∀ (H : Heap) (locs : List Loc) (ls : Array Slot), va_S (inA1 b s.heap.size) s.heap H locs → BA D tk b nb H → lv_has ls 11 [(0, .long X9), (2, .int ix), (3, .ref b), (7, .int y9), (8, .int 1)] → W p l e ({ frames := 0, cells := 0, slots := 0, locals := 0 } : Room) s m args below meth c H locs (0) (0) Q (F0 m 24 ls []) := by
      intro n
      induction n with
      | zero =>
        intro kk jj X9 y9 hf9 hX9 hK9 h19 hj9 hx9 H locs ls hS hB hl
        omega
      | succ n ih_24 =>
        intro kk jj X9 y9 hf9 hX9 hK9 h19 hj9 hx9 H locs ls hS hB hl
        refine lv_lload_n (pc := 24) hx hb dJ13_getChars_11360_24 rfl (lv_at hl 0 rfl) ?_
        refine lv_ldc2 (pc := 25) (v := (-2147483648)) hx hb E.2.2.2.1 (E.2.2.2.2 _ (List.mem_cons_of_mem _ kw_1369)) dJ13_getChars_11360_25 ?_
        refine r_lcgt (pc := 28) (tgt := 82) E dJ13_getChars_11360_28 dJ13_getChars_11360_29 (by decide) (fun c_27 => ?_) (fun c_27 => ?_)
        · refine lv_lload_n (pc := 82) hx hb dJ13_getChars_11360_82 rfl (lv_at hl 0 rfl) ?_
          refine lv_l2i (pc := 83) (v := X9.toInt32) hx hb dJ13_getChars_11360_83 rfl ?_
          obtain ⟨x_28, ex_28⟩ : ∃ z9 : Int32, z9 = X9.toInt32 := ⟨_, rfl⟩
          rw [← ex_28]
          refine lv_istore (pc := 84) (lv' := [(10, .int x_28), (0, .long X9), (2, .int ix), (3, .ref b), (7, .int y9), (8, .int 1)]) hx hb dJ13_getChars_11360_84 hl (by decide) rfl (fun ls hl => ?_)
          have loop_86 : ∀ (n : Nat) (ii : Nat) (ll : Nat)(Z9 : Int32) (w9 : Int32), ii < n → Z9.toInt ≤ 0 → Z9.toInt.natAbs < 10 ^ ii → 1 ≤ ii → ii + 1 ≤ ll ∧ ll ≤ nb → w9 = nI ll → ∀ (H : Heap) (locs : List Loc) (ls : Array Slot), va_S (inA1 b s.heap.size) s.heap H locs → BA D tk b nb H → lv_has ls 11 [(0, .long X9), (2, .int ix), (3, .ref b), (7, .int w9), (8, .int 1), (10, .int Z9)] → W p l e ({ frames := 0, cells := 0, slots := 0, locals := 0 } : Room) s m args below meth c H locs (0) (0) Q (F0 m 86 ls []) := by
            intro n
            induction n with
            | zero =>
              intro ii ll Z9 w9 hf8 hZ9 hL9 h18 hi9 hw9 H locs ls hS hB hl
              omega
            | succ n ih_86 =>
              intro ii ll Z9 w9 hf8 hZ9 hL9 h18 hi9 hw9 H locs ls hS hB hl
              refine lv_iload (pc := 86) hx hb dJ13_getChars_11360_86 (lv_at hl 5 rfl) ?_
              refine lv_bipush (pc := 88) (v := (-100)) hx hb dJ13_getChars_11360_88 (by decide) ?_
              refine lv_icmp_gt (pc := 90) (tgt := 143) hx hb dJ13_getChars_11360_90 (by decide) (fun c_29 => ?_) (fun c_29 => ?_)
              · refine lv_aload_n (pc := 143) hx hb dJ13_getChars_11360_143 rfl (lv_at hl 2 rfl) ?_
                obtain ⟨x_30, ex_30⟩ : ∃ z9 : Int32, z9 = w9 + (-1) := ⟨_, rfl⟩
                refine lv_iinc (pc := 144) (v := x_30) (lv' := [(7, .int x_30), (0, .long X9), (2, .int ix), (3, .ref b), (8, .int 1), (10, .int Z9)]) hx hb dJ13_getChars_11360_144 hl (k := 3) rfl (by rw [ex_30]; rfl) (by decide) rfl (fun ls hl => ?_)
                have hd_31 := i_dn hw9 (by omega) ex_30
                refine lv_iload (pc := 147) hx hb dJ13_getChars_11360_147 (lv_at hl 0 rfl) ?_
                refine va_gets (pc := 149) hx hb (hC.ones.1.narrow hA) hS E.2.2.2.1 (E.2.2.2.2 _ (List.mem_cons_of_mem _ kw_1371)) (fun _ h => h) dJ13_getChars_11360_149 ?_
                refine lv_iload (pc := 152) hx hb dJ13_getChars_11360_152 (lv_at hl 5 rfl) ?_
                refine lv_ineg (pc := 154) hx hb dJ13_getChars_11360_154 ?_
                refine va_tb (pc := 155) hx hb (hC.ones.2.narrow hA) hS (gc_last hZ9 (Int32.not_le.mpr c_29)) rfl dJ13_getChars_11360_155 ?_
                refine r_bastB (pc := 156) E hC hB hS g_hB (i_in hd_31 (by omega) (by omega)) dJ13_getChars_11360_156 (fun H locs n_ ho hz hS => ?_)
                have hB := n_
                refine lv_iload (pc := 157) hx hb dJ13_getChars_11360_157 (lv_at hl 5 rfl) ?_
                refine lv_bipush (pc := 159) (v := (-9)) hx hb dJ13_getChars_11360_159 (by decide) ?_
                refine lv_icmp_ge (pc := 161) (tgt := 178) hx hb dJ13_getChars_11360_161 (by decide) (fun c_32 => ?_) (fun c_32 => ?_)
                · refine lv_iload (pc := 178) hx hb dJ13_getChars_11360_178 (lv_at hl 4 rfl) ?_
                  refine lv_if_eq (pc := 180) (tgt := 192) hx hb dJ13_getChars_11360_180 (by decide) (fun c_33 => ?_) (fun c_33 => ?_)
                  · exact absurd c_33 (by decide)
                  refine lv_aload_n (pc := 183) hx hb dJ13_getChars_11360_183 rfl (lv_at hl 3 rfl) ?_
                  obtain ⟨x_34, ex_34⟩ : ∃ z9 : Int32, z9 = x_30 + (-1) := ⟨_, rfl⟩
                  refine lv_iinc (pc := 184) (v := x_34) (lv' := [(7, .int x_34), (0, .long X9), (2, .int ix), (3, .ref b), (8, .int 1), (10, .int Z9)]) hx hb dJ13_getChars_11360_184 hl (k := 0) rfl (by rw [ex_34]; rfl) (by decide) rfl (fun ls hl => ?_)
                  have hd_35 := i_dn hd_31 (by omega) ex_34
                  refine lv_iload (pc := 187) hx hb dJ13_getChars_11360_187 (lv_at hl 0 rfl) ?_
                  refine lv_bipush (pc := 189) (v := 45) hx hb dJ13_getChars_11360_189 (by decide) ?_
                  refine r_bastB (pc := 191) E hC hB hS g_hB (i_in hd_35 (by omega) (by omega)) dJ13_getChars_11360_191 (fun H locs n_ ho hz hS => ?_)
                  have hB := n_
                  refine lv_iload (pc := 192) hx hb dJ13_getChars_11360_192 (lv_at hl 0 rfl) ?_
                  try rw [hQ]
                  refine r_iret (pc := 194) E hr hlk hS (by decide) (by decide) ?_ dJ13_getChars_11360_194
                  exact hB
                · have h2k := gc_two hL9 (Int32.not_le.mp c_32)
                  refine lv_aload_n (pc := 164) hx hb dJ13_getChars_11360_164 rfl (lv_at hl 3 rfl) ?_
                  obtain ⟨x_36, ex_36⟩ : ∃ z9 : Int32, z9 = x_30 + (-1) := ⟨_, rfl⟩
                  refine lv_iinc (pc := 165) (v := x_36) (lv' := [(7, .int x_36), (0, .long X9), (2, .int ix), (3, .ref b), (8, .int 1), (10, .int Z9)]) hx hb dJ13_getChars_11360_165 hl (k := 0) rfl (by rw [ex_36]; rfl) (by decide) rfl (fun ls hl => ?_)
                  have hd_37 := i_dn hd_31 (by omega) ex_36
                  refine lv_iload (pc := 168) hx hb dJ13_getChars_11360_168 (lv_at hl 0 rfl) ?_
                  refine va_gets (pc := 170) hx hb (hC.tens.1.narrow hA) hS E.2.2.2.1 (E.2.2.2.2 _ (List.mem_cons_of_mem _ kw_1372)) (fun _ h => h) dJ13_getChars_11360_170 ?_
                  refine lv_iload (pc := 173) hx hb dJ13_getChars_11360_173 (lv_at hl 5 rfl) ?_
                  refine lv_ineg (pc := 175) hx hb dJ13_getChars_11360_175 ?_
                  refine va_tb (pc := 176) hx hb (hC.tens.2.narrow hA) hS (gc_last hZ9 (Int32.not_le.mpr c_29)) rfl dJ13_getChars_11360_176 ?_
                  refine r_bastB (pc := 177) E hC hB hS g_hB (i_in hd_37 (by omega) (by omega)) dJ13_getChars_11360_177 (fun H locs n_ ho hz hS => ?_)
                  have hB := n_
                  refine lv_iload (pc := 178) hx hb dJ13_getChars_11360_178 (lv_at hl 4 rfl) ?_
                  refine lv_if_eq (pc := 180) (tgt := 192) hx hb dJ13_getChars_11360_180 (by decide) (fun c_38 => ?_) (fun c_38 => ?_)
                  · exact absurd c_38 (by decide)
                  refine lv_aload_n (pc := 183) hx hb dJ13_getChars_11360_183 rfl (lv_at hl 3 rfl) ?_
                  obtain ⟨x_39, ex_39⟩ : ∃ z9 : Int32, z9 = x_36 + (-1) := ⟨_, rfl⟩
                  refine lv_iinc (pc := 184) (v := x_39) (lv' := [(7, .int x_39), (0, .long X9), (2, .int ix), (3, .ref b), (8, .int 1), (10, .int Z9)]) hx hb dJ13_getChars_11360_184 hl (k := 0) rfl (by rw [ex_39]; rfl) (by decide) rfl (fun ls hl => ?_)
                  have hd_40 := i_dn hd_37 (by omega) ex_39
                  refine lv_iload (pc := 187) hx hb dJ13_getChars_11360_187 (lv_at hl 0 rfl) ?_
                  refine lv_bipush (pc := 189) (v := 45) hx hb dJ13_getChars_11360_189 (by decide) ?_
                  refine r_bastB (pc := 191) E hC hB hS g_hB (i_in hd_40 (by omega) (by omega)) dJ13_getChars_11360_191 (fun H locs n_ ho hz hS => ?_)
                  have hB := n_
                  refine lv_iload (pc := 192) hx hb dJ13_getChars_11360_192 (lv_at hl 0 rfl) ?_
                  try rw [hQ]
                  refine r_iret (pc := 194) E hr hlk hS (by decide) (by decide) ?_ dJ13_getChars_11360_194
                  exact hB
              · refine lv_iload (pc := 93) hx hb dJ13_getChars_11360_93 (lv_at hl 5 rfl) ?_
                refine lv_bipush (pc := 95) (v := 100) hx hb dJ13_getChars_11360_95 (by decide) ?_
                refine lv_idiv (pc := 97) hx hb dJ13_getChars_11360_97 (by decide) ?_
                obtain ⟨x_41, ex_41⟩ : ∃ z9 : Int32, z9 = Z9 / 100 := ⟨_, rfl⟩
                rw [← ex_41]
                refine lv_istore (pc := 98) (lv' := [(9, .int x_41), (0, .long X9), (2, .int ix), (3, .ref b), (7, .int w9), (8, .int 1), (10, .int Z9)]) hx hb dJ13_getChars_11360_98 hl (by decide) rfl (fun ls hl => ?_)
                refine lv_iload (pc := 100) hx hb dJ13_getChars_11360_100 (lv_at hl 0 rfl) ?_
                refine lv_bipush (pc := 102) (v := 100) hx hb dJ13_getChars_11360_102 (by decide) ?_
                refine lv_imul (pc := 104) hx hb dJ13_getChars_11360_104 ?_
                refine lv_iload (pc := 105) hx hb dJ13_getChars_11360_105 (lv_at hl 6 rfl) ?_
                refine lv_isub (pc := 107) hx hb dJ13_getChars_11360_107 ?_
                obtain ⟨x_42, ex_42⟩ : ∃ z9 : Int32, z9 = (x_41 * 100) - Z9 := ⟨_, rfl⟩
                rw [← ex_42]
                refine lv_istore (pc := 108) (lv' := [(6, .int x_42), (9, .int x_41), (0, .long X9), (2, .int ix), (3, .ref b), (7, .int w9), (8, .int 1), (10, .int Z9)]) hx hb dJ13_getChars_11360_108 hl (by decide) rfl (fun ls hl => ?_)
                refine lv_iload (pc := 110) hx hb dJ13_getChars_11360_110 (lv_at hl 1 rfl) ?_
                refine lv_istore (pc := 112) (lv' := [(10, .int x_41), (6, .int x_42), (9, .int x_41), (0, .long X9), (2, .int ix), (3, .ref b), (7, .int w9), (8, .int 1)]) hx hb dJ13_getChars_11360_112 hl (by decide) rfl (fun ls hl => ?_)
                obtain ⟨hs1, hs2, hs3, hs4⟩ := gc_step hZ9 hL9 (Int32.not_lt.mp c_29) ex_41
                rw [← ex_42] at hs4
                refine lv_aload_n (pc := 114) hx hb dJ13_getChars_11360_114 rfl (lv_at hl 5 rfl) ?_
                obtain ⟨x_43, ex_43⟩ : ∃ z9 : Int32, z9 = w9 + (-1) := ⟨_, rfl⟩
                refine lv_iinc (pc := 115) (v := x_43) (lv' := [(7, .int x_43), (10, .int x_41), (6, .int x_42), (9, .int x_41), (0, .long X9), (2, .int ix), (3, .ref b), (8, .int 1)]) hx hb dJ13_getChars_11360_115 hl (k := 6) rfl (by rw [ex_43]; rfl) (by decide) rfl (fun ls hl => ?_)
                have hd_44 := i_dn hw9 (by omega) ex_43
                refine lv_iload (pc := 118) hx hb dJ13_getChars_11360_118 (lv_at hl 0 rfl) ?_
                refine va_gets (pc := 120) hx hb (hC.ones.1.narrow hA) hS E.2.2.2.1 (E.2.2.2.2 _ (List.mem_cons_of_mem _ kw_1371)) (fun _ h => h) dJ13_getChars_11360_120 ?_
                refine lv_iload (pc := 123) hx hb dJ13_getChars_11360_123 (lv_at hl 2 rfl) ?_
                refine va_tb (pc := 125) hx hb (hC.ones.2.narrow hA) hS hs4 rfl dJ13_getChars_11360_125 ?_
                refine r_bastB (pc := 126) E hC hB hS g_hB (i_in hd_44 (by omega) (by omega)) dJ13_getChars_11360_126 (fun H locs n_ ho hz hS => ?_)
                have hB := n_
                refine lv_aload_n (pc := 127) hx hb dJ13_getChars_11360_127 rfl (lv_at hl 6 rfl) ?_
                obtain ⟨x_45, ex_45⟩ : ∃ z9 : Int32, z9 = x_43 + (-1) := ⟨_, rfl⟩
                refine lv_iinc (pc := 128) (v := x_45) (lv' := [(7, .int x_45), (10, .int x_41), (6, .int x_42), (9, .int x_41), (0, .long X9), (2, .int ix), (3, .ref b), (8, .int 1)]) hx hb dJ13_getChars_11360_128 hl (k := 0) rfl (by rw [ex_45]; rfl) (by decide) rfl (fun ls hl => ?_)
                have hd_46 := i_dn hd_44 (by omega) ex_45
                refine lv_iload (pc := 131) hx hb dJ13_getChars_11360_131 (lv_at hl 0 rfl) ?_
                refine va_gets (pc := 133) hx hb (hC.tens.1.narrow hA) hS E.2.2.2.1 (E.2.2.2.2 _ (List.mem_cons_of_mem _ kw_1372)) (fun _ h => h) dJ13_getChars_11360_133 ?_
                refine lv_iload (pc := 136) hx hb dJ13_getChars_11360_136 (lv_at hl 2 rfl) ?_
                refine va_tb (pc := 138) hx hb (hC.tens.2.narrow hA) hS hs4 rfl dJ13_getChars_11360_138 ?_
                refine r_bastB (pc := 139) E hC hB hS g_hB (i_in hd_46 (by omega) (by omega)) dJ13_getChars_11360_139 (fun H locs n_ ho hz hS => ?_)
                have hB := n_
                refine lv_goto (pc := 140) (tgt := 86) hx hb dJ13_getChars_11360_140 (by decide) ?_
                exact ih_86  (ii - 2) (ll - 2)  x_41 x_45 (by omega) hs2 hs3 (by omega) (by omega) (by rw [show ll - 2 = ll - 1 - 1 by omega]; exact hd_46) _ _ _ hS hB (lv_sub hl [4, 5, 6, 0, 7, 1] rfl)
          obtain ⟨hz1, hz2⟩ := gcJ_int hX9 (Int64.not_le.mpr c_27) hK9
          rw [← ex_28] at hz1 hz2
          exact loop_86 (kk + 1) kk jj  x_28 y9 (by omega) hz1 hz2 h19 hj9 hx9 _ _ _ hS hB (lv_sub hl [1, 2, 3, 4, 5, 0] rfl)
        · refine lv_lload_n (pc := 32) hx hb dJ13_getChars_11360_32 rfl (lv_at hl 0 rfl) ?_
          refine lv_ldc2 (pc := 33) (v := 100) hx hb E.2.2.2.1 (E.2.2.2.2 _ (List.mem_cons_of_mem _ kw_1370)) dJ13_getChars_11360_33 ?_
          refine lv_ldiv (pc := 36) hx hb dJ13_getChars_11360_36 (by decide) ?_
          obtain ⟨x_47, ex_47⟩ : ∃ z9 : Int64, z9 = X9 / 100 := ⟨_, rfl⟩
          rw [← ex_47]
          refine lv_lstore (pc := 37) (lv' := [(4, .long x_47), (0, .long X9), (2, .int ix), (3, .ref b), (7, .int y9), (8, .int 1)]) hx hb dJ13_getChars_11360_37 hl (by decide) rfl (fun ls hl => ?_)
          refine lv_lload (pc := 39) hx hb dJ13_getChars_11360_39 (lv_at hl 0 rfl) ?_
          refine lv_ldc2 (pc := 41) (v := 100) hx hb E.2.2.2.1 (E.2.2.2.2 _ (List.mem_cons_of_mem _ kw_1370)) dJ13_getChars_11360_41 ?_
          refine lv_lmul (pc := 44) hx hb dJ13_getChars_11360_44 ?_
          refine lv_lload_n (pc := 45) hx hb dJ13_getChars_11360_45 rfl (lv_at hl 1 rfl) ?_
          refine lv_lsub (pc := 46) hx hb dJ13_getChars_11360_46 ?_
          refine lv_l2i (pc := 47) (v := ((x_47 * 100) - X9).toInt32) hx hb dJ13_getChars_11360_47 rfl ?_
          obtain ⟨x_48, ex_48⟩ : ∃ z9 : Int32, z9 = ((x_47 * 100) - X9).toInt32 := ⟨_, rfl⟩
          rw [← ex_48]
          refine lv_istore (pc := 48) (lv' := [(6, .int x_48), (4, .long x_47), (0, .long X9), (2, .int ix), (3, .ref b), (7, .int y9), (8, .int 1)]) hx hb dJ13_getChars_11360_48 hl (by decide) rfl (fun ls hl => ?_)
          refine lv_lload (pc := 50) hx hb dJ13_getChars_11360_50 (lv_at hl 1 rfl) ?_
          refine lv_lstore_n (pc := 52) (lv' := [(0, .long x_47), (6, .int x_48), (4, .long x_47), (2, .int ix), (3, .ref b), (7, .int y9), (8, .int 1)]) hx hb dJ13_getChars_11360_52 rfl hl (by decide) rfl (fun ls hl => ?_)
          obtain ⟨hs1, hs2, hs3, hs4⟩ := gcJ_step hX9 hK9 (Int64.not_lt.mp c_27) ex_47
          rw [← ex_48] at hs4
          refine lv_aload_n (pc := 53) hx hb dJ13_getChars_11360_53 rfl (lv_at hl 4 rfl) ?_
          obtain ⟨x_49, ex_49⟩ : ∃ z9 : Int32, z9 = y9 + (-1) := ⟨_, rfl⟩
          refine lv_iinc (pc := 54) (v := x_49) (lv' := [(7, .int x_49), (0, .long x_47), (6, .int x_48), (4, .long x_47), (2, .int ix), (3, .ref b), (8, .int 1)]) hx hb dJ13_getChars_11360_54 hl (k := 5) rfl (by rw [ex_49]; rfl) (by decide) rfl (fun ls hl => ?_)
          have hd_50 := i_dn hx9 (by omega) ex_49
          refine lv_iload (pc := 57) hx hb dJ13_getChars_11360_57 (lv_at hl 0 rfl) ?_
          refine va_gets (pc := 59) hx hb (hC.ones.1.narrow hA) hS E.2.2.2.1 (E.2.2.2.2 _ (List.mem_cons_of_mem _ kw_1371)) (fun _ h => h) dJ13_getChars_11360_59 ?_
          refine lv_iload (pc := 62) hx hb dJ13_getChars_11360_62 (lv_at hl 2 rfl) ?_
          refine va_tb (pc := 64) hx hb (hC.ones.2.narrow hA) hS hs4 rfl dJ13_getChars_11360_64 ?_
          refine r_bastB (pc := 65) E hC hB hS g_hB (i_in hd_50 (by omega) (by omega)) dJ13_getChars_11360_65 (fun H locs n_ ho hz hS => ?_)
          have hB := n_
          refine lv_aload_n (pc := 66) hx hb dJ13_getChars_11360_66 rfl (lv_at hl 5 rfl) ?_
          obtain ⟨x_51, ex_51⟩ : ∃ z9 : Int32, z9 = x_49 + (-1) := ⟨_, rfl⟩
          refine lv_iinc (pc := 67) (v := x_51) (lv' := [(7, .int x_51), (0, .long x_47), (6, .int x_48), (4, .long x_47), (2, .int ix), (3, .ref b), (8, .int 1)]) hx hb dJ13_getChars_11360_67 hl (k := 0) rfl (by rw [ex_51]; rfl) (by decide) rfl (fun ls hl => ?_)
          have hd_52 := i_dn hd_50 (by omega) ex_51
          refine lv_iload (pc := 70) hx hb dJ13_getChars_11360_70 (lv_at hl 0 rfl) ?_
          refine va_gets (pc := 72) hx hb (hC.tens.1.narrow hA) hS E.2.2.2.1 (E.2.2.2.2 _ (List.mem_cons_of_mem _ kw_1372)) (fun _ h => h) dJ13_getChars_11360_72 ?_
          refine lv_iload (pc := 75) hx hb dJ13_getChars_11360_75 (lv_at hl 2 rfl) ?_
          refine va_tb (pc := 77) hx hb (hC.tens.2.narrow hA) hS hs4 rfl dJ13_getChars_11360_77 ?_
          refine r_bastB (pc := 78) E hC hB hS g_hB (i_in hd_52 (by omega) (by omega)) dJ13_getChars_11360_78 (fun H locs n_ ho hz hS => ?_)
          have hB := n_
          refine lv_goto (pc := 79) (tgt := 24) hx hb dJ13_getChars_11360_79 (by decide) ?_
          exact ih_24  (kk - 2) (jj - 2)  x_47 x_51 (by omega) hs2 hs3 (by omega) (by omega) (by rw [show jj - 2 = jj - 1 - 1 by omega]; exact hd_52) _ _ _ hS hB (lv_sub hl [1, 4, 5, 0, 6] rfl)
    rw [if_pos (Int64.not_le.mp c_1)] at ht9
    have h0x : x.toInt < 0 := by have := Int64.lt_iff_toInt_lt.mp (Int64.not_le.mp c_1); simpa using this
    exact loop_24 (kd + 1) kd td  x ix (by omega) (by omega) hk9 h19 ⟨ht9, htn⟩ hix _ _ _ hS hB (lv_sub hl [2, 3, 4, 1, 0] rfl)
set_option maxHeartbeats 4000000 in
set_option maxRecDepth 100000 in
/-- java/lang/AbstractStringBuilder.isLatin1()Z -/
theorem c_J5_isLatin1_aae02 (l : Launch) (D : va_G) (tk : Nat → ClassId) (N0 : Nat) (sa : Nat → Nat)  (sz : Nat) (a v cap : Nat) (ml cn : Int32)  : Met l yJ5_isLatin1_aae02 (wsy yJ5_isLatin1_aae02 cJ5_isLatin1_aae02 1 (some .boolean)) ({ frames := 0, cells := 0, slots := 0, locals := 0 } : Room) (cP D tk N0 sa [.ref a] sz (fun H => SBo D a v ml cn H ∧ BA D tk v cap H)) (kQi (fun r H => r = 1) (nwA sz)) (0) (0) (nwA sz) := by
  refine mStart RJ5 rfl (by decide +kernel) (Nat.le_of_ble_eq_true rfl) ?_
  intro p e s m args below meth c E hr hlk hnm hsz hC hF ls hl
  subst hsz
  obtain ⟨hx, hb, -⟩ := id E
  have hA : ∀ q, (nwA s.heap.size) q → N0 ≤ q := fun q h => Nat.le_trans hC.2.1 h
  have hn : ∀ q, s.heap.size ≤ q → (nwA s.heap.size) q := fun q h => h
  have hS : va_S (nwA s.heap.size) s.heap s.heap [] := va_S.rf
  have hl : lv_has ls 1 [(0, .ref a)] := hl
  obtain ⟨f0, hB⟩ : SBo D a v ml cn s.heap ∧ BA D tk v cap s.heap := hF
  refine va_gets (pc := 0) hx hb (hC.cs.narrow hA) hS E.2.2.2.1 (E.2.2.2.2 _ (List.mem_cons_of_mem _ kw_158)) (fun _ h => h) dJ5_isLatin1_aae02_0 ?_
  refine lv_if_eq (pc := 3) (tgt := 17) hx hb dJ5_isLatin1_aae02_3 (by decide) (fun c_1 => ?_) (fun c_1 => ?_)
  · exact absurd c_1 (by decide)
  refine lv_aload_n (pc := 6) hx hb dJ5_isLatin1_aae02_6 rfl (lv_at hl 0 rfl) ?_
  refine r_get (pc := 7) E hC f0 1 (v := .int 0) rfl rfl (by decide) uJ4 (List.mem_cons_of_mem _ kw_168) (fun _ h => h) dJ5_isLatin1_aae02_7 ?_
  refine lv_if_ne (pc := 10) (tgt := 17) hx hb dJ5_isLatin1_aae02_10 (by decide) (fun c_2 => ?_) (fun c_2 => ?_)
  · exact absurd (by decide) c_2
  refine lv_iconst (pc := 13) (v := 1) hx hb dJ5_isLatin1_aae02_13 (by decide) ?_
  refine lv_goto (pc := 14) (tgt := 18) hx hb dJ5_isLatin1_aae02_14 (by decide) ?_
  refine r_zret (pc := 18) E hr hlk hS (by decide) (by decide) rfl ?_ dJ5_isLatin1_aae02_18
  rfl
set_option maxHeartbeats 4000000 in
set_option maxRecDepth 100000 in
/-- java/lang/AbstractStringBuilder.length()I -/
theorem c_J5_length_8abf5 (l : Launch) (D : va_G) (tk : Nat → ClassId) (N0 : Nat) (sa : Nat → Nat)  (sz : Nat) (a v cap : Nat) (ml cn : Int32)  : Met l yJ5_length_8abf5 (wsy yJ5_length_8abf5 cJ5_length_8abf5 1 (some .int)) ({ frames := 0, cells := 0, slots := 0, locals := 0 } : Room) (cP D tk N0 sa [.ref a] sz (fun H => SBo D a v ml cn H ∧ BA D tk v cap H)) (kQi (fun r H => r = cn) (nwA sz)) (0) (0) (nwA sz) := by
  refine mStart RJ5 rfl (by decide +kernel) (Nat.le_of_ble_eq_true rfl) ?_
  intro p e s m args below meth c E hr hlk hnm hsz hC hF ls hl
  subst hsz
  obtain ⟨hx, hb, -⟩ := id E
  have hA : ∀ q, (nwA s.heap.size) q → N0 ≤ q := fun q h => Nat.le_trans hC.2.1 h
  have hn : ∀ q, s.heap.size ≤ q → (nwA s.heap.size) q := fun q h => h
  have hS : va_S (nwA s.heap.size) s.heap s.heap [] := va_S.rf
  have hl : lv_has ls 1 [(0, .ref a)] := hl
  obtain ⟨f0, hB⟩ : SBo D a v ml cn s.heap ∧ BA D tk v cap s.heap := hF
  refine lv_aload_n (pc := 0) hx hb dJ5_length_8abf5_0 rfl (lv_at hl 0 rfl) ?_
  refine r_get (pc := 1) E hC f0 3 (v := .int cn) rfl rfl (by decide) uJ4 (List.mem_cons_of_mem _ kw_171) (fun _ h => h) dJ5_length_8abf5_1 ?_
  refine r_iret (pc := 4) E hr hlk hS (by decide) (by decide) ?_ dJ5_length_8abf5_4
  rfl
set_option maxHeartbeats 4000000 in
set_option maxRecDepth 100000 in
/-- java/lang/AbstractStringBuilder.newCapacity(I)I -/
theorem c_J5_newCapacity_0f7a4 (l : Launch) (D : va_G) (tk : Nat → ClassId) (N0 : Nat) (sa : Nat → Nat)  (sz : Nat) (a v cap : Nat) (ml cn : Int32) (mn : Int32) (mk : Nat) (hmk : mn = nI mk) (hcap : cap ≤ 1000000) (hmk9 : mk ≤ 1000000) (hlt9 : cap < mk) : Met l yJ5_newCapacity_0f7a4 (wsy yJ5_newCapacity_0f7a4 cJ5_newCapacity_0f7a4 6 (some .int)) ({ frames := 2, cells := 0, slots := 0, locals := 44 } : Room) (cP D tk N0 sa [.ref a, .int mn] sz (fun H => SBo D a v ml cn H ∧ BA D tk v cap H)) (kQi (fun r H => r = nI (max mk (2 * cap + 2))) (nwA sz)) (0) (0) (nwA sz) := by
  refine mStart RJ5 rfl (by decide +kernel) (Nat.le_of_ble_eq_true rfl) ?_
  intro p e s m args below meth c E hr hlk hnm hsz hC hF ls hl
  subst hsz
  obtain ⟨hx, hb, -⟩ := id E
  have hA : ∀ q, (nwA s.heap.size) q → N0 ≤ q := fun q h => Nat.le_trans hC.2.1 h
  have hn : ∀ q, s.heap.size ≤ q → (nwA s.heap.size) q := fun q h => h
  have hS : va_S (nwA s.heap.size) s.heap s.heap [] := va_S.rf
  have hl : lv_has ls 6 [(0, .ref a), (1, .int mn)] := hl
  obtain ⟨f0, hB⟩ : SBo D a v ml cn s.heap ∧ BA D tk v cap s.heap := hF
  refine lv_aload_n (pc := 0) hx hb dJ5_newCapacity_0f7a4_0 rfl (lv_at hl 0 rfl) ?_
  refine r_get (pc := 1) E hC f0 0 (v := .ref v) rfl rfl (by decide) uJ4 (List.mem_cons_of_mem _ kw_167) (fun _ h => h) dJ5_newCapacity_0f7a4_1 ?_
  obtain ⟨x_1, ex_1⟩ : ∃ z9 : Int32, z9 = nI cap := ⟨_, rfl⟩
  refine r_alenB (pc := 4) E hC hB ex_1.symm dJ5_newCapacity_0f7a4_4 ?_
  refine lv_istore_n (pc := 5) (lv' := [(2, .int x_1), (0, .ref a), (1, .int mn)]) hx hb dJ5_newCapacity_0f7a4_5 rfl hl (by decide) rfl (fun ls hl => ?_)
  refine lv_iload_n (pc := 6) hx hb dJ5_newCapacity_0f7a4_6 rfl (lv_at hl 2 rfl) ?_
  refine lv_aload_n (pc := 7) hx hb dJ5_newCapacity_0f7a4_7 rfl (lv_at hl 1 rfl) ?_
  refine r_get (pc := 8) E hC f0 1 (v := .int 0) rfl rfl (by decide) uJ4 (List.mem_cons_of_mem _ kw_168) (fun _ h => h) dJ5_newCapacity_0f7a4_8 ?_
  refine lv_ishl (pc := 11) hx hb dJ5_newCapacity_0f7a4_11 ?_
  obtain ⟨x_2, ex_2⟩ : ∃ z9 : Int32, z9 = mn <<< (0 &&& 31) := ⟨_, rfl⟩
  rw [← ex_2]
  refine lv_istore_n (pc := 12) (lv' := [(3, .int x_2), (2, .int x_1), (0, .ref a), (1, .int mn)]) hx hb dJ5_newCapacity_0f7a4_12 rfl hl (by decide) rfl (fun ls hl => ?_)
  refine lv_iload_n (pc := 13) hx hb dJ5_newCapacity_0f7a4_13 rfl (lv_at hl 0 rfl) ?_
  refine lv_iload_n (pc := 14) hx hb dJ5_newCapacity_0f7a4_14 rfl (lv_at hl 1 rfl) ?_
  refine lv_isub (pc := 15) hx hb dJ5_newCapacity_0f7a4_15 ?_
  obtain ⟨x_3, ex_3⟩ : ∃ z9 : Int32, z9 = x_2 - x_1 := ⟨_, rfl⟩
  rw [← ex_3]
  refine lv_istore (pc := 16) (lv' := [(4, .int x_3), (3, .int x_2), (2, .int x_1), (0, .ref a), (1, .int mn)]) hx hb dJ5_newCapacity_0f7a4_16 hl (by decide) rfl (fun ls hl => ?_)
  refine lv_iload_n (pc := 18) hx hb dJ5_newCapacity_0f7a4_18 rfl (lv_at hl 2 rfl) ?_
  refine lv_iload (pc := 19) hx hb dJ5_newCapacity_0f7a4_19 (lv_at hl 0 rfl) ?_
  refine lv_iload_n (pc := 21) hx hb dJ5_newCapacity_0f7a4_21 rfl (lv_at hl 2 rfl) ?_
  refine lv_iconst (pc := 22) (v := 2) hx hb dJ5_newCapacity_0f7a4_22 (by decide) ?_
  refine lv_aload_n (pc := 23) hx hb dJ5_newCapacity_0f7a4_23 rfl (lv_at hl 3 rfl) ?_
  refine r_get (pc := 24) E hC f0 1 (v := .int 0) rfl rfl (by decide) uJ4 (List.mem_cons_of_mem _ kw_168) (fun _ h => h) dJ5_newCapacity_0f7a4_24 ?_
  refine lv_ishl (pc := 27) hx hb dJ5_newCapacity_0f7a4_27 ?_
  refine lv_iadd (pc := 28) hx hb dJ5_newCapacity_0f7a4_28 ?_
  have hq0 := nc_len (y := x_1 + ((2 : Int32) <<< ((0 : Int32) &&& 31))) ex_1.symm.symm hmk ex_2 ex_3 rfl hcap hmk9 hlt9
  obtain ⟨hq1, hq2, hq3⟩ := nc_pos (k := max mk (2 * cap + 2)) (by omega) (by omega)
  have hq4 : 0 < x_1 + f_max x_3 (x_1 + ((2 : Int32) <<< ((0 : Int32) &&& 31))) := by rw [hq0]; exact hq1
  have hq5 : x_1 + f_max x_3 (x_1 + ((2 : Int32) <<< ((0 : Int32) &&& 31))) ≤ 2147483639 := by rw [hq0]; exact hq2
  refine k_i (pc := 29) (k_S E hC hS hA hl.1 (c_J8_newLength_cabcc l D tk N0 sa s.heap.size x_1 x_3 (x_1 + ((2 : Int32) <<< ((0 : Int32) &&& 31))) (by assumption) (by assumption)) kw_197 kw_198 kw_23 kw_199 (n := 3) (by decide +kernel) rfl ⟨⟨rfl, rfl⟩, ⟨by decide, by decide⟩, by decide, by decide⟩ rfl (Nat.le_of_ble_eq_true rfl) trivial dJ5_newCapacity_0f7a4_29) hS (fun q z w => absurd w (Nat.not_le.mpr z)) hn (fun r_4 H locs hR hz hk hS => ?_)
  have er_4 := hR
  have f0 := f0.new hk
  have hB := hB.kept (hk _ hB.lt (Nat.not_le.mpr hB.lt))
  refine lv_istore (pc := 32) (lv' := [(5, .int r_4), (4, .int x_3), (3, .int x_2), (2, .int x_1), (0, .ref a), (1, .int mn)]) hx hb dJ5_newCapacity_0f7a4_32 hl (by decide) rfl (fun ls hl => ?_)
  refine lv_iload (pc := 34) hx hb dJ5_newCapacity_0f7a4_34 (lv_at hl 0 rfl) ?_
  refine lv_ldc (pc := 36) (v := 2147483647) hx hb E.2.2.2.1 (E.2.2.2.2 _ (List.mem_cons_of_mem _ kw_207)) dJ5_newCapacity_0f7a4_36 ?_
  refine lv_icmp_ne (pc := 38) (tgt := 51) hx hb dJ5_newCapacity_0f7a4_38 (by decide) (fun c_6 => ?_) (fun c_6 => ?_)
  rotate_left
  · exact absurd c_6 (fun z => hq3 (by rw [← hq0, ← er_4]; exact z))
  refine lv_iload (pc := 51) hx hb dJ5_newCapacity_0f7a4_51 (lv_at hl 0 rfl) ?_
  refine lv_aload_n (pc := 53) hx hb dJ5_newCapacity_0f7a4_53 rfl (lv_at hl 4 rfl) ?_
  refine r_get (pc := 54) E hC f0 1 (v := .int 0) rfl rfl (by decide) uJ4 (List.mem_cons_of_mem _ kw_168) (fun _ h => h) dJ5_newCapacity_0f7a4_54 ?_
  refine lv_ishr (pc := 57) hx hb dJ5_newCapacity_0f7a4_57 ?_
  refine r_iret (pc := 58) E hr hlk hS (by decide) (by decide) ?_ dJ5_newCapacity_0f7a4_58
  show r_4 >>> ((0 : Int32) &&& 31) = _
  rw [show ((0 : Int32) &&& 31) = 0 from by decide, Int32.shiftRight_zero, er_4, hq0]
set_option maxHeartbeats 4000000 in
set_option maxRecDepth 100000 in
/-- java/lang/AbstractStringBuilder.<init>(I)V -/
theorem c_J5_init_d00df (l : Launch) (D : va_G) (tk : Nat → ClassId) (N0 : Nat) (sa : Nat → Nat)  (sz : Nat) (a : Nat) (ha9 : N0 ≤ a) : Met l yJ5_init_d00df (wsy yJ5_init_d00df cJ5_init_d00df 2 none) ({ frames := 1, cells := 1, slots := 16, locals := 20 } : Room) (cP D tk N0 sa [.ref a, .int 16] sz (fun H => c1 D a (.inr (1, [.null, .int 0, .int 0, .int 0])) H)) (kQv (fun H => ∃ v, sz ≤ v ∧ SBo D a v 0 0 H ∧ BA D tk v 16 H) (inA1 a sz)) (1) (16) (inA1 a sz) := by
  refine mStart RJ5 rfl (by decide +kernel) (Nat.le_of_ble_eq_true rfl) ?_
  intro p e s m args below meth c E hr hlk hnm hsz hC hF ls hl
  subst hsz
  obtain ⟨hx, hb, -⟩ := id E
  have hA : ∀ q, (inA1 a s.heap.size) q → N0 ≤ q := fun q h => h.elim (fun z => z ▸ ha9) (fun z => Nat.le_trans hC.2.1 z)
  have hn : ∀ q, s.heap.size ≤ q → (inA1 a s.heap.size) q := fun q h => Or.inr h
  have hS : va_S (inA1 a s.heap.size) s.heap s.heap [] := va_S.rf
  have hl : lv_has ls 2 [(0, .ref a), (1, .int 16)] := hl
  have f0 : c1 D a (.inr (1, [.null, .int 0, .int 0, .int 0])) s.heap := hF
  have g_f0 : (inA1 a s.heap.size) a := Or.inl rfl
  refine lv_aload_n (pc := 0) hx hb dJ5_init_d00df_0 rfl (lv_at hl 0 rfl) ?_
  refine r_oinit (pc := 1) E hl.1 kw_157 (Nat.le_of_ble_eq_true rfl) (by decide) (by decide) dJ5_init_d00df_1 ?_
  refine va_gets (pc := 4) hx hb (hC.cs.narrow hA) hS E.2.2.2.1 (E.2.2.2.2 _ (List.mem_cons_of_mem _ kw_158)) (fun _ h => h) dJ5_init_d00df_4 ?_
  refine lv_if_eq (pc := 7) (tgt := 25) hx hb dJ5_init_d00df_7 (by decide) (fun c_1 => ?_) (fun c_1 => ?_)
  · exact absurd c_1 (by decide)
  refine lv_aload_n (pc := 10) hx hb dJ5_init_d00df_10 rfl (lv_at hl 0 rfl) ?_
  refine lv_iload_n (pc := 11) hx hb dJ5_init_d00df_11 rfl (lv_at hl 1 rfl) ?_
  have hS0_ := hS
  refine r_newb (pc := 12) E hC hS (N := 16) (by decide) (by decide) (by decide) (by decide) (by decide) dJ5_init_d00df_12 (fun qhB H zq_ n_ ho_ hS => ?_)
  have l_f0_hB : a < qhB := zq_ ▸ f0.lt
  have f0 := f0.kept (ho_ _ f0.lt)
  have hB := n_
  have s_hB : s.heap.size ≤ qhB := zq_ ▸ hS0_.1
  have g_hB := hn _ s_hB
  refine r_put (pc := 14) E hC f0 hS g_f0 0 tyJ4 tyJ4_ok nmJ4 rfl (by decide) (Nat.le_of_ble_eq_true rfl) uJ4 (List.mem_cons_of_mem _ kw_167) (fun _ h => h) rfl rfl rfl dJ5_init_d00df_14 (fun H locs n_ ho hz hS => ?_)
  have f0 : c1 D a (.inr (1, [.ref qhB, .int 0, .int 0, .int 0])) H := n_
  have hB := hB.kept (ho _ (Nat.ne_of_gt l_f0_hB))
  refine lv_aload_n (pc := 17) hx hb dJ5_init_d00df_17 rfl (lv_at hl 0 rfl) ?_
  refine lv_iconst (pc := 18) (v := 0) hx hb dJ5_init_d00df_18 (by decide) ?_
  refine r_put (pc := 19) E hC f0 hS g_f0 1 tyJ4 tyJ4_ok nmJ4 rfl (by decide) (Nat.le_of_ble_eq_true rfl) uJ4 (List.mem_cons_of_mem _ kw_168) (fun _ h => h) rfl rfl rfl dJ5_init_d00df_19 (fun H locs n_ ho hz hS => ?_)
  have f0 : c1 D a (.inr (1, [.ref qhB, .int 0, .int 0, .int 0])) H := n_
  have hB := hB.kept (ho _ (Nat.ne_of_gt l_f0_hB))
  refine lv_goto (pc := 22) (tgt := 38) hx hb dJ5_init_d00df_22 (by decide) ?_
  refine r_vret (pc := 38) E hr hlk hS (by decide) (by decide) ?_ dJ5_init_d00df_38
  exact ⟨_, s_hB, f0, hB⟩
set_option maxHeartbeats 4000000 in
set_option maxRecDepth 100000 in
/-- java/lang/StringBuilder.<init>()V -/
theorem c_J4_init_da8c8 (l : Launch) (D : va_G) (tk : Nat → ClassId) (N0 : Nat) (sa : Nat → Nat)  (sz : Nat) (a : Nat) (ha9 : N0 ≤ a) : Met l yJ4_init_da8c8 (wsy yJ4_init_da8c8 cJ4_init_da8c8 1 none) ({ frames := 2, cells := 1, slots := 16, locals := 41 } : Room) (cP D tk N0 sa [.ref a] sz (fun H => c1 D a (.inr (1, [.null, .int 0, .int 0, .int 0])) H)) (kQv (fun H => ∃ v, sz ≤ v ∧ SBo D a v 0 0 H ∧ BA D tk v 16 H) (inA1 a sz)) (1) (16) (inA1 a sz) := by
  refine mStart RJ4 rfl (by decide +kernel) (Nat.le_of_ble_eq_true rfl) ?_
  intro p e s m args below meth c E hr hlk hnm hsz hC hF ls hl
  subst hsz
  obtain ⟨hx, hb, -⟩ := id E
  have hA : ∀ q, (inA1 a s.heap.size) q → N0 ≤ q := fun q h => h.elim (fun z => z ▸ ha9) (fun z => Nat.le_trans hC.2.1 z)
  have hn : ∀ q, s.heap.size ≤ q → (inA1 a s.heap.size) q := fun q h => Or.inr h
  have hS : va_S (inA1 a s.heap.size) s.heap s.heap [] := va_S.rf
  have hl : lv_has ls 1 [(0, .ref a)] := hl
  have f0 : c1 D a (.inr (1, [.null, .int 0, .int 0, .int 0])) s.heap := hF
  have g_f0 : (inA1 a s.heap.size) a := Or.inl rfl
  refine lv_aload_n (pc := 0) hx hb dJ4_init_da8c8_0 rfl (lv_at hl 0 rfl) ?_
  refine lv_bipush (pc := 1) (v := 16) hx hb dJ4_init_da8c8_1 (by decide) ?_
  refine k_v (pc := 3) (k_I E hC hS hA hl.1 (c_J5_init_d00df l D tk N0 sa s.heap.size a (hA _ g_f0)) kw_154 kw_155 kw_18 kw_156 rfl (n := 1) (by decide +kernel) rfl ⟨⟨rfl, rfl⟩, ⟨by decide, by decide⟩, by decide, by decide⟩ rfl (Nat.le_of_ble_eq_true rfl) f0 dJ4_init_da8c8_3) hS (inA1.to g_f0) hn (fun H locs hR hz hk hS => ?_)
  obtain ⟨qhB, z_, f0, hB⟩ := hR
  refine r_vret (pc := 6) E hr hlk hS (by decide) (by decide) ?_ dJ4_init_da8c8_6
  exact ⟨_, z_, f0, hB⟩
/-! ===== heap facts that constants and made cells share; cells of different classes are apart ===== -/
theorem BA.bx {D : va_G} {tk : Nat → ClassId} {b n : Nat} {H : Heap} (h : BA D tk b n H) : BX tk b n H := by
  obtain ⟨f, hf, h⟩ := h
  have h : H[b]? = some (vp_cell (tk 1) (n, .inl f)) := h
  rw [vp_cell_i] at h
  exact ⟨f, _, hf, h, Or.inl rfl, rfl, (fun z => by cases z), Nat.le_of_eq (arrV_size _ _ _).symm, by rw [arrV_size], fun j hj => by rw [arrV_read _ _ hj]⟩
/-- a field of an object, whatever else it holds -/
def xf (D : va_G) (ci a k : Nat) (v : Value) (H : Heap) : Prop := ∃ cell : Cell, H[a]? = some cell ∧ cell.cls = D.1 ci ∧ cell.vm.isStatics = false ∧ cell.vm ≠ .unknown ∧ cell.slots[D.2 ci k]? = some v
theorem xf.kept {D : va_G} {ci a k : Nat} {v : Value} {H H1 : Heap} (h : xf D ci a k v H) (hq : H1[a]? = H[a]?) : xf D ci a k v H1 := h.elim fun c z => ⟨c, hq.trans z.1, z.2⟩
theorem xf.lt {D : va_G} {ci a k : Nat} {v : Value} {H : Heap} (h : xf D ci a k v H) : a < H.size := h.elim fun _ z => (Array.getElem?_eq_some_iff.mp z.1).1
theorem c1.xf {D : va_G} {a ci : Nat} {fs : List Value} {H : Heap} (h : c1 D a (.inr (ci, fs)) H) {q : vw_C} (hc : vwCl[ci]? = some q) (k : Nat) (hk : k < q.2.2) {v : Value} (hv : fs[k]? = some v) : xf D ci a k v H := by
  obtain ⟨r, h1, cell, q1, q2, q3, q4⟩ := h
  have hr : r = q := Option.some.inj (h1.symm.trans hc)
  subst hr
  refine ⟨cell, q1, q2, by rw [q3]; rfl, by rw [q3]; exact (fun z => by cases z), ?_⟩
  have := q4 k hk
  rw [this]
  simp [vp_V, hv]
/-- a String at a of n letters, all Latin-1, its bytes at b: a constant or made -/
def SX (D : va_G) (tk : Nat → ClassId) (a n : Nat) (H : Heap) : Prop := ∃ b : Nat, xf D 0 a 0 (.ref b) H ∧ xf D 0 a 1 (.int 0) H ∧ BX tk b n H
theorem SX.kept {D : va_G} {tk : Nat → ClassId} {a n : Nat} {P : Nat → Prop} {H H1 : Heap} (h : SX D tk a n H) (hq : ∀ q : Nat, q < H.size → ¬ P q → H1[q]? = H[q]?) (ha : ¬ P a) (hb : ∀ b n, BX tk b n H → ¬ P b) : SX D tk a n H1 := by
  obtain ⟨b, h1, h2, h3⟩ := h
  exact ⟨b, h1.kept (hq _ h1.lt ha), h2.kept (hq _ h2.lt ha), h3.kept (hq _ h3.lt (hb b n h3))⟩
theorem SX.new {D : va_G} {tk : Nat → ClassId} {a n : Nat} {H H1 : Heap} (h : SX D tk a n H) (hk : ∀ q : Nat, q < H.size → ¬ nwA H.size q → H1[q]? = H[q]?) : SX D tk a n H1 := by
  obtain ⟨b, h1, h2, h3⟩ := h
  exact ⟨b, h1.kept (hk _ h1.lt (Nat.not_le.mpr h1.lt)), h2.kept (hk _ h2.lt (Nat.not_le.mpr h2.lt)), h3.kept (hk _ h3.lt (Nat.not_le.mpr h3.lt))⟩
theorem SX.lt {D : va_G} {tk : Nat → ClassId} {a n : Nat} {H : Heap} (h : SX D tk a n H) : a < H.size := h.elim fun _ z => z.1.lt
/-- a made String -/
abbrev SM (D : va_G) (tk : Nat → ClassId) (a b n : Nat) (H : Heap) : Prop := c1 D a (.inr (0, [.ref b, .int 0, .int 0, .int 0])) H ∧ BA D tk b n H
theorem SM.sx {D : va_G} {tk : Nat → ClassId} {a b n : Nat} {H : Heap} (h : SM D tk a b n H) : SX D tk a n H := ⟨b, h.1.xf rfl 0 (by decide) rfl, h.1.xf rfl 1 (by decide) rfl, h.2.bx⟩
/-- whose class -/
def clA (b : Nat) (c : ClassId) (H : Heap) : Prop := ∃ cell : Cell, H[b]? = some cell ∧ cell.cls = c
theorem clA.ne {a b : Nat} {c d : ClassId} {H : Heap} (h1 : clA a c H) (h2 : clA b d H) (hne : c ≠ d) : a ≠ b := by
  intro e
  subst e
  obtain ⟨x, p1, p2⟩ := h1
  obtain ⟨y, q1, q2⟩ := h2
  cases p1.symm.trans q1
  exact hne (p2.symm.trans q2)
theorem xf.cl {D : va_G} {ci a k : Nat} {v : Value} {H : Heap} (h : xf D ci a k v H) : clA a (D.1 ci) H := h.elim fun c z => ⟨c, z.1, z.2.1⟩
theorem c1.cl {D : va_G} {a ci : Nat} {fs : List Value} {H : Heap} (h : c1 D a (.inr (ci, fs)) H) : clA a (D.1 ci) H := by
  obtain ⟨r, h1, cell, q1, q2, -⟩ := h
  exact ⟨cell, q1, q2⟩
theorem c1.cla {D : va_G} {a : Nat} {c : ClassId} {x : vp_A} {H : Heap} (h : c1 D a (.inl (c, x)) H) : clA a c H := by
  refine ⟨_, h, ?_⟩
  obtain ⟨n, f | f | f | f | f⟩ := x <;> rfl
theorem BA.cl {D : va_G} {tk : Nat → ClassId} {b n : Nat} {H : Heap} (h : BA D tk b n H) : clA b (tk 1) H := h.elim fun _ z => z.2.cla
/-- bytes are an array of bytes, whatever their class: no object, no array of another kind -/
theorem Ctx.xt {D : va_G} {tk : Nat → ClassId} {N0 : Nat} {sa : Nat → Nat} {s : State} (h : Ctx D tk N0 sa s) : XT tk N0 sa s s.heap := h.2.2.2.2.2.2.2.2.2.2.2.2.2.2.2
theorem isArrX {D : va_G} {tk : Nat → ClassId} {N0 : Nat} {sa : Nat → Nat} {s : State} (hC : Ctx D tk N0 sa s) {cell : Cell} (hcl : tyB tk cell.cls) (hst : cell.vm.isStatics = false) : s.isArrayOf cell .byte := by
  refine ⟨(fun q h => by rw [h] at hst; cases hst), ?_⟩
  rcases hcl with hcl | ⟨j, hj, hcl⟩
  · obtain ⟨-, k, hk, comp, hkk⟩ := (hC.1.2 1 (tk 1, .byte) rfl).1 0 (fun _ => .null)
    exact ⟨k, by rw [hcl]; exact hk, comp, hkk⟩
  · obtain ⟨c0, -, -, h3, h4, -⟩ := hC.xt.2.2.1 j hj
    obtain ⟨-, k, hk, comp, hkk⟩ := h4
    exact ⟨k, by rw [hcl, ← h3]; exact hk, comp, hkk⟩
theorem BX.neo {D : va_G} {tk : Nat → ClassId} {N0 : Nat} {sa : Nat → Nat} {s : State} {b n a ci : Nat} {H : Heap} (h : BX tk b n H) (hC : Ctx D tk N0 sa s) (ha : clA a (D.1 ci) H) {q : vw_C} (hc : vwCl[ci]? = some q) : b ≠ a := by
  obtain ⟨f, cell, -, h2, h3, h4, -⟩ := h
  obtain ⟨x, p1, p2⟩ := ha
  intro e
  subst e
  cases h2.symm.trans p1
  obtain ⟨-, k, hk, comp, hkk⟩ := isArrX hC h3 h4
  obtain ⟨-, -, k2, hk2, hkind⟩ := hC.1.1 ci q hc
  rw [p2, hk2] at hk
  cases hk
  rw [hkind] at hkk
  cases hkk
theorem BX.nea {D : va_G} {tk : Nat → ClassId} {N0 : Nat} {sa : Nat → Nat} {s : State} {b n a : Nat} {H : Heap} (h : BX tk b n H) (hC : Ctx D tk N0 sa s) (j : Nat) {t : ClassId × FieldType} (ha : clA a t.1 H) (ht : (tyG tk)[j]? = some t) (hne : t.2 ≠ .byte) : b ≠ a := by
  obtain ⟨f, cell, -, h2, h3, h4, -⟩ := h
  obtain ⟨x, p1, p2⟩ := ha
  intro e
  subst e
  cases h2.symm.trans p1
  obtain ⟨-, k, hk, comp, hkk⟩ := isArrX hC h3 h4
  obtain ⟨t1, t2⟩ := t
  obtain ⟨-, kA, hkA, compA, hA⟩ := (hC.1.2 j (t1, t2) ht).1 0 (fun _ => .null)
  have hkA : s.vm.classes[t1]? = some kA := hkA
  rw [p2, hkA] at hk
  cases hk
  rw [hkk] at hA
  injection hA with z1 z2
  exact hne z2.symm
theorem Ctx.oa {D : va_G} {tk : Nat → ClassId} {N0 : Nat} {sa : Nat → Nat} {s : State} (hC : Ctx D tk N0 sa s) (ci j : Nat) {q : vw_C} {t : ClassId × FieldType} (hc : vwCl[ci]? = some q) (ht : (tyG tk)[j]? = some t) : D.1 ci ≠ t.1 := by
  intro e
  obtain ⟨-, -, k, hk, hkind⟩ := hC.1.1 ci q hc
  obtain ⟨-, kA, hkA, comp, hA⟩ := (hC.1.2 j t ht).1 0 (fun _ => .null)
  have hkA : s.vm.classes[t.1]? = some kA := hkA
  rw [← e, hk] at hkA
  cases hkA
  rw [hkind] at hA
  cases hA
theorem Ctx.ao {D : va_G} {tk : Nat → ClassId} {N0 : Nat} {sa : Nat → Nat} {s : State} (hC : Ctx D tk N0 sa s) (ci j : Nat) {q : vw_C} {t : ClassId × FieldType} (hc : vwCl[ci]? = some q) (ht : (tyG tk)[j]? = some t) : t.1 ≠ D.1 ci := fun z => hC.oa ci j hc ht z.symm
theorem Ctx.oo {D : va_G} {tk : Nat → ClassId} {N0 : Nat} {sa : Nat → Nat} {s : State} (hC : Ctx D tk N0 sa s) (ci cj : Nat) {q q' : vw_C} (hc : vwCl[ci]? = some q) (hd : vwCl[cj]? = some q') (hne : q.1 ≠ q'.1) : D.1 ci ≠ D.1 cj := by
  intro e
  have h1 := (hC.1.1 ci q hc).2.1
  have h2 := (hC.1.1 cj q' hd).2.1
  rw [e] at h1
  obtain ⟨k1, hk1, hn1⟩ := Vm.findClass_spec h1
  obtain ⟨k2, hk2, hn2⟩ := Vm.findClass_spec h2
  cases hk1.symm.trans hk2
  exact hne (hn1.symm.trans hn2)
theorem Ctx.aa {D : va_G} {tk : Nat → ClassId} {N0 : Nat} {sa : Nat → Nat} {s : State} (hC : Ctx D tk N0 sa s) (i j : Nat) {t t' : ClassId × FieldType} (hi : (tyG tk)[i]? = some t) (hj : (tyG tk)[j]? = some t') (hne : t.2 ≠ t'.2) : t.1 ≠ t'.1 := by
  intro e
  obtain ⟨-, k1, h1, c1', g1⟩ := (hC.1.2 i t hi).1 0 (fun _ => .null)
  obtain ⟨-, k2, h2, c2', g2⟩ := (hC.1.2 j t' hj).1 0 (fun _ => .null)
  have h1 : s.vm.classes[t.1]? = some k1 := h1
  have h2 : s.vm.classes[t'.1]? = some k2 := h2
  rw [e, h2] at h1
  cases h1
  rw [g1] at g2
  injection g2 with e1 e2
  exact hne e2
/-- what a method of two cells may write -/
def inA2 (a v sz : Nat) : Nat → Prop := fun q => q = a ∨ q = v ∨ sz ≤ q
theorem inA2.not {a v sz q : Nat} (h : q ≠ a) (h2 : q ≠ v) (hl : q < sz) : ¬ inA2 a v sz q := fun z => z.elim h (fun w => w.elim h2 (fun u => Nat.lt_irrefl _ (Nat.lt_of_lt_of_le hl u)))
theorem inA2.to {A0 : Nat → Prop} {a v sz : Nat} (h : A0 a) (h2 : A0 v) : ∀ q, q < sz → inA2 a v sz q → A0 q := fun _ hl z => z.elim (fun e => e ▸ h) (fun w => w.elim (fun e => e ▸ h2) (fun u => absurd u (Nat.not_le.mpr hl)))
/-- 'selects' of a private method of a superclass -/
theorem selUp {y : MethodName} {C : String} {n : Nat} {s : State} {args : Array Value} (hins : (Cond.instantiable C n).before args s = true) (hpriv : (Cond.privateMethod y).before args s = true) (hinst : (Cond.instanceMethod y).before args s = true) (hsame : (Cond.sameMethod y.cls y.cls y.name y.desc).before args s = true) : (Cond.selects C y y).before args s = true := by
  obtain ⟨c, k, hc, hk, -⟩ := Cond.instantiable_spec hins
  obtain ⟨mk, methM, hnamed, hmethM, -, -⟩ := Cond.instanceMethod_spec hinst
  obtain ⟨cn, ck, r1, hcn, hck, hni, hf, hn1⟩ := Cond.sameMethod_found hsame
  have hr : mk = r1 := Option.some.inj (hnamed.symm.trans hn1)
  subst hr
  have hcls : mk.cls = cn := Option.some.inj ((findClass_of_methodNamed hnamed).symm.trans hcn)
  have hsel : selectMethod {} s.vm c mk = .method mk := selectMethod_private hmethM (Cond.privateMethod_at hpriv mk methM hnamed hmethM)
  simp only [Cond.before, Cond.holds, Cond.value, hc, hf, hnamed, hsel, hcls, hck]
  simp
  exact hni
section KU
variable {p : Program} {l : Launch} {e : Env} {R : Room} {s : State} {m : MethodId} {args : Array Value} {below : List Frame} {meth : Method} {c : Code} {H : Heap} {locs : List Loc} {cells slots : Nat} {Q : State → Prop}
variable {cc : ByteArray} {pc nL : Nat} {ls : Array Slot} {rest st0 : List Value} {own : String} {D : va_G} {tk : Nat → ClassId} {N0 : Nat} {sa : Nat → Nat} {A0 A1 : Nat → Prop}
variable {y : MethodName} {bytes : ByteArray} {maxL mc ms n index : Nat} {ret : Option FieldType} {rm : Room} {F : Heap → Prop} {Qc : Array Value → State → Outcome → State → Prop} {As : List Value} {w0 : Cond} {b : Nat} {a : Array Value}
/-- the receiver: an object one of whose fields is known -/
theorem xf.recv {ci k : Nat} {v : Value} {q : vw_C} (hC : Ctx D tk N0 sa s) (h : xf D ci b k v H) (hc : vwCl[ci]? = some q) : ∃ cell : Cell, H[b]? = some cell ∧ cell.vm.isStatics = false ∧ s.vm.findClass q.1 = some cell.cls := by
  obtain ⟨cell, q1, q2, q3, -⟩ := h
  exact ⟨cell, q1, q3, by rw [q2]; exact (hC.1.1 ci q hc).2.1⟩
/-- an inherited method -/
theorem k_U {C : String} (E : CallFix p m c cc nL s args (w0 :: GW) own) (hC : Ctx D tk N0 sa s) (hS : va_S A0 s.heap H locs) (hA : ∀ q, A0 q → N0 ≤ q) (hl : ls.size = nL) (hrecv : ∃ cell : Cell, H[b]? = some cell ∧ cell.vm.isStatics = false ∧ s.vm.findClass C = some cell.cls)
    (hM : Met l y (wsy y bytes maxL ret) rm (cP D tk N0 sa (.ref b :: As) H.size F) Qc mc ms A1) (w1 : Cond.methodLink own index y ∈ GW) (w6 : Cond.sameMethod y.cls y.cls y.name y.desc ∈ GW) (w2 : Cond.instanceMethod y ∈ GW) (hsel : (Cond.selects C y y).before args s = true) (w5 : Cond.initialized y.cls ∈ GW) (w4 : Cond.code y bytes maxL ret ∈ GW) (hd : okD y n = true) (hlen : As.length = n) (hR : okR rm R maxL mc ms cells slots)
    (hst : st0 = As.reverse ++ .ref b :: rest) (hcat : (rest.map fun v => v.category).sum ≤ 8) (hF : F H) (hdg : decode cc pc = .ok (.invokevirtual index, 3)) :
    va_Run p l e R s m args below meth c H locs cells slots mc ms (F0 m pc ls st0) rest (Qc (Value.ref b :: As).toArray) A1 := by
  have hw : ∀ w ∈ GW, w.before args s = true := fun w h => E.2.2.2.2 _ (List.mem_cons_of_mem _ h)
  have hG : GoodIn (w0 :: GW) (wsy y bytes maxL ret) := gw_in w4
  refine va_runU (n := As.length) (C := C) (owner := y.cls) (x := y) E hM ⟨⟨hR.1.1, hR.1.2, hR.2.1.1, hR.2.1.2, pay_in E.2.2.2.2 hG, List.mem_cons_self⟩, hw _ w4, hw _ w5, ⟨(okD.of hd).1, (okD.of hd).2.1⟩, fun sig h => ?_, hw _ w1, hw _ w6, va_Decl.of (hw _ w2) (hw _ w4), hsel, hw _ w2⟩ ⟨(cP_pre hC hS hA hF).1, hrecv, (cP_pre hC hS hA hF).2⟩ rfl rfl hl hst (lv_room hcat) hdg hR.2.2
  have h2 := (okD.of (hlen ▸ hd)).2.2
  rw [h] at h2
  exact (Option.some.inj h2).symm
/-- a superclass's method -/
theorem k_SU {ci : Nat} {q : vw_C} (hc : vwCl[ci]? = some q) (E : CallFix p m c cc nL s args (w0 :: GW) own) (hC : Ctx D tk N0 sa s) (hS : va_S A0 s.heap H locs) (hA : ∀ q, A0 q → N0 ≤ q) (hl : ls.size = nL) (hrecv : ∃ cell : Cell, H[b]? = some cell ∧ cell.vm.isStatics = false ∧ s.vm.findClass q.1 = some cell.cls)
    (hM : Met l y (wsy y bytes maxL ret) rm (cP D tk N0 sa (.ref b :: As) H.size F) Qc mc ms A1) (w1 : Cond.methodLink own index y ∈ GW) (w6 : Cond.sameMethod y.cls y.cls y.name y.desc ∈ GW) (w7 : Cond.superclass own y.cls ∈ GW) (w2 : Cond.instanceMethod y ∈ GW) (w5 : Cond.initialized y.cls ∈ GW) (w4 : Cond.code y bytes maxL ret ∈ GW) (hno : y.name ≠ "<init>") (hd : okD y n = true) (hlen : As.length = n) (hR : okR rm R maxL mc ms cells slots)
    (hst : st0 = As.reverse ++ .ref b :: rest) (hcat : (rest.map fun v => v.category).sum ≤ 8) (hF : F H) (hdg : decode cc pc = .ok (.invokespecial index, 3)) :
    va_Run p l e R s m args below meth c H locs cells slots mc ms (F0 m pc ls st0) rest (Qc (Value.ref b :: As).toArray) A1 := by
  have hw : ∀ w ∈ GW, w.before args s = true := fun w h => E.2.2.2.2 _ (List.mem_cons_of_mem _ h)
  have hG : GoodIn (w0 :: GW) (wsy y bytes maxL ret) := gw_in w4
  refine va_runSU (n := As.length) (C := q.1) (hC.1.1 ci q hc).2 E hM ⟨⟨hR.1.1, hR.1.2, hR.2.1.1, hR.2.1.2, pay_in E.2.2.2.2 hG, List.mem_cons_self⟩, hw _ w1, hw _ w6, hw _ w7, hw _ w2, hw _ w5, hw _ w4, hno, fun sig h => ?_⟩ ⟨(cP_pre hC hS hA hF).1, hrecv, (cP_pre hC hS hA hF).2⟩ rfl rfl hl hst (lv_room hcat) hdg hR.2.2
  have h2 := (okD.of (hlen ▸ hd)).2.2
  rw [h] at h2
  exact (Option.some.inj h2).symm
end KU
theorem w_nc : Cond.native arraycopyName ∈ GW := gw_t 223 (by decide +kernel) rfl
theorem w_sc : Cond.static arraycopyName ∈ GW := gw_t 222 (by decide +kernel) rfl
theorem w_is : Cond.initialized "java/lang/System" ∈ GW := gw_t 25 (by decide +kernel) rfl
theorem w_cs : Cond.sameMethod "[B" "java/lang/Object" "clone" "()Ljava/lang/Object;" ∈ GW := gw_t 212 (by decide +kernel) rfl
theorem w_cn : Cond.native ⟨"java/lang/Object", "clone", "()Ljava/lang/Object;"⟩ ∈ GW := gw_t 213 (by decide +kernel) rfl
theorem w_ci : Cond.instanceMethod ⟨"java/lang/Object", "clone", "()Ljava/lang/Object;"⟩ ∈ GW := gw_t 214 (by decide +kernel) rfl
theorem w_cl : Cond.selects "[B" ⟨"[B", "clone", "()Ljava/lang/Object;"⟩ ⟨"java/lang/Object", "clone", "()Ljava/lang/Object;"⟩ ∈ GW := gw_t 215 (by decide +kernel) rfl
theorem w_cc : Cond.castable "[B" "java/lang/Cloneable" ∈ tables_1 := List.mem_of_getElem? (i := 216) (by decide +kernel)
section LR7
variable {p : Program} {l : Launch} {e : Env} {R : Room} {s : State} {m : MethodId} {args : Array Value} {below : List Frame} {meth : Method} {c : Code} {H : Heap} {locs : List Loc} {cells slots : Nat} {Q : State → Prop}
variable {cc : ByteArray} {pc nL : Nat} {ls : Array Slot} {rest st0 : List Value} {Ts : List Cond} {own : String} {D : va_G} {tk : Nat → ClassId} {N0 : Nat} {sa : Nat → Nat} {A0 A1 : Nat → Prop} {w0 : Cond}
theorem isArr1 (hC : Ctx D tk N0 sa s) {cell : Cell} (hcl : cell.cls = tk 1) (hst : cell.vm.isStatics = false) : s.isArrayOf cell .byte := by
  obtain ⟨-, k, hk, comp, hkk⟩ := (hC.1.2 1 (tk 1, .byte) rfl).1 0 (fun _ => .null)
  exact ⟨(fun q h => by rw [h] at hst; cases hst), k, by rw [hcl]; exact hk, comp, hkk⟩
theorem r_getX (E : CallFix p m c cc nL s args Ts own) (hC : Ctx D tk N0 sa s) {a ci N index k : Nat} {C ref : String} {T : u_T} {v : Value} (h : xf D ci a k v H) (hc : vwCl[ci]? = some (C, T, N)) (hk : k < N) (hin : ∀ w ∈ u_ws C T N, w ∈ Ts) (hlink : Cond.fieldLink own index ref (T k).2.1 (T k).2.2.1 ∈ Ts) (hsame : ∀ x, s.fieldFound? (T k).1 (T k).2.1 (T k).2.2.1 = some x → s.fieldFound? ref (T k).2.1 (T k).2.2.1 = some x) (hdg : decode cc pc = .ok (.getfield index, 3))
    (kk : W p l e R s m args below meth c H locs cells slots Q (F0 m (pc + 3) ls (v :: rest))) : W p l e R s m args below meth c H locs cells slots Q (F0 m pc ls (.ref a :: rest)) := by
  obtain ⟨cell, q1, q2, q3, q4, q5⟩ := h
  obtain ⟨hS, hfc, kC, hkC, hkind⟩ := hC.1.1 ci _ hc
  obtain ⟨cf, kf, fi, f, hi, hsl⟩ := hS k hk
  refine W.getf E.1 E.2.1 E.2.2.2.1 (E.2.2.2.2 _ hlink) (hsame _ hi) (u_facts hfc hkC (u_lays E.2.2.2.2 hin hk) hi).1 q1 q4 (v := v) ?_ rfl rfl hdg kk
  rw [hsl]
  exact q5
theorem r_alenX (E : CallFix p m c cc nL s args Ts own) (hC : Ctx D tk N0 sa s) {b n : Nat} (h : BX tk b n H) {v : Int32} (hv : nI n = v) (hdg : decode cc pc = .ok (.arraylength, 1))
    (kk : W p l e R s m args below meth c H locs cells slots Q (F0 m (pc + 1) ls (.int v :: rest))) : W p l e R s m args below meth c H locs cells slots Q (F0 m pc ls (.ref b :: rest)) := by
  subst hv
  obtain ⟨f, cell, h1, h2, h3, h4, h5, h6, h7, h8⟩ := h
  exact W.alen (n := Int32.ofNat n) E.1 E.2.1 h2 (isArrX hC h3 h4) h7 rfl rfl hdg kk
theorem r_acpyB (E : CallFix p m c cc nL s args (w0 :: GW) own) (hC : Ctx D tk N0 sa s) (hl : ls.size = nL) {b0 n0 a n1 index : Nat} (h0 : BX tk b0 n0 H) (h1 : BA D tk a n1 H) (hS : va_S A0 s.heap H locs) (hA : A0 a) {sp dp n : Int32} (k1 : ¬ sp < 0) (k2 : ¬ dp < 0) (k3 : ¬ n < 0) (k4 : sp.toNatClampNeg + n.toNatClampNeg ≤ n0) (k5 : dp.toNatClampNeg + n.toNatClampNeg ≤ n1) (w1 : Cond.methodLink own index arraycopyName ∈ GW)
    (hframes : 1 ≤ R.frames) (hcat : (rest.map fun v => v.category).sum ≤ 8) (hlocals : 8 + (nativeFrameWords "java/lang/System" "arraycopy" 5 + 11) ≤ R.locals) (hdg : decode cc pc = .ok (.invokestatic index, 3))
    (kk : ∀ (H1 : Heap) (locs1 : List Loc), BA D tk a n1 H1 → (∀ q, q ≠ a → H1[q]? = H[q]?) → H1.size = H.size → va_S A0 s.heap H1 locs1 → W p l e R s m args below meth c H1 locs1 cells slots Q (F0 m (pc + 3) ls rest)) : W p l e R s m args below meth c H locs cells slots Q (F0 m pc ls (.int n :: .int dp :: .ref a :: .int sp :: .ref b0 :: rest)) := by
  have nn : ∀ z : Int32, ¬ z < 0 → z.toInt = (z.toNatClampNeg : Int) := by
    intro z hz
    have hz0 : (0 : Int) ≤ z.toInt := by
      have := Int32.not_lt.mp hz
      simpa using Int32.le_iff_toInt_le.mp this
    show z.toInt = ((z.toInt.toNat : Nat) : Int)
    omega
  have hw : ∀ w ∈ GW, w.before args s = true := fun w h => E.2.2.2.2 _ (List.mem_cons_of_mem _ h)
  have hb := E.2.1
  intro T hT X
  obtain ⟨f, scr, hf, hs1, hcl, hst, hun, hsz, -, hs5⟩ := h0
  obtain ⟨g, hg, h1⟩ := h1
  have hc1 : H[a]? = some (vp_cell (tk 1) (n1, .inl g)) := h1
  obtain ⟨-, k1', hk1, cm1, hkk1⟩ := (hC.1.2 1 (tk 1, .byte) rfl).1 n1 (fun j => .int (g j))
  obtain ⟨-, k2', hk2', cm2, hkk2⟩ := isArrX hC hcl hst
  obtain ⟨vm', X', step⟩ := X.arraycopy E.1 E.2.2.2.1 (hw _ w1) (hw _ w_nc) (hw _ w_sc) (hw _ w_is) (src := b0) (dst := a) (cs := scr) (cd := vp_cell (tk 1) (n1, .inl g)) (srcPos := sp) (destPos := dp) (n := n) (by rw [hT]; exact hs1) (by rw [hT]; exact hc1)
    (fun q h => by rw [h] at hst; cases hst) (fun _ h => by cases h) hun (fun h => by cases h) hk2' hk1 hkk2 hkk1 (by simp [refKind]) k1 k2 k3
    (by rw [nn sp k1, nn n k3]; omega)
    (by rw [nn dp k2, nn n k3]; show ¬ _ > ((arrV (tk 1) n1 (fun j => .int (g j))).slots.size : Int); rw [arrV_size]; omega)
    (fun vm₁ _ i hi => by
      have e : scr.slots.getD (sp.toNatClampNeg + i) .null = .int (f (sp.toNatClampNeg + i)) := by
        rw [Array.getD_eq_getD_getElem?, hs5 _ (by omega)]
        rfl
      refine ⟨?_, ?_⟩
      · rw [e]
        exact hf _
      · rw [e]
        exact trivial)
    (g := F0 m pc ls (.int n :: .int dp :: .ref a :: .int sp :: .ref b0 :: rest)) rfl (by show ls.size = _; rw [hl]; exact E.2.2.1.symm) (rest := rest) rfl (by rw [hb]; exact hdg) hframes (by show 2 * 0 + _ + _ ≤ _; omega)
  have e1 : copied scr (vp_cell (tk 1) (n1, .inl g)) sp dp n = vp_cell (tk 1) (n1, .inl (va_cpy f g sp.toNatClampNeg dp.toNatClampNeg n.toNatClampNeg)) := va_copiedX (fun z => .int z) scr (tk 1) f g hs5 k4
  rw [e1] at X' step
  have hl2 : a < H.size := (Array.getElem?_eq_some_iff.mp hc1).1
  have hheap : ((T.setVm vm').setCell a (vp_cell (tk 1) (n1, .inl (va_cpy f g sp.toNatClampNeg dp.toNatClampNeg n.toNatClampNeg)))).heap = H.setIfInBounds a (vp_cell (tk 1) (n1, .inl (va_cpy f g sp.toNatClampNeg dp.toNatClampNeg n.toNatClampNeg))) := by rw [← hT]; rfl
  have oq : ∀ q : Nat, q ≠ a → (H.setIfInBounds a (vp_cell (tk 1) (n1, .inl (va_cpy f g sp.toNatClampNeg dp.toNatClampNeg n.toNatClampNeg))))[q]? = H[q]? := fun q hq => by simp [Array.getElem?_setIfInBounds, Ne.symm hq]
  have hl3 : (H.setIfInBounds a (vp_cell (tk 1) (n1, .inl (va_cpy f g sp.toNatClampNeg dp.toNatClampNeg n.toNatClampNeg))))[a]? = some (vp_cell (tk 1) (n1, .inl (va_cpy f g sp.toNatClampNeg dp.toNatClampNeg n.toNatClampNeg))) := by simp [Array.getElem?_setIfInBounds, hl2]
  obtain ⟨t, a1, b1⟩ := kk (H.setIfInBounds a (vp_cell (tk 1) (n1, .inl (va_cpy f g sp.toNatClampNeg dp.toNatClampNeg n.toNatClampNeg)))) _ ⟨_, sb_fitC hf hg, hl3⟩ oq (by simp) ⟨by simp; exact hS.1, fun q g1 g2 => by
      rw [oq q (fun e => g2 (by rw [e]; exact hA))]
      exact hS.2.1 q g1 g2, fun q hq => by
      rcases List.mem_append.mp hq with h | h
      · exact hS.2.2 q h
      · obtain ⟨z, -, hz⟩ := List.mem_map.mp h
        rw [← hz]
        exact hA⟩ _ hheap X'
  exact ⟨t, step t a1, b1⟩
/-- the clone of an array of bytes -/
theorem r_cloneB (E : CallFix p m c cc nL s args (w0 :: GW) own) (hC : Ctx D tk N0 sa s) (hl : ls.size = nL) {a n index : Nat} (h : BA D tk a n H) (hS : va_S A0 s.heap H locs) (w1 : Cond.methodLink own index ⟨"[B", "clone", "()Ljava/lang/Object;"⟩ ∈ GW)
    (hframes : 1 ≤ R.frames) (hcat : (rest.map fun v => v.category).sum ≤ 8) (hlocals : 22 ≤ R.locals) (hcells : cells + 1 ≤ R.cells) (hslots : slots + n ≤ R.slots) (hdg : decode cc pc = .ok (.invokevirtual index, 3))
    (kk : ∀ (q : Nat) (H1 : Heap), q = H.size → BA D tk q n H1 → (∀ x : Nat, x < H.size → H1[x]? = H[x]?) → va_S A0 s.heap H1 locs → W p l e R s m args below meth c H1 locs (cells + 1) (slots + n) Q (F0 m (pc + 3) ls (.ref q :: rest))) : W p l e R s m args below meth c H locs cells slots Q (F0 m pc ls (.ref a :: rest)) := by
  have hw : ∀ w ∈ GW, w.before args s = true := fun w h => E.2.2.2.2 _ (List.mem_cons_of_mem _ h)
  obtain ⟨f, hf, h⟩ := h
  have hc : H[a]? = some (vp_cell (tk 1) (n, .inl f)) := h
  have hb := E.2.1
  have hK := hC.1
  have hnm : s.vm.findClass "[B" = some (tk 1) := (hK.2 1 (tk 1, .byte) rfl).2
  have hsz : (vp_cell (tk 1) (n, .inl f)).slots.size = n := arrV_size _ _ _
  obtain ⟨c0, t0', f1, f2, f3⟩ := Cond.castable_spec (va_Nw.use (A := args) rfl (hC.2.2.2.1 _ w_cc rfl))
  cases hnm.symm.trans f1
  intro T hT X
  have hcellT : T.heap[a]? = some (vp_cell (tk 1) (n, .inl f)) := by rw [hT]; exact hc
  obtain ⟨-, kA, hkA, comp, hkind⟩ := State.isArrayOf_alike X.warmed.alike ((hK.2 1 (tk 1, .byte) rfl).1 0 (fun _ => .null))
  obtain ⟨-, kS, hkS, compS, hkindS⟩ := (hK.2 1 (tk 1, .byte) rfl).1 0 (fun _ => .null)
  obtain ⟨vm', X', st⟩ := X.cloneArray E.1 E.2.2.2.1 (hw _ w1) (hw _ w_cs) (hw _ w_cn) (hw _ w_ci) (hw _ w_cl) (a := a) (cell := vp_cell (tk 1) (n, .inl f)) hcellT (fun k h => by cases h) (fun h => by cases h) hnm f2 f3
    (fun i v hv => by
      have hk' : T.vm.classes[tk 1]? = some kA := hkA
      have hv2 : fits .byte v = true := va_fit (n := n) (F := fun j => .int (f j)) (fun i _ => hf i) i v hv
      show T.fitsSlot (tk 1) _ i v = true
      simpa [State.fitsSlot, State.slotType?, hk', hkind] using hv2)
    (g := F0 m pc ls (.ref a :: rest)) rfl (by show ls.size = _; rw [hl]; exact E.2.2.1.symm) rfl (by rw [hb]; exact hdg) hframes (by show 2 * 0 + _ + 14 ≤ _; omega) hcells (by rw [hsz]; exact hslots) (hloader := Vm.clonesLoader_of_array hkS hkindS)
  have hcellE : ({ cls := (vp_cell (tk 1) (n, .inl f)).cls, slots := (vp_cell (tk 1) (n, .inl f)).slots } : Cell) = vp_cell (tk 1) (n, .inl f) := rfl
  rw [hcellE, hsz] at X'
  generalize hH1 : H.push (vp_cell (tk 1) (n, .inl f)) = H1
  have z1 : H1.size = H.size + 1 := by rw [← hH1, Array.size_push]
  have e1 : H1[H.size]? = some (vp_cell (tk 1) (n, .inl f)) := by rw [← hH1, Array.getElem?_push_size]
  have o1 : ∀ q : Nat, q < H.size → H1[q]? = H[q]? := fun q hq => by rw [← hH1, Array.getElem?_push, if_neg (Nat.ne_of_lt hq)]
  obtain ⟨t, b1, b2⟩ := kk H.size H1 rfl ⟨f, hf, e1⟩ o1 ⟨Nat.le_trans hS.1 (by omega), fun y h1 h2 => (o1 y (Nat.lt_of_lt_of_le h1 hS.1)).trans (hS.2.1 y h1 h2), hS.2.2⟩
    ((T.setVm vm').pushCell (vp_cell (tk 1) (n, .inl f))) (by rw [← hH1, ← hT]; rfl) X'
  refine ⟨t, st t ?_, b2⟩
  rw [hcellE, hT]
  exact b1
theorem r_castB (E : CallFix p m c cc nL s args (w0 :: GW) own) (hC : Ctx D tk N0 sa s) {a n index : Nat} (h : BA D tk a n H) (w1 : Cond.classLink own index "[B" ∈ GW) (hdg : decode cc pc = .ok (.checkcast index, 3))
    (k : W p l e R s m args below meth c H locs cells slots Q (F0 m (pc + 3) ls (.ref a :: rest))) : W p l e R s m args below meth c H locs cells slots Q (F0 m pc ls (.ref a :: rest)) := by
  obtain ⟨f, hf, h⟩ := h
  exact va_castA E.1 E.2.1 E.2.2.2.1 (E.2.2.2.2 _ (List.mem_cons_of_mem _ w1)) h.P 0 rfl (hC.1.2 1 (tk 1, .byte) rfl).2 hdg k
end LR7
/-! what a StringBuilder grows to, and what that costs -/
def sbC (cap q : Nat) : Nat := if q ≤ cap then cap else max q (2 * cap + 2)
def sbK (cap q : Nat) : Nat := if q ≤ cap then 0 else 1
def sbS (cap q : Nat) : Nat := if q ≤ cap then 0 else max q (2 * cap + 2)
theorem sbC_ge (cap q : Nat) : q ≤ sbC cap q ∧ cap ≤ sbC cap q := by
  unfold sbC
  split <;> omega
/-- how many letters a whole number takes -/
def ndg : Nat → Nat → Nat
  | 0, _ => 1
  | f + 1, m => if m < 10 then 1 else ndg f (m / 10) + 1
theorem ndg_eq : ∀ (f k m : Nat), k ≤ f → m < 10 ^ (k + 1) → (k = 0 ∨ 10 ^ k ≤ m) → ndg f m = k + 1 := by
  intro f
  induction f with
  | zero =>
    intro k m h _ _
    have : k = 0 := by omega
    subst this
    rfl
  | succ f ih =>
    intro k m h h1 h2
    cases k with
    | zero => exact if_pos (by simpa using h1)
    | succ k =>
      have h2 : 10 ^ (k + 1) ≤ m := h2.resolve_left (by omega)
      have e1 : 10 ^ (k + 1) = 10 ^ k * 10 := Nat.pow_succ 10 k
      have e2 : 10 ^ (k + 1 + 1) = 10 ^ (k + 1) * 10 := Nat.pow_succ 10 (k + 1)
      have hp : 0 < 10 ^ k := Nat.pow_pos (by decide)
      show (if m < 10 then 1 else ndg f (m / 10) + 1) = k + 1 + 1
      rw [if_neg (by omega), ih k (m / 10) (by omega) (by omega) (by omega)]
theorem ndg_pos (f m : Nat) : 1 ≤ ndg f m := by
  cases f with
  | zero => exact Nat.le_refl 1
  | succ f =>
    unfold ndg
    split <;> omega
theorem ndg_le : ∀ f m, ndg f m ≤ f + 1 := by
  intro f
  induction f with
  | zero => intro m; exact Nat.le_refl 1
  | succ f ih =>
    intro m
    show (if m < 10 then 1 else ndg f (m / 10) + 1) ≤ _
    split
    · omega
    · have := ih (m / 10)
      omega
theorem nI_ne9 {a b : Nat} (h : a ≠ b) (ha : a < 2 ^ 31) (hb : b < 2 ^ 31) : ¬ nI a = nI b := fun z => h ((nI_eq ha hb).mp z)
theorem f_min9 {a b : Nat} (h : a < b) (hb : b < 2 ^ 31) : f_min (nI a) (nI b) = nI a := if_neg (nI_nlt (Nat.le_of_lt h) hb)
theorem f_minr {a b : Nat} (h : b ≤ a) (ha : a < 2 ^ 31) : f_min (nI a) (nI b) = nI b := by
  unfold f_min
  split
  · rfl
  · rename_i h1
    rcases Nat.lt_or_ge b a with z | z
    · exact absurd (nI_lt z ha) h1
    · have : a = b := by omega
      rw [this]
theorem ens_le {x1 x2 mn : Int32} {cap mk : Nat} (h1 : x1 = nI cap) (h2 : x2 = x1 >>> (0 &&& 31)) (hm : mn = nI mk) (hc : cap ≤ 1000000) (hk : mk ≤ 1000000) : mn - x2 ≤ 0 ↔ mk ≤ cap := by
  have e2 : x2.toInt = (cap : Int) := by rw [h2, sb_shr0, h1]; exact nI_toIntS (by omega)
  have em : mn.toInt = (mk : Int) := by rw [hm]; exact nI_toIntS (by omega)
  have e3 : (mn - x2).toInt = (mk : Int) - cap := by
    rw [Int32.toInt_sub, e2, em]
    simp only [Int.bmod]
    split <;> omega
  rw [Int32.le_iff_toInt_le, e3, Int32.toInt_zero]
  omega
theorem can9 {k : Nat} (h : k < 256) : ¬ f_can (nI k) = 0 := by
  unfold f_can
  rw [if_neg (show ¬ (255 : Int32) < nI k from nI_nlt (b := k) (a := 255) (by omega) (by decide))]
  decide
theorem sbC_lt (cap q : Nat) : sbC cap q ≤ q + 2 * cap + 2 := by
  unfold sbC
  split <;> omega
def dgI (x : Int32) : Nat := ndg 19 x.toInt.natAbs + (if x < 0 then 1 else 0)
def dgJ (x : Int64) : Nat := ndg 19 x.toInt.natAbs + (if x < 0 then 1 else 0)
theorem dgI_k {x : Int32} {k : Nat} (h1 : 1 ≤ k) (h2 : k ≤ 10) (h3 : x.toInt.natAbs < 10 ^ k) (h4 : k = 1 ∨ 10 ^ (k - 1) ≤ x.toInt.natAbs) : dgI x = k + (if x < 0 then 1 else 0) := by
  obtain ⟨j, rfl⟩ : ∃ j, k = j + 1 := ⟨k - 1, by omega⟩
  unfold dgI
  rw [ndg_eq 19 j _ (by omega) h3 (h4.elim (fun z => Or.inl (by omega)) (fun z => Or.inr z))]
theorem dgJ_k {x : Int64} {k : Nat} (h1 : 1 ≤ k) (h2 : k ≤ 19) (h3 : x.toInt.natAbs < 10 ^ k) (h4 : k = 1 ∨ 10 ^ (k - 1) ≤ x.toInt.natAbs) : dgJ x = k + (if x < 0 then 1 else 0) := by
  obtain ⟨j, rfl⟩ : ∃ j, k = j + 1 := ⟨k - 1, by omega⟩
  unfold dgJ
  rw [ndg_eq 19 j _ (by omega) h3 (h4.elim (fun z => Or.inl (by omega)) (fun z => Or.inr z))]
theorem SSI.eq {x r : Int32} (h : SSI x r) : r = nI (dgI x) := by
  obtain ⟨k, h1, h2, h3, h4, h5⟩ := h
  rw [dgI_k h1 h2 h3 h4]
  exact h5
theorem SSJ.eq {x : Int64} {r : Int32} (h : SSJ x r) : r = nI (dgJ x) := by
  obtain ⟨k, h1, h2, h3, h4, h5⟩ := h
  rw [dgJ_k h1 h2 h3 h4]
  exact h5
theorem dgI_le (x : Int32) : dgI x ≤ 21 := by
  have := ndg_le 19 x.toInt.natAbs
  unfold dgI
  split <;> omega
theorem dgJ_le (x : Int64) : dgJ x ≤ 21 := by
  have := ndg_le 19 x.toInt.natAbs
  unfold dgJ
  split <;> omega
theorem SX.cl {D : va_G} {tk : Nat → ClassId} {a n : Nat} {H : Heap} (h : SX D tk a n H) : clA a (D.1 0) H := h.elim fun _ z => z.1.cl
theorem SX.old {D : va_G} {tk : Nat → ClassId} {a n : Nat} {H H1 : Heap} (h : SX D tk a n H) (hq : ∀ q : Nat, q < H.size → H1[q]? = H[q]?) : SX D tk a n H1 := h.kept (P := fun _ => False) (fun q hl _ => hq q hl) id (fun _ _ _ => id)
theorem SX.keep1 {D : va_G} {tk : Nat → ClassId} {a n w : Nat} {H H1 : Heap} (h : SX D tk a n H) (hk : ∀ q : Nat, q < H.size → ¬ inA1 w H.size q → H1[q]? = H[q]?) (ha : a ≠ w) (hb : ∀ b n, BX tk b n H → b ≠ w) : SX D tk a n H1 :=
  h.kept (P := inA1 w H.size) hk (inA1.not ha h.lt) (fun b m z => inA1.not (hb b m z) z.lt)
theorem SX.recv {D : va_G} {tk : Nat → ClassId} {N0 : Nat} {sa : Nat → Nat} {s : State} {a n : Nat} {H : Heap} (h : SX D tk a n H) (hC : Ctx D tk N0 sa s) : ∃ cell : Cell, H[a]? = some cell ∧ cell.vm.isStatics = false ∧ s.vm.findClass "java/lang/String" = some cell.cls := h.elim fun _ z => xf.recv hC z.1 (q := (RJ0, TJ0, 4)) rfl
/-- a String constant -/
theorem Ctx.str {D : va_G} {tk : Nat → ClassId} {N0 : Nat} {sa : Nat → Nat} {s : State} {A0 : Nat → Prop} {H : Heap} {locs : List Loc} (hC : Ctx D tk N0 sa s) (hS : va_S A0 s.heap H locs) (hA : ∀ q, A0 q → N0 ≤ q) (j : Nat) (q : String × Nat × String × List Int32) (hj : strK[j]? = some q) (hf : ∀ x ∈ q.2.2.2, fits .byte (.int x) = true) : SX D tk (sa (10 + j)) q.2.2.2.length H := by
  obtain ⟨-, hO, hc, hv, hT⟩ := hC.2.2.2.2.1 j q hj
  have hj16 : j < 16 := (List.getElem?_eq_some_iff.mp hj).1
  have hB := hC.xt.2.2.1 j hj16
  obtain ⟨hSl, hfc, -⟩ := hC.1.1 0 (RJ0, TJ0, 4) rfl
  have keep : ∀ a : Nat, a < s.heap.size → ¬ NA N0 a → H[a]? = s.heap[a]? := fun a h1 h2 => hS.2.1 a h1 (fun z => h2 (hA a z))
  obtain ⟨c0, o1, o2, o3, o4⟩ := hO.kept keep
  have fld : ∀ (k : Nat) (v : Value), k < 4 → va_OF "java/lang/String" (TJ0 k).2.1 (TJ0 k).2.2.1 v (sa (10 + j)) (NA N0) s s.heap → (TJ0 k).1 = "java/lang/String" → xf D 0 (sa (10 + j)) k v H := by
    intro k v hk h h0
    obtain ⟨cf, kf, i, f, cell, p1, p2, p3, p4, p5, -⟩ := h.kept keep
    obtain ⟨cf', kf', fi', f', hi', hs'⟩ := hSl k hk
    have hi' : s.fieldFound? "java/lang/String" (TJ0 k).2.1 (TJ0 k).2.2.1 = some (cf', kf', fi', f') := by rw [← h0]; exact hi'
    cases p1.symm.trans hi'
    cases o1.symm.trans p3
    refine ⟨c0, o1, ?_, o2, p4, ?_⟩
    · exact (Option.some.inj (hfc.symm.trans o3)).symm
    · rw [← hs']; exact p5
  refine ⟨sa (40 + j), fld 0 _ (by decide) hv rfl, fld 1 _ (by decide) hc rfl, ?_⟩
  obtain ⟨cell, t1, t2, t3, t4, t5, t6, -⟩ := hT.kept keep
  obtain ⟨cb, b0, b2, b3, -, b5⟩ := hB
  have b1 : H[sa (40 + j)]? = some cb := (keep _ (Array.getElem?_eq_some_iff.mp b0).1 b5).trans b0
  cases t1.symm.trans b1
  refine ⟨fun i => if h : i < q.2.2.2.length then q.2.2.2[i] else 0, cell, fun i => ?_, t1, Or.inr ⟨j, hj16, b3⟩, b2, t3, t4, t5, fun i hi => ?_⟩
  · by_cases h : i < q.2.2.2.length
    · simp only [dif_pos h]
      exact hf _ (List.getElem_mem h)
    · simp only [dif_neg h]
      rfl
  · rw [t6 i hi]
    simp only [dif_pos hi]
    simp [List.getD_eq_getElem?_getD, List.getElem?_eq_getElem hi]
section LR8
variable {p : Program} {l : Launch} {e : Env} {R : Room} {s : State} {m : MethodId} {args : Array Value} {below : List Frame} {meth : Method} {c : Code} {H : Heap} {locs : List Loc} {cells slots : Nat} {Q : State → Prop}
variable {cc : ByteArray} {pc nL : Nat} {ls : Array Slot} {rest st0 : List Value} {Ts : List Cond} {own : String} {D : va_G} {tk : Nat → ClassId} {N0 : Nat} {sa : Nat → Nat} {A0 A1 : Nat → Prop} {w0 : Cond}
theorem r_bret (E : CallFix p m c cc nL s args Ts own) (hr : meth.sig.returnType = some .byte) (hlk : meth.locks = false) (hS : va_S A0 s.heap H locs) {mc ms : Nat} (hc : cells ≤ mc) (hs : slots ≤ ms) {v : Int32} {Rr : Int32 → Heap → Prop} (hn : narrow .byte (.int v) = .int v) (hR : Rr v H) (hdg : decode cc pc = .ok (.ireturn, 1)) : W p l e R s m args below meth c H locs cells slots (MQ below (kQi Rr A0) args s mc ms A0) (F0 m pc ls [.int v]) :=
  W.widen hc hs (W.zret E.1 E.2.1 hr hn (fun t ht _ => ⟨⟨v, H, rfl, hR, ht⟩, hS.F ht⟩) hS.2.2 hdg hlk)
theorem r_ldcwS (E : CallFix p m c cc nL s args Ts own) (hC : Ctx D tk N0 sa s) (j : Nat) (q : String × Nat × String × List Int32) (hj : strK[j]? = some q) (ho : q.1 = own) {index : Nat} (hi : q.2.1 = index) (hdg : decode cc pc = .ok (.ldc_w index, 3))
    (k : W p l e R s m args below meth c H locs cells slots Q (F0 m (pc + 3) ls (.ref (sa (10 + j)) :: rest))) : W p l e R s m args below meth c H locs cells slots Q (F0 m pc ls rest) := by
  obtain ⟨hR, -⟩ := hC.2.2.2.2.1 j q hj
  rw [ho, hi] at hR
  have hexec := E.1
  have hdg2 : decode c.code (F0 m pc ls rest).pc = .ok (.ldc_w index, 3) := by rw [E.2.1]; exact hdg
  intro T hT X
  obtain ⟨t, a1, b1⟩ := k T hT X
  refine ⟨t, ?_, b1⟩
  obtain ⟨k0, cf, i, a', hk, hcf, hcp, -, hr, hev'⟩ := Cond.stringRef_spec (args := #[]) E.2.2.2.1 hR.1
  cases hR.2.symm.trans hev'
  obtain ⟨k', hk', he⟩ := X.warmed.alike.2.2 _ _ hk
  have hr' : k'.resolved[index]? = some (some (.string (sa (10 + j)))) := by
    rcases X.warmed.entry hk hk' index with h | ⟨h, -⟩
    · rw [h]; exact hr
    · rw [hr] at h; cases h
  jvm_step X.here [hexec, hdg2, ldc_w.wp_string (e := e) (s := T) (f := F0 m pc ls rest) X.here.top hk' (by rw [he]; exact hcf) hcp hr']
  exact a1
end LR8
section KUO
variable {p : Program} {l : Launch} {e : Env} {R : Room} {s : State} {m : MethodId} {args : Array Value} {below : List Frame} {meth : Method} {c : Code} {H : Heap} {locs : List Loc} {cells slots : Nat} {Q : State → Prop}
variable {cc : ByteArray} {pc nL : Nat} {ls : Array Slot} {rest st0 : List Value} {own : String} {D : va_G} {tk : Nat → ClassId} {N0 : Nat} {sa : Nat → Nat} {A0 A1 : Nat → Prop}
variable {x y : MethodName} {bytes b0 : ByteArray} {maxL m0 mc ms n index : Nat} {ret r0 : Option FieldType} {rm : Room} {F : Heap → Prop} {Qc : Array Value → State → Outcome → State → Prop} {As : List Value} {w0 : Cond} {b : Nat} {a : Array Value}
/-- an overriding method -/
theorem k_UO {C : String} (E : CallFix p m c cc nL s args (w0 :: GW) own) (hC : Ctx D tk N0 sa s) (hS : va_S A0 s.heap H locs) (hA : ∀ q, A0 q → N0 ≤ q) (hl : ls.size = nL) (hrecv : ∃ cell : Cell, H[b]? = some cell ∧ cell.vm.isStatics = false ∧ s.vm.findClass C = some cell.cls)
    (hM : Met l y (wsy y bytes maxL ret) rm (cP D tk N0 sa (.ref b :: As) H.size F) Qc mc ms A1) (w1 : Cond.methodLink own index x ∈ GW) (w6 : Cond.sameMethod x.cls x.cls x.name x.desc ∈ GW) (w7 : Cond.instanceMethod x ∈ GW) (w8 : Cond.code x b0 m0 r0 ∈ GW) (w2 : Cond.instanceMethod y ∈ GW) (hsel : Cond.selects C x y ∈ GW) (w5 : Cond.initialized y.cls ∈ GW) (w4 : Cond.code y bytes maxL ret ∈ GW) (hd : okD x n = true) (hlen : As.length = n) (hR : okR rm R maxL mc ms cells slots)
    (hst : st0 = As.reverse ++ .ref b :: rest) (hcat : (rest.map fun v => v.category).sum ≤ 8) (hF : F H) (hdg : decode cc pc = .ok (.invokevirtual index, 3)) :
    va_Run p l e R s m args below meth c H locs cells slots mc ms (F0 m pc ls st0) rest (Qc (Value.ref b :: As).toArray) A1 := by
  have hw : ∀ w ∈ GW, w.before args s = true := fun w h => E.2.2.2.2 _ (List.mem_cons_of_mem _ h)
  have hG : GoodIn (w0 :: GW) (wsy y bytes maxL ret) := gw_in w4
  refine va_runU (n := As.length) (C := C) (owner := x.cls) (x := x) E hM ⟨⟨hR.1.1, hR.1.2, hR.2.1.1, hR.2.1.2, pay_in E.2.2.2.2 hG, List.mem_cons_self⟩, hw _ w4, hw _ w5, ⟨(okD.of hd).1, (okD.of hd).2.1⟩, fun sig h => ?_, hw _ w1, hw _ w6, va_Decl.of (hw _ w7) (hw _ w8), hw _ hsel, hw _ w2⟩ ⟨(cP_pre hC hS hA hF).1, hrecv, (cP_pre hC hS hA hF).2⟩ rfl rfl hl hst (lv_room hcat) hdg hR.2.2
  have h2 := (okD.of (hlen ▸ hd)).2.2
  rw [h] at h2
  exact (Option.some.inj h2).symm
end KUO
