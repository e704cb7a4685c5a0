set_option maxHeartbeats 4000000 in
set_option maxRecDepth 100000 in
/-- java/lang/Integer.stringSize(I)I -/
theorem c_J6_stringSize_0f7a4 (l : Launch) (D : va_G) (tk : Nat → ClassId) (N0 : Nat) (sa : Nat → Nat)  (sz : Nat) (x : Int32) : Met l yJ6_stringSize_0f7a4 (wsy yJ6_stringSize_0f7a4 cJ6_stringSize_0f7a4 4 (some .int)) ({ frames := 0, cells := 0, slots := 0, locals := 0 } : Room) (cP D tk N0 sa [.int x] sz (fun H => True)) (kQi (fun r H => SSI x r) (nwA sz)) (0) (0) (nwA sz) := by
  refine mStart RJ6 rfl (by decide +kernel) (Nat.le_of_ble_eq_true rfl) ?_
  intro p e s m args below meth c E hr hlk hnm hsz hC hF ls hl
  subst hsz
  obtain ⟨hx, hb, -⟩ := id E
  have hA : ∀ q, (nwA s.heap.size) q → N0 ≤ q := fun q h => Nat.le_trans hC.2.1 h
  have hn : ∀ q, s.heap.size ≤ q → (nwA s.heap.size) q := fun q h => h
  have hS : va_S (nwA s.heap.size) s.heap s.heap [] := va_S.rf
  have hl : lv_has ls 4 [(0, .int x)] := hl
  obtain ⟨Q, hQ⟩ : ∃ Q, Q = MQ below (kQi (fun r H => SSI x r) (nwA s.heap.size)) args s (0) (0) (nwA s.heap.size) := ⟨_, rfl⟩
  rw [← hQ]
  refine lv_iconst (pc := 0) (v := 1) hx hb dJ6_stringSize_0f7a4_0 (by decide) ?_
  refine lv_istore_n (pc := 1) (lv' := [(1, .int 1), (0, .int x)]) hx hb dJ6_stringSize_0f7a4_1 rfl hl (by decide) rfl (fun ls hl => ?_)
  refine lv_iload_n (pc := 2) hx hb dJ6_stringSize_0f7a4_2 rfl (lv_at hl 1 rfl) ?_
  refine lv_if_lt (pc := 3) (tgt := 11) hx hb dJ6_stringSize_0f7a4_3 (by decide) (fun c_1 => ?_) (fun c_1 => ?_)
  · refine lv_bipush (pc := 11) (v := (-10)) hx hb dJ6_stringSize_0f7a4_11 (by decide) ?_
    refine lv_istore_n (pc := 13) (lv' := [(2, .int ((-10))), (1, .int 1), (0, .int x)]) hx hb dJ6_stringSize_0f7a4_13 rfl hl (by decide) rfl (fun ls hl => ?_)
    refine lv_iconst (pc := 14) (v := 1) hx hb dJ6_stringSize_0f7a4_14 (by decide) ?_
    refine lv_istore_n (pc := 15) (lv' := [(3, .int 1), (2, .int ((-10))), (1, .int 1), (0, .int x)]) hx hb dJ6_stringSize_0f7a4_15 rfl hl (by decide) rfl (fun ls hl => ?_)
    have loop_16 : ∀ (n : Nat) (k : Nat)(p9 : Int32) (y9 : Int32), 11 - k < n → 1 ≤ k ∧ k ≤ 10 → p9 = pP k → y9 = nI k → k = 1 ∨ 10 ^ (k - 1) ≤ x.toInt.natAbs → ∀ (H : Heap) (locs : List Loc) (ls : Array Slot), va_S (nwA s.heap.size) s.heap H locs → lv_has ls 4 [(0, .int x), (1, .int 1), (2, .int p9), (3, .int y9)] → W p l e ({ frames := 0, cells := 0, slots := 0, locals := 0 } : Room) s m args below meth c H locs (0) (0) Q (F0 m 16 ls []) := by
      intro n
      induction n with
      | zero =>
        intro k p9 y9 hf9 hk9 hp9 hx9 hlo9 H locs ls hS hl
        omega
      | succ n ih_16 =>
        intro k p9 y9 hf9 hk9 hp9 hx9 hlo9 H locs ls hS hl
        refine lv_iload_n (pc := 16) hx hb dJ6_stringSize_0f7a4_16 rfl (lv_at hl 3 rfl) ?_
        refine lv_bipush (pc := 17) (v := 10) hx hb dJ6_stringSize_0f7a4_17 (by decide) ?_
        refine lv_icmp_ge (pc := 19) (tgt := 42) hx hb dJ6_stringSize_0f7a4_19 (by decide) (fun c_2 => ?_) (fun c_2 => ?_)
        · refine lv_bipush (pc := 42) (v := 10) hx hb dJ6_stringSize_0f7a4_42 (by decide) ?_
          refine lv_iload_n (pc := 44) hx hb dJ6_stringSize_0f7a4_44 rfl (lv_at hl 1 rfl) ?_
          refine lv_iadd (pc := 45) hx hb dJ6_stringSize_0f7a4_45 ?_
          try rw [hQ]
          refine r_iret (pc := 46) E hr hlk hS (by decide) (by decide) ?_ dJ6_stringSize_0f7a4_46
          exact ssC hk9 hx9 c_2 c_1 hlo9
        · refine lv_iload_n (pc := 22) hx hb dJ6_stringSize_0f7a4_22 rfl (lv_at hl 0 rfl) ?_
          refine lv_iload_n (pc := 23) hx hb dJ6_stringSize_0f7a4_23 rfl (lv_at hl 2 rfl) ?_
          refine lv_icmp_le (pc := 24) (tgt := 31) hx hb dJ6_stringSize_0f7a4_24 (by decide) (fun c_3 => ?_) (fun c_3 => ?_)
          · refine lv_bipush (pc := 31) (v := 10) hx hb dJ6_stringSize_0f7a4_31 (by decide) ?_
            refine lv_iload_n (pc := 33) hx hb dJ6_stringSize_0f7a4_33 rfl (lv_at hl 2 rfl) ?_
            refine lv_imul (pc := 34) hx hb dJ6_stringSize_0f7a4_34 ?_
            obtain ⟨x_4, ex_4⟩ : ∃ z9 : Int32, z9 = 10 * p9 := ⟨_, rfl⟩
            rw [← ex_4]
            refine lv_istore_n (pc := 35) (lv' := [(2, .int x_4), (0, .int x), (1, .int 1), (3, .int y9)]) hx hb dJ6_stringSize_0f7a4_35 rfl hl (by decide) rfl (fun ls hl => ?_)
            obtain ⟨x_5, ex_5⟩ : ∃ z9 : Int32, z9 = y9 + 1 := ⟨_, rfl⟩
            refine lv_iinc (pc := 36) (v := x_5) (lv' := [(3, .int x_5), (2, .int x_4), (0, .int x), (1, .int 1)]) hx hb dJ6_stringSize_0f7a4_36 hl (k := 3) rfl (by rw [ex_5]; rfl) (by decide) rfl (fun ls hl => ?_)
            refine lv_goto (pc := 39) (tgt := 16) hx hb dJ6_stringSize_0f7a4_39 (by decide) ?_
            have hlt : k < 10 := Nat.not_le.mp (fun z => c_2 ((i_le (n := 10) hx9 (by decide) (by omega) (by decide)).mpr z))
            exact ih_16  (k + 1)  x_4 x_5 (by omega) (by omega) (by rw [ex_4, hp9]; rfl) (i_up hx9 ex_5) (Or.inr (ss_low hp9 hlt c_3)) _ _ _ hS (lv_sub hl [2, 3, 1, 0] rfl)
          · refine lv_iload_n (pc := 27) hx hb dJ6_stringSize_0f7a4_27 rfl (lv_at hl 3 rfl) ?_
            refine lv_iload_n (pc := 28) hx hb dJ6_stringSize_0f7a4_28 rfl (lv_at hl 1 rfl) ?_
            refine lv_iadd (pc := 29) hx hb dJ6_stringSize_0f7a4_29 ?_
            try rw [hQ]
            refine r_iret (pc := 30) E hr hlk hS (by decide) (by decide) ?_ dJ6_stringSize_0f7a4_30
            exact ssA hk9 hp9 hx9 c_1 c_2 c_3 hlo9
    exact loop_16 11 1  ((-10)) 1 (by decide) (by decide) (by decide) (by decide) (Or.inl rfl) _ _ _ hS (lv_sub hl [3, 2, 1, 0] rfl)
  · refine lv_iconst (pc := 6) (v := 0) hx hb dJ6_stringSize_0f7a4_6 (by decide) ?_
    refine lv_istore_n (pc := 7) (lv' := [(1, .int 0), (0, .int x)]) hx hb dJ6_stringSize_0f7a4_7 rfl hl (by decide) rfl (fun ls hl => ?_)
    refine lv_iload_n (pc := 8) hx hb dJ6_stringSize_0f7a4_8 rfl (lv_at hl 1 rfl) ?_
    refine lv_ineg (pc := 9) hx hb dJ6_stringSize_0f7a4_9 ?_
    obtain ⟨x_6, ex_6⟩ : ∃ z9 : Int32, z9 = -x := ⟨_, rfl⟩
    rw [← ex_6]
    refine lv_istore_n (pc := 10) (lv' := [(0, .int x_6), (1, .int 0)]) hx hb dJ6_stringSize_0f7a4_10 rfl hl (by decide) rfl (fun ls hl => ?_)
    refine lv_bipush (pc := 11) (v := (-10)) hx hb dJ6_stringSize_0f7a4_11 (by decide) ?_
    refine lv_istore_n (pc := 13) (lv' := [(2, .int ((-10))), (0, .int x_6), (1, .int 0)]) hx hb dJ6_stringSize_0f7a4_13 rfl hl (by decide) rfl (fun ls hl => ?_)
    refine lv_iconst (pc := 14) (v := 1) hx hb dJ6_stringSize_0f7a4_14 (by decide) ?_
    refine lv_istore_n (pc := 15) (lv' := [(3, .int 1), (2, .int ((-10))), (0, .int x_6), (1, .int 0)]) hx hb dJ6_stringSize_0f7a4_15 rfl hl (by decide) rfl (fun ls hl => ?_)
    have loop_16 : ∀ (n : Nat) (k : Nat)(p9 : Int32) (y9 : Int32), 11 - k < n → 1 ≤ k ∧ k ≤ 10 → p9 = pP k → y9 = nI k → k = 1 ∨ 10 ^ (k - 1) ≤ x_6.toInt.natAbs → ∀ (H : Heap) (locs : List Loc) (ls : Array Slot), va_S (nwA s.heap.size) s.heap H locs → lv_has ls 4 [(0, .int x_6), (1, .int 0), (2, .int p9), (3, .int y9)] → W p l e ({ frames := 0, cells := 0, slots := 0, locals := 0 } : Room) s m args below meth c H locs (0) (0) Q (F0 m 16 ls []) := by
      intro n
      induction n with
      | zero =>
        intro k p9 y9 hf9 hk9 hp9 hx9 hlo9 H locs ls hS hl
        omega
      | succ n ih_16 =>
        intro k p9 y9 hf9 hk9 hp9 hx9 hlo9 H locs ls hS hl
        refine lv_iload_n (pc := 16) hx hb dJ6_stringSize_0f7a4_16 rfl (lv_at hl 3 rfl) ?_
        refine lv_bipush (pc := 17) (v := 10) hx hb dJ6_stringSize_0f7a4_17 (by decide) ?_
        refine lv_icmp_ge (pc := 19) (tgt := 42) hx hb dJ6_stringSize_0f7a4_19 (by decide) (fun c_7 => ?_) (fun c_7 => ?_)
        · refine lv_bipush (pc := 42) (v := 10) hx hb dJ6_stringSize_0f7a4_42 (by decide) ?_
          refine lv_iload_n (pc := 44) hx hb dJ6_stringSize_0f7a4_44 rfl (lv_at hl 1 rfl) ?_
          refine lv_iadd (pc := 45) hx hb dJ6_stringSize_0f7a4_45 ?_
          try rw [hQ]
          refine r_iret (pc := 46) E hr hlk hS (by decide) (by decide) ?_ dJ6_stringSize_0f7a4_46
          exact ssD hk9 hx9 c_7 c_1 ex_6 hlo9
        · refine lv_iload_n (pc := 22) hx hb dJ6_stringSize_0f7a4_22 rfl (lv_at hl 0 rfl) ?_
          refine lv_iload_n (pc := 23) hx hb dJ6_stringSize_0f7a4_23 rfl (lv_at hl 2 rfl) ?_
          refine lv_icmp_le (pc := 24) (tgt := 31) hx hb dJ6_stringSize_0f7a4_24 (by decide) (fun c_8 => ?_) (fun c_8 => ?_)
          · refine lv_bipush (pc := 31) (v := 10) hx hb dJ6_stringSize_0f7a4_31 (by decide) ?_
            refine lv_iload_n (pc := 33) hx hb dJ6_stringSize_0f7a4_33 rfl (lv_at hl 2 rfl) ?_
            refine lv_imul (pc := 34) hx hb dJ6_stringSize_0f7a4_34 ?_
            obtain ⟨x_9, ex_9⟩ : ∃ z9 : Int32, z9 = 10 * p9 := ⟨_, rfl⟩
            rw [← ex_9]
            refine lv_istore_n (pc := 35) (lv' := [(2, .int x_9), (0, .int x_6), (1, .int 0), (3, .int y9)]) hx hb dJ6_stringSize_0f7a4_35 rfl hl (by decide) rfl (fun ls hl => ?_)
            obtain ⟨x_10, ex_10⟩ : ∃ z9 : Int32, z9 = y9 + 1 := ⟨_, rfl⟩
            refine lv_iinc (pc := 36) (v := x_10) (lv' := [(3, .int x_10), (2, .int x_9), (0, .int x_6), (1, .int 0)]) hx hb dJ6_stringSize_0f7a4_36 hl (k := 3) rfl (by rw [ex_10]; rfl) (by decide) rfl (fun ls hl => ?_)
            refine lv_goto (pc := 39) (tgt := 16) hx hb dJ6_stringSize_0f7a4_39 (by decide) ?_
            have hlt : k < 10 := Nat.not_le.mp (fun z => c_7 ((i_le (n := 10) hx9 (by decide) (by omega) (by decide)).mpr z))
            exact ih_16  (k + 1)  x_9 x_10 (by omega) (by omega) (by rw [ex_9, hp9]; rfl) (i_up hx9 ex_10) (Or.inr (ss_low hp9 hlt c_8)) _ _ _ hS (lv_sub hl [2, 3, 1, 0] rfl)
          · refine lv_iload_n (pc := 27) hx hb dJ6_stringSize_0f7a4_27 rfl (lv_at hl 3 rfl) ?_
            refine lv_iload_n (pc := 28) hx hb dJ6_stringSize_0f7a4_28 rfl (lv_at hl 1 rfl) ?_
            refine lv_iadd (pc := 29) hx hb dJ6_stringSize_0f7a4_29 ?_
            try rw [hQ]
            refine r_iret (pc := 30) E hr hlk hS (by decide) (by decide) ?_ dJ6_stringSize_0f7a4_30
            exact ssB hk9 hp9 hx9 c_1 ex_6 c_7 c_8 hlo9
    exact loop_16 11 1  ((-10)) 1 (by decide) (by decide) (by decide) (by decide) (Or.inl rfl) _ _ _ hS (lv_sub hl [2, 3, 1, 0] rfl)
