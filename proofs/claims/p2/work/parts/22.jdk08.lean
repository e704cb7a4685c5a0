set_option maxHeartbeats 4000000 in
set_option maxRecDepth 100000 in
/-- java/lang/Long.getChars(JI[B)I -/
theorem c_J13_getChars_11360 (l : Launch) (D : va_G) (tk : Nat → ClassId) (N0 : Nat) (sa : Nat → Nat)  (sz : Nat) (x : Int64) (ix : Int32) (b nb td kd : Nat) (hb9 : N0 ≤ b) (hk9 : x.toInt.natAbs < 10 ^ kd) (h19 : 1 ≤ kd) (ht9 : kd + (if x < 0 then 1 else 0) ≤ td) (htn : td ≤ nb) (hnb : nb < 2 ^ 31) (hix : ix = nI td) : Met l yJ13_getChars_11360 (wsy yJ13_getChars_11360 cJ13_getChars_11360 11 (some .int)) ({ frames := 0, cells := 0, slots := 0, locals := 0 } : Room) (cP D tk N0 sa [.long x, .int ix, .ref b] sz (fun H => BA D tk b nb H)) (kQi (fun r H => BA D tk b nb H) (inA1 b sz)) (0) (0) (inA1 b sz) := by
  refine mStart RJ13 rfl (by decide +kernel) (Nat.le_of_ble_eq_true rfl) ?_
  intro p e s m args below meth c E hr hlk hnm hsz hC hF ls hl
  subst hsz
  obtain ⟨hx, hb, -⟩ := id E
  have hA : ∀ q, (inA1 b s.heap.size) q → N0 ≤ q := fun q h => h.elim (fun z => z ▸ hb9) (fun z => Nat.le_trans hC.2.1 z)
  have hn : ∀ q, s.heap.size ≤ q → (inA1 b s.heap.size) q := fun q h => Or.inr h
  have hS : va_S (inA1 b s.heap.size) s.heap s.heap [] := va_S.rf
  have hl : lv_has ls 11 [(0, .long x), (2, .int ix), (3, .ref b)] := hl
  obtain ⟨Q, hQ⟩ : ∃ Q, Q = MQ below (kQi (fun r H => BA D tk b nb H) (inA1 b s.heap.size)) args s (0) (0) (inA1 b s.heap.size) := ⟨_, rfl⟩
  rw [← hQ]
  have hB : BA D tk b nb s.heap := hF
  have g_hB : (inA1 b s.heap.size) b := Or.inl rfl
  refine lv_iload_n (pc := 0) hx hb dJ13_getChars_11360_0 rfl (lv_at hl 1 rfl) ?_
  refine lv_istore (pc := 1) (lv' := [(7, .int ix), (0, .long x), (2, .int ix), (3, .ref b)]) hx hb dJ13_getChars_11360_1 hl (by decide) rfl (fun ls hl => ?_)
  refine lv_lload_n (pc := 3) hx hb dJ13_getChars_11360_3 rfl (lv_at hl 1 rfl) ?_
  refine lv_lconst (pc := 4) (v := 0) hx hb dJ13_getChars_11360_4 (by decide) ?_
  refine r_lcge (pc := 5) (tgt := 13) E dJ13_getChars_11360_5 dJ13_getChars_11360_6 (by decide) (fun c_1 => ?_) (fun c_1 => ?_)
  · refine lv_iconst (pc := 13) (v := 0) hx hb dJ13_getChars_11360_13 (by decide) ?_
    refine lv_istore (pc := 14) (lv' := [(8, .int 0), (7, .int ix), (0, .long x), (2, .int ix), (3, .ref b)]) hx hb dJ13_getChars_11360_14 hl (by decide) rfl (fun ls hl => ?_)
    refine lv_iload (pc := 16) hx hb dJ13_getChars_11360_16 (lv_at hl 0 rfl) ?_
    refine lv_if_ne (pc := 18) (tgt := 24) hx hb dJ13_getChars_11360_18 (by decide) (fun c_2 => ?_) (fun c_2 => ?_)
    · exact absurd (by decide) c_2
    refine lv_lload_n (pc := 21) hx hb dJ13_getChars_11360_21 rfl (lv_at hl 2 rfl) ?_
    refine lv_lneg (pc := 22) hx hb dJ13_getChars_11360_22 ?_
    obtain ⟨x_3, ex_3⟩ : ∃ z9 : Int64, z9 = -x := ⟨_, rfl⟩
    rw [← ex_3]
    refine lv_lstore_n (pc := 23) (lv' := [(0, .long x_3), (8, .int 0), (7, .int ix), (2, .int ix), (3, .ref b)]) hx hb dJ13_getChars_11360_23 rfl hl (by decide) rfl (fun ls hl => ?_)
    have loop_24 : ∀ (n : Nat) (kk : Nat) (jj : Nat)(X9 : Int64) (y9 : Int32), kk < n → X9.toInt ≤ 0 → X9.toInt.natAbs < 10 ^ kk → 1 ≤ kk → kk + 0 ≤ jj ∧ jj ≤ nb → y9 = nI jj → ∀ (H : Heap) (locs : List Loc) (ls : Array Slot), va_S (inA1 b s.heap.size) s.heap H locs → BA D tk b nb H → lv_has ls 11 [(0, .long X9), (2, .int ix), (3, .ref b), (7, .int y9), (8, .int 0)] → W p l e ({ frames := 0, cells := 0, slots := 0, locals := 0 } : Room) s m args below meth c H locs (0) (0) Q (F0 m 24 ls []) := by
      intro n
      induction n with
      | zero =>
        intro kk jj X9 y9 hf9 hX9 hK9 h19 hj9 hx9 H locs ls hS hB hl
        omega
      | succ n ih_24 =>
        intro kk jj X9 y9 hf9 hX9 hK9 h19 hj9 hx9 H locs ls hS hB hl
        refine lv_lload_n (pc := 24) hx hb dJ13_getChars_11360_24 rfl (lv_at hl 0 rfl) ?_
        refine lv_ldc2 (pc := 25) (v := (-2147483648)) hx hb E.2.2.2.1 (E.2.2.2.2 _ (List.mem_cons_of_mem _ kw_1369)) dJ13_getChars_11360_25 ?_
        refine r_lcgt (pc := 28) (tgt := 82) E dJ13_getChars_11360_28 dJ13_getChars_11360_29 (by decide) (fun c_4 => ?_) (fun c_4 => ?_)
        · refine lv_lload_n (pc := 82) hx hb dJ13_getChars_11360_82 rfl (lv_at hl 0 rfl) ?_
          refine lv_l2i (pc := 83) (v := X9.toInt32) hx hb dJ13_getChars_11360_83 rfl ?_
          obtain ⟨x_5, ex_5⟩ : ∃ z9 : Int32, z9 = X9.toInt32 := ⟨_, rfl⟩
          rw [← ex_5]
          refine lv_istore (pc := 84) (lv' := [(10, .int x_5), (0, .long X9), (2, .int ix), (3, .ref b), (7, .int y9), (8, .int 0)]) hx hb dJ13_getChars_11360_84 hl (by decide) rfl (fun ls hl => ?_)
          have loop_86 : ∀ (n : Nat) (ii : Nat) (ll : Nat)(Z9 : Int32) (w9 : Int32), ii < n → Z9.toInt ≤ 0 → Z9.toInt.natAbs < 10 ^ ii → 1 ≤ ii → ii + 0 ≤ ll ∧ ll ≤ nb → w9 = nI ll → ∀ (H : Heap) (locs : List Loc) (ls : Array Slot), va_S (inA1 b s.heap.size) s.heap H locs → BA D tk b nb H → lv_has ls 11 [(0, .long X9), (2, .int ix), (3, .ref b), (7, .int w9), (8, .int 0), (10, .int Z9)] → W p l e ({ frames := 0, cells := 0, slots := 0, locals := 0 } : Room) s m args below meth c H locs (0) (0) Q (F0 m 86 ls []) := by
            intro n
            induction n with
            | zero =>
              intro ii ll Z9 w9 hf8 hZ9 hL9 h18 hi9 hw9 H locs ls hS hB hl
              omega
            | succ n ih_86 =>
              intro ii ll Z9 w9 hf8 hZ9 hL9 h18 hi9 hw9 H locs ls hS hB hl
              refine lv_iload (pc := 86) hx hb dJ13_getChars_11360_86 (lv_at hl 5 rfl) ?_
              refine lv_bipush (pc := 88) (v := (-100)) hx hb dJ13_getChars_11360_88 (by decide) ?_
              refine lv_icmp_gt (pc := 90) (tgt := 143) hx hb dJ13_getChars_11360_90 (by decide) (fun c_6 => ?_) (fun c_6 => ?_)
              · refine lv_aload_n (pc := 143) hx hb dJ13_getChars_11360_143 rfl (lv_at hl 2 rfl) ?_
                obtain ⟨x_7, ex_7⟩ : ∃ z9 : Int32, z9 = w9 + (-1) := ⟨_, rfl⟩
                refine lv_iinc (pc := 144) (v := x_7) (lv' := [(7, .int x_7), (0, .long X9), (2, .int ix), (3, .ref b), (8, .int 0), (10, .int Z9)]) hx hb dJ13_getChars_11360_144 hl (k := 3) rfl (by rw [ex_7]; rfl) (by decide) rfl (fun ls hl => ?_)
                have hd_8 := i_dn hw9 (by omega) ex_7
                refine lv_iload (pc := 147) hx hb dJ13_getChars_11360_147 (lv_at hl 0 rfl) ?_
                refine va_gets (pc := 149) hx hb (hC.ones.1.narrow hA) hS E.2.2.2.1 (E.2.2.2.2 _ (List.mem_cons_of_mem _ kw_1371)) (fun _ h => h) dJ13_getChars_11360_149 ?_
                refine lv_iload (pc := 152) hx hb dJ13_getChars_11360_152 (lv_at hl 5 rfl) ?_
                refine lv_ineg (pc := 154) hx hb dJ13_getChars_11360_154 ?_
                refine va_tb (pc := 155) hx hb (hC.ones.2.narrow hA) hS (gc_last hZ9 (Int32.not_le.mpr c_6)) rfl dJ13_getChars_11360_155 ?_
                refine r_bastB (pc := 156) E hC hB hS g_hB (i_in hd_8 (by omega) (by omega)) dJ13_getChars_11360_156 (fun H locs n_ ho hz hS => ?_)
                have hB := n_
                refine lv_iload (pc := 157) hx hb dJ13_getChars_11360_157 (lv_at hl 5 rfl) ?_
                refine lv_bipush (pc := 159) (v := (-9)) hx hb dJ13_getChars_11360_159 (by decide) ?_
                refine lv_icmp_ge (pc := 161) (tgt := 178) hx hb dJ13_getChars_11360_161 (by decide) (fun c_9 => ?_) (fun c_9 => ?_)
                · refine lv_iload (pc := 178) hx hb dJ13_getChars_11360_178 (lv_at hl 4 rfl) ?_
                  refine lv_if_eq (pc := 180) (tgt := 192) hx hb dJ13_getChars_11360_180 (by decide) (fun c_10 => ?_) (fun c_10 => ?_)
                  rotate_left
                  · exact absurd (by decide) c_10
                  refine lv_iload (pc := 192) hx hb dJ13_getChars_11360_192 (lv_at hl 0 rfl) ?_
                  try rw [hQ]
                  refine r_iret (pc := 194) E hr hlk hS (by decide) (by decide) ?_ dJ13_getChars_11360_194
                  exact hB
                · have h2k := gc_two hL9 (Int32.not_le.mp c_9)
                  refine lv_aload_n (pc := 164) hx hb dJ13_getChars_11360_164 rfl (lv_at hl 3 rfl) ?_
                  obtain ⟨x_11, ex_11⟩ : ∃ z9 : Int32, z9 = x_7 + (-1) := ⟨_, rfl⟩
                  refine lv_iinc (pc := 165) (v := x_11) (lv' := [(7, .int x_11), (0, .long X9), (2, .int ix), (3, .ref b), (8, .int 0), (10, .int Z9)]) hx hb dJ13_getChars_11360_165 hl (k := 0) rfl (by rw [ex_11]; rfl) (by decide) rfl (fun ls hl => ?_)
                  have hd_12 := i_dn hd_8 (by omega) ex_11
                  refine lv_iload (pc := 168) hx hb dJ13_getChars_11360_168 (lv_at hl 0 rfl) ?_
                  refine va_gets (pc := 170) hx hb (hC.tens.1.narrow hA) hS E.2.2.2.1 (E.2.2.2.2 _ (List.mem_cons_of_mem _ kw_1372)) (fun _ h => h) dJ13_getChars_11360_170 ?_
                  refine lv_iload (pc := 173) hx hb dJ13_getChars_11360_173 (lv_at hl 5 rfl) ?_
                  refine lv_ineg (pc := 175) hx hb dJ13_getChars_11360_175 ?_
                  refine va_tb (pc := 176) hx hb (hC.tens.2.narrow hA) hS (gc_last hZ9 (Int32.not_le.mpr c_6)) rfl dJ13_getChars_11360_176 ?_
                  refine r_bastB (pc := 177) E hC hB hS g_hB (i_in hd_12 (by omega) (by omega)) dJ13_getChars_11360_177 (fun H locs n_ ho hz hS => ?_)
                  have hB := n_
                  refine lv_iload (pc := 178) hx hb dJ13_getChars_11360_178 (lv_at hl 4 rfl) ?_
                  refine lv_if_eq (pc := 180) (tgt := 192) hx hb dJ13_getChars_11360_180 (by decide) (fun c_13 => ?_) (fun c_13 => ?_)
                  rotate_left
                  · exact absurd (by decide) c_13
                  refine lv_iload (pc := 192) hx hb dJ13_getChars_11360_192 (lv_at hl 0 rfl) ?_
                  try rw [hQ]
                  refine r_iret (pc := 194) E hr hlk hS (by decide) (by decide) ?_ dJ13_getChars_11360_194
                  exact hB
              · refine lv_iload (pc := 93) hx hb dJ13_getChars_11360_93 (lv_at hl 5 rfl) ?_
                refine lv_bipush (pc := 95) (v := 100) hx hb dJ13_getChars_11360_95 (by decide) ?_
                refine lv_idiv (pc := 97) hx hb dJ13_getChars_11360_97 (by decide) ?_
                obtain ⟨x_14, ex_14⟩ : ∃ z9 : Int32, z9 = Z9 / 100 := ⟨_, rfl⟩
                rw [← ex_14]
                refine lv_istore (pc := 98) (lv' := [(9, .int x_14), (0, .long X9), (2, .int ix), (3, .ref b), (7, .int w9), (8, .int 0), (10, .int Z9)]) hx hb dJ13_getChars_11360_98 hl (by decide) rfl (fun ls hl => ?_)
                refine lv_iload (pc := 100) hx hb dJ13_getChars_11360_100 (lv_at hl 0 rfl) ?_
                refine lv_bipush (pc := 102) (v := 100) hx hb dJ13_getChars_11360_102 (by decide) ?_
                refine lv_imul (pc := 104) hx hb dJ13_getChars_11360_104 ?_
                refine lv_iload (pc := 105) hx hb dJ13_getChars_11360_105 (lv_at hl 6 rfl) ?_
                refine lv_isub (pc := 107) hx hb dJ13_getChars_11360_107 ?_
                obtain ⟨x_15, ex_15⟩ : ∃ z9 : Int32, z9 = (x_14 * 100) - Z9 := ⟨_, rfl⟩
                rw [← ex_15]
                refine lv_istore (pc := 108) (lv' := [(6, .int x_15), (9, .int x_14), (0, .long X9), (2, .int ix), (3, .ref b), (7, .int w9), (8, .int 0), (10, .int Z9)]) hx hb dJ13_getChars_11360_108 hl (by decide) rfl (fun ls hl => ?_)
                refine lv_iload (pc := 110) hx hb dJ13_getChars_11360_110 (lv_at hl 1 rfl) ?_
                refine lv_istore (pc := 112) (lv' := [(10, .int x_14), (6, .int x_15), (9, .int x_14), (0, .long X9), (2, .int ix), (3, .ref b), (7, .int w9), (8, .int 0)]) hx hb dJ13_getChars_11360_112 hl (by decide) rfl (fun ls hl => ?_)
                obtain ⟨hs1, hs2, hs3, hs4⟩ := gc_step hZ9 hL9 (Int32.not_lt.mp c_6) ex_14
                rw [← ex_15] at hs4
                refine lv_aload_n (pc := 114) hx hb dJ13_getChars_11360_114 rfl (lv_at hl 5 rfl) ?_
                obtain ⟨x_16, ex_16⟩ : ∃ z9 : Int32, z9 = w9 + (-1) := ⟨_, rfl⟩
                refine lv_iinc (pc := 115) (v := x_16) (lv' := [(7, .int x_16), (10, .int x_14), (6, .int x_15), (9, .int x_14), (0, .long X9), (2, .int ix), (3, .ref b), (8, .int 0)]) hx hb dJ13_getChars_11360_115 hl (k := 6) rfl (by rw [ex_16]; rfl) (by decide) rfl (fun ls hl => ?_)
                have hd_17 := i_dn hw9 (by omega) ex_16
                refine lv_iload (pc := 118) hx hb dJ13_getChars_11360_118 (lv_at hl 0 rfl) ?_
                refine va_gets (pc := 120) hx hb (hC.ones.1.narrow hA) hS E.2.2.2.1 (E.2.2.2.2 _ (List.mem_cons_of_mem _ kw_1371)) (fun _ h => h) dJ13_getChars_11360_120 ?_
                refine lv_iload (pc := 123) hx hb dJ13_getChars_11360_123 (lv_at hl 2 rfl) ?_
                refine va_tb (pc := 125) hx hb (hC.ones.2.narrow hA) hS hs4 rfl dJ13_getChars_11360_125 ?_
                refine r_bastB (pc := 126) E hC hB hS g_hB (i_in hd_17 (by omega) (by omega)) dJ13_getChars_11360_126 (fun H locs n_ ho hz hS => ?_)
                have hB := n_
                refine lv_aload_n (pc := 127) hx hb dJ13_getChars_11360_127 rfl (lv_at hl 6 rfl) ?_
                obtain ⟨x_18, ex_18⟩ : ∃ z9 : Int32, z9 = x_16 + (-1) := ⟨_, rfl⟩
                refine lv_iinc (pc := 128) (v := x_18) (lv' := [(7, .int x_18), (10, .int x_14), (6, .int x_15), (9, .int x_14), (0, .long X9), (2, .int ix), (3, .ref b), (8, .int 0)]) hx hb dJ13_getChars_11360_128 hl (k := 0) rfl (by rw [ex_18]; rfl) (by decide) rfl (fun ls hl => ?_)
                have hd_19 := i_dn hd_17 (by omega) ex_18
                refine lv_iload (pc := 131) hx hb dJ13_getChars_11360_131 (lv_at hl 0 rfl) ?_
                refine va_gets (pc := 133) hx hb (hC.tens.1.narrow hA) hS E.2.2.2.1 (E.2.2.2.2 _ (List.mem_cons_of_mem _ kw_1372)) (fun _ h => h) dJ13_getChars_11360_133 ?_
                refine lv_iload (pc := 136) hx hb dJ13_getChars_11360_136 (lv_at hl 2 rfl) ?_
                refine va_tb (pc := 138) hx hb (hC.tens.2.narrow hA) hS hs4 rfl dJ13_getChars_11360_138 ?_
                refine r_bastB (pc := 139) E hC hB hS g_hB (i_in hd_19 (by omega) (by omega)) dJ13_getChars_11360_139 (fun H locs n_ ho hz hS => ?_)
                have hB := n_
                refine lv_goto (pc := 140) (tgt := 86) hx hb dJ13_getChars_11360_140 (by decide) ?_
                exact ih_86  (ii - 2) (ll - 2)  x_14 x_18 (by omega) hs2 hs3 (by omega) (by omega) (by rw [show ll - 2 = ll - 1 - 1 by omega]; exact hd_19) _ _ _ hS hB (lv_sub hl [4, 5, 6, 0, 7, 1] rfl)
          obtain ⟨hz1, hz2⟩ := gcJ_int hX9 (Int64.not_le.mpr c_4) hK9
          rw [← ex_5] at hz1 hz2
          exact loop_86 (kk + 1) kk jj  x_5 y9 (by omega) hz1 hz2 h19 hj9 hx9 _ _ _ hS hB (lv_sub hl [1, 2, 3, 4, 5, 0] rfl)
        · refine lv_lload_n (pc := 32) hx hb dJ13_getChars_11360_32 rfl (lv_at hl 0 rfl) ?_
          refine lv_ldc2 (pc := 33) (v := 100) hx hb E.2.2.2.1 (E.2.2.2.2 _ (List.mem_cons_of_mem _ kw_1370)) dJ13_getChars_11360_33 ?_
          refine lv_ldiv (pc := 36) hx hb dJ13_getChars_11360_36 (by decide) ?_
          obtain ⟨x_20, ex_20⟩ : ∃ z9 : Int64, z9 = X9 / 100 := ⟨_, rfl⟩
          rw [← ex_20]
          refine lv_lstore (pc := 37) (lv' := [(4, .long x_20), (0, .long X9), (2, .int ix), (3, .ref b), (7, .int y9), (8, .int 0)]) hx hb dJ13_getChars_11360_37 hl (by decide) rfl (fun ls hl => ?_)
          refine lv_lload (pc := 39) hx hb dJ13_getChars_11360_39 (lv_at hl 0 rfl) ?_
          refine lv_ldc2 (pc := 41) (v := 100) hx hb E.2.2.2.1 (E.2.2.2.2 _ (List.mem_cons_of_mem _ kw_1370)) dJ13_getChars_11360_41 ?_
          refine lv_lmul (pc := 44) hx hb dJ13_getChars_11360_44 ?_
          refine lv_lload_n (pc := 45) hx hb dJ13_getChars_11360_45 rfl (lv_at hl 1 rfl) ?_
          refine lv_lsub (pc := 46) hx hb dJ13_getChars_11360_46 ?_
          refine lv_l2i (pc := 47) (v := ((x_20 * 100) - X9).toInt32) hx hb dJ13_getChars_11360_47 rfl ?_
          obtain ⟨x_21, ex_21⟩ : ∃ z9 : Int32, z9 = ((x_20 * 100) - X9).toInt32 := ⟨_, rfl⟩
          rw [← ex_21]
          refine lv_istore (pc := 48) (lv' := [(6, .int x_21), (4, .long x_20), (0, .long X9), (2, .int ix), (3, .ref b), (7, .int y9), (8, .int 0)]) hx hb dJ13_getChars_11360_48 hl (by decide) rfl (fun ls hl => ?_)
          refine lv_lload (pc := 50) hx hb dJ13_getChars_11360_50 (lv_at hl 1 rfl) ?_
          refine lv_lstore_n (pc := 52) (lv' := [(0, .long x_20), (6, .int x_21), (4, .long x_20), (2, .int ix), (3, .ref b), (7, .int y9), (8, .int 0)]) hx hb dJ13_getChars_11360_52 rfl hl (by decide) rfl (fun ls hl => ?_)
          obtain ⟨hs1, hs2, hs3, hs4⟩ := gcJ_step hX9 hK9 (Int64.not_lt.mp c_4) ex_20
          rw [← ex_21] at hs4
          refine lv_aload_n (pc := 53) hx hb dJ13_getChars_11360_53 rfl (lv_at hl 4 rfl) ?_
          obtain ⟨x_22, ex_22⟩ : ∃ z9 : Int32, z9 = y9 + (-1) := ⟨_, rfl⟩
          refine lv_iinc (pc := 54) (v := x_22) (lv' := [(7, .int x_22), (0, .long x_20), (6, .int x_21), (4, .long x_20), (2, .int ix), (3, .ref b), (8, .int 0)]) hx hb dJ13_getChars_11360_54 hl (k := 5) rfl (by rw [ex_22]; rfl) (by decide) rfl (fun ls hl => ?_)
          have hd_23 := i_dn hx9 (by omega) ex_22
          refine lv_iload (pc := 57) hx hb dJ13_getChars_11360_57 (lv_at hl 0 rfl) ?_
          refine va_gets (pc := 59) hx hb (hC.ones.1.narrow hA) hS E.2.2.2.1 (E.2.2.2.2 _ (List.mem_cons_of_mem _ kw_1371)) (fun _ h => h) dJ13_getChars_11360_59 ?_
          refine lv_iload (pc := 62) hx hb dJ13_getChars_11360_62 (lv_at hl 2 rfl) ?_
          refine va_tb (pc := 64) hx hb (hC.ones.2.narrow hA) hS hs4 rfl dJ13_getChars_11360_64 ?_
          refine r_bastB (pc := 65) E hC hB hS g_hB (i_in hd_23 (by omega) (by omega)) dJ13_getChars_11360_65 (fun H locs n_ ho hz hS => ?_)
          have hB := n_
          refine lv_aload_n (pc := 66) hx hb dJ13_getChars_11360_66 rfl (lv_at hl 5 rfl) ?_
          obtain ⟨x_24, ex_24⟩ : ∃ z9 : Int32, z9 = x_22 + (-1) := ⟨_, rfl⟩
          refine lv_iinc (pc := 67) (v := x_24) (lv' := [(7, .int x_24), (0, .long x_20), (6, .int x_21), (4, .long x_20), (2, .int ix), (3, .ref b), (8, .int 0)]) hx hb dJ13_getChars_11360_67 hl (k := 0) rfl (by rw [ex_24]; rfl) (by decide) rfl (fun ls hl => ?_)
          have hd_25 := i_dn hd_23 (by omega) ex_24
          refine lv_iload (pc := 70) hx hb dJ13_getChars_11360_70 (lv_at hl 0 rfl) ?_
          refine va_gets (pc := 72) hx hb (hC.tens.1.narrow hA) hS E.2.2.2.1 (E.2.2.2.2 _ (List.mem_cons_of_mem _ kw_1372)) (fun _ h => h) dJ13_getChars_11360_72 ?_
          refine lv_iload (pc := 75) hx hb dJ13_getChars_11360_75 (lv_at hl 2 rfl) ?_
          refine va_tb (pc := 77) hx hb (hC.tens.2.narrow hA) hS hs4 rfl dJ13_getChars_11360_77 ?_
          refine r_bastB (pc := 78) E hC hB hS g_hB (i_in hd_25 (by omega) (by omega)) dJ13_getChars_11360_78 (fun H locs n_ ho hz hS => ?_)
          have hB := n_
          refine lv_goto (pc := 79) (tgt := 24) hx hb dJ13_getChars_11360_79 (by decide) ?_
          exact ih_24  (kk - 2) (jj - 2)  x_20 x_24 (by omega) hs2 hs3 (by omega) (by omega) (by rw [show jj - 2 = jj - 1 - 1 by omega]; exact hd_25) _ _ _ hS hB (lv_sub hl [1, 4, 5, 0, 6] rfl)
    have hneg := ss_negJ (Int64.not_lt.mpr c_1)
    rw [← ex_3] at hneg
    rw [if_neg (Int64.not_lt.mpr c_1)] at ht9
    have h0x : 0 ≤ x.toInt := by have := Int64.le_iff_toInt_le.mp c_1; simpa using this
    exact loop_24 (kd + 1) kd td  x_3 ix (by omega) (by omega) (by rw [hneg, Int.natAbs_neg]; exact hk9) h19 ⟨ht9, htn⟩ hix _ _ _ hS hB (lv_sub hl [0, 3, 4, 2, 1] rfl)
  · refine lv_iconst (pc := 9) (v := 1) hx hb dJ13_getChars_11360_9 (by decide) ?_
    refine lv_goto (pc := 10) (tgt := 14) hx hb dJ13_getChars_11360_10 (by decide) ?_
    refine lv_istore (pc := 14) (lv' := [(8, .int 1), (7, .int ix), (0, .long x), (2, .int ix), (3, .ref b)]) hx hb dJ13_getChars_11360_14 hl (by decide) rfl (fun ls hl => ?_)
    refine lv_iload (pc := 16) hx hb dJ13_getChars_11360_16 (lv_at hl 0 rfl) ?_
    refine lv_if_ne (pc := 18) (tgt := 24) hx hb dJ13_getChars_11360_18 (by decide) (fun c_26 => ?_) (fun c_26 => ?_)
    rotate_left
    · exact absurd c_26 (by decide)
    have loop_24 : ∀ (n : Nat) (kk : Nat) (jj : Nat)(X9 : Int64) (y9 : Int32), kk < n → X9.toInt ≤ 0 → X9.toInt.natAbs < 10 ^ kk → 1 ≤ kk → kk + 1 ≤ jj ∧ jj ≤ nb → y9 = nI jj → ∀ (H : Heap) (locs : List Loc) (ls : Array Slot), va_S (inA1 b s.heap.size) s.heap H locs → BA D tk b nb H → lv_has ls 11 [(0, .long X9), (2, .int ix), (3, .ref b), (7, .int y9), (8, .int 1)] → W p l e ({ frames := 0, cells := 0, slots := 0, locals := 0 } : Room) s m args below meth c H locs (0) (0) Q (F0 m 24 ls []) := by
      intro n
      induction n with
      | zero =>
        intro kk jj X9 y9 hf9 hX9 hK9 h19 hj9 hx9 H locs ls hS hB hl
        omega
      | succ n ih_24 =>
        intro kk jj X9 y9 hf9 hX9 hK9 h19 hj9 hx9 H locs ls hS hB hl
        refine lv_lload_n (pc := 24) hx hb dJ13_getChars_11360_24 rfl (lv_at hl 0 rfl) ?_
        refine lv_ldc2 (pc := 25) (v := (-2147483648)) hx hb E.2.2.2.1 (E.2.2.2.2 _ (List.mem_cons_of_mem _ kw_1369)) dJ13_getChars_11360_25 ?_
        refine r_lcgt (pc := 28) (tgt := 82) E dJ13_getChars_11360_28 dJ13_getChars_11360_29 (by decide) (fun c_27 => ?_) (fun c_27 => ?_)
        · refine lv_lload_n (pc := 82) hx hb dJ13_getChars_11360_82 rfl (lv_at hl 0 rfl) ?_
          refine lv_l2i (pc := 83) (v := X9.toInt32) hx hb dJ13_getChars_11360_83 rfl ?_
          obtain ⟨x_28, ex_28⟩ : ∃ z9 : Int32, z9 = X9.toInt32 := ⟨_, rfl⟩
          rw [← ex_28]
          refine lv_istore (pc := 84) (lv' := [(10, .int x_28), (0, .long X9), (2, .int ix), (3, .ref b), (7, .int y9), (8, .int 1)]) hx hb dJ13_getChars_11360_84 hl (by decide) rfl (fun ls hl => ?_)
          have loop_86 : ∀ (n : Nat) (ii : Nat) (ll : Nat)(Z9 : Int32) (w9 : Int32), ii < n → Z9.toInt ≤ 0 → Z9.toInt.natAbs < 10 ^ ii → 1 ≤ ii → ii + 1 ≤ ll ∧ ll ≤ nb → w9 = nI ll → ∀ (H : Heap) (locs : List Loc) (ls : Array Slot), va_S (inA1 b s.heap.size) s.heap H locs → BA D tk b nb H → lv_has ls 11 [(0, .long X9), (2, .int ix), (3, .ref b), (7, .int w9), (8, .int 1), (10, .int Z9)] → W p l e ({ frames := 0, cells := 0, slots := 0, locals := 0 } : Room) s m args below meth c H locs (0) (0) Q (F0 m 86 ls []) := by
            intro n
            induction n with
            | zero =>
              intro ii ll Z9 w9 hf8 hZ9 hL9 h18 hi9 hw9 H locs ls hS hB hl
              omega
            | succ n ih_86 =>
              intro ii ll Z9 w9 hf8 hZ9 hL9 h18 hi9 hw9 H locs ls hS hB hl
              refine lv_iload (pc := 86) hx hb dJ13_getChars_11360_86 (lv_at hl 5 rfl) ?_
              refine lv_bipush (pc := 88) (v := (-100)) hx hb dJ13_getChars_11360_88 (by decide) ?_
              refine lv_icmp_gt (pc := 90) (tgt := 143) hx hb dJ13_getChars_11360_90 (by decide) (fun c_29 => ?_) (fun c_29 => ?_)
              · refine lv_aload_n (pc := 143) hx hb dJ13_getChars_11360_143 rfl (lv_at hl 2 rfl) ?_
                obtain ⟨x_30, ex_30⟩ : ∃ z9 : Int32, z9 = w9 + (-1) := ⟨_, rfl⟩
                refine lv_iinc (pc := 144) (v := x_30) (lv' := [(7, .int x_30), (0, .long X9), (2, .int ix), (3, .ref b), (8, .int 1), (10, .int Z9)]) hx hb dJ13_getChars_11360_144 hl (k := 3) rfl (by rw [ex_30]; rfl) (by decide) rfl (fun ls hl => ?_)
                have hd_31 := i_dn hw9 (by omega) ex_30
                refine lv_iload (pc := 147) hx hb dJ13_getChars_11360_147 (lv_at hl 0 rfl) ?_
                refine va_gets (pc := 149) hx hb (hC.ones.1.narrow hA) hS E.2.2.2.1 (E.2.2.2.2 _ (List.mem_cons_of_mem _ kw_1371)) (fun _ h => h) dJ13_getChars_11360_149 ?_
                refine lv_iload (pc := 152) hx hb dJ13_getChars_11360_152 (lv_at hl 5 rfl) ?_
                refine lv_ineg (pc := 154) hx hb dJ13_getChars_11360_154 ?_
                refine va_tb (pc := 155) hx hb (hC.ones.2.narrow hA) hS (gc_last hZ9 (Int32.not_le.mpr c_29)) rfl dJ13_getChars_11360_155 ?_
                refine r_bastB (pc := 156) E hC hB hS g_hB (i_in hd_31 (by omega) (by omega)) dJ13_getChars_11360_156 (fun H locs n_ ho hz hS => ?_)
                have hB := n_
                refine lv_iload (pc := 157) hx hb dJ13_getChars_11360_157 (lv_at hl 5 rfl) ?_
                refine lv_bipush (pc := 159) (v := (-9)) hx hb dJ13_getChars_11360_159 (by decide) ?_
                refine lv_icmp_ge (pc := 161) (tgt := 178) hx hb dJ13_getChars_11360_161 (by decide) (fun c_32 => ?_) (fun c_32 => ?_)
                · refine lv_iload (pc := 178) hx hb dJ13_getChars_11360_178 (lv_at hl 4 rfl) ?_
                  refine lv_if_eq (pc := 180) (tgt := 192) hx hb dJ13_getChars_11360_180 (by decide) (fun c_33 => ?_) (fun c_33 => ?_)
                  · exact absurd c_33 (by decide)
                  refine lv_aload_n (pc := 183) hx hb dJ13_getChars_11360_183 rfl (lv_at hl 3 rfl) ?_
                  obtain ⟨x_34, ex_34⟩ : ∃ z9 : Int32, z9 = x_30 + (-1) := ⟨_, rfl⟩
                  refine lv_iinc (pc := 184) (v := x_34) (lv' := [(7, .int x_34), (0, .long X9), (2, .int ix), (3, .ref b), (8, .int 1), (10, .int Z9)]) hx hb dJ13_getChars_11360_184 hl (k := 0) rfl (by rw [ex_34]; rfl) (by decide) rfl (fun ls hl => ?_)
                  have hd_35 := i_dn hd_31 (by omega) ex_34
                  refine lv_iload (pc := 187) hx hb dJ13_getChars_11360_187 (lv_at hl 0 rfl) ?_
                  refine lv_bipush (pc := 189) (v := 45) hx hb dJ13_getChars_11360_189 (by decide) ?_
                  refine r_bastB (pc := 191) E hC hB hS g_hB (i_in hd_35 (by omega) (by omega)) dJ13_getChars_11360_191 (fun H locs n_ ho hz hS => ?_)
                  have hB := n_
                  refine lv_iload (pc := 192) hx hb dJ13_getChars_11360_192 (lv_at hl 0 rfl) ?_
                  try rw [hQ]
                  refine r_iret (pc := 194) E hr hlk hS (by decide) (by decide) ?_ dJ13_getChars_11360_194
                  exact hB
                · have h2k := gc_two hL9 (Int32.not_le.mp c_32)
                  refine lv_aload_n (pc := 164) hx hb dJ13_getChars_11360_164 rfl (lv_at hl 3 rfl) ?_
                  obtain ⟨x_36, ex_36⟩ : ∃ z9 : Int32, z9 = x_30 + (-1) := ⟨_, rfl⟩
                  refine lv_iinc (pc := 165) (v := x_36) (lv' := [(7, .int x_36), (0, .long X9), (2, .int ix), (3, .ref b), (8, .int 1), (10, .int Z9)]) hx hb dJ13_getChars_11360_165 hl (k := 0) rfl (by rw [ex_36]; rfl) (by decide) rfl (fun ls hl => ?_)
                  have hd_37 := i_dn hd_31 (by omega) ex_36
                  refine lv_iload (pc := 168) hx hb dJ13_getChars_11360_168 (lv_at hl 0 rfl) ?_
                  refine va_gets (pc := 170) hx hb (hC.tens.1.narrow hA) hS E.2.2.2.1 (E.2.2.2.2 _ (List.mem_cons_of_mem _ kw_1372)) (fun _ h => h) dJ13_getChars_11360_170 ?_
                  refine lv_iload (pc := 173) hx hb dJ13_getChars_11360_173 (lv_at hl 5 rfl) ?_
                  refine lv_ineg (pc := 175) hx hb dJ13_getChars_11360_175 ?_
                  refine va_tb (pc := 176) hx hb (hC.tens.2.narrow hA) hS (gc_last hZ9 (Int32.not_le.mpr c_29)) rfl dJ13_getChars_11360_176 ?_
                  refine r_bastB (pc := 177) E hC hB hS g_hB (i_in hd_37 (by omega) (by omega)) dJ13_getChars_11360_177 (fun H locs n_ ho hz hS => ?_)
                  have hB := n_
                  refine lv_iload (pc := 178) hx hb dJ13_getChars_11360_178 (lv_at hl 4 rfl) ?_
                  refine lv_if_eq (pc := 180) (tgt := 192) hx hb dJ13_getChars_11360_180 (by decide) (fun c_38 => ?_) (fun c_38 => ?_)
                  · exact absurd c_38 (by decide)
                  refine lv_aload_n (pc := 183) hx hb dJ13_getChars_11360_183 rfl (lv_at hl 3 rfl) ?_
                  obtain ⟨x_39, ex_39⟩ : ∃ z9 : Int32, z9 = x_36 + (-1) := ⟨_, rfl⟩
                  refine lv_iinc (pc := 184) (v := x_39) (lv' := [(7, .int x_39), (0, .long X9), (2, .int ix), (3, .ref b), (8, .int 1), (10, .int Z9)]) hx hb dJ13_getChars_11360_184 hl (k := 0) rfl (by rw [ex_39]; rfl) (by decide) rfl (fun ls hl => ?_)
                  have hd_40 := i_dn hd_37 (by omega) ex_39
                  refine lv_iload (pc := 187) hx hb dJ13_getChars_11360_187 (lv_at hl 0 rfl) ?_
                  refine lv_bipush (pc := 189) (v := 45) hx hb dJ13_getChars_11360_189 (by decide) ?_
                  refine r_bastB (pc := 191) E hC hB hS g_hB (i_in hd_40 (by omega) (by omega)) dJ13_getChars_11360_191 (fun H locs n_ ho hz hS => ?_)
                  have hB := n_
                  refine lv_iload (pc := 192) hx hb dJ13_getChars_11360_192 (lv_at hl 0 rfl) ?_
                  try rw [hQ]
                  refine r_iret (pc := 194) E hr hlk hS (by decide) (by decide) ?_ dJ13_getChars_11360_194
                  exact hB
              · refine lv_iload (pc := 93) hx hb dJ13_getChars_11360_93 (lv_at hl 5 rfl) ?_
                refine lv_bipush (pc := 95) (v := 100) hx hb dJ13_getChars_11360_95 (by decide) ?_
                refine lv_idiv (pc := 97) hx hb dJ13_getChars_11360_97 (by decide) ?_
                obtain ⟨x_41, ex_41⟩ : ∃ z9 : Int32, z9 = Z9 / 100 := ⟨_, rfl⟩
                rw [← ex_41]
                refine lv_istore (pc := 98) (lv' := [(9, .int x_41), (0, .long X9), (2, .int ix), (3, .ref b), (7, .int w9), (8, .int 1), (10, .int Z9)]) hx hb dJ13_getChars_11360_98 hl (by decide) rfl (fun ls hl => ?_)
                refine lv_iload (pc := 100) hx hb dJ13_getChars_11360_100 (lv_at hl 0 rfl) ?_
                refine lv_bipush (pc := 102) (v := 100) hx hb dJ13_getChars_11360_102 (by decide) ?_
                refine lv_imul (pc := 104) hx hb dJ13_getChars_11360_104 ?_
                refine lv_iload (pc := 105) hx hb dJ13_getChars_11360_105 (lv_at hl 6 rfl) ?_
                refine lv_isub (pc := 107) hx hb dJ13_getChars_11360_107 ?_
                obtain ⟨x_42, ex_42⟩ : ∃ z9 : Int32, z9 = (x_41 * 100) - Z9 := ⟨_, rfl⟩
                rw [← ex_42]
                refine lv_istore (pc := 108) (lv' := [(6, .int x_42), (9, .int x_41), (0, .long X9), (2, .int ix), (3, .ref b), (7, .int w9), (8, .int 1), (10, .int Z9)]) hx hb dJ13_getChars_11360_108 hl (by decide) rfl (fun ls hl => ?_)
                refine lv_iload (pc := 110) hx hb dJ13_getChars_11360_110 (lv_at hl 1 rfl) ?_
                refine lv_istore (pc := 112) (lv' := [(10, .int x_41), (6, .int x_42), (9, .int x_41), (0, .long X9), (2, .int ix), (3, .ref b), (7, .int w9), (8, .int 1)]) hx hb dJ13_getChars_11360_112 hl (by decide) rfl (fun ls hl => ?_)
                obtain ⟨hs1, hs2, hs3, hs4⟩ := gc_step hZ9 hL9 (Int32.not_lt.mp c_29) ex_41
                rw [← ex_42] at hs4
                refine lv_aload_n (pc := 114) hx hb dJ13_getChars_11360_114 rfl (lv_at hl 5 rfl) ?_
                obtain ⟨x_43, ex_43⟩ : ∃ z9 : Int32, z9 = w9 + (-1) := ⟨_, rfl⟩
                refine lv_iinc (pc := 115) (v := x_43) (lv' := [(7, .int x_43), (10, .int x_41), (6, .int x_42), (9, .int x_41), (0, .long X9), (2, .int ix), (3, .ref b), (8, .int 1)]) hx hb dJ13_getChars_11360_115 hl (k := 6) rfl (by rw [ex_43]; rfl) (by decide) rfl (fun ls hl => ?_)
                have hd_44 := i_dn hw9 (by omega) ex_43
                refine lv_iload (pc := 118) hx hb dJ13_getChars_11360_118 (lv_at hl 0 rfl) ?_
                refine va_gets (pc := 120) hx hb (hC.ones.1.narrow hA) hS E.2.2.2.1 (E.2.2.2.2 _ (List.mem_cons_of_mem _ kw_1371)) (fun _ h => h) dJ13_getChars_11360_120 ?_
                refine lv_iload (pc := 123) hx hb dJ13_getChars_11360_123 (lv_at hl 2 rfl) ?_
                refine va_tb (pc := 125) hx hb (hC.ones.2.narrow hA) hS hs4 rfl dJ13_getChars_11360_125 ?_
                refine r_bastB (pc := 126) E hC hB hS g_hB (i_in hd_44 (by omega) (by omega)) dJ13_getChars_11360_126 (fun H locs n_ ho hz hS => ?_)
                have hB := n_
                refine lv_aload_n (pc := 127) hx hb dJ13_getChars_11360_127 rfl (lv_at hl 6 rfl) ?_
                obtain ⟨x_45, ex_45⟩ : ∃ z9 : Int32, z9 = x_43 + (-1) := ⟨_, rfl⟩
                refine lv_iinc (pc := 128) (v := x_45) (lv' := [(7, .int x_45), (10, .int x_41), (6, .int x_42), (9, .int x_41), (0, .long X9), (2, .int ix), (3, .ref b), (8, .int 1)]) hx hb dJ13_getChars_11360_128 hl (k := 0) rfl (by rw [ex_45]; rfl) (by decide) rfl (fun ls hl => ?_)
                have hd_46 := i_dn hd_44 (by omega) ex_45
                refine lv_iload (pc := 131) hx hb dJ13_getChars_11360_131 (lv_at hl 0 rfl) ?_
                refine va_gets (pc := 133) hx hb (hC.tens.1.narrow hA) hS E.2.2.2.1 (E.2.2.2.2 _ (List.mem_cons_of_mem _ kw_1372)) (fun _ h => h) dJ13_getChars_11360_133 ?_
                refine lv_iload (pc := 136) hx hb dJ13_getChars_11360_136 (lv_at hl 2 rfl) ?_
                refine va_tb (pc := 138) hx hb (hC.tens.2.narrow hA) hS hs4 rfl dJ13_getChars_11360_138 ?_
                refine r_bastB (pc := 139) E hC hB hS g_hB (i_in hd_46 (by omega) (by omega)) dJ13_getChars_11360_139 (fun H locs n_ ho hz hS => ?_)
                have hB := n_
                refine lv_goto (pc := 140) (tgt := 86) hx hb dJ13_getChars_11360_140 (by decide) ?_
                exact ih_86  (ii - 2) (ll - 2)  x_41 x_45 (by omega) hs2 hs3 (by omega) (by omega) (by rw [show ll - 2 = ll - 1 - 1 by omega]; exact hd_46) _ _ _ hS hB (lv_sub hl [4, 5, 6, 0, 7, 1] rfl)
          obtain ⟨hz1, hz2⟩ := gcJ_int hX9 (Int64.not_le.mpr c_27) hK9
          rw [← ex_28] at hz1 hz2
          exact loop_86 (kk + 1) kk jj  x_28 y9 (by omega) hz1 hz2 h19 hj9 hx9 _ _ _ hS hB (lv_sub hl [1, 2, 3, 4, 5, 0] rfl)
        · refine lv_lload_n (pc := 32) hx hb dJ13_getChars_11360_32 rfl (lv_at hl 0 rfl) ?_
          refine lv_ldc2 (pc := 33) (v := 100) hx hb E.2.2.2.1 (E.2.2.2.2 _ (List.mem_cons_of_mem _ kw_1370)) dJ13_getChars_11360_33 ?_
          refine lv_ldiv (pc := 36) hx hb dJ13_getChars_11360_36 (by decide) ?_
          obtain ⟨x_47, ex_47⟩ : ∃ z9 : Int64, z9 = X9 / 100 := ⟨_, rfl⟩
          rw [← ex_47]
          refine lv_lstore (pc := 37) (lv' := [(4, .long x_47), (0, .long X9), (2, .int ix), (3, .ref b), (7, .int y9), (8, .int 1)]) hx hb dJ13_getChars_11360_37 hl (by decide) rfl (fun ls hl => ?_)
          refine lv_lload (pc := 39) hx hb dJ13_getChars_11360_39 (lv_at hl 0 rfl) ?_
          refine lv_ldc2 (pc := 41) (v := 100) hx hb E.2.2.2.1 (E.2.2.2.2 _ (List.mem_cons_of_mem _ kw_1370)) dJ13_getChars_11360_41 ?_
          refine lv_lmul (pc := 44) hx hb dJ13_getChars_11360_44 ?_
          refine lv_lload_n (pc := 45) hx hb dJ13_getChars_11360_45 rfl (lv_at hl 1 rfl) ?_
          refine lv_lsub (pc := 46) hx hb dJ13_getChars_11360_46 ?_
          refine lv_l2i (pc := 47) (v := ((x_47 * 100) - X9).toInt32) hx hb dJ13_getChars_11360_47 rfl ?_
          obtain ⟨x_48, ex_48⟩ : ∃ z9 : Int32, z9 = ((x_47 * 100) - X9).toInt32 := ⟨_, rfl⟩
          rw [← ex_48]
          refine lv_istore (pc := 48) (lv' := [(6, .int x_48), (4, .long x_47), (0, .long X9), (2, .int ix), (3, .ref b), (7, .int y9), (8, .int 1)]) hx hb dJ13_getChars_11360_48 hl (by decide) rfl (fun ls hl => ?_)
          refine lv_lload (pc := 50) hx hb dJ13_getChars_11360_50 (lv_at hl 1 rfl) ?_
          refine lv_lstore_n (pc := 52) (lv' := [(0, .long x_47), (6, .int x_48), (4, .long x_47), (2, .int ix), (3, .ref b), (7, .int y9), (8, .int 1)]) hx hb dJ13_getChars_11360_52 rfl hl (by decide) rfl (fun ls hl => ?_)
          obtain ⟨hs1, hs2, hs3, hs4⟩ := gcJ_step hX9 hK9 (Int64.not_lt.mp c_27) ex_47
          rw [← ex_48] at hs4
          refine lv_aload_n (pc := 53) hx hb dJ13_getChars_11360_53 rfl (lv_at hl 4 rfl) ?_
          obtain ⟨x_49, ex_49⟩ : ∃ z9 : Int32, z9 = y9 + (-1) := ⟨_, rfl⟩
          refine lv_iinc (pc := 54) (v := x_49) (lv' := [(7, .int x_49), (0, .long x_47), (6, .int x_48), (4, .long x_47), (2, .int ix), (3, .ref b), (8, .int 1)]) hx hb dJ13_getChars_11360_54 hl (k := 5) rfl (by rw [ex_49]; rfl) (by decide) rfl (fun ls hl => ?_)
          have hd_50 := i_dn hx9 (by omega) ex_49
          refine lv_iload (pc := 57) hx hb dJ13_getChars_11360_57 (lv_at hl 0 rfl) ?_
          refine va_gets (pc := 59) hx hb (hC.ones.1.narrow hA) hS E.2.2.2.1 (E.2.2.2.2 _ (List.mem_cons_of_mem _ kw_1371)) (fun _ h => h) dJ13_getChars_11360_59 ?_
          refine lv_iload (pc := 62) hx hb dJ13_getChars_11360_62 (lv_at hl 2 rfl) ?_
          refine va_tb (pc := 64) hx hb (hC.ones.2.narrow hA) hS hs4 rfl dJ13_getChars_11360_64 ?_
          refine r_bastB (pc := 65) E hC hB hS g_hB (i_in hd_50 (by omega) (by omega)) dJ13_getChars_11360_65 (fun H locs n_ ho hz hS => ?_)
          have hB := n_
          refine lv_aload_n (pc := 66) hx hb dJ13_getChars_11360_66 rfl (lv_at hl 5 rfl) ?_
          obtain ⟨x_51, ex_51⟩ : ∃ z9 : Int32, z9 = x_49 + (-1) := ⟨_, rfl⟩
          refine lv_iinc (pc := 67) (v := x_51) (lv' := [(7, .int x_51), (0, .long x_47), (6, .int x_48), (4, .long x_47), (2, .int ix), (3, .ref b), (8, .int 1)]) hx hb dJ13_getChars_11360_67 hl (k := 0) rfl (by rw [ex_51]; rfl) (by decide) rfl (fun ls hl => ?_)
          have hd_52 := i_dn hd_50 (by omega) ex_51
          refine lv_iload (pc := 70) hx hb dJ13_getChars_11360_70 (lv_at hl 0 rfl) ?_
          refine va_gets (pc := 72) hx hb (hC.tens.1.narrow hA) hS E.2.2.2.1 (E.2.2.2.2 _ (List.mem_cons_of_mem _ kw_1372)) (fun _ h => h) dJ13_getChars_11360_72 ?_
          refine lv_iload (pc := 75) hx hb dJ13_getChars_11360_75 (lv_at hl 2 rfl) ?_
          refine va_tb (pc := 77) hx hb (hC.tens.2.narrow hA) hS hs4 rfl dJ13_getChars_11360_77 ?_
          refine r_bastB (pc := 78) E hC hB hS g_hB (i_in hd_52 (by omega) (by omega)) dJ13_getChars_11360_78 (fun H locs n_ ho hz hS => ?_)
          have hB := n_
          refine lv_goto (pc := 79) (tgt := 24) hx hb dJ13_getChars_11360_79 (by decide) ?_
          exact ih_24  (kk - 2) (jj - 2)  x_47 x_51 (by omega) hs2 hs3 (by omega) (by omega) (by rw [show jj - 2 = jj - 1 - 1 by omega]; exact hd_52) _ _ _ hS hB (lv_sub hl [1, 4, 5, 0, 6] rfl)
    rw [if_pos (Int64.not_le.mp c_1)] at ht9
    have h0x : x.toInt < 0 := by have := Int64.lt_iff_toInt_lt.mp (Int64.not_le.mp c_1); simpa using this
    exact loop_24 (kd + 1) kd td  x ix (by omega) (by omega) hk9 h19 ⟨ht9, htn⟩ hix _ _ _ hS hB (lv_sub hl [2, 3, 4, 1, 0] rfl)
