set_option maxHeartbeats 4000000 in
set_option maxRecDepth 100000 in
/-- java/lang/Integer.getChars(II[B)I -/
theorem c_J6_getChars_ba4f3 (l : Launch) (D : va_G) (tk : Nat → ClassId) (N0 : Nat) (sa : Nat → Nat)  (sz : Nat) (x ix : Int32) (b nb td kd : Nat) (hb9 : N0 ≤ b) (hk9 : x.toInt.natAbs < 10 ^ kd) (h19 : 1 ≤ kd) (ht9 : kd + (if x < 0 then 1 else 0) ≤ td) (htn : td ≤ nb) (hnb : nb < 2 ^ 31) (hix : ix = nI td) : Met l yJ6_getChars_ba4f3 (wsy yJ6_getChars_ba4f3 cJ6_getChars_ba4f3 7 (some .int)) ({ frames := 0, cells := 0, slots := 0, locals := 0 } : Room) (cP D tk N0 sa [.int x, .int ix, .ref b] sz (fun H => BA D tk b nb H)) (kQi (fun r H => BA D tk b nb H) (inA1 b sz)) (0) (0) (inA1 b sz) := by
  refine mStart RJ6 rfl (by decide +kernel) (Nat.le_of_ble_eq_true rfl) ?_
  intro p e s m args below meth c E hr hlk hnm hsz hC hF ls hl
  subst hsz
  obtain ⟨hx, hb, -⟩ := id E
  have hA : ∀ q, (inA1 b s.heap.size) q → N0 ≤ q := fun q h => h.elim (fun z => z ▸ hb9) (fun z => Nat.le_trans hC.2.1 z)
  have hn : ∀ q, s.heap.size ≤ q → (inA1 b s.heap.size) q := fun q h => Or.inr h
  have hS : va_S (inA1 b s.heap.size) s.heap s.heap [] := va_S.rf
  have hl : lv_has ls 7 [(0, .int x), (1, .int ix), (2, .ref b)] := hl
  obtain ⟨Q, hQ⟩ : ∃ Q, Q = MQ below (kQi (fun r H => BA D tk b nb H) (inA1 b s.heap.size)) args s (0) (0) (inA1 b s.heap.size) := ⟨_, rfl⟩
  rw [← hQ]
  have hB : BA D tk b nb s.heap := hF
  have g_hB : (inA1 b s.heap.size) b := Or.inl rfl
  refine lv_iload_n (pc := 0) hx hb dJ6_getChars_ba4f3_0 rfl (lv_at hl 1 rfl) ?_
  refine lv_istore (pc := 1) (lv' := [(5, .int ix), (0, .int x), (1, .int ix), (2, .ref b)]) hx hb dJ6_getChars_ba4f3_1 hl (by decide) rfl (fun ls hl => ?_)
  refine lv_iload_n (pc := 3) hx hb dJ6_getChars_ba4f3_3 rfl (lv_at hl 1 rfl) ?_
  refine lv_if_ge (pc := 4) (tgt := 11) hx hb dJ6_getChars_ba4f3_4 (by decide) (fun c_1 => ?_) (fun c_1 => ?_)
  · refine lv_iconst (pc := 11) (v := 0) hx hb dJ6_getChars_ba4f3_11 (by decide) ?_
    refine lv_istore (pc := 12) (lv' := [(6, .int 0), (5, .int ix), (0, .int x), (1, .int ix), (2, .ref b)]) hx hb dJ6_getChars_ba4f3_12 hl (by decide) rfl (fun ls hl => ?_)
    refine lv_iload (pc := 14) hx hb dJ6_getChars_ba4f3_14 (lv_at hl 0 rfl) ?_
    refine lv_if_ne (pc := 16) (tgt := 22) hx hb dJ6_getChars_ba4f3_16 (by decide) (fun c_2 => ?_) (fun c_2 => ?_)
    · exact absurd (by decide) c_2
    refine lv_iload_n (pc := 19) hx hb dJ6_getChars_ba4f3_19 rfl (lv_at hl 2 rfl) ?_
    refine lv_ineg (pc := 20) hx hb dJ6_getChars_ba4f3_20 ?_
    obtain ⟨x_3, ex_3⟩ : ∃ z9 : Int32, z9 = -x := ⟨_, rfl⟩
    rw [← ex_3]
    refine lv_istore_n (pc := 21) (lv' := [(0, .int x_3), (6, .int 0), (5, .int ix), (1, .int ix), (2, .ref b)]) hx hb dJ6_getChars_ba4f3_21 rfl hl (by decide) rfl (fun ls hl => ?_)
    have loop_22 : ∀ (n : Nat) (kk : Nat) (jj : Nat)(X9 : Int32) (y9 : Int32), kk < n → X9.toInt ≤ 0 → X9.toInt.natAbs < 10 ^ kk → 1 ≤ kk → kk + 0 ≤ jj ∧ jj ≤ nb → y9 = nI jj → ∀ (H : Heap) (locs : List Loc) (ls : Array Slot), va_S (inA1 b s.heap.size) s.heap H locs → BA D tk b nb H → lv_has ls 7 [(0, .int X9), (1, .int ix), (2, .ref b), (5, .int y9), (6, .int 0)] → W p l e ({ frames := 0, cells := 0, slots := 0, locals := 0 } : Room) s m args below meth c H locs (0) (0) Q (F0 m 22 ls []) := by
      intro n
      induction n with
      | zero =>
        intro kk jj X9 y9 hf9 hX9 hK9 h19 hj9 hx9 H locs ls hS hB hl
        omega
      | succ n ih_22 =>
        intro kk jj X9 y9 hf9 hX9 hK9 h19 hj9 hx9 H locs ls hS hB hl
        refine lv_iload_n (pc := 22) hx hb dJ6_getChars_ba4f3_22 rfl (lv_at hl 0 rfl) ?_
        refine lv_bipush (pc := 23) (v := (-100)) hx hb dJ6_getChars_ba4f3_23 (by decide) ?_
        refine lv_icmp_gt (pc := 25) (tgt := 72) hx hb dJ6_getChars_ba4f3_25 (by decide) (fun c_4 => ?_) (fun c_4 => ?_)
        · refine lv_aload_n (pc := 72) hx hb dJ6_getChars_ba4f3_72 rfl (lv_at hl 2 rfl) ?_
          obtain ⟨x_5, ex_5⟩ : ∃ z9 : Int32, z9 = y9 + (-1) := ⟨_, rfl⟩
          refine lv_iinc (pc := 73) (v := x_5) (lv' := [(5, .int x_5), (0, .int X9), (1, .int ix), (2, .ref b), (6, .int 0)]) hx hb dJ6_getChars_ba4f3_73 hl (k := 3) rfl (by rw [ex_5]; rfl) (by decide) rfl (fun ls hl => ?_)
          have hd_6 := i_dn hx9 (by omega) ex_5
          refine lv_iload (pc := 76) hx hb dJ6_getChars_ba4f3_76 (lv_at hl 0 rfl) ?_
          refine va_gets (pc := 78) hx hb (hC.ones.1.narrow hA) hS E.2.2.2.1 (E.2.2.2.2 _ (List.mem_cons_of_mem _ kw_294)) (fun _ h => h) dJ6_getChars_ba4f3_78 ?_
          refine lv_iload_n (pc := 81) hx hb dJ6_getChars_ba4f3_81 rfl (lv_at hl 1 rfl) ?_
          refine lv_ineg (pc := 82) hx hb dJ6_getChars_ba4f3_82 ?_
          refine va_tb (pc := 83) hx hb (hC.ones.2.narrow hA) hS (gc_last hX9 (Int32.not_le.mpr c_4)) rfl dJ6_getChars_ba4f3_83 ?_
          refine r_bastB (pc := 84) E hC hB hS g_hB (i_in hd_6 (by omega) (by omega)) dJ6_getChars_ba4f3_84 (fun H locs n_ ho hz hS => ?_)
          have hB := n_
          refine lv_iload_n (pc := 85) hx hb dJ6_getChars_ba4f3_85 rfl (lv_at hl 1 rfl) ?_
          refine lv_bipush (pc := 86) (v := (-9)) hx hb dJ6_getChars_ba4f3_86 (by decide) ?_
          refine lv_icmp_ge (pc := 88) (tgt := 104) hx hb dJ6_getChars_ba4f3_88 (by decide) (fun c_7 => ?_) (fun c_7 => ?_)
          · refine lv_iload (pc := 104) hx hb dJ6_getChars_ba4f3_104 (lv_at hl 4 rfl) ?_
            refine lv_if_eq (pc := 106) (tgt := 118) hx hb dJ6_getChars_ba4f3_106 (by decide) (fun c_8 => ?_) (fun c_8 => ?_)
            rotate_left
            · exact absurd (by decide) c_8
            refine lv_iload (pc := 118) hx hb dJ6_getChars_ba4f3_118 (lv_at hl 0 rfl) ?_
            try rw [hQ]
            refine r_iret (pc := 120) E hr hlk hS (by decide) (by decide) ?_ dJ6_getChars_ba4f3_120
            exact hB
          · have h2k := gc_two hK9 (Int32.not_le.mp c_7)
            refine lv_aload_n (pc := 91) hx hb dJ6_getChars_ba4f3_91 rfl (lv_at hl 3 rfl) ?_
            obtain ⟨x_9, ex_9⟩ : ∃ z9 : Int32, z9 = x_5 + (-1) := ⟨_, rfl⟩
            refine lv_iinc (pc := 92) (v := x_9) (lv' := [(5, .int x_9), (0, .int X9), (1, .int ix), (2, .ref b), (6, .int 0)]) hx hb dJ6_getChars_ba4f3_92 hl (k := 0) rfl (by rw [ex_9]; rfl) (by decide) rfl (fun ls hl => ?_)
            have hd_10 := i_dn hd_6 (by omega) ex_9
            refine lv_iload (pc := 95) hx hb dJ6_getChars_ba4f3_95 (lv_at hl 0 rfl) ?_
            refine va_gets (pc := 97) hx hb (hC.tens.1.narrow hA) hS E.2.2.2.1 (E.2.2.2.2 _ (List.mem_cons_of_mem _ kw_296)) (fun _ h => h) dJ6_getChars_ba4f3_97 ?_
            refine lv_iload_n (pc := 100) hx hb dJ6_getChars_ba4f3_100 rfl (lv_at hl 1 rfl) ?_
            refine lv_ineg (pc := 101) hx hb dJ6_getChars_ba4f3_101 ?_
            refine va_tb (pc := 102) hx hb (hC.tens.2.narrow hA) hS (gc_last hX9 (Int32.not_le.mpr c_4)) rfl dJ6_getChars_ba4f3_102 ?_
            refine r_bastB (pc := 103) E hC hB hS g_hB (i_in hd_10 (by omega) (by omega)) dJ6_getChars_ba4f3_103 (fun H locs n_ ho hz hS => ?_)
            have hB := n_
            refine lv_iload (pc := 104) hx hb dJ6_getChars_ba4f3_104 (lv_at hl 4 rfl) ?_
            refine lv_if_eq (pc := 106) (tgt := 118) hx hb dJ6_getChars_ba4f3_106 (by decide) (fun c_11 => ?_) (fun c_11 => ?_)
            rotate_left
            · exact absurd (by decide) c_11
            refine lv_iload (pc := 118) hx hb dJ6_getChars_ba4f3_118 (lv_at hl 0 rfl) ?_
            try rw [hQ]
            refine r_iret (pc := 120) E hr hlk hS (by decide) (by decide) ?_ dJ6_getChars_ba4f3_120
            exact hB
        · refine lv_iload_n (pc := 28) hx hb dJ6_getChars_ba4f3_28 rfl (lv_at hl 0 rfl) ?_
          refine lv_bipush (pc := 29) (v := 100) hx hb dJ6_getChars_ba4f3_29 (by decide) ?_
          refine lv_idiv (pc := 31) hx hb dJ6_getChars_ba4f3_31 (by decide) ?_
          obtain ⟨x_12, ex_12⟩ : ∃ z9 : Int32, z9 = X9 / 100 := ⟨_, rfl⟩
          rw [← ex_12]
          refine lv_istore_n (pc := 32) (lv' := [(3, .int x_12), (0, .int X9), (1, .int ix), (2, .ref b), (5, .int y9), (6, .int 0)]) hx hb dJ6_getChars_ba4f3_32 rfl hl (by decide) rfl (fun ls hl => ?_)
          refine lv_iload_n (pc := 33) hx hb dJ6_getChars_ba4f3_33 rfl (lv_at hl 0 rfl) ?_
          refine lv_bipush (pc := 34) (v := 100) hx hb dJ6_getChars_ba4f3_34 (by decide) ?_
          refine lv_imul (pc := 36) hx hb dJ6_getChars_ba4f3_36 ?_
          refine lv_iload_n (pc := 37) hx hb dJ6_getChars_ba4f3_37 rfl (lv_at hl 1 rfl) ?_
          refine lv_isub (pc := 38) hx hb dJ6_getChars_ba4f3_38 ?_
          obtain ⟨x_13, ex_13⟩ : ∃ z9 : Int32, z9 = (x_12 * 100) - X9 := ⟨_, rfl⟩
          rw [← ex_13]
          refine lv_istore (pc := 39) (lv' := [(4, .int x_13), (3, .int x_12), (0, .int X9), (1, .int ix), (2, .ref b), (5, .int y9), (6, .int 0)]) hx hb dJ6_getChars_ba4f3_39 hl (by decide) rfl (fun ls hl => ?_)
          refine lv_iload_n (pc := 41) hx hb dJ6_getChars_ba4f3_41 rfl (lv_at hl 1 rfl) ?_
          refine lv_istore_n (pc := 42) (lv' := [(0, .int x_12), (4, .int x_13), (3, .int x_12), (1, .int ix), (2, .ref b), (5, .int y9), (6, .int 0)]) hx hb dJ6_getChars_ba4f3_42 rfl hl (by decide) rfl (fun ls hl => ?_)
          obtain ⟨hs1, hs2, hs3, hs4⟩ := gc_step hX9 hK9 (Int32.not_lt.mp c_4) ex_12
          rw [← ex_13] at hs4
          refine lv_aload_n (pc := 43) hx hb dJ6_getChars_ba4f3_43 rfl (lv_at hl 4 rfl) ?_
          obtain ⟨x_14, ex_14⟩ : ∃ z9 : Int32, z9 = y9 + (-1) := ⟨_, rfl⟩
          refine lv_iinc (pc := 44) (v := x_14) (lv' := [(5, .int x_14), (0, .int x_12), (4, .int x_13), (3, .int x_12), (1, .int ix), (2, .ref b), (6, .int 0)]) hx hb dJ6_getChars_ba4f3_44 hl (k := 5) rfl (by rw [ex_14]; rfl) (by decide) rfl (fun ls hl => ?_)
          have hd_15 := i_dn hx9 (by omega) ex_14
          refine lv_iload (pc := 47) hx hb dJ6_getChars_ba4f3_47 (lv_at hl 0 rfl) ?_
          refine va_gets (pc := 49) hx hb (hC.ones.1.narrow hA) hS E.2.2.2.1 (E.2.2.2.2 _ (List.mem_cons_of_mem _ kw_294)) (fun _ h => h) dJ6_getChars_ba4f3_49 ?_
          refine lv_iload (pc := 52) hx hb dJ6_getChars_ba4f3_52 (lv_at hl 2 rfl) ?_
          refine va_tb (pc := 54) hx hb (hC.ones.2.narrow hA) hS hs4 rfl dJ6_getChars_ba4f3_54 ?_
          refine r_bastB (pc := 55) E hC hB hS g_hB (i_in hd_15 (by omega) (by omega)) dJ6_getChars_ba4f3_55 (fun H locs n_ ho hz hS => ?_)
          have hB := n_
          refine lv_aload_n (pc := 56) hx hb dJ6_getChars_ba4f3_56 rfl (lv_at hl 5 rfl) ?_
          obtain ⟨x_16, ex_16⟩ : ∃ z9 : Int32, z9 = x_14 + (-1) := ⟨_, rfl⟩
          refine lv_iinc (pc := 57) (v := x_16) (lv' := [(5, .int x_16), (0, .int x_12), (4, .int x_13), (3, .int x_12), (1, .int ix), (2, .ref b), (6, .int 0)]) hx hb dJ6_getChars_ba4f3_57 hl (k := 0) rfl (by rw [ex_16]; rfl) (by decide) rfl (fun ls hl => ?_)
          have hd_17 := i_dn hd_15 (by omega) ex_16
          refine lv_iload (pc := 60) hx hb dJ6_getChars_ba4f3_60 (lv_at hl 0 rfl) ?_
          refine va_gets (pc := 62) hx hb (hC.tens.1.narrow hA) hS E.2.2.2.1 (E.2.2.2.2 _ (List.mem_cons_of_mem _ kw_296)) (fun _ h => h) dJ6_getChars_ba4f3_62 ?_
          refine lv_iload (pc := 65) hx hb dJ6_getChars_ba4f3_65 (lv_at hl 2 rfl) ?_
          refine va_tb (pc := 67) hx hb (hC.tens.2.narrow hA) hS hs4 rfl dJ6_getChars_ba4f3_67 ?_
          refine r_bastB (pc := 68) E hC hB hS g_hB (i_in hd_17 (by omega) (by omega)) dJ6_getChars_ba4f3_68 (fun H locs n_ ho hz hS => ?_)
          have hB := n_
          refine lv_goto (pc := 69) (tgt := 22) hx hb dJ6_getChars_ba4f3_69 (by decide) ?_
          exact ih_22  (kk - 2) (jj - 2)  x_12 x_16 (by omega) hs2 hs3 (by omega) (by omega) (by rw [show jj - 2 = jj - 1 - 1 by omega]; exact hd_17) _ _ _ hS hB (lv_sub hl [1, 4, 5, 0, 6] rfl)
    have hneg := ss_neg (Int32.not_lt.mpr c_1)
    rw [← ex_3] at hneg
    rw [if_neg (Int32.not_lt.mpr c_1)] at ht9
    have h0x : 0 ≤ x.toInt := by have := Int32.le_iff_toInt_le.mp c_1; simpa using this
    exact loop_22 (kd + 1) kd td  x_3 ix (by omega) (by omega) (by rw [hneg, Int.natAbs_neg]; exact hk9) h19 ⟨ht9, htn⟩ hix _ _ _ hS hB (lv_sub hl [0, 3, 4, 2, 1] rfl)
  · refine lv_iconst (pc := 7) (v := 1) hx hb dJ6_getChars_ba4f3_7 (by decide) ?_
    refine lv_goto (pc := 8) (tgt := 12) hx hb dJ6_getChars_ba4f3_8 (by decide) ?_
    refine lv_istore (pc := 12) (lv' := [(6, .int 1), (5, .int ix), (0, .int x), (1, .int ix), (2, .ref b)]) hx hb dJ6_getChars_ba4f3_12 hl (by decide) rfl (fun ls hl => ?_)
    refine lv_iload (pc := 14) hx hb dJ6_getChars_ba4f3_14 (lv_at hl 0 rfl) ?_
    refine lv_if_ne (pc := 16) (tgt := 22) hx hb dJ6_getChars_ba4f3_16 (by decide) (fun c_18 => ?_) (fun c_18 => ?_)
    rotate_left
    · exact absurd c_18 (by decide)
    have loop_22 : ∀ (n : Nat) (kk : Nat) (jj : Nat)(X9 : Int32) (y9 : Int32), kk < n → X9.toInt ≤ 0 → X9.toInt.natAbs < 10 ^ kk → 1 ≤ kk → kk + 1 ≤ jj ∧ jj ≤ nb → y9 = nI jj → ∀ (H : Heap) (locs : List Loc) (ls : Array Slot), va_S (inA1 b s.heap.size) s.heap H locs → BA D tk b nb H → lv_has ls 7 [(0, .int X9), (1, .int ix), (2, .ref b), (5, .int y9), (6, .int 1)] → W p l e ({ frames := 0, cells := 0, slots := 0, locals := 0 } : Room) s m args below meth c H locs (0) (0) Q (F0 m 22 ls []) := by
      intro n
      induction n with
      | zero =>
        intro kk jj X9 y9 hf9 hX9 hK9 h19 hj9 hx9 H locs ls hS hB hl
        omega
      | succ n ih_22 =>
        intro kk jj X9 y9 hf9 hX9 hK9 h19 hj9 hx9 H locs ls hS hB hl
        refine lv_iload_n (pc := 22) hx hb dJ6_getChars_ba4f3_22 rfl (lv_at hl 0 rfl) ?_
        refine lv_bipush (pc := 23) (v := (-100)) hx hb dJ6_getChars_ba4f3_23 (by decide) ?_
        refine lv_icmp_gt (pc := 25) (tgt := 72) hx hb dJ6_getChars_ba4f3_25 (by decide) (fun c_19 => ?_) (fun c_19 => ?_)
        · refine lv_aload_n (pc := 72) hx hb dJ6_getChars_ba4f3_72 rfl (lv_at hl 2 rfl) ?_
          obtain ⟨x_20, ex_20⟩ : ∃ z9 : Int32, z9 = y9 + (-1) := ⟨_, rfl⟩
          refine lv_iinc (pc := 73) (v := x_20) (lv' := [(5, .int x_20), (0, .int X9), (1, .int ix), (2, .ref b), (6, .int 1)]) hx hb dJ6_getChars_ba4f3_73 hl (k := 3) rfl (by rw [ex_20]; rfl) (by decide) rfl (fun ls hl => ?_)
          have hd_21 := i_dn hx9 (by omega) ex_20
          refine lv_iload (pc := 76) hx hb dJ6_getChars_ba4f3_76 (lv_at hl 0 rfl) ?_
          refine va_gets (pc := 78) hx hb (hC.ones.1.narrow hA) hS E.2.2.2.1 (E.2.2.2.2 _ (List.mem_cons_of_mem _ kw_294)) (fun _ h => h) dJ6_getChars_ba4f3_78 ?_
          refine lv_iload_n (pc := 81) hx hb dJ6_getChars_ba4f3_81 rfl (lv_at hl 1 rfl) ?_
          refine lv_ineg (pc := 82) hx hb dJ6_getChars_ba4f3_82 ?_
          refine va_tb (pc := 83) hx hb (hC.ones.2.narrow hA) hS (gc_last hX9 (Int32.not_le.mpr c_19)) rfl dJ6_getChars_ba4f3_83 ?_
          refine r_bastB (pc := 84) E hC hB hS g_hB (i_in hd_21 (by omega) (by omega)) dJ6_getChars_ba4f3_84 (fun H locs n_ ho hz hS => ?_)
          have hB := n_
          refine lv_iload_n (pc := 85) hx hb dJ6_getChars_ba4f3_85 rfl (lv_at hl 1 rfl) ?_
          refine lv_bipush (pc := 86) (v := (-9)) hx hb dJ6_getChars_ba4f3_86 (by decide) ?_
          refine lv_icmp_ge (pc := 88) (tgt := 104) hx hb dJ6_getChars_ba4f3_88 (by decide) (fun c_22 => ?_) (fun c_22 => ?_)
          · refine lv_iload (pc := 104) hx hb dJ6_getChars_ba4f3_104 (lv_at hl 4 rfl) ?_
            refine lv_if_eq (pc := 106) (tgt := 118) hx hb dJ6_getChars_ba4f3_106 (by decide) (fun c_23 => ?_) (fun c_23 => ?_)
            · exact absurd c_23 (by decide)
            refine lv_aload_n (pc := 109) hx hb dJ6_getChars_ba4f3_109 rfl (lv_at hl 3 rfl) ?_
            obtain ⟨x_24, ex_24⟩ : ∃ z9 : Int32, z9 = x_20 + (-1) := ⟨_, rfl⟩
            refine lv_iinc (pc := 110) (v := x_24) (lv' := [(5, .int x_24), (0, .int X9), (1, .int ix), (2, .ref b), (6, .int 1)]) hx hb dJ6_getChars_ba4f3_110 hl (k := 0) rfl (by rw [ex_24]; rfl) (by decide) rfl (fun ls hl => ?_)
            have hd_25 := i_dn hd_21 (by omega) ex_24
            refine lv_iload (pc := 113) hx hb dJ6_getChars_ba4f3_113 (lv_at hl 0 rfl) ?_
            refine lv_bipush (pc := 115) (v := 45) hx hb dJ6_getChars_ba4f3_115 (by decide) ?_
            refine r_bastB (pc := 117) E hC hB hS g_hB (i_in hd_25 (by omega) (by omega)) dJ6_getChars_ba4f3_117 (fun H locs n_ ho hz hS => ?_)
            have hB := n_
            refine lv_iload (pc := 118) hx hb dJ6_getChars_ba4f3_118 (lv_at hl 0 rfl) ?_
            try rw [hQ]
            refine r_iret (pc := 120) E hr hlk hS (by decide) (by decide) ?_ dJ6_getChars_ba4f3_120
            exact hB
          · have h2k := gc_two hK9 (Int32.not_le.mp c_22)
            refine lv_aload_n (pc := 91) hx hb dJ6_getChars_ba4f3_91 rfl (lv_at hl 3 rfl) ?_
            obtain ⟨x_26, ex_26⟩ : ∃ z9 : Int32, z9 = x_20 + (-1) := ⟨_, rfl⟩
            refine lv_iinc (pc := 92) (v := x_26) (lv' := [(5, .int x_26), (0, .int X9), (1, .int ix), (2, .ref b), (6, .int 1)]) hx hb dJ6_getChars_ba4f3_92 hl (k := 0) rfl (by rw [ex_26]; rfl) (by decide) rfl (fun ls hl => ?_)
            have hd_27 := i_dn hd_21 (by omega) ex_26
            refine lv_iload (pc := 95) hx hb dJ6_getChars_ba4f3_95 (lv_at hl 0 rfl) ?_
            refine va_gets (pc := 97) hx hb (hC.tens.1.narrow hA) hS E.2.2.2.1 (E.2.2.2.2 _ (List.mem_cons_of_mem _ kw_296)) (fun _ h => h) dJ6_getChars_ba4f3_97 ?_
            refine lv_iload_n (pc := 100) hx hb dJ6_getChars_ba4f3_100 rfl (lv_at hl 1 rfl) ?_
            refine lv_ineg (pc := 101) hx hb dJ6_getChars_ba4f3_101 ?_
            refine va_tb (pc := 102) hx hb (hC.tens.2.narrow hA) hS (gc_last hX9 (Int32.not_le.mpr c_19)) rfl dJ6_getChars_ba4f3_102 ?_
            refine r_bastB (pc := 103) E hC hB hS g_hB (i_in hd_27 (by omega) (by omega)) dJ6_getChars_ba4f3_103 (fun H locs n_ ho hz hS => ?_)
            have hB := n_
            refine lv_iload (pc := 104) hx hb dJ6_getChars_ba4f3_104 (lv_at hl 4 rfl) ?_
            refine lv_if_eq (pc := 106) (tgt := 118) hx hb dJ6_getChars_ba4f3_106 (by decide) (fun c_28 => ?_) (fun c_28 => ?_)
            · exact absurd c_28 (by decide)
            refine lv_aload_n (pc := 109) hx hb dJ6_getChars_ba4f3_109 rfl (lv_at hl 3 rfl) ?_
            obtain ⟨x_29, ex_29⟩ : ∃ z9 : Int32, z9 = x_26 + (-1) := ⟨_, rfl⟩
            refine lv_iinc (pc := 110) (v := x_29) (lv' := [(5, .int x_29), (0, .int X9), (1, .int ix), (2, .ref b), (6, .int 1)]) hx hb dJ6_getChars_ba4f3_110 hl (k := 0) rfl (by rw [ex_29]; rfl) (by decide) rfl (fun ls hl => ?_)
            have hd_30 := i_dn hd_27 (by omega) ex_29
            refine lv_iload (pc := 113) hx hb dJ6_getChars_ba4f3_113 (lv_at hl 0 rfl) ?_
            refine lv_bipush (pc := 115) (v := 45) hx hb dJ6_getChars_ba4f3_115 (by decide) ?_
            refine r_bastB (pc := 117) E hC hB hS g_hB (i_in hd_30 (by omega) (by omega)) dJ6_getChars_ba4f3_117 (fun H locs n_ ho hz hS => ?_)
            have hB := n_
            refine lv_iload (pc := 118) hx hb dJ6_getChars_ba4f3_118 (lv_at hl 0 rfl) ?_
            try rw [hQ]
            refine r_iret (pc := 120) E hr hlk hS (by decide) (by decide) ?_ dJ6_getChars_ba4f3_120
            exact hB
        · refine lv_iload_n (pc := 28) hx hb dJ6_getChars_ba4f3_28 rfl (lv_at hl 0 rfl) ?_
          refine lv_bipush (pc := 29) (v := 100) hx hb dJ6_getChars_ba4f3_29 (by decide) ?_
          refine lv_idiv (pc := 31) hx hb dJ6_getChars_ba4f3_31 (by decide) ?_
          obtain ⟨x_31, ex_31⟩ : ∃ z9 : Int32, z9 = X9 / 100 := ⟨_, rfl⟩
          rw [← ex_31]
          refine lv_istore_n (pc := 32) (lv' := [(3, .int x_31), (0, .int X9), (1, .int ix), (2, .ref b), (5, .int y9), (6, .int 1)]) hx hb dJ6_getChars_ba4f3_32 rfl hl (by decide) rfl (fun ls hl => ?_)
          refine lv_iload_n (pc := 33) hx hb dJ6_getChars_ba4f3_33 rfl (lv_at hl 0 rfl) ?_
          refine lv_bipush (pc := 34) (v := 100) hx hb dJ6_getChars_ba4f3_34 (by decide) ?_
          refine lv_imul (pc := 36) hx hb dJ6_getChars_ba4f3_36 ?_
          refine lv_iload_n (pc := 37) hx hb dJ6_getChars_ba4f3_37 rfl (lv_at hl 1 rfl) ?_
          refine lv_isub (pc := 38) hx hb dJ6_getChars_ba4f3_38 ?_
          obtain ⟨x_32, ex_32⟩ : ∃ z9 : Int32, z9 = (x_31 * 100) - X9 := ⟨_, rfl⟩
          rw [← ex_32]
          refine lv_istore (pc := 39) (lv' := [(4, .int x_32), (3, .int x_31), (0, .int X9), (1, .int ix), (2, .ref b), (5, .int y9), (6, .int 1)]) hx hb dJ6_getChars_ba4f3_39 hl (by decide) rfl (fun ls hl => ?_)
          refine lv_iload_n (pc := 41) hx hb dJ6_getChars_ba4f3_41 rfl (lv_at hl 1 rfl) ?_
          refine lv_istore_n (pc := 42) (lv' := [(0, .int x_31), (4, .int x_32), (3, .int x_31), (1, .int ix), (2, .ref b), (5, .int y9), (6, .int 1)]) hx hb dJ6_getChars_ba4f3_42 rfl hl (by decide) rfl (fun ls hl => ?_)
          obtain ⟨hs1, hs2, hs3, hs4⟩ := gc_step hX9 hK9 (Int32.not_lt.mp c_19) ex_31
          rw [← ex_32] at hs4
          refine lv_aload_n (pc := 43) hx hb dJ6_getChars_ba4f3_43 rfl (lv_at hl 4 rfl) ?_
          obtain ⟨x_33, ex_33⟩ : ∃ z9 : Int32, z9 = y9 + (-1) := ⟨_, rfl⟩
          refine lv_iinc (pc := 44) (v := x_33) (lv' := [(5, .int x_33), (0, .int x_31), (4, .int x_32), (3, .int x_31), (1, .int ix), (2, .ref b), (6, .int 1)]) hx hb dJ6_getChars_ba4f3_44 hl (k := 5) rfl (by rw [ex_33]; rfl) (by decide) rfl (fun ls hl => ?_)
          have hd_34 := i_dn hx9 (by omega) ex_33
          refine lv_iload (pc := 47) hx hb dJ6_getChars_ba4f3_47 (lv_at hl 0 rfl) ?_
          refine va_gets (pc := 49) hx hb (hC.ones.1.narrow hA) hS E.2.2.2.1 (E.2.2.2.2 _ (List.mem_cons_of_mem _ kw_294)) (fun _ h => h) dJ6_getChars_ba4f3_49 ?_
          refine lv_iload (pc := 52) hx hb dJ6_getChars_ba4f3_52 (lv_at hl 2 rfl) ?_
          refine va_tb (pc := 54) hx hb (hC.ones.2.narrow hA) hS hs4 rfl dJ6_getChars_ba4f3_54 ?_
          refine r_bastB (pc := 55) E hC hB hS g_hB (i_in hd_34 (by omega) (by omega)) dJ6_getChars_ba4f3_55 (fun H locs n_ ho hz hS => ?_)
          have hB := n_
          refine lv_aload_n (pc := 56) hx hb dJ6_getChars_ba4f3_56 rfl (lv_at hl 5 rfl) ?_
          obtain ⟨x_35, ex_35⟩ : ∃ z9 : Int32, z9 = x_33 + (-1) := ⟨_, rfl⟩
          refine lv_iinc (pc := 57) (v := x_35) (lv' := [(5, .int x_35), (0, .int x_31), (4, .int x_32), (3, .int x_31), (1, .int ix), (2, .ref b), (6, .int 1)]) hx hb dJ6_getChars_ba4f3_57 hl (k := 0) rfl (by rw [ex_35]; rfl) (by decide) rfl (fun ls hl => ?_)
          have hd_36 := i_dn hd_34 (by omega) ex_35
          refine lv_iload (pc := 60) hx hb dJ6_getChars_ba4f3_60 (lv_at hl 0 rfl) ?_
          refine va_gets (pc := 62) hx hb (hC.tens.1.narrow hA) hS E.2.2.2.1 (E.2.2.2.2 _ (List.mem_cons_of_mem _ kw_296)) (fun _ h => h) dJ6_getChars_ba4f3_62 ?_
          refine lv_iload (pc := 65) hx hb dJ6_getChars_ba4f3_65 (lv_at hl 2 rfl) ?_
          refine va_tb (pc := 67) hx hb (hC.tens.2.narrow hA) hS hs4 rfl dJ6_getChars_ba4f3_67 ?_
          refine r_bastB (pc := 68) E hC hB hS g_hB (i_in hd_36 (by omega) (by omega)) dJ6_getChars_ba4f3_68 (fun H locs n_ ho hz hS => ?_)
          have hB := n_
          refine lv_goto (pc := 69) (tgt := 22) hx hb dJ6_getChars_ba4f3_69 (by decide) ?_
          exact ih_22  (kk - 2) (jj - 2)  x_31 x_35 (by omega) hs2 hs3 (by omega) (by omega) (by rw [show jj - 2 = jj - 1 - 1 by omega]; exact hd_36) _ _ _ hS hB (lv_sub hl [1, 4, 5, 0, 6] rfl)
    rw [if_pos (Int32.not_le.mp c_1)] at ht9
    have h0x : x.toInt < 0 := by have := Int32.lt_iff_toInt_lt.mp (Int32.not_le.mp c_1); simpa using this
    exact loop_22 (kd + 1) kd td  x ix (by omega) (by omega) hk9 h19 ⟨ht9, htn⟩ hix _ _ _ hS hB (lv_sub hl [2, 3, 4, 1, 0] rfl)
