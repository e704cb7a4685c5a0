set_option maxHeartbeats 4000000 in
set_option maxRecDepth 100000 in
/-- Bestratios.mixedWithPairs(J)J -/
theorem c_X3_mixedWithPairs (l : Launch) (D : va_G) (tk : Nat → ClassId) (N0 : Nat) (sa : Nat → Nat) {ad : Nat → Nat} (hAD : ADok N0 ad) (sz : Nat) (g : CS) (s0_ : Int64) : Met l yX3_mixedWithPairs (wsy yX3_mixedWithPairs cX3_mixedWithPairs 7 (some .long)) ({ frames := 2, cells := 0, slots := 0, locals := 44 } : Room) (cP D tk N0 sa [.ref (ad 15), .long s0_] sz (fun H => CW D tk ad g H)) (kQl (fun r H => r = f_mPairs g s0_) (nwA sz)) (0) (0) (nwA sz) := by
  refine mStart RX3 rfl (by decide +kernel) (Nat.le_of_ble_eq_true rfl) ?_
  intro p e s m args below meth c E hr hlk hnm hsz hC hF ls hl
  subst hsz
  obtain ⟨hx, hb, -⟩ := id E
  have hA : ∀ q, (nwA s.heap.size) q → N0 ≤ q := fun q h => Nat.le_trans hC.2.1 h
  have hn : ∀ q, s.heap.size ≤ q → (nwA s.heap.size) q := fun q h => h
  have hS : va_S (nwA s.heap.size) s.heap s.heap [] := va_S.rf
  have hl : lv_has ls 7 [(0, .ref (ad 15)), (1, .long s0_)] := hl
  obtain ⟨Q, hQ⟩ : ∃ Q, Q = MQ below (kQl (fun r H => r = f_mPairs g s0_) (nwA s.heap.size)) args s (0) (0) (nwA s.heap.size) := ⟨_, rfl⟩
  rw [← hQ]
  have hW : CW D tk ad g s.heap := hF
  refine lv_lload_n (pc := 0) hx hb dX3_mixedWithPairs_0 rfl (lv_at hl 1 rfl) ?_
  refine lv_lstore_n (pc := 1) (lv' := [(3, .long s0_), (0, .ref (ad 15)), (1, .long s0_)]) hx hb dX3_mixedWithPairs_1 rfl hl (by decide) rfl (fun ls hl => ?_)
  refine lv_iconst (pc := 2) (v := 0) hx hb dX3_mixedWithPairs_2 (by decide) ?_
  refine lv_istore (pc := 3) (lv' := [(5, .int 0), (3, .long s0_), (0, .ref (ad 15)), (1, .long s0_)]) hx hb dX3_mixedWithPairs_3 hl (by decide) rfl (fun ls hl => ?_)
  have loop_5 : ∀ (n : Nat) (k : Nat)(s9 : Int64) (y9 : Int32), 6 - k < n → k ≤ 6 → y9 = nI k → mpO g (6 - k) k s9 = f_mPairs g s0_ → ∀ (H : Heap) (locs : List Loc) (ls : Array Slot), va_S (nwA s.heap.size) s.heap H locs → CW D tk ad g H → lv_has ls 7 [(0, .ref (ad 15)), (1, .long s0_), (3, .long s9), (5, .int y9)] → W p l e ({ frames := 2, cells := 0, slots := 0, locals := 44 } : Room) s m args below meth c H locs (0) (0) Q (F0 m 5 ls []) := by
    intro n
    induction n with
    | zero =>
      intro k s9 y9 hf9 hk9 hx9 hg9 H locs ls hS hW hl
      omega
    | succ n ih_5 =>
      intro k s9 y9 hf9 hk9 hx9 hg9 H locs ls hS hW hl
      refine lv_iload (pc := 5) hx hb dX3_mixedWithPairs_5 (lv_at hl 3 rfl) ?_
      refine lv_aload_n (pc := 7) hx hb dX3_mixedWithPairs_7 rfl (lv_at hl 0 rfl) ?_
      refine r_get (pc := 8) E hC hW.obj 0 (v := .ref (ad 16)) rfl rfl (by decide) uX3 (List.mem_cons_of_mem _ kw_114) (fun _ h => h) dX3_mixedWithPairs_8 ?_
      refine r_alen (pc := 11) E hC hW.row 2 rfl (v := 6) rfl dX3_mixedWithPairs_11 ?_
      refine lv_icmp_ge (pc := 12) (tgt := 96) hx hb dX3_mixedWithPairs_12 (by decide) (fun c_1 => ?_) (fun c_1 => ?_)
      · refine lv_lload_n (pc := 96) hx hb dX3_mixedWithPairs_96 rfl (lv_at hl 2 rfl) ?_
        try rw [hQ]
        refine r_lret (pc := 97) E hr hlk hS (by decide) (by decide) ?_ dX3_mixedWithPairs_97
        have e0 : 6 - k = 0 := by have := (i_le (n := 6) hx9 (by decide) (by omega) (by decide)).mp c_1; omega
        rw [← hg9, e0]; rfl
      · have hlt9 : k < 6 := Nat.not_le.mp (fun z => c_1 ((i_le (n := 6) hx9 (by decide) (by omega) (by decide)).mpr z))
        have hw9 : 6 - k = (6 - (k + 1)) + 1 := by omega
        refine lv_iload (pc := 15) hx hb dX3_mixedWithPairs_15 (lv_at hl 3 rfl) ?_
        refine lv_iconst (pc := 17) (v := 1) hx hb dX3_mixedWithPairs_17 (by decide) ?_
        refine lv_iadd (pc := 18) hx hb dX3_mixedWithPairs_18 ?_
        obtain ⟨x_2, ex_2⟩ : ∃ z9 : Int32, z9 = y9 + 1 := ⟨_, rfl⟩
        rw [← ex_2]
        refine lv_istore (pc := 19) (lv' := [(6, .int x_2), (0, .ref (ad 15)), (1, .long s0_), (3, .long s9), (5, .int y9)]) hx hb dX3_mixedWithPairs_19 hl (by decide) rfl (fun ls hl => ?_)
        have loop_21 : ∀ (n : Nat) (b : Nat)(q9 : Int64) (w9 : Int32), 6 - b < n → k + 1 ≤ b ∧ b ≤ 6 → w9 = nI b → mpI g k (6 - b) b q9 = mpI g k (5 - k) (k + 1) s9 → ∀ (H : Heap) (locs : List Loc) (ls : Array Slot), va_S (nwA s.heap.size) s.heap H locs → CW D tk ad g H → lv_has ls 7 [(0, .ref (ad 15)), (1, .long s0_), (3, .long q9), (5, .int y9), (6, .int w9)] → W p l e ({ frames := 2, cells := 0, slots := 0, locals := 44 } : Room) s m args below meth c H locs (0) (0) Q (F0 m 21 ls []) := by
          intro n
          induction n with
          | zero =>
            intro b q9 w9 hf8 hk8 hx8 hg8 H locs ls hS hW hl
            omega
          | succ n ih_21 =>
            intro b q9 w9 hf8 hk8 hx8 hg8 H locs ls hS hW hl
            refine lv_iload (pc := 21) hx hb dX3_mixedWithPairs_21 (lv_at hl 4 rfl) ?_
            refine lv_aload_n (pc := 23) hx hb dX3_mixedWithPairs_23 rfl (lv_at hl 0 rfl) ?_
            refine r_get (pc := 24) E hC hW.obj 0 (v := .ref (ad 16)) rfl rfl (by decide) uX3 (List.mem_cons_of_mem _ kw_114) (fun _ h => h) dX3_mixedWithPairs_24 ?_
            refine r_alen (pc := 27) E hC hW.row 2 rfl (v := 6) rfl dX3_mixedWithPairs_27 ?_
            refine lv_icmp_ge (pc := 28) (tgt := 90) hx hb dX3_mixedWithPairs_28 (by decide) (fun c_3 => ?_) (fun c_3 => ?_)
            · obtain ⟨x_4, ex_4⟩ : ∃ z9 : Int32, z9 = y9 + 1 := ⟨_, rfl⟩
              refine lv_iinc (pc := 90) (v := x_4) (lv' := [(5, .int x_4), (0, .ref (ad 15)), (1, .long s0_), (3, .long q9), (6, .int w9)]) hx hb dX3_mixedWithPairs_90 hl (k := 3) rfl (by rw [ex_4]; rfl) (by decide) rfl (fun ls hl => ?_)
              refine lv_goto (pc := 93) (tgt := 5) hx hb dX3_mixedWithPairs_93 (by decide) ?_
              exact ih_5  (k + 1)  q9 x_4 (by omega) (by omega) (i_up hx9 ex_4) (by rw [← hg9, hw9, mpO, ← hg8, show 6 - b = 0 from by have := (i_le (n := 6) hx8 (by decide) (by omega) (by decide)).mp c_3; omega]; rfl) _ _ _ hS hW (lv_sub hl [1, 2, 3, 0] rfl)
            · have hlt8 : b < 6 := Nat.not_le.mp (fun z => c_3 ((i_le (n := 6) hx8 (by decide) (by omega) (by decide)).mpr z))
              have hw8 : 6 - b = (6 - (b + 1)) + 1 := by omega
              refine lv_lload_n (pc := 31) hx hb dX3_mixedWithPairs_31 rfl (lv_at hl 2 rfl) ?_
              refine lv_aload_n (pc := 32) hx hb dX3_mixedWithPairs_32 rfl (lv_at hl 0 rfl) ?_
              refine r_get (pc := 33) E hC hW.obj 0 (v := .ref (ad 16)) rfl rfl (by decide) uX3 (List.mem_cons_of_mem _ kw_114) (fun _ h => h) dX3_mixedWithPairs_33 ?_
              refine lv_iload (pc := 36) hx hb dX3_mixedWithPairs_36 (lv_at hl 3 rfl) ?_
              refine r_aald (pc := 38) E hC hW.row (i_in hx9 hlt9 (by decide)) dX3_mixedWithPairs_38 ?_
              rw [show (y9).toNatClampNeg = k from (i_cl hx9 (by omega))]
              refine lv_aload_n (pc := 39) hx hb dX3_mixedWithPairs_39 rfl (lv_at hl 0 rfl) ?_
              refine r_get (pc := 40) E hC hW.obj 0 (v := .ref (ad 16)) rfl rfl (by decide) uX3 (List.mem_cons_of_mem _ kw_114) (fun _ h => h) dX3_mixedWithPairs_40 ?_
              refine lv_iload (pc := 43) hx hb dX3_mixedWithPairs_43 (lv_at hl 4 rfl) ?_
              refine r_aald (pc := 45) E hC hW.row (i_in hx8 hlt8 (by decide)) dX3_mixedWithPairs_45 ?_
              rw [show (w9).toNatClampNeg = b from (i_cl hx8 (by omega))]
              refine k_i (pc := 46) (k_V E hC hS hA hl.1 (c1.recv hC (hW.fr (i := k) (by omega)) rfl) rfl (c_X0_compareWith l D tk N0 sa hAD H.size g k (by omega) b (by omega) ) kw_594 kw_595 kw_596 kw_2 kw_597 (n := 1) (by decide +kernel) rfl ⟨⟨rfl, rfl⟩, ⟨by decide, by decide⟩, by decide, by decide⟩ rfl (Nat.le_of_ble_eq_true rfl) hW dX3_mixedWithPairs_46) hS (fun q z w => absurd w (Nat.not_le.mpr z)) hn (fun r_5 H locs hR hz hk hS => ?_)
              have er_5 := hR
              have hW := hW.new hk
              refine lv_i2l (pc := 49) (v := r_5.toInt64) hx hb dX3_mixedWithPairs_49 rfl ?_
              refine k_l (pc := 50) (k_S E hC hS hA hl.1 (c_X3_mixed l D tk N0 sa H.size q9 r_5.toInt64 ) kw_682 kw_683 kw_1 kw_684 (n := 2) (by decide +kernel) rfl ⟨⟨rfl, rfl⟩, ⟨by decide, by decide⟩, by decide, by decide⟩ rfl (Nat.le_of_ble_eq_true rfl) trivial dX3_mixedWithPairs_50) hS (fun q z w => absurd w (Nat.not_le.mpr z)) hn (fun r_7 H locs hR hz hk hS => ?_)
              have er_7 := hR
              have hW := hW.new hk
              refine lv_lstore_n (pc := 53) (lv' := [(3, .long r_7), (0, .ref (ad 15)), (1, .long s0_), (5, .int y9), (6, .int w9)]) hx hb dX3_mixedWithPairs_53 rfl hl (by decide) rfl (fun ls hl => ?_)
              refine lv_lload_n (pc := 54) hx hb dX3_mixedWithPairs_54 rfl (lv_at hl 0 rfl) ?_
              refine lv_aload_n (pc := 55) hx hb dX3_mixedWithPairs_55 rfl (lv_at hl 1 rfl) ?_
              refine r_get (pc := 56) E hC hW.obj 0 (v := .ref (ad 16)) rfl rfl (by decide) uX3 (List.mem_cons_of_mem _ kw_114) (fun _ h => h) dX3_mixedWithPairs_56 ?_
              refine lv_iload (pc := 59) hx hb dX3_mixedWithPairs_59 (lv_at hl 3 rfl) ?_
              refine r_aald (pc := 61) E hC hW.row (i_in hx9 hlt9 (by decide)) dX3_mixedWithPairs_61 ?_
              rw [show (y9).toNatClampNeg = k from (i_cl hx9 (by omega))]
              refine lv_aload_n (pc := 62) hx hb dX3_mixedWithPairs_62 rfl (lv_at hl 1 rfl) ?_
              refine r_get (pc := 63) E hC hW.obj 0 (v := .ref (ad 16)) rfl rfl (by decide) uX3 (List.mem_cons_of_mem _ kw_114) (fun _ h => h) dX3_mixedWithPairs_63 ?_
              refine lv_iload (pc := 66) hx hb dX3_mixedWithPairs_66 (lv_at hl 4 rfl) ?_
              refine r_aald (pc := 68) E hC hW.row (i_in hx8 hlt8 (by decide)) dX3_mixedWithPairs_68 ?_
              rw [show (w9).toNatClampNeg = b from (i_cl hx8 (by omega))]
              refine k_i (pc := 69) (k_V E hC hS hA hl.1 (c1.recv hC (hW.fr (i := k) (by omega)) rfl) rfl (c_X0_isNextTo l D tk N0 sa hAD H.size g k (by omega) b (by omega) ) kw_601 kw_602 kw_603 kw_2 kw_604 (n := 1) (by decide +kernel) rfl ⟨⟨rfl, rfl⟩, ⟨by decide, by decide⟩, by decide, by decide⟩ rfl (Nat.le_of_ble_eq_true rfl) hW dX3_mixedWithPairs_69) hS (fun q z w => absurd w (Nat.not_le.mpr z)) hn (fun r_9 H locs hR hz hk hS => ?_)
              have er_9 := hR
              have hW := hW.new hk
              refine lv_if_eq (pc := 72) (tgt := 79) hx hb dX3_mixedWithPairs_72 (by decide) (fun c_11 => ?_) (fun c_11 => ?_)
              · refine lv_lconst (pc := 79) (v := 0) hx hb dX3_mixedWithPairs_79 (by decide) ?_
                refine k_l (pc := 80) (k_S E hC hS hA hl.1 (c_X3_mixed l D tk N0 sa H.size r_7 0 ) kw_682 kw_683 kw_1 kw_684 (n := 2) (by decide +kernel) rfl ⟨⟨rfl, rfl⟩, ⟨by decide, by decide⟩, by decide, by decide⟩ rfl (Nat.le_of_ble_eq_true rfl) trivial dX3_mixedWithPairs_80) hS (fun q z w => absurd w (Nat.not_le.mpr z)) hn (fun r_12 H locs hR hz hk hS => ?_)
                have er_12 := hR
                have hW := hW.new hk
                refine lv_lstore_n (pc := 83) (lv' := [(3, .long r_12), (0, .ref (ad 15)), (1, .long s0_), (5, .int y9), (6, .int w9)]) hx hb dX3_mixedWithPairs_83 rfl hl (by decide) rfl (fun ls hl => ?_)
                obtain ⟨x_14, ex_14⟩ : ∃ z9 : Int32, z9 = w9 + 1 := ⟨_, rfl⟩
                refine lv_iinc (pc := 84) (v := x_14) (lv' := [(6, .int x_14), (3, .long r_12), (0, .ref (ad 15)), (1, .long s0_), (5, .int y9)]) hx hb dX3_mixedWithPairs_84 hl (k := 4) rfl (by rw [ex_14]; rfl) (by decide) rfl (fun ls hl => ?_)
                refine lv_goto (pc := 87) (tgt := 21) hx hb dX3_mixedWithPairs_87 (by decide) ?_
                exact ih_21  (b + 1)  r_12 x_14 (by omega) (by omega) (i_up hx8 ex_14) (by rw [← hg8, hw8, mpI, er_12, er_7, er_5, f_cmpF, ← er_5, f_nextF, ← er_9, if_pos c_11]) _ _ _ hS hW (lv_sub hl [2, 3, 1, 4, 0] rfl)
              · refine lv_lconst (pc := 75) (v := 1) hx hb dX3_mixedWithPairs_75 (by decide) ?_
                refine lv_goto (pc := 76) (tgt := 80) hx hb dX3_mixedWithPairs_76 (by decide) ?_
                refine k_l (pc := 80) (k_S E hC hS hA hl.1 (c_X3_mixed l D tk N0 sa H.size r_7 1 ) kw_682 kw_683 kw_1 kw_684 (n := 2) (by decide +kernel) rfl ⟨⟨rfl, rfl⟩, ⟨by decide, by decide⟩, by decide, by decide⟩ rfl (Nat.le_of_ble_eq_true rfl) trivial dX3_mixedWithPairs_80) hS (fun q z w => absurd w (Nat.not_le.mpr z)) hn (fun r_15 H locs hR hz hk hS => ?_)
                have er_15 := hR
                have hW := hW.new hk
                refine lv_lstore_n (pc := 83) (lv' := [(3, .long r_15), (0, .ref (ad 15)), (1, .long s0_), (5, .int y9), (6, .int w9)]) hx hb dX3_mixedWithPairs_83 rfl hl (by decide) rfl (fun ls hl => ?_)
                obtain ⟨x_17, ex_17⟩ : ∃ z9 : Int32, z9 = w9 + 1 := ⟨_, rfl⟩
                refine lv_iinc (pc := 84) (v := x_17) (lv' := [(6, .int x_17), (3, .long r_15), (0, .ref (ad 15)), (1, .long s0_), (5, .int y9)]) hx hb dX3_mixedWithPairs_84 hl (k := 4) rfl (by rw [ex_17]; rfl) (by decide) rfl (fun ls hl => ?_)
                refine lv_goto (pc := 87) (tgt := 21) hx hb dX3_mixedWithPairs_87 (by decide) ?_
                exact ih_21  (b + 1)  r_15 x_17 (by omega) (by omega) (i_up hx8 ex_17) (by rw [← hg8, hw8, mpI, er_15, er_7, er_5, f_cmpF, ← er_5, f_nextF, ← er_9, if_neg c_11]) _ _ _ hS hW (lv_sub hl [2, 3, 1, 4, 0] rfl)
        exact loop_21 7 (k + 1)  s9 x_2 (by omega) (by omega) (i_up hx9 ex_2) (by rw [show 6 - (k + 1) = 5 - k from by omega]) _ _ _ hS hW (lv_sub hl [1, 2, 3, 4, 0] rfl)
  exact loop_5 7 0  s0_ 0 (by omega) (by omega) nI_0.symm rfl _ _ _ hS hW (lv_sub hl [2, 3, 1, 0] rfl)
