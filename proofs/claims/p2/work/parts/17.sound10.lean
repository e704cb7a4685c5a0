set_option maxHeartbeats 4000000 in
set_option maxRecDepth 100000 in
/-- Bestratios.areNeighboursSound(LBestratios$Fraction;)Z -/
theorem c_X3_areNeighboursSound (l : Launch) (D : va_G) (tk : Nat → ClassId) (N0 : Nat) (sa : Nat → Nat) {ad : Nat → Nat} (hAD : ADok N0 ad) (sz : Nat) (g : CS) (i : Nat) (hi : i < 15) : Met l yX3_areNeighboursSound (wsy yX3_areNeighboursSound cX3_areNeighboursSound 6 (some .boolean)) ({ frames := 4, cells := 0, slots := 0, locals := 109 } : Room) (cP D tk N0 sa [.ref (ad 15), .ref (ad i)] sz (fun H => CW D tk ad g H)) (kQi (fun r H => r = (f_nsnd g i).1 ∧ CW D tk ad ((f_nsnd g i).2) H) (cwA ad sz)) (0) (0) (cwA ad sz) := by
  refine mStart RX3 rfl (by decide +kernel) (Nat.le_of_ble_eq_true rfl) ?_
  intro p e s m args below meth c E hr hlk hnm hsz hC hF ls hl
  subst hsz
  obtain ⟨hx, hb, -⟩ := id E
  have hA : ∀ q, (cwA ad s.heap.size) q → N0 ≤ q := cwA.ge hAD hC.2.1
  have hn : ∀ q, s.heap.size ≤ q → (cwA ad s.heap.size) q := fun q h => Or.inr h
  have hS : va_S (cwA ad s.heap.size) s.heap s.heap [] := va_S.rf
  have hl : lv_has ls 6 [(0, .ref (ad 15)), (1, .ref (ad i))] := hl
  obtain ⟨Q, hQ⟩ : ∃ Q, Q = MQ below (kQi (fun r H => r = (f_nsnd g i).1 ∧ CW D tk ad ((f_nsnd g i).2) H) (cwA ad s.heap.size)) args s (0) (0) (cwA ad s.heap.size) := ⟨_, rfl⟩
  rw [← hQ]
  have hW : CW D tk ad g s.heap := hF
  refine lv_iconst (pc := 0) (v := 1) hx hb dX3_areNeighboursSound_0 (by decide) ?_
  refine lv_istore_n (pc := 1) (lv' := [(2, .int 1), (0, .ref (ad 15)), (1, .ref (ad i))]) hx hb dX3_areNeighboursSound_1 rfl hl (by decide) rfl (fun ls hl => ?_)
  have loop_2 : ∀ (n : Nat) (k : Nat)(g1 : CS) (y9 : Int32), 13 - k < n → 1 ≤ k ∧ k ≤ 13 → y9 = nI k → nsL i (13 - k) k g1 = f_nsnd g i → ∀ (H : Heap) (locs : List Loc) (ls : Array Slot), va_S (cwA ad s.heap.size) s.heap H locs → CW D tk ad g1 H → lv_has ls 6 [(0, .ref (ad 15)), (1, .ref (ad i)), (2, .int y9)] → W p l e ({ frames := 4, cells := 0, slots := 0, locals := 109 } : Room) s m args below meth c H locs (0) (0) Q (F0 m 2 ls []) := by
    intro n
    induction n with
    | zero =>
      intro k g1 y9 hf9 hk9 hx9 hg9 H locs ls hS hW hl
      omega
    | succ n ih_2 =>
      intro k g1 y9 hf9 hk9 hx9 hg9 H locs ls hS hW hl
      refine lv_iload_n (pc := 2) hx hb dX3_areNeighboursSound_2 rfl (lv_at hl 2 rfl) ?_
      refine lv_bipush (pc := 3) (v := 12) hx hb dX3_areNeighboursSound_3 (by decide) ?_
      refine lv_icmp_gt (pc := 5) (tgt := 149) hx hb dX3_areNeighboursSound_5 (by decide) (fun c_1 => ?_) (fun c_1 => ?_)
      · refine lv_iconst (pc := 149) (v := 1) hx hb dX3_areNeighboursSound_149 (by decide) ?_
        try rw [hQ]
        refine r_zret (pc := 150) E hr hlk hS (by decide) (by decide) rfl ?_ dX3_areNeighboursSound_150
        have e0 : 13 - k = 0 := by have z := lt12 hx9 hk9.2 c_1; omega
        rw [e0] at hg9
        exact ⟨(by rw [← hg9]; rfl), hW.to (by rw [← hg9]; rfl)⟩
      · have hlt9 : k ≤ 12 := le12 hx9 hk9.2 c_1
        have hw9 : 13 - k = (13 - (k + 1)) + 1 := by omega
        rw [hw9] at hg9
        refine lv_aload_n (pc := 8) hx hb dX3_areNeighboursSound_8 rfl (lv_at hl 0 rfl) ?_
        refine r_get (pc := 9) E hC hW.obj 6 (v := .ref (ad 7)) rfl rfl (by decide) uX3 (List.mem_cons_of_mem _ kw_120) (fun _ h => h) dX3_areNeighboursSound_9 ?_
        refine lv_aload_n (pc := 12) hx hb dX3_areNeighboursSound_12 rfl (lv_at hl 1 rfl) ?_
        refine lv_iload_n (pc := 13) hx hb dX3_areNeighboursSound_13 rfl (lv_at hl 2 rfl) ?_
        refine lv_iconst (pc := 14) (v := 1) hx hb dX3_areNeighboursSound_14 (by decide) ?_
        refine k_v (pc := 15) (k_V E hC hS hA hl.1 (c1.recv hC (hW.fr (i := 7) (by decide)) rfl) rfl (c_X0_becomeNeighbour l D tk N0 sa hAD H.size g1 7 (by decide) i hi y9 1 ) kw_588 kw_589 kw_590 kw_2 kw_591 (n := 3) (by decide +kernel) rfl ⟨⟨rfl, rfl⟩, ⟨by decide, by decide⟩, by decide, by decide⟩ rfl (Nat.le_of_ble_eq_true rfl) hW dX3_areNeighboursSound_15) hS (fun q _ w => cwA.go hS.1 q w) hn (fun H locs hR hz hk hS => ?_)
        have hW := hR
        obtain ⟨g_4, eg_4⟩ : ∃ z, z = f_nb g1 7 i y9 1 := ⟨_, rfl⟩
        rw [← eg_4] at hW
        refine lv_aload_n (pc := 18) hx hb dX3_areNeighboursSound_18 rfl (lv_at hl 0 rfl) ?_
        refine r_get (pc := 19) E hC hW.obj 7 (v := .ref (ad 8)) rfl rfl (by decide) uX3 (List.mem_cons_of_mem _ kw_121) (fun _ h => h) dX3_areNeighboursSound_19 ?_
        refine lv_aload_n (pc := 22) hx hb dX3_areNeighboursSound_22 rfl (lv_at hl 1 rfl) ?_
        refine lv_iload_n (pc := 23) hx hb dX3_areNeighboursSound_23 rfl (lv_at hl 2 rfl) ?_
        refine lv_iconst (pc := 24) (v := (-1)) hx hb dX3_areNeighboursSound_24 (by decide) ?_
        refine k_v (pc := 25) (k_V E hC hS hA hl.1 (c1.recv hC (hW.fr (i := 8) (by decide)) rfl) rfl (c_X0_becomeNeighbour l D tk N0 sa hAD H.size g_4 8 (by decide) i hi y9 ((-1)) ) kw_588 kw_589 kw_590 kw_2 kw_591 (n := 3) (by decide +kernel) rfl ⟨⟨rfl, rfl⟩, ⟨by decide, by decide⟩, by decide, by decide⟩ rfl (Nat.le_of_ble_eq_true rfl) hW dX3_areNeighboursSound_25) hS (fun q _ w => cwA.go hS.1 q w) hn (fun H locs hR hz hk hS => ?_)
        have hW := hR
        obtain ⟨g_7, eg_7⟩ : ∃ z, z = f_nb g_4 8 i y9 ((-1)) := ⟨_, rfl⟩
        rw [← eg_7] at hW
        have hgg9 : g_7 = f_nsG g1 i k := by rw [eg_7, eg_4, hx9]; rfl
        have join_56_7 : ∀ (x3 : Int32), x3 = f_ns1 g_7 i → ∀ (H : Heap) (locs : List Loc) (ls : Array Slot), va_S (cwA ad s.heap.size) s.heap H locs → CW D tk ad g_7 H → lv_has ls 6 [(0, .ref (ad 15)), (1, .ref (ad i)), (2, .int y9), (3, .int x3)] → W p l e ({ frames := 4, cells := 0, slots := 0, locals := 109 } : Room) s m args below meth c H locs (0 + 0 + 0) (0 + 0 + 0) Q (F0 m 56 ls []) := by
          intro x3 hj1 H locs ls hS hW hl
          have join_85_8 : ∀ (x4 : Int32), x4 = f_ns2 g_7 i → ∀ (H : Heap) (locs : List Loc) (ls : Array Slot), va_S (cwA ad s.heap.size) s.heap H locs → CW D tk ad g_7 H → lv_has ls 6 [(0, .ref (ad 15)), (1, .ref (ad i)), (2, .int y9), (3, .int x3), (4, .int x4)] → W p l e ({ frames := 4, cells := 0, slots := 0, locals := 109 } : Room) s m args below meth c H locs (0 + 0 + 0) (0 + 0 + 0) Q (F0 m 85 ls []) := by
            intro x4 hj2 H locs ls hS hW hl
            have join_127_9 : ∀ (x5 : Int32), x5 = f_ns3 g_7 y9 → ∀ (H : Heap) (locs : List Loc) (ls : Array Slot), va_S (cwA ad s.heap.size) s.heap H locs → CW D tk ad g_7 H → lv_has ls 6 [(0, .ref (ad 15)), (1, .ref (ad i)), (2, .int y9), (3, .int x3), (4, .int x4), (5, .int x5)] → W p l e ({ frames := 4, cells := 0, slots := 0, locals := 109 } : Room) s m args below meth c H locs (0 + 0 + 0) (0 + 0 + 0) Q (F0 m 127 ls []) := by
              intro x5 hj3 H locs ls hS hW hl
              refine lv_iload_n (pc := 127) hx hb dX3_areNeighboursSound_127 rfl (lv_at hl 3 rfl) ?_
              refine lv_if_eq (pc := 128) (tgt := 141) hx hb dX3_areNeighboursSound_128 (by decide) (fun c_11 => ?_) (fun c_11 => ?_)
              · refine lv_iconst (pc := 141) (v := 0) hx hb dX3_areNeighboursSound_141 (by decide) ?_
                try rw [hQ]
                refine r_zret (pc := 142) E hr hlk hS (by decide) (by decide) rfl ?_ dX3_areNeighboursSound_142
                have hno := (ns_okF hx9 hj1 hj2 hj3 (Or.inl c_11))
                exact ⟨(by rw [← hg9, nsL, ← hgg9, if_neg hno]), hW.to (by rw [← hg9, nsL, ← hgg9, if_neg hno])⟩
              · refine lv_iload (pc := 131) hx hb dX3_areNeighboursSound_131 (lv_at hl 4 rfl) ?_
                refine lv_if_ne (pc := 133) (tgt := 143) hx hb dX3_areNeighboursSound_133 (by decide) (fun c_12 => ?_) (fun c_12 => ?_)
                · obtain ⟨x_13, ex_13⟩ : ∃ z9 : Int32, z9 = y9 + 1 := ⟨_, rfl⟩
                  refine lv_iinc (pc := 143) (v := x_13) (lv' := [(2, .int x_13), (0, .ref (ad 15)), (1, .ref (ad i)), (3, .int x3), (4, .int x4), (5, .int x5)]) hx hb dX3_areNeighboursSound_143 hl (k := 2) rfl (by rw [ex_13]; rfl) (by decide) rfl (fun ls hl => ?_)
                  refine lv_goto (pc := 146) (tgt := 2) hx hb dX3_areNeighboursSound_146 (by decide) ?_
                  exact ih_2  (k + 1) g_7  x_13 (by omega) (by omega) (i_up hx9 ex_13) (by rw [← hg9, nsL, ← hgg9, if_pos (ns_okT hx9 hj1 hj2 hj3 c_11 (Or.inl c_12))]) _ _ _ hS hW (lv_sub hl [1, 2, 0] rfl)
                · refine lv_iload (pc := 136) hx hb dX3_areNeighboursSound_136 (lv_at hl 5 rfl) ?_
                  refine lv_if_ne (pc := 138) (tgt := 143) hx hb dX3_areNeighboursSound_138 (by decide) (fun c_14 => ?_) (fun c_14 => ?_)
                  · obtain ⟨x_15, ex_15⟩ : ∃ z9 : Int32, z9 = y9 + 1 := ⟨_, rfl⟩
                    refine lv_iinc (pc := 143) (v := x_15) (lv' := [(2, .int x_15), (0, .ref (ad 15)), (1, .ref (ad i)), (3, .int x3), (4, .int x4), (5, .int x5)]) hx hb dX3_areNeighboursSound_143 hl (k := 2) rfl (by rw [ex_15]; rfl) (by decide) rfl (fun ls hl => ?_)
                    refine lv_goto (pc := 146) (tgt := 2) hx hb dX3_areNeighboursSound_146 (by decide) ?_
                    exact ih_2  (k + 1) g_7  x_15 (by omega) (by omega) (i_up hx9 ex_15) (by rw [← hg9, nsL, ← hgg9, if_pos (ns_okT hx9 hj1 hj2 hj3 c_11 (Or.inr c_14))]) _ _ _ hS hW (lv_sub hl [1, 2, 0] rfl)
                  · refine lv_iconst (pc := 141) (v := 0) hx hb dX3_areNeighboursSound_141 (by decide) ?_
                    try rw [hQ]
                    refine r_zret (pc := 142) E hr hlk hS (by decide) (by decide) rfl ?_ dX3_areNeighboursSound_142
                    have hno := (ns_okF hx9 hj1 hj2 hj3 (Or.inr ⟨c_12, c_14⟩))
                    exact ⟨(by rw [← hg9, nsL, ← hgg9, if_neg hno]), hW.to (by rw [← hg9, nsL, ← hgg9, if_neg hno])⟩
            refine lv_aload_n (pc := 85) hx hb dX3_areNeighboursSound_85 rfl (lv_at hl 0 rfl) ?_
            refine r_get (pc := 86) E hC hW.obj 6 (v := .ref (ad 7)) rfl rfl (by decide) uX3 (List.mem_cons_of_mem _ kw_120) (fun _ h => h) dX3_areNeighboursSound_86 ?_
            refine lv_aload_n (pc := 89) hx hb dX3_areNeighboursSound_89 rfl (lv_at hl 0 rfl) ?_
            refine r_get (pc := 90) E hC hW.obj 7 (v := .ref (ad 8)) rfl rfl (by decide) uX3 (List.mem_cons_of_mem _ kw_121) (fun _ h => h) dX3_areNeighboursSound_90 ?_
            refine k_i (pc := 93) (k_V E hC hS hA hl.1 (c1.recv hC (hW.fr (i := 7) (by decide)) rfl) rfl (c_X0_isNextTo l D tk N0 sa hAD H.size g_7 7 (by decide) 8 (by decide) ) kw_601 kw_602 kw_603 kw_2 kw_604 (n := 1) (by decide +kernel) rfl ⟨⟨rfl, rfl⟩, ⟨by decide, by decide⟩, by decide, by decide⟩ rfl (Nat.le_of_ble_eq_true rfl) hW dX3_areNeighboursSound_93) hS (fun q z w => absurd w (Nat.not_le.mpr z)) hn (fun r_16 H locs hR hz hk hS => ?_)
            have er_16 := hR
            have hW := hW.new hk
            refine lv_if_eq (pc := 96) (tgt := 124) hx hb dX3_areNeighboursSound_96 (by decide) (fun c_18 => ?_) (fun c_18 => ?_)
            · refine lv_iconst (pc := 124) (v := 0) hx hb dX3_areNeighboursSound_124 (by decide) ?_
              refine lv_istore (pc := 125) (lv' := [(5, .int 0), (0, .ref (ad 15)), (1, .ref (ad i)), (2, .int y9), (3, .int x3), (4, .int x4)]) hx hb dX3_areNeighboursSound_125 hl (by decide) rfl (fun ls hl => ?_)
              exact join_127_9 0 (by subst er_16; simp [f_ns3, f_nextF, c_1, Int32.not_lt.mp c_1, c_18]) _ _ _ hS hW (lv_sub hl [1, 2, 3, 4, 5, 0] rfl)
            · refine lv_aload_n (pc := 99) hx hb dX3_areNeighboursSound_99 rfl (lv_at hl 0 rfl) ?_
              refine r_get (pc := 100) E hC hW.obj 6 (v := .ref (ad 7)) rfl rfl (by decide) uX3 (List.mem_cons_of_mem _ kw_120) (fun _ h => h) dX3_areNeighboursSound_100 ?_
              refine r_getN (pc := 103) "Bestratios" E hC (hW.fr (i := 7) (by decide)) 1 (v := .long (tB g_7 7)) rfl rfl (by decide) uX0 kn_55 (fun _ h => h) dX3_areNeighboursSound_103 ?_
              refine lv_aload_n (pc := 106) hx hb dX3_areNeighboursSound_106 rfl (lv_at hl 0 rfl) ?_
              refine r_get (pc := 107) E hC hW.obj 7 (v := .ref (ad 8)) rfl rfl (by decide) uX3 (List.mem_cons_of_mem _ kw_121) (fun _ h => h) dX3_areNeighboursSound_107 ?_
              refine r_getN (pc := 110) "Bestratios" E hC (hW.fr (i := 8) (by decide)) 1 (v := .long (tB g_7 8)) rfl rfl (by decide) uX0 kn_55 (fun _ h => h) dX3_areNeighboursSound_110 ?_
              refine lv_ladd (pc := 113) hx hb dX3_areNeighboursSound_113 ?_
              refine lv_iload_n (pc := 114) hx hb dX3_areNeighboursSound_114 rfl (lv_at hl 2 rfl) ?_
              refine lv_i2l (pc := 115) (v := y9.toInt64) hx hb dX3_areNeighboursSound_115 rfl ?_
              refine r_lcle (pc := 116) (tgt := 124) E dX3_areNeighboursSound_116 dX3_areNeighboursSound_117 (by decide) (fun c_19 => ?_) (fun c_19 => ?_)
              · refine lv_iconst (pc := 124) (v := 0) hx hb dX3_areNeighboursSound_124 (by decide) ?_
                refine lv_istore (pc := 125) (lv' := [(5, .int 0), (0, .ref (ad 15)), (1, .ref (ad i)), (2, .int y9), (3, .int x3), (4, .int x4)]) hx hb dX3_areNeighboursSound_125 hl (by decide) rfl (fun ls hl => ?_)
                exact join_127_9 0 (by subst er_16; simp [f_ns3, f_nextF, c_1, Int32.not_lt.mp c_1, c_18, c_19, Int64.not_lt.mpr c_19]) _ _ _ hS hW (lv_sub hl [1, 2, 3, 4, 5, 0] rfl)
              · refine lv_iconst (pc := 120) (v := 1) hx hb dX3_areNeighboursSound_120 (by decide) ?_
                refine lv_goto (pc := 121) (tgt := 125) hx hb dX3_areNeighboursSound_121 (by decide) ?_
                refine lv_istore (pc := 125) (lv' := [(5, .int 1), (0, .ref (ad 15)), (1, .ref (ad i)), (2, .int y9), (3, .int x3), (4, .int x4)]) hx hb dX3_areNeighboursSound_125 hl (by decide) rfl (fun ls hl => ?_)
                exact join_127_9 1 (by subst er_16; simp [f_ns3, f_nextF, c_1, Int32.not_lt.mp c_1, c_18, c_19, Int64.not_le.mp c_19]) _ _ _ hS hW (lv_sub hl [1, 2, 3, 4, 5, 0] rfl)
          refine lv_aload_n (pc := 56) hx hb dX3_areNeighboursSound_56 rfl (lv_at hl 0 rfl) ?_
          refine r_get (pc := 57) E hC hW.obj 6 (v := .ref (ad 7)) rfl rfl (by decide) uX3 (List.mem_cons_of_mem _ kw_120) (fun _ h => h) dX3_areNeighboursSound_57 ?_
          refine lv_aload_n (pc := 60) hx hb dX3_areNeighboursSound_60 rfl (lv_at hl 1 rfl) ?_
          refine k_i (pc := 61) (k_V E hC hS hA hl.1 (c1.recv hC (hW.fr (i := 7) (by decide)) rfl) rfl (c_X0_isSameAs l D tk N0 sa hAD H.size g_7 7 (by decide) i hi ) kw_580 kw_581 kw_582 kw_2 kw_583 (n := 1) (by decide +kernel) rfl ⟨⟨rfl, rfl⟩, ⟨by decide, by decide⟩, by decide, by decide⟩ rfl (Nat.le_of_ble_eq_true rfl) hW dX3_areNeighboursSound_61) hS (fun q z w => absurd w (Nat.not_le.mpr z)) hn (fun r_20 H locs hR hz hk hS => ?_)
          have er_20 := hR
          have hW := hW.new hk
          refine lv_if_eq (pc := 64) (tgt := 82) hx hb dX3_areNeighboursSound_64 (by decide) (fun c_22 => ?_) (fun c_22 => ?_)
          · refine lv_iconst (pc := 82) (v := 0) hx hb dX3_areNeighboursSound_82 (by decide) ?_
            refine lv_istore (pc := 83) (lv' := [(4, .int 0), (0, .ref (ad 15)), (1, .ref (ad i)), (2, .int y9), (3, .int x3)]) hx hb dX3_areNeighboursSound_83 hl (by decide) rfl (fun ls hl => ?_)
            exact join_85_8 0 (by subst er_20; simp [f_ns2, f_sameF, c_1, Int32.not_lt.mp c_1, c_22]) _ _ _ hS hW (lv_sub hl [1, 2, 3, 4, 0] rfl)
          · refine lv_aload_n (pc := 67) hx hb dX3_areNeighboursSound_67 rfl (lv_at hl 0 rfl) ?_
            refine r_get (pc := 68) E hC hW.obj 7 (v := .ref (ad 8)) rfl rfl (by decide) uX3 (List.mem_cons_of_mem _ kw_121) (fun _ h => h) dX3_areNeighboursSound_68 ?_
            refine lv_aload_n (pc := 71) hx hb dX3_areNeighboursSound_71 rfl (lv_at hl 1 rfl) ?_
            refine k_i (pc := 72) (k_V E hC hS hA hl.1 (c1.recv hC (hW.fr (i := 8) (by decide)) rfl) rfl (c_X0_isSameAs l D tk N0 sa hAD H.size g_7 8 (by decide) i hi ) kw_580 kw_581 kw_582 kw_2 kw_583 (n := 1) (by decide +kernel) rfl ⟨⟨rfl, rfl⟩, ⟨by decide, by decide⟩, by decide, by decide⟩ rfl (Nat.le_of_ble_eq_true rfl) hW dX3_areNeighboursSound_72) hS (fun q z w => absurd w (Nat.not_le.mpr z)) hn (fun r_23 H locs hR hz hk hS => ?_)
            have er_23 := hR
            have hW := hW.new hk
            refine lv_if_eq (pc := 75) (tgt := 82) hx hb dX3_areNeighboursSound_75 (by decide) (fun c_25 => ?_) (fun c_25 => ?_)
            · refine lv_iconst (pc := 82) (v := 0) hx hb dX3_areNeighboursSound_82 (by decide) ?_
              refine lv_istore (pc := 83) (lv' := [(4, .int 0), (0, .ref (ad 15)), (1, .ref (ad i)), (2, .int y9), (3, .int x3)]) hx hb dX3_areNeighboursSound_83 hl (by decide) rfl (fun ls hl => ?_)
              exact join_85_8 0 (by subst er_20 er_23; simp [f_ns2, f_sameF, c_1, Int32.not_lt.mp c_1, c_22, c_25]) _ _ _ hS hW (lv_sub hl [1, 2, 3, 4, 0] rfl)
            · refine lv_iconst (pc := 78) (v := 1) hx hb dX3_areNeighboursSound_78 (by decide) ?_
              refine lv_goto (pc := 79) (tgt := 83) hx hb dX3_areNeighboursSound_79 (by decide) ?_
              refine lv_istore (pc := 83) (lv' := [(4, .int 1), (0, .ref (ad 15)), (1, .ref (ad i)), (2, .int y9), (3, .int x3)]) hx hb dX3_areNeighboursSound_83 hl (by decide) rfl (fun ls hl => ?_)
              exact join_85_8 1 (by subst er_20 er_23; simp [f_ns2, f_sameF, c_1, Int32.not_lt.mp c_1, c_22, c_25]) _ _ _ hS hW (lv_sub hl [1, 2, 3, 4, 0] rfl)
        refine lv_aload_n (pc := 28) hx hb dX3_areNeighboursSound_28 rfl (lv_at hl 0 rfl) ?_
        refine r_get (pc := 29) E hC hW.obj 6 (v := .ref (ad 7)) rfl rfl (by decide) uX3 (List.mem_cons_of_mem _ kw_120) (fun _ h => h) dX3_areNeighboursSound_29 ?_
        refine lv_aload_n (pc := 32) hx hb dX3_areNeighboursSound_32 rfl (lv_at hl 1 rfl) ?_
        refine k_i (pc := 33) (k_V E hC hS hA hl.1 (c1.recv hC (hW.fr (i := 7) (by decide)) rfl) rfl (c_X0_compareWith l D tk N0 sa hAD H.size g_7 7 (by decide) i hi ) kw_594 kw_595 kw_596 kw_2 kw_597 (n := 1) (by decide +kernel) rfl ⟨⟨rfl, rfl⟩, ⟨by decide, by decide⟩, by decide, by decide⟩ rfl (Nat.le_of_ble_eq_true rfl) hW dX3_areNeighboursSound_33) hS (fun q z w => absurd w (Nat.not_le.mpr z)) hn (fun r_26 H locs hR hz hk hS => ?_)
        have er_26 := hR
        have hW := hW.new hk
        refine lv_if_gt (pc := 36) (tgt := 54) hx hb dX3_areNeighboursSound_36 (by decide) (fun c_28 => ?_) (fun c_28 => ?_)
        · refine lv_iconst (pc := 54) (v := 0) hx hb dX3_areNeighboursSound_54 (by decide) ?_
          refine lv_istore_n (pc := 55) (lv' := [(3, .int 0), (0, .ref (ad 15)), (1, .ref (ad i)), (2, .int y9)]) hx hb dX3_areNeighboursSound_55 rfl hl (by decide) rfl (fun ls hl => ?_)
          exact join_56_7 0 (by subst er_26; simp [f_ns1, f_cmpF, c_1, Int32.not_lt.mp c_1, c_28, Int32.not_le.mpr c_28]) _ _ _ hS hW (lv_sub hl [1, 2, 3, 0] rfl)
        · refine lv_aload_n (pc := 39) hx hb dX3_areNeighboursSound_39 rfl (lv_at hl 0 rfl) ?_
          refine r_get (pc := 40) E hC hW.obj 7 (v := .ref (ad 8)) rfl rfl (by decide) uX3 (List.mem_cons_of_mem _ kw_121) (fun _ h => h) dX3_areNeighboursSound_40 ?_
          refine lv_aload_n (pc := 43) hx hb dX3_areNeighboursSound_43 rfl (lv_at hl 1 rfl) ?_
          refine k_i (pc := 44) (k_V E hC hS hA hl.1 (c1.recv hC (hW.fr (i := 8) (by decide)) rfl) rfl (c_X0_compareWith l D tk N0 sa hAD H.size g_7 8 (by decide) i hi ) kw_594 kw_595 kw_596 kw_2 kw_597 (n := 1) (by decide +kernel) rfl ⟨⟨rfl, rfl⟩, ⟨by decide, by decide⟩, by decide, by decide⟩ rfl (Nat.le_of_ble_eq_true rfl) hW dX3_areNeighboursSound_44) hS (fun q z w => absurd w (Nat.not_le.mpr z)) hn (fun r_29 H locs hR hz hk hS => ?_)
          have er_29 := hR
          have hW := hW.new hk
          refine lv_if_lt (pc := 47) (tgt := 54) hx hb dX3_areNeighboursSound_47 (by decide) (fun c_31 => ?_) (fun c_31 => ?_)
          · refine lv_iconst (pc := 54) (v := 0) hx hb dX3_areNeighboursSound_54 (by decide) ?_
            refine lv_istore_n (pc := 55) (lv' := [(3, .int 0), (0, .ref (ad 15)), (1, .ref (ad i)), (2, .int y9)]) hx hb dX3_areNeighboursSound_55 rfl hl (by decide) rfl (fun ls hl => ?_)
            exact join_56_7 0 (by subst er_26 er_29; simp [f_ns1, f_cmpF, c_1, Int32.not_lt.mp c_1, c_28, Int32.not_lt.mp c_28, c_31, Int32.not_le.mpr c_31]) _ _ _ hS hW (lv_sub hl [1, 2, 3, 0] rfl)
          · refine lv_iconst (pc := 50) (v := 1) hx hb dX3_areNeighboursSound_50 (by decide) ?_
            refine lv_goto (pc := 51) (tgt := 55) hx hb dX3_areNeighboursSound_51 (by decide) ?_
            refine lv_istore_n (pc := 55) (lv' := [(3, .int 1), (0, .ref (ad 15)), (1, .ref (ad i)), (2, .int y9)]) hx hb dX3_areNeighboursSound_55 rfl hl (by decide) rfl (fun ls hl => ?_)
            exact join_56_7 1 (by subst er_26 er_29; simp [f_ns1, f_cmpF, c_1, Int32.not_lt.mp c_1, c_28, Int32.not_lt.mp c_28, c_31, Int32.not_lt.mp c_31]) _ _ _ hS hW (lv_sub hl [1, 2, 3, 0] rfl)
  exact loop_2 13 1 g  1 (by omega) (by omega) rfl rfl _ _ _ hS hW (lv_sub hl [1, 2, 0] rfl)
