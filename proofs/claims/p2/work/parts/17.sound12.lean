set_option maxHeartbeats 4000000 in
set_option maxRecDepth 100000 in
/-- Bestratios.areSoundInPairs()Z -/
theorem c_X3_areSoundInPairs (l : Launch) (D : va_G) (tk : Nat → ClassId) (N0 : Nat) (sa : Nat → Nat) {ad : Nat → Nat} (hAD : ADok N0 ad) (sz : Nat) (g : CS)  : Met l yX3_areSoundInPairs (wsy yX3_areSoundInPairs cX3_areSoundInPairs 3 (some .boolean)) ({ frames := 5, cells := 0, slots := 0, locals := 129 } : Room) (cP D tk N0 sa [.ref (ad 15)] sz (fun H => CW D tk ad g H)) (kQi (fun r H => r = (f_pairs g).1 ∧ CW D tk ad ((f_pairs g).2) H) (cwA ad sz)) (0) (0) (cwA ad sz) := by
  refine mStart RX3 rfl (by decide +kernel) (Nat.le_of_ble_eq_true rfl) ?_
  intro p e s m args below meth c E hr hlk hnm hsz hC hF ls hl
  subst hsz
  obtain ⟨hx, hb, -⟩ := id E
  have hA : ∀ q, (cwA ad s.heap.size) q → N0 ≤ q := cwA.ge hAD hC.2.1
  have hn : ∀ q, s.heap.size ≤ q → (cwA ad s.heap.size) q := fun q h => Or.inr h
  have hS : va_S (cwA ad s.heap.size) s.heap s.heap [] := va_S.rf
  have hl : lv_has ls 3 [(0, .ref (ad 15))] := hl
  obtain ⟨Q, hQ⟩ : ∃ Q, Q = MQ below (kQi (fun r H => r = (f_pairs g).1 ∧ CW D tk ad ((f_pairs g).2) H) (cwA ad s.heap.size)) args s (0) (0) (cwA ad s.heap.size) := ⟨_, rfl⟩
  rw [← hQ]
  have hW : CW D tk ad g s.heap := hF
  refine lv_iconst (pc := 0) (v := 0) hx hb dX3_areSoundInPairs_0 (by decide) ?_
  refine lv_istore_n (pc := 1) (lv' := [(1, .int 0), (0, .ref (ad 15))]) hx hb dX3_areSoundInPairs_1 rfl hl (by decide) rfl (fun ls hl => ?_)
  have loop_2 : ∀ (n : Nat) (k : Nat)(g1 : CS) (y9 : Int32), 6 - k < n → k ≤ 6 → y9 = nI k → ouL (6 - k) k g1 = f_pairs g → ∀ (H : Heap) (locs : List Loc) (ls : Array Slot), va_S (cwA ad s.heap.size) s.heap H locs → CW D tk ad g1 H → lv_has ls 3 [(0, .ref (ad 15)), (1, .int y9)] → W p l e ({ frames := 5, cells := 0, slots := 0, locals := 129 } : Room) s m args below meth c H locs (0) (0) Q (F0 m 2 ls []) := by
    intro n
    induction n with
    | zero =>
      intro k g1 y9 hf9 hk9 hx9 hg9 H locs ls hS hW hl
      omega
    | succ n ih_2 =>
      intro k g1 y9 hf9 hk9 hx9 hg9 H locs ls hS hW hl
      refine lv_iload_n (pc := 2) hx hb dX3_areSoundInPairs_2 rfl (lv_at hl 1 rfl) ?_
      refine lv_aload_n (pc := 3) hx hb dX3_areSoundInPairs_3 rfl (lv_at hl 0 rfl) ?_
      refine r_get (pc := 4) E hC hW.obj 0 (v := .ref (ad 16)) rfl rfl (by decide) uX3 (List.mem_cons_of_mem _ kw_114) (fun _ h => h) dX3_areSoundInPairs_4 ?_
      refine r_alen (pc := 7) E hC hW.row 2 rfl (v := 6) rfl dX3_areSoundInPairs_7 ?_
      refine lv_icmp_ge (pc := 8) (tgt := 90) hx hb dX3_areSoundInPairs_8 (by decide) (fun c_1 => ?_) (fun c_1 => ?_)
      · refine lv_iconst (pc := 90) (v := 1) hx hb dX3_areSoundInPairs_90 (by decide) ?_
        try rw [hQ]
        refine r_zret (pc := 91) E hr hlk hS (by decide) (by decide) rfl ?_ dX3_areSoundInPairs_91
        have e0 : 6 - k = 0 := by have := (i_le (n := 6) hx9 (by decide) (by omega) (by decide)).mp c_1; omega
        rw [e0] at hg9
        exact ⟨(by rw [← hg9]; rfl), hW.to (by rw [← hg9]; rfl)⟩
      · have hlt9 : k < 6 := Nat.not_le.mp (fun z => c_1 ((i_le (n := 6) hx9 (by decide) (by omega) (by decide)).mpr z))
        have hw9 : 6 - k = (6 - (k + 1)) + 1 := by omega
        refine lv_iload_n (pc := 11) hx hb dX3_areSoundInPairs_11 rfl (lv_at hl 1 rfl) ?_
        refine lv_iconst (pc := 12) (v := 1) hx hb dX3_areSoundInPairs_12 (by decide) ?_
        refine lv_iadd (pc := 13) hx hb dX3_areSoundInPairs_13 ?_
        obtain ⟨x_2, ex_2⟩ : ∃ z9 : Int32, z9 = y9 + 1 := ⟨_, rfl⟩
        rw [← ex_2]
        refine lv_istore_n (pc := 14) (lv' := [(2, .int x_2), (0, .ref (ad 15)), (1, .int y9)]) hx hb dX3_areSoundInPairs_14 rfl hl (by decide) rfl (fun ls hl => ?_)
        have loop_15 : ∀ (n : Nat) (b : Nat)(g2 : CS) (w9 : Int32), 6 - b < n → k + 1 ≤ b ∧ b ≤ 6 → w9 = nI b → inL k (6 - b) b g2 = inL k (5 - k) (k + 1) g1 → ∀ (H : Heap) (locs : List Loc) (ls : Array Slot), va_S (cwA ad s.heap.size) s.heap H locs → CW D tk ad g2 H → lv_has ls 3 [(0, .ref (ad 15)), (1, .int y9), (2, .int w9)] → W p l e ({ frames := 5, cells := 0, slots := 0, locals := 129 } : Room) s m args below meth c H locs (0) (0) Q (F0 m 15 ls []) := by
          intro n
          induction n with
          | zero =>
            intro b g2 w9 hf8 hk8 hx8 hg8 H locs ls hS hW hl
            omega
          | succ n ih_15 =>
            intro b g2 w9 hf8 hk8 hx8 hg8 H locs ls hS hW hl
            refine lv_iload_n (pc := 15) hx hb dX3_areSoundInPairs_15 rfl (lv_at hl 2 rfl) ?_
            refine lv_aload_n (pc := 16) hx hb dX3_areSoundInPairs_16 rfl (lv_at hl 0 rfl) ?_
            refine r_get (pc := 17) E hC hW.obj 0 (v := .ref (ad 16)) rfl rfl (by decide) uX3 (List.mem_cons_of_mem _ kw_114) (fun _ h => h) dX3_areSoundInPairs_17 ?_
            refine r_alen (pc := 20) E hC hW.row 2 rfl (v := 6) rfl dX3_areSoundInPairs_20 ?_
            refine lv_icmp_ge (pc := 21) (tgt := 84) hx hb dX3_areSoundInPairs_21 (by decide) (fun c_3 => ?_) (fun c_3 => ?_)
            · obtain ⟨x_4, ex_4⟩ : ∃ z9 : Int32, z9 = y9 + 1 := ⟨_, rfl⟩
              refine lv_iinc (pc := 84) (v := x_4) (lv' := [(1, .int x_4), (0, .ref (ad 15)), (2, .int w9)]) hx hb dX3_areSoundInPairs_84 hl (k := 1) rfl (by rw [ex_4]; rfl) (by decide) rfl (fun ls hl => ?_)
              refine lv_goto (pc := 87) (tgt := 2) hx hb dX3_areSoundInPairs_87 (by decide) ?_
              exact ih_2  (k + 1) g2  x_4 (by omega) (by omega) (i_up hx9 ex_4) (by rw [← hg9, hw9, ouL, ← hg8, show 6 - b = 0 from by have := (i_le (n := 6) hx8 (by decide) (by omega) (by decide)).mp c_3; omega]; simp [inL]) _ _ _ hS hW (lv_sub hl [1, 0] rfl)
            · have hlt8 : b < 6 := Nat.not_le.mp (fun z => c_3 ((i_le (n := 6) hx8 (by decide) (by omega) (by decide)).mpr z))
              have hw8 : 6 - b = (6 - (b + 1)) + 1 := by omega
              refine lv_aload_n (pc := 24) hx hb dX3_areSoundInPairs_24 rfl (lv_at hl 0 rfl) ?_
              refine r_get (pc := 25) E hC hW.obj 6 (v := .ref (ad 7)) rfl rfl (by decide) uX3 (List.mem_cons_of_mem _ kw_120) (fun _ h => h) dX3_areSoundInPairs_25 ?_
              refine lv_aload_n (pc := 28) hx hb dX3_areSoundInPairs_28 rfl (lv_at hl 0 rfl) ?_
              refine r_get (pc := 29) E hC hW.obj 0 (v := .ref (ad 16)) rfl rfl (by decide) uX3 (List.mem_cons_of_mem _ kw_114) (fun _ h => h) dX3_areSoundInPairs_29 ?_
              refine lv_iload_n (pc := 32) hx hb dX3_areSoundInPairs_32 rfl (lv_at hl 1 rfl) ?_
              refine r_aald (pc := 33) E hC hW.row (i_in hx9 hlt9 (by decide)) dX3_areSoundInPairs_33 ?_
              rw [show (y9).toNatClampNeg = k from (i_cl hx9 (by omega))]
              refine lv_aload_n (pc := 34) hx hb dX3_areSoundInPairs_34 rfl (lv_at hl 0 rfl) ?_
              refine r_get (pc := 35) E hC hW.obj 0 (v := .ref (ad 16)) rfl rfl (by decide) uX3 (List.mem_cons_of_mem _ kw_114) (fun _ h => h) dX3_areSoundInPairs_35 ?_
              refine lv_iload_n (pc := 38) hx hb dX3_areSoundInPairs_38 rfl (lv_at hl 2 rfl) ?_
              refine r_aald (pc := 39) E hC hW.row (i_in hx8 hlt8 (by decide)) dX3_areSoundInPairs_39 ?_
              rw [show (w9).toNatClampNeg = b from (i_cl hx8 (by omega))]
              refine k_v (pc := 40) (k_V E hC hS hA hl.1 (c1.recv hC (hW.fr (i := 7) (by decide)) rfl) rfl (c_X0_becomeSum l D tk N0 sa hAD H.size g2 7 (by decide) k (by omega) b (by omega) ) kw_651 kw_652 kw_653 kw_2 kw_654 (n := 2) (by decide +kernel) rfl ⟨⟨rfl, rfl⟩, ⟨by decide, by decide⟩, by decide, by decide⟩ rfl (Nat.le_of_ble_eq_true rfl) hW dX3_areSoundInPairs_40) hS (fun q _ w => cwA.go hS.1 q w) hn (fun H locs hR hz hk hS => ?_)
              have hW := hR
              obtain ⟨g_7, eg_7⟩ : ∃ z, z = f_sum g2 7 k b := ⟨_, rfl⟩
              rw [← eg_7] at hW
              refine lv_aload_n (pc := 43) hx hb dX3_areSoundInPairs_43 rfl (lv_at hl 0 rfl) ?_
              refine r_get (pc := 44) E hC hW.obj 5 (v := .ref (ad 6)) rfl rfl (by decide) uX3 (List.mem_cons_of_mem _ kw_119) (fun _ h => h) dX3_areSoundInPairs_44 ?_
              refine lv_aload_n (pc := 47) hx hb dX3_areSoundInPairs_47 rfl (lv_at hl 0 rfl) ?_
              refine r_get (pc := 48) E hC hW.obj 6 (v := .ref (ad 7)) rfl rfl (by decide) uX3 (List.mem_cons_of_mem _ kw_120) (fun _ h => h) dX3_areSoundInPairs_48 ?_
              refine lv_aload_n (pc := 51) hx hb dX3_areSoundInPairs_51 rfl (lv_at hl 0 rfl) ?_
              refine r_get (pc := 52) E hC hW.obj 0 (v := .ref (ad 16)) rfl rfl (by decide) uX3 (List.mem_cons_of_mem _ kw_114) (fun _ h => h) dX3_areSoundInPairs_52 ?_
              refine lv_iload_n (pc := 55) hx hb dX3_areSoundInPairs_55 rfl (lv_at hl 2 rfl) ?_
              refine r_aald (pc := 56) E hC hW.row (i_in hx8 hlt8 (by decide)) dX3_areSoundInPairs_56 ?_
              rw [show (w9).toNatClampNeg = b from (i_cl hx8 (by omega))]
              refine k_v (pc := 57) (k_V E hC hS hA hl.1 (c1.recv hC (hW.fr (i := 6) (by decide)) rfl) rfl (c_X0_becomeDifference l D tk N0 sa hAD H.size g_7 6 (by decide) 7 (by decide) b (by omega) ) kw_659 kw_660 kw_661 kw_2 kw_662 (n := 2) (by decide +kernel) rfl ⟨⟨rfl, rfl⟩, ⟨by decide, by decide⟩, by decide, by decide⟩ rfl (Nat.le_of_ble_eq_true rfl) hW dX3_areSoundInPairs_57) hS (fun q _ w => cwA.go hS.1 q w) hn (fun H locs hR hz hk hS => ?_)
              have hW := hR
              obtain ⟨g_10, eg_10⟩ : ∃ z, z = f_dif g_7 6 7 b := ⟨_, rfl⟩
              rw [← eg_10] at hW
              refine lv_aload_n (pc := 60) hx hb dX3_areSoundInPairs_60 rfl (lv_at hl 0 rfl) ?_
              refine r_get (pc := 61) E hC hW.obj 5 (v := .ref (ad 6)) rfl rfl (by decide) uX3 (List.mem_cons_of_mem _ kw_119) (fun _ h => h) dX3_areSoundInPairs_61 ?_
              refine lv_aload_n (pc := 64) hx hb dX3_areSoundInPairs_64 rfl (lv_at hl 0 rfl) ?_
              refine r_get (pc := 65) E hC hW.obj 0 (v := .ref (ad 16)) rfl rfl (by decide) uX3 (List.mem_cons_of_mem _ kw_114) (fun _ h => h) dX3_areSoundInPairs_65 ?_
              refine lv_iload_n (pc := 68) hx hb dX3_areSoundInPairs_68 rfl (lv_at hl 1 rfl) ?_
              refine r_aald (pc := 69) E hC hW.row (i_in hx9 hlt9 (by decide)) dX3_areSoundInPairs_69 ?_
              rw [show (y9).toNatClampNeg = k from (i_cl hx9 (by omega))]
              refine k_i (pc := 70) (k_V E hC hS hA hl.1 (c1.recv hC (hW.fr (i := 6) (by decide)) rfl) rfl (c_X0_isSameAs l D tk N0 sa hAD H.size g_10 6 (by decide) k (by omega) ) kw_580 kw_581 kw_582 kw_2 kw_583 (n := 1) (by decide +kernel) rfl ⟨⟨rfl, rfl⟩, ⟨by decide, by decide⟩, by decide, by decide⟩ rfl (Nat.le_of_ble_eq_true rfl) hW dX3_areSoundInPairs_70) hS (fun q z w => absurd w (Nat.not_le.mpr z)) hn (fun r_11 H locs hR hz hk hS => ?_)
              have er_11 := hR
              have hW := hW.new hk
              refine lv_if_ne (pc := 73) (tgt := 78) hx hb dX3_areSoundInPairs_73 (by decide) (fun c_13 => ?_) (fun c_13 => ?_)
              · obtain ⟨x_14, ex_14⟩ : ∃ z9 : Int32, z9 = w9 + 1 := ⟨_, rfl⟩
                refine lv_iinc (pc := 78) (v := x_14) (lv' := [(2, .int x_14), (0, .ref (ad 15)), (1, .int y9)]) hx hb dX3_areSoundInPairs_78 hl (k := 2) rfl (by rw [ex_14]; rfl) (by decide) rfl (fun ls hl => ?_)
                refine lv_goto (pc := 81) (tgt := 15) hx hb dX3_areSoundInPairs_81 (by decide) ?_
                have hpr : f_pr1 g2 k b = (r_11, g_10) := by rw [er_11, eg_10, eg_7]; rfl
                exact ih_15  (b + 1) g_10  x_14 (by omega) (by omega) (i_up hx8 ex_14) (by rw [← hg8, hw8, inL, hpr]; simp [c_13]) _ _ _ hS hW (lv_sub hl [1, 2, 0] rfl)
              · refine lv_iconst (pc := 76) (v := 0) hx hb dX3_areSoundInPairs_76 (by decide) ?_
                try rw [hQ]
                refine r_zret (pc := 77) E hr hlk hS (by decide) (by decide) rfl ?_ dX3_areSoundInPairs_77
                have hpr : f_pr1 g2 k b = (r_11, g_10) := by rw [er_11, eg_10, eg_7]; rfl
                have hin : inL k (5 - k) (k + 1) g1 = (0, g_10) := by rw [← hg8, hw8, inL, hpr]; simp [c_13]
                have hou : f_pairs g = (0, g_10) := by rw [← hg9, hw9, ouL, hin]; simp
                exact ⟨(by rw [hou]), hW.to (by rw [hou])⟩
        exact loop_15 7 (k + 1) g1  x_2 (by omega) (by omega) (i_up hx9 ex_2) (by rw [show 6 - (k + 1) = 5 - k from by omega]) _ _ _ hS hW (lv_sub hl [1, 2, 0] rfl)
  exact loop_2 7 0 g  0 (by omega) (by omega) nI_0.symm rfl _ _ _ hS hW (lv_sub hl [1, 0] rfl)
