set_option maxHeartbeats 4000000 in
set_option maxRecDepth 100000 in
/-- Bestratios.isSound()Z -/
theorem c_X3_isSound (l : Launch) (D : va_G) (tk : Nat → ClassId) (N0 : Nat) (sa : Nat → Nat) {ad : Nat → Nat} (hAD : ADok N0 ad) (sz : Nat) (g : CS)  : Met l yX3_isSound (wsy yX3_isSound cX3_isSound 3 (some .boolean)) ({ frames := 6, cells := 0, slots := 0, locals := 151 } : Room) (cP D tk N0 sa [.ref (ad 15)] sz (fun H => CW D tk ad g H)) (kQi (fun r H => r = (f_isS g).1 ∧ CW D tk ad ((f_isS g).2) H) (cwA ad sz)) (0) (0) (cwA ad sz) := by
  refine mStart RX3 rfl (by decide +kernel) (Nat.le_of_ble_eq_true rfl) ?_
  intro p e s m args below meth c E hr hlk hnm hsz hC hF ls hl
  subst hsz
  obtain ⟨hx, hb, -⟩ := id E
  have hA : ∀ q, (cwA ad s.heap.size) q → N0 ≤ q := cwA.ge hAD hC.2.1
  have hn : ∀ q, s.heap.size ≤ q → (cwA ad s.heap.size) q := fun q h => Or.inr h
  have hS : va_S (cwA ad s.heap.size) s.heap s.heap [] := va_S.rf
  have hl : lv_has ls 3 [(0, .ref (ad 15))] := hl
  obtain ⟨Q, hQ⟩ : ∃ Q, Q = MQ below (kQi (fun r H => r = (f_isS g).1 ∧ CW D tk ad ((f_isS g).2) H) (cwA ad s.heap.size)) args s (0) (0) (cwA ad s.heap.size) := ⟨_, rfl⟩
  rw [← hQ]
  have hW : CW D tk ad g s.heap := hF
  refine lv_iconst (pc := 0) (v := 0) hx hb dX3_isSound_0 (by decide) ?_
  refine lv_istore_n (pc := 1) (lv' := [(1, .int 0), (0, .ref (ad 15))]) hx hb dX3_isSound_1 rfl hl (by decide) rfl (fun ls hl => ?_)
  have loop_2 : ∀ (n : Nat) (k : Nat)(g1 : CS) (y9 : Int32), 6 - k < n → k ≤ 6 → y9 = nI k → sdL (6 - k) k g1 = sdL 6 0 g → ∀ (H : Heap) (locs : List Loc) (ls : Array Slot), va_S (cwA ad s.heap.size) s.heap H locs → CW D tk ad g1 H → lv_has ls 3 [(0, .ref (ad 15)), (1, .int y9)] → W p l e ({ frames := 6, cells := 0, slots := 0, locals := 151 } : Room) s m args below meth c H locs (0) (0) Q (F0 m 2 ls []) := by
    intro n
    induction n with
    | zero =>
      intro k g1 y9 hf9 hk9 hx9 hg9 H locs ls hS hW hl
      omega
    | succ n ih_2 =>
      intro k g1 y9 hf9 hk9 hx9 hg9 H locs ls hS hW hl
      refine lv_iload_n (pc := 2) hx hb dX3_isSound_2 rfl (lv_at hl 1 rfl) ?_
      refine lv_aload_n (pc := 3) hx hb dX3_isSound_3 rfl (lv_at hl 0 rfl) ?_
      refine r_get (pc := 4) E hC hW.obj 0 (v := .ref (ad 16)) rfl rfl (by decide) uX3 (List.mem_cons_of_mem _ kw_114) (fun _ h => h) dX3_isSound_4 ?_
      refine r_alen (pc := 7) E hC hW.row 2 rfl (v := 6) rfl dX3_isSound_7 ?_
      refine lv_icmp_ge (pc := 8) (tgt := 66) hx hb dX3_isSound_8 (by decide) (fun c_1 => ?_) (fun c_1 => ?_)
      · refine lv_aload_n (pc := 66) hx hb dX3_isSound_66 rfl (lv_at hl 0 rfl) ?_
        refine k_i (pc := 67) (k_V E hC hS hA hl.1 (c1.recv hC hW.obj rfl) rfl (c_X3_areSoundInPairs l D tk N0 sa hAD H.size g1  ) kw_647 kw_649 kp_7 kw_1 kw_650 (n := 0) (by decide +kernel) rfl ⟨⟨rfl, rfl⟩, ⟨by decide, by decide⟩, by decide, by decide⟩ rfl (Nat.le_of_ble_eq_true rfl) hW dX3_isSound_67) hS (fun q _ w => cwA.go hS.1 q w) hn (fun r_2 H locs hR hz hk hS => ?_)
        obtain ⟨er_2, hW⟩ := hR
        obtain ⟨g_4, eg_4⟩ : ∃ z, z = (f_pairs g1).2 := ⟨_, rfl⟩
        rw [← eg_4] at hW
        refine lv_if_eq (pc := 70) (tgt := 91) hx hb dX3_isSound_70 (by decide) (fun c_5 => ?_) (fun c_5 => ?_)
        · refine lv_iconst (pc := 91) (v := 0) hx hb dX3_isSound_91 (by decide) ?_
          try rw [hQ]
          refine r_zret (pc := 92) E hr hlk hS (by decide) (by decide) rfl ?_ dX3_isSound_92
          have e0 : 6 - k = 0 := by have := (i_le (n := 6) hx9 (by decide) (by omega) (by decide)).mp c_1; omega
          have hsd : sdL 6 0 g = (1, g1) := by rw [← hg9, e0]; rfl
          have ht : f_isS g = (0, g_4) := by rw [f_isS, hsd, if_neg (show ¬ (1 : Int32) = 0 by decide), f_fin, ← er_2, if_pos c_5, ← eg_4]
          exact ⟨(by rw [ht]), hW.to (by rw [ht])⟩
        · refine lv_aload_n (pc := 73) hx hb dX3_isSound_73 rfl (lv_at hl 0 rfl) ?_
          refine r_get (pc := 74) E hC hW.obj 2 (v := .ref (ad 21)) rfl rfl (by decide) uX3 (List.mem_cons_of_mem _ kw_116) (fun _ h => h) dX3_isSound_74 ?_
          refine lv_aload_n (pc := 77) hx hb dX3_isSound_77 rfl (lv_at hl 0 rfl) ?_
          refine r_get (pc := 78) E hC hW.obj 5 (v := .ref (ad 6)) rfl rfl (by decide) uX3 (List.mem_cons_of_mem _ kw_119) (fun _ h => h) dX3_isSound_78 ?_
          refine k_i (pc := 81) (k_V E hC hS hA hl.1 (c1.recv hC hW.tal rfl) rfl (c_X1_isEven l D tk N0 sa hAD H.size g_4 6 (by decide) ) kw_663 kw_664 kw_665 kw_4 kw_666 (n := 1) (by decide +kernel) rfl ⟨⟨rfl, rfl⟩, ⟨by decide, by decide⟩, by decide, by decide⟩ rfl (Nat.le_of_ble_eq_true rfl) hW dX3_isSound_81) hS (fun q _ w => cwA.go hS.1 q w) hn (fun r_6 H locs hR hz hk hS => ?_)
          obtain ⟨er_6, hW⟩ := hR
          obtain ⟨g_8, eg_8⟩ : ∃ z, z = f_sum g_4 6 10 11 := ⟨_, rfl⟩
          rw [← eg_8] at hW
          refine lv_if_eq (pc := 84) (tgt := 91) hx hb dX3_isSound_84 (by decide) (fun c_9 => ?_) (fun c_9 => ?_)
          · refine lv_iconst (pc := 91) (v := 0) hx hb dX3_isSound_91 (by decide) ?_
            try rw [hQ]
            refine r_zret (pc := 92) E hr hlk hS (by decide) (by decide) rfl ?_ dX3_isSound_92
            have e0 : 6 - k = 0 := by have := (i_le (n := 6) hx9 (by decide) (by omega) (by decide)).mp c_1; omega
            have hsd : sdL 6 0 g = (1, g1) := by rw [← hg9, e0]; rfl
            have ht : f_isS g = (0, g_8) := by rw [f_isS, hsd, if_neg (show ¬ (1 : Int32) = 0 by decide), f_fin, ← er_2, if_neg c_5, ← eg_4, ← er_6, if_pos c_9, ← eg_8]
            exact ⟨(by rw [ht]), hW.to (by rw [ht])⟩
          · refine lv_iconst (pc := 87) (v := 1) hx hb dX3_isSound_87 (by decide) ?_
            refine lv_goto (pc := 88) (tgt := 92) hx hb dX3_isSound_88 (by decide) ?_
            try rw [hQ]
            refine r_zret (pc := 92) E hr hlk hS (by decide) (by decide) rfl ?_ dX3_isSound_92
            have e0 : 6 - k = 0 := by have := (i_le (n := 6) hx9 (by decide) (by omega) (by decide)).mp c_1; omega
            have hsd : sdL 6 0 g = (1, g1) := by rw [← hg9, e0]; rfl
            have ht : f_isS g = (1, g_8) := by rw [f_isS, hsd, if_neg (show ¬ (1 : Int32) = 0 by decide), f_fin, ← er_2, if_neg c_5, ← eg_4, ← er_6, if_neg c_9, ← eg_8]
            exact ⟨(by rw [ht]), hW.to (by rw [ht])⟩
      · have hlt9 : k < 6 := Nat.not_le.mp (fun z => c_1 ((i_le (n := 6) hx9 (by decide) (by omega) (by decide)).mpr z))
        have hw9 : 6 - k = (6 - (k + 1)) + 1 := by omega
        refine lv_aload_n (pc := 11) hx hb dX3_isSound_11 rfl (lv_at hl 0 rfl) ?_
        refine r_get (pc := 12) E hC hW.obj 0 (v := .ref (ad 16)) rfl rfl (by decide) uX3 (List.mem_cons_of_mem _ kw_114) (fun _ h => h) dX3_isSound_12 ?_
        refine lv_iload_n (pc := 15) hx hb dX3_isSound_15 rfl (lv_at hl 1 rfl) ?_
        refine r_aald (pc := 16) E hC hW.row (i_in hx9 hlt9 (by decide)) dX3_isSound_16 ?_
        rw [show (y9).toNatClampNeg = k from (i_cl hx9 (by omega))]
        refine lv_astore_n (pc := 17) (lv' := [(2, .ref (ad k)), (0, .ref (ad 15)), (1, .int y9)]) hx hb dX3_isSound_17 rfl hl (by decide) rfl (fun ls hl => ?_)
        refine lv_aload_n (pc := 18) hx hb dX3_isSound_18 rfl (lv_at hl 1 rfl) ?_
        refine lv_aload_n (pc := 19) hx hb dX3_isSound_19 rfl (lv_at hl 0 rfl) ?_
        refine k_i (pc := 20) (k_V E hC hS hA hl.1 (c1.recv hC hW.obj rfl) rfl (c_X3_isFoldSound l D tk N0 sa hAD H.size g1 k (by omega) ) kw_559 kw_561 kp_2 kw_1 kw_562 (n := 1) (by decide +kernel) rfl ⟨⟨rfl, rfl⟩, ⟨by decide, by decide⟩, by decide, by decide⟩ rfl (Nat.le_of_ble_eq_true rfl) hW dX3_isSound_20) hS (fun q _ w => cwA.go hS.1 q w) hn (fun r_10 H locs hR hz hk hS => ?_)
        obtain ⟨er_10, hW⟩ := hR
        obtain ⟨g_12, eg_12⟩ : ∃ z, z = f_fsndW g1 k := ⟨_, rfl⟩
        rw [← eg_12] at hW
        refine lv_if_eq (pc := 23) (tgt := 58) hx hb dX3_isSound_23 (by decide) (fun c_13 => ?_) (fun c_13 => ?_)
        · refine lv_iconst (pc := 58) (v := 0) hx hb dX3_isSound_58 (by decide) ?_
          try rw [hQ]
          refine r_zret (pc := 59) E hr hlk hS (by decide) (by decide) rfl ?_ dX3_isSound_59
          have h1s : f_snd1 g1 k = (0, g_12) := by rw [f_snd1, ← er_10, if_pos c_13, ← eg_12]
          have hsd : sdL 6 0 g = (0, g_12) := by rw [← hg9, hw9, sdL, h1s, if_pos rfl]
          have ht : f_isS g = (0, g_12) := by rw [f_isS, hsd, if_pos rfl]
          exact ⟨(by rw [ht]), hW.to (by rw [ht])⟩
        · refine lv_aload_n (pc := 26) hx hb dX3_isSound_26 rfl (lv_at hl 1 rfl) ?_
          refine lv_aload_n (pc := 27) hx hb dX3_isSound_27 rfl (lv_at hl 0 rfl) ?_
          refine k_i (pc := 28) (k_V E hC hS hA hl.1 (c1.recv hC hW.obj rfl) rfl (c_X3_areNeighboursSound l D tk N0 sa hAD H.size g_12 k (by omega) ) kw_584 kw_586 kp_3 kw_1 kw_587 (n := 1) (by decide +kernel) rfl ⟨⟨rfl, rfl⟩, ⟨by decide, by decide⟩, by decide, by decide⟩ rfl (Nat.le_of_ble_eq_true rfl) hW dX3_isSound_28) hS (fun q _ w => cwA.go hS.1 q w) hn (fun r_14 H locs hR hz hk hS => ?_)
          obtain ⟨er_14, hW⟩ := hR
          obtain ⟨g_16, eg_16⟩ : ∃ z, z = (f_nsnd g_12 k).2 := ⟨_, rfl⟩
          rw [← eg_16] at hW
          refine lv_if_eq (pc := 31) (tgt := 58) hx hb dX3_isSound_31 (by decide) (fun c_17 => ?_) (fun c_17 => ?_)
          · refine lv_iconst (pc := 58) (v := 0) hx hb dX3_isSound_58 (by decide) ?_
            try rw [hQ]
            refine r_zret (pc := 59) E hr hlk hS (by decide) (by decide) rfl ?_ dX3_isSound_59
            have h1s : f_snd1 g1 k = (0, g_16) := by rw [f_snd1, ← er_10, if_neg c_13, ← eg_12, ← er_14, if_pos c_17, ← eg_16]
            have hsd : sdL 6 0 g = (0, g_16) := by rw [← hg9, hw9, sdL, h1s, if_pos rfl]
            have ht : f_isS g = (0, g_16) := by rw [f_isS, hsd, if_pos rfl]
            exact ⟨(by rw [ht]), hW.to (by rw [ht])⟩
          · refine lv_aload_n (pc := 34) hx hb dX3_isSound_34 rfl (lv_at hl 0 rfl) ?_
            refine lv_iconst (pc := 35) (v := 0) hx hb dX3_isSound_35 (by decide) ?_
            refine k_i (pc := 36) (k_S E hC hS hA hl.1 (c_X3_isCutSound l D tk N0 sa hAD H.size g_16 k (by omega) 0 ) kw_606 kw_607 kw_1 kw_608 (n := 2) (by decide +kernel) rfl ⟨⟨rfl, rfl⟩, ⟨by decide, by decide⟩, by decide, by decide⟩ rfl (Nat.le_of_ble_eq_true rfl) hW dX3_isSound_36) hS (fun q z w => absurd w (Nat.not_le.mpr z)) hn (fun r_18 H locs hR hz hk hS => ?_)
            have er_18 := hR
            have hW := hW.new hk
            refine lv_if_eq (pc := 39) (tgt := 58) hx hb dX3_isSound_39 (by decide) (fun c_20 => ?_) (fun c_20 => ?_)
            · refine lv_iconst (pc := 58) (v := 0) hx hb dX3_isSound_58 (by decide) ?_
              try rw [hQ]
              refine r_zret (pc := 59) E hr hlk hS (by decide) (by decide) rfl ?_ dX3_isSound_59
              have h1s : f_snd1 g1 k = (0, g_16) := by rw [f_snd1, ← er_10, if_neg c_13, ← eg_12, ← er_14, if_neg c_17, ← eg_16, ← er_18, if_pos c_20]
              have hsd : sdL 6 0 g = (0, g_16) := by rw [← hg9, hw9, sdL, h1s, if_pos rfl]
              have ht : f_isS g = (0, g_16) := by rw [f_isS, hsd, if_pos rfl]
              exact ⟨(by rw [ht]), hW.to (by rw [ht])⟩
            · refine lv_aload_n (pc := 42) hx hb dX3_isSound_42 rfl (lv_at hl 0 rfl) ?_
              refine lv_iconst (pc := 43) (v := 2) hx hb dX3_isSound_43 (by decide) ?_
              refine k_i (pc := 44) (k_S E hC hS hA hl.1 (c_X3_isCutSound l D tk N0 sa hAD H.size g_16 k (by omega) 2 ) kw_606 kw_607 kw_1 kw_608 (n := 2) (by decide +kernel) rfl ⟨⟨rfl, rfl⟩, ⟨by decide, by decide⟩, by decide, by decide⟩ rfl (Nat.le_of_ble_eq_true rfl) hW dX3_isSound_44) hS (fun q z w => absurd w (Nat.not_le.mpr z)) hn (fun r_21 H locs hR hz hk hS => ?_)
              have er_21 := hR
              have hW := hW.new hk
              refine lv_if_eq (pc := 47) (tgt := 58) hx hb dX3_isSound_47 (by decide) (fun c_23 => ?_) (fun c_23 => ?_)
              · refine lv_iconst (pc := 58) (v := 0) hx hb dX3_isSound_58 (by decide) ?_
                try rw [hQ]
                refine r_zret (pc := 59) E hr hlk hS (by decide) (by decide) rfl ?_ dX3_isSound_59
                have h1s : f_snd1 g1 k = (0, g_16) := by rw [f_snd1, ← er_10, if_neg c_13, ← eg_12, ← er_14, if_neg c_17, ← eg_16, ← er_18, if_neg c_20, ← er_21, if_pos c_23]
                have hsd : sdL 6 0 g = (0, g_16) := by rw [← hg9, hw9, sdL, h1s, if_pos rfl]
                have ht : f_isS g = (0, g_16) := by rw [f_isS, hsd, if_pos rfl]
                exact ⟨(by rw [ht]), hW.to (by rw [ht])⟩
              · refine lv_aload_n (pc := 50) hx hb dX3_isSound_50 rfl (lv_at hl 1 rfl) ?_
                refine lv_aload_n (pc := 51) hx hb dX3_isSound_51 rfl (lv_at hl 0 rfl) ?_
                refine k_i (pc := 52) (k_V E hC hS hA hl.1 (c1.recv hC hW.obj rfl) rfl (c_X3_isTreeSound l D tk N0 sa hAD H.size g_16 k (by omega) ) kw_609 kw_611 kp_4 kw_1 kw_612 (n := 1) (by decide +kernel) rfl ⟨⟨rfl, rfl⟩, ⟨by decide, by decide⟩, by decide, by decide⟩ rfl (Nat.le_of_ble_eq_true rfl) hW dX3_isSound_52) hS (fun q _ w => cwA.go hS.1 q w) hn (fun r_24 H locs hR hz hk hS => ?_)
                obtain ⟨er_24, hW⟩ := hR
                obtain ⟨g_26, eg_26⟩ : ∃ z, z = (f_tree g_16 k).2 := ⟨_, rfl⟩
                rw [← eg_26] at hW
                refine lv_if_ne (pc := 55) (tgt := 60) hx hb dX3_isSound_55 (by decide) (fun c_27 => ?_) (fun c_27 => ?_)
                · obtain ⟨x_28, ex_28⟩ : ∃ z9 : Int32, z9 = y9 + 1 := ⟨_, rfl⟩
                  refine lv_iinc (pc := 60) (v := x_28) (lv' := [(1, .int x_28), (2, .ref (ad k)), (0, .ref (ad 15))]) hx hb dX3_isSound_60 hl (k := 2) rfl (by rw [ex_28]; rfl) (by decide) rfl (fun ls hl => ?_)
                  refine lv_goto (pc := 63) (tgt := 2) hx hb dX3_isSound_63 (by decide) ?_
                  have h1s : f_snd1 g1 k = (1, g_26) := by rw [f_snd1, ← er_10, if_neg c_13, ← eg_12, ← er_14, if_neg c_17, ← eg_16, ← er_18, if_neg c_20, ← er_21, if_neg c_23, ← er_24, if_neg c_27, ← eg_26]
                  exact ih_2  (k + 1) g_26  x_28 (by omega) (by omega) (i_up hx9 ex_28) (by rw [← hg9, hw9, sdL, h1s, if_neg (show ¬ (1 : Int32) = 0 by decide)]) _ _ _ hS hW (lv_sub hl [2, 0] rfl)
                · refine lv_iconst (pc := 58) (v := 0) hx hb dX3_isSound_58 (by decide) ?_
                  try rw [hQ]
                  refine r_zret (pc := 59) E hr hlk hS (by decide) (by decide) rfl ?_ dX3_isSound_59
                  have h1s : f_snd1 g1 k = (0, g_26) := by rw [f_snd1, ← er_10, if_neg c_13, ← eg_12, ← er_14, if_neg c_17, ← eg_16, ← er_18, if_neg c_20, ← er_21, if_neg c_23, ← er_24, if_pos c_27, ← eg_26]
                  have hsd : sdL 6 0 g = (0, g_26) := by rw [← hg9, hw9, sdL, h1s, if_pos rfl]
                  have ht : f_isS g = (0, g_26) := by rw [f_isS, hsd, if_pos rfl]
                  exact ⟨(by rw [ht]), hW.to (by rw [ht])⟩
  exact loop_2 7 0 g  0 (by omega) (by omega) nI_0.symm rfl _ _ _ hS hW (lv_sub hl [1, 0] rfl)
