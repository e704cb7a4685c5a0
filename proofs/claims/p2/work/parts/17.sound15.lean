set_option maxHeartbeats 4000000 in
set_option maxRecDepth 100000 in
/-- Bestratios$Fraction.becomeSimplest(LBestratios$Fraction;II)V -/
theorem c_X0_becomeSimplest (l : Launch) (D : va_G) (tk : Nat → ClassId) (N0 : Nat) (sa : Nat → Nat) {ad : Nat → Nat} (hAD : ADok N0 ad) (sz : Nat) (g : CS) (i : Nat) (hi : i < 15) (j : Nat) (hj : j < 15) (pl : Int32) (md : Int32) (hsm : smOk g j) : Met l yX0_becomeSimplest (wsy yX0_becomeSimplest cX0_becomeSimplest 14 none) ({ frames := 4, cells := 0, slots := 0, locals := 101 } : Room) (cP D tk N0 sa [.ref (ad i), .ref (ad j), .int pl, .int md] sz (fun H => CW D tk ad g H)) (kQv (fun H => CW D tk ad (f_sm g i j pl md) H) (cwA ad sz)) (0) (0) (cwA ad sz) := by
  refine mStart RX0 rfl (by decide +kernel) (Nat.le_of_ble_eq_true rfl) ?_
  intro p e s m args below meth c E hr hlk hnm hsz hC hF ls hl
  subst hsz
  obtain ⟨hx, hb, -⟩ := id E
  have hA : ∀ q, (cwA ad s.heap.size) q → N0 ≤ q := cwA.ge hAD hC.2.1
  have hn : ∀ q, s.heap.size ≤ q → (cwA ad s.heap.size) q := fun q h => Or.inr h
  have hS : va_S (cwA ad s.heap.size) s.heap s.heap [] := va_S.rf
  have hl : lv_has ls 14 [(0, .ref (ad i)), (1, .ref (ad j)), (2, .int pl), (3, .int md)] := hl
  obtain ⟨Q, hQ⟩ : ∃ Q, Q = MQ below (kQv (fun H => CW D tk ad (f_sm g i j pl md) H) (cwA ad s.heap.size)) args s (0) (0) (cwA ad s.heap.size) := ⟨_, rfl⟩
  rw [← hQ]
  have hW : CW D tk ad g s.heap := hF
  refine lv_aload_n (pc := 0) hx hb dX0_becomeSimplest_0 rfl (lv_at hl 1 rfl) ?_
  refine lv_iload_n (pc := 1) hx hb dX0_becomeSimplest_1 rfl (lv_at hl 2 rfl) ?_
  refine lv_iload_n (pc := 2) hx hb dX0_becomeSimplest_2 rfl (lv_at hl 3 rfl) ?_
  refine k_l (pc := 3) (k_V E hC hS hA hl.1 (c1.recv hC (hW.fr (i := j) hj) rfl) rfl (c_X0_cutTo l D tk N0 sa hAD s.heap.size g j hj pl md ) kw_1135 kw_526 kw_527 kw_2 kw_528 (n := 2) (by decide +kernel) rfl ⟨⟨rfl, rfl⟩, ⟨by decide, by decide⟩, by decide, by decide⟩ rfl (Nat.le_of_ble_eq_true rfl) hW dX0_becomeSimplest_3) hS (fun q z w => absurd w (Nat.not_le.mpr z)) hn (fun r_1 H locs hR hz hk hS => ?_)
  have er_1 := hR
  have hW := hW.new hk
  refine lv_lstore (pc := 6) (lv' := [(4, .long r_1), (0, .ref (ad i)), (1, .ref (ad j)), (2, .int pl), (3, .int md)]) hx hb dX0_becomeSimplest_6 hl (by decide) rfl (fun ls hl => ?_)
  refine lv_iload_n (pc := 8) hx hb dX0_becomeSimplest_8 rfl (lv_at hl 3 rfl) ?_
  refine k_l (pc := 9) (k_SN "Bestratios" E hC hS hA hl.1 (c_X3_powerOfTen l D tk N0 sa H.size pl ) kn_1136 kw_533 kw_1 kw_534 (n := 1) (by decide +kernel) rfl ⟨⟨rfl, rfl⟩, ⟨by decide, by decide⟩, by decide, by decide⟩ rfl (Nat.le_of_ble_eq_true rfl) trivial dX0_becomeSimplest_9) hS (fun q z w => absurd w (Nat.not_le.mpr z)) hn (fun r_3 H locs hR hz hk hS => ?_)
  have er_3 := hR
  have hW := hW.new hk
  refine lv_lstore (pc := 12) (lv' := [(6, .long r_3), (4, .long r_1), (0, .ref (ad i)), (1, .ref (ad j)), (2, .int pl), (3, .int md)]) hx hb dX0_becomeSimplest_12 hl (by decide) rfl (fun ls hl => ?_)
  refine lv_lconst (pc := 14) (v := 1) hx hb dX0_becomeSimplest_14 (by decide) ?_
  refine lv_lstore (pc := 15) (lv' := [(8, .long 1), (6, .long r_3), (4, .long r_1), (0, .ref (ad i)), (1, .ref (ad j)), (2, .int pl), (3, .int md)]) hx hb dX0_becomeSimplest_15 hl (by decide) rfl (fun ls hl => ?_)
  have loop_17 : ∀ (n : Nat) (k : Nat)(y9 : Int64), (f_p10 pl).toInt.toNat + 1 - k < n → 1 ≤ k ∧ k ≤ 1000000001 → y9 = lN k → smL (tT g j) (tB g j) pl md (f_cutNum (tT g j) (tB g j) pl md) ((f_p10 pl).toInt.toNat + 1 - k) k = f_smO g j pl md → ∀ (H : Heap) (locs : List Loc) (ls : Array Slot), va_S (cwA ad s.heap.size) s.heap H locs → CW D tk ad g H → lv_has ls 14 [(0, .ref (ad i)), (1, .ref (ad j)), (2, .int pl), (3, .int md), (4, .long r_1), (6, .long r_3), (8, .long y9)] → W p l e ({ frames := 4, cells := 0, slots := 0, locals := 101 } : Room) s m args below meth c H locs (0 + 0 + 0) (0 + 0 + 0) Q (F0 m 17 ls []) := by
    intro n
    induction n with
    | zero =>
      intro k y9 hf9 hk9 hx9 hg9 H locs ls hS hW hl
      omega
    | succ n ih_17 =>
      intro k y9 hf9 hk9 hx9 hg9 H locs ls hS hW hl
      refine lv_lload (pc := 17) hx hb dX0_becomeSimplest_17 (lv_at hl 6 rfl) ?_
      refine lv_lload (pc := 19) hx hb dX0_becomeSimplest_19 (lv_at hl 5 rfl) ?_
      refine r_lcgt (pc := 21) (tgt := 97) E dX0_becomeSimplest_21 dX0_becomeSimplest_22 (by decide) (fun c_5 => ?_) (fun c_5 => ?_)
      · try rw [hQ]
        refine r_vret (pc := 97) E hr hlk hS (by decide) (by decide) ?_ dX0_becomeSimplest_97
        have e0 : (f_p10 pl).toInt.toNat + 1 - k = 0 := by have hP := f_p10_bd pl; have := (ll_lt (by omega) hx9 (by omega)).mp (show f_p10 pl < y9 by rw [← er_3]; exact c_5); omega
        have hno : f_smO g j pl md = none := by rw [← hg9, e0]; rfl
        exact hW.to (by simp only [f_sm, hno])
      · have hP := f_p10_bd pl
        have hlt9 : k ≤ (f_p10 pl).toInt.toNat := Nat.not_lt.mp (fun z => c_5 (by rw [er_3]; exact (ll_lt (by omega) hx9 (by omega)).mpr z))
        have hw9 : (f_p10 pl).toInt.toNat + 1 - k = ((f_p10 pl).toInt.toNat + 1 - (k + 1)) + 1 := by omega
        refine lv_aload_n (pc := 25) hx hb dX0_becomeSimplest_25 rfl (lv_at hl 1 rfl) ?_
        refine r_get (pc := 26) E hC (hW.fr (i := j) hj) 0 (v := .long (tT g j)) rfl rfl (by decide) uX0 (List.mem_cons_of_mem _ kw_50) (fun _ h => h) dX0_becomeSimplest_26 ?_
        refine lv_lload (pc := 29) hx hb dX0_becomeSimplest_29 (lv_at hl 6 rfl) ?_
        refine lv_lmul (pc := 31) hx hb dX0_becomeSimplest_31 ?_
        refine lv_aload_n (pc := 32) hx hb dX0_becomeSimplest_32 rfl (lv_at hl 1 rfl) ?_
        refine r_get (pc := 33) E hC (hW.fr (i := j) hj) 1 (v := .long (tB g j)) rfl rfl (by decide) uX0 (List.mem_cons_of_mem _ kw_53) (fun _ h => h) dX0_becomeSimplest_33 ?_
        refine k_l (pc := 36) (k_SN "Bestratios" E hC hS hA hl.1 (c_X3_floorOf l D tk N0 sa H.size ((tT g j) * y9) (tB g j) ) kn_501 kw_502 kw_1 kw_503 (n := 2) (by decide +kernel) rfl ⟨⟨rfl, rfl⟩, ⟨by decide, by decide⟩, by decide, by decide⟩ rfl (Nat.le_of_ble_eq_true rfl) trivial dX0_becomeSimplest_36) hS (fun q z w => absurd w (Nat.not_le.mpr z)) hn (fun r_6 H locs hR hz hk hS => ?_)
        have er_6 := hR
        have hW := hW.new hk
        have hu9 : r_6 = f_floorOf (tT g j * lN k) (tB g j) := by rw [er_6, hx9]
        have hb9 : (r_6).toInt < 4611686018427387904 := by rw [hu9]; exact hsm k (by omega)
        refine lv_lstore (pc := 39) (lv' := [(10, .long r_6), (0, .ref (ad i)), (1, .ref (ad j)), (2, .int pl), (3, .int md), (4, .long r_1), (6, .long r_3), (8, .long y9)]) hx hb dX0_becomeSimplest_39 hl (by decide) rfl (fun ls hl => ?_)
        refine lv_lload (pc := 41) hx hb dX0_becomeSimplest_41 (lv_at hl 0 rfl) ?_
        refine lv_lstore (pc := 43) (lv' := [(12, .long r_6), (10, .long r_6), (0, .ref (ad i)), (1, .ref (ad j)), (2, .int pl), (3, .int md), (4, .long r_1), (6, .long r_3), (8, .long y9)]) hx hb dX0_becomeSimplest_43 hl (by decide) rfl (fun ls hl => ?_)
        refine lv_lload (pc := 45) hx hb dX0_becomeSimplest_45 (lv_at hl 0 rfl) ?_
        refine lv_lload (pc := 47) hx hb dX0_becomeSimplest_47 (lv_at hl 1 rfl) ?_
        refine lv_lconst (pc := 49) (v := 1) hx hb dX0_becomeSimplest_49 (by decide) ?_
        refine lv_ladd (pc := 50) hx hb dX0_becomeSimplest_50 ?_
        refine r_lcgt (pc := 51) (tgt := 88) E dX0_becomeSimplest_51 dX0_becomeSimplest_52 (by decide) (fun c_8 => ?_) (fun c_8 => ?_)
        · exact absurd c_8 (sm_a hb9)
        refine lv_lload (pc := 55) hx hb dX0_becomeSimplest_55 (lv_at hl 0 rfl) ?_
        refine lv_lload (pc := 57) hx hb dX0_becomeSimplest_57 (lv_at hl 8 rfl) ?_
        refine lv_iload_n (pc := 59) hx hb dX0_becomeSimplest_59 rfl (lv_at hl 4 rfl) ?_
        refine lv_iload_n (pc := 60) hx hb dX0_becomeSimplest_60 rfl (lv_at hl 5 rfl) ?_
        refine k_l (pc := 61) (k_SN "Bestratios" E hC hS hA hl.1 (c_X3_cutNumber l D tk N0 sa H.size r_6 y9 pl md ) kn_529 kw_530 kw_1 kw_531 (n := 4) (by decide +kernel) rfl ⟨⟨rfl, rfl⟩, ⟨by decide, by decide⟩, by decide, by decide⟩ rfl (Nat.le_of_ble_eq_true rfl) trivial dX0_becomeSimplest_61) hS (fun q z w => absurd w (Nat.not_le.mpr z)) hn (fun r_9 H locs hR hz hk hS => ?_)
        have er_9 := hR
        have hW := hW.new hk
        refine lv_lload (pc := 64) hx hb dX0_becomeSimplest_64 (lv_at hl 6 rfl) ?_
        refine r_lcne (pc := 66) (tgt := 79) E dX0_becomeSimplest_66 dX0_becomeSimplest_67 (by decide) (fun c_11 => ?_) (fun c_11 => ?_)
        · refine lv_lload (pc := 79) hx hb dX0_becomeSimplest_79 (lv_at hl 0 rfl) ?_
          refine lv_lconst (pc := 81) (v := 1) hx hb dX0_becomeSimplest_81 (by decide) ?_
          refine lv_ladd (pc := 82) hx hb dX0_becomeSimplest_82 ?_
          obtain ⟨x_12, ex_12⟩ : ∃ z9 : Int64, z9 = r_6 + 1 := ⟨_, rfl⟩
          rw [← ex_12]
          refine lv_lstore (pc := 83) (lv' := [(12, .long x_12), (10, .long r_6), (0, .ref (ad i)), (1, .ref (ad j)), (2, .int pl), (3, .int md), (4, .long r_1), (6, .long r_3), (8, .long y9)]) hx hb dX0_becomeSimplest_83 hl (by decide) rfl (fun ls hl => ?_)
          refine lv_goto (pc := 85) (tgt := 45) hx hb dX0_becomeSimplest_85 (by decide) ?_
          refine lv_lload (pc := 45) hx hb dX0_becomeSimplest_45 (lv_at hl 0 rfl) ?_
          refine lv_lload (pc := 47) hx hb dX0_becomeSimplest_47 (lv_at hl 1 rfl) ?_
          refine lv_lconst (pc := 49) (v := 1) hx hb dX0_becomeSimplest_49 (by decide) ?_
          refine lv_ladd (pc := 50) hx hb dX0_becomeSimplest_50 ?_
          refine r_lcgt (pc := 51) (tgt := 88) E dX0_becomeSimplest_51 dX0_becomeSimplest_52 (by decide) (fun c_13 => ?_) (fun c_13 => ?_)
          · exact absurd c_13 (by rw [ex_12]; exact Int64.lt_irrefl)
          refine lv_lload (pc := 55) hx hb dX0_becomeSimplest_55 (lv_at hl 0 rfl) ?_
          refine lv_lload (pc := 57) hx hb dX0_becomeSimplest_57 (lv_at hl 8 rfl) ?_
          refine lv_iload_n (pc := 59) hx hb dX0_becomeSimplest_59 rfl (lv_at hl 4 rfl) ?_
          refine lv_iload_n (pc := 60) hx hb dX0_becomeSimplest_60 rfl (lv_at hl 5 rfl) ?_
          refine k_l (pc := 61) (k_SN "Bestratios" E hC hS hA hl.1 (c_X3_cutNumber l D tk N0 sa H.size x_12 y9 pl md ) kn_529 kw_530 kw_1 kw_531 (n := 4) (by decide +kernel) rfl ⟨⟨rfl, rfl⟩, ⟨by decide, by decide⟩, by decide, by decide⟩ rfl (Nat.le_of_ble_eq_true rfl) trivial dX0_becomeSimplest_61) hS (fun q z w => absurd w (Nat.not_le.mpr z)) hn (fun r_14 H locs hR hz hk hS => ?_)
          have er_14 := hR
          have hW := hW.new hk
          refine lv_lload (pc := 64) hx hb dX0_becomeSimplest_64 (lv_at hl 6 rfl) ?_
          refine r_lcne (pc := 66) (tgt := 79) E dX0_becomeSimplest_66 dX0_becomeSimplest_67 (by decide) (fun c_16 => ?_) (fun c_16 => ?_)
          · refine lv_lload (pc := 79) hx hb dX0_becomeSimplest_79 (lv_at hl 0 rfl) ?_
            refine lv_lconst (pc := 81) (v := 1) hx hb dX0_becomeSimplest_81 (by decide) ?_
            refine lv_ladd (pc := 82) hx hb dX0_becomeSimplest_82 ?_
            obtain ⟨x_17, ex_17⟩ : ∃ z9 : Int64, z9 = x_12 + 1 := ⟨_, rfl⟩
            rw [← ex_17]
            refine lv_lstore (pc := 83) (lv' := [(12, .long x_17), (10, .long r_6), (0, .ref (ad i)), (1, .ref (ad j)), (2, .int pl), (3, .int md), (4, .long r_1), (6, .long r_3), (8, .long y9)]) hx hb dX0_becomeSimplest_83 hl (by decide) rfl (fun ls hl => ?_)
            refine lv_goto (pc := 85) (tgt := 45) hx hb dX0_becomeSimplest_85 (by decide) ?_
            refine lv_lload (pc := 45) hx hb dX0_becomeSimplest_45 (lv_at hl 0 rfl) ?_
            refine lv_lload (pc := 47) hx hb dX0_becomeSimplest_47 (lv_at hl 1 rfl) ?_
            refine lv_lconst (pc := 49) (v := 1) hx hb dX0_becomeSimplest_49 (by decide) ?_
            refine lv_ladd (pc := 50) hx hb dX0_becomeSimplest_50 ?_
            refine r_lcgt (pc := 51) (tgt := 88) E dX0_becomeSimplest_51 dX0_becomeSimplest_52 (by decide) (fun c_18 => ?_) (fun c_18 => ?_)
            rotate_left
            · exact absurd (by rw [ex_17, ex_12]; exact sm_b hb9) c_18
            refine lv_lload (pc := 88) hx hb dX0_becomeSimplest_88 (lv_at hl 8 rfl) ?_
            refine lv_lconst (pc := 90) (v := 1) hx hb dX0_becomeSimplest_90 (by decide) ?_
            refine lv_ladd (pc := 91) hx hb dX0_becomeSimplest_91 ?_
            obtain ⟨x_19, ex_19⟩ : ∃ z9 : Int64, z9 = y9 + 1 := ⟨_, rfl⟩
            rw [← ex_19]
            refine lv_lstore (pc := 92) (lv' := [(8, .long x_19), (12, .long x_17), (10, .long r_6), (0, .ref (ad i)), (1, .ref (ad j)), (2, .int pl), (3, .int md), (4, .long r_1), (6, .long r_3)]) hx hb dX0_becomeSimplest_92 hl (by decide) rfl (fun ls hl => ?_)
            refine lv_goto (pc := 94) (tgt := 17) hx hb dX0_becomeSimplest_94 (by decide) ?_
            exact ih_17  (k + 1)  x_19 (by omega) (by omega) (by rw [ex_19, hx9]; exact lN_1 k) (by rw [← hg9, hw9, smL, ← hx9, ← er_6, ← er_9, ← er_1, if_neg c_11, ← ex_12, ← er_14, if_neg c_16]) _ _ _ hS hW (lv_sub hl [3, 4, 5, 6, 7, 8, 0] rfl)
          · refine lv_aload_n (pc := 70) hx hb dX0_becomeSimplest_70 rfl (lv_at hl 2 rfl) ?_
            refine lv_lload (pc := 71) hx hb dX0_becomeSimplest_71 (lv_at hl 0 rfl) ?_
            refine lv_lload (pc := 73) hx hb dX0_becomeSimplest_73 (lv_at hl 8 rfl) ?_
            refine k_v (pc := 75) (k_V E hC hS hA hl.1 (c1.recv hC (hW.fr (i := i) hi) rfl) rfl (c_X0_become l D tk N0 sa hAD H.size g i hi x_12 y9 ) kw_593 kw_495 kw_496 kw_2 kw_497 (n := 2) (by decide +kernel) rfl ⟨⟨rfl, rfl⟩, ⟨by decide, by decide⟩, by decide, by decide⟩ rfl (Nat.le_of_ble_eq_true rfl) hW dX0_becomeSimplest_75) hS (fun q _ w => cwA.go hS.1 q w) hn (fun H locs hR hz hk hS => ?_)
            have hW := hR
            obtain ⟨g_22, eg_22⟩ : ∃ z, z = f_become g i x_12 y9 := ⟨_, rfl⟩
            rw [← eg_22] at hW
            try rw [hQ]
            refine r_vret (pc := 78) E hr hlk hS (by decide) (by decide) ?_ dX0_becomeSimplest_78
            have hso : f_smO g j pl md = some (x_12, y9) := by rw [← hg9, hw9, smL, ← hx9, ← er_6, ← er_9, ← er_1, if_neg c_11, ← ex_12, ← er_14, if_pos c_16]
            exact hW.to (by rw [eg_22]; simp only [f_sm, hso])
        · refine lv_aload_n (pc := 70) hx hb dX0_becomeSimplest_70 rfl (lv_at hl 2 rfl) ?_
          refine lv_lload (pc := 71) hx hb dX0_becomeSimplest_71 (lv_at hl 0 rfl) ?_
          refine lv_lload (pc := 73) hx hb dX0_becomeSimplest_73 (lv_at hl 8 rfl) ?_
          refine k_v (pc := 75) (k_V E hC hS hA hl.1 (c1.recv hC (hW.fr (i := i) hi) rfl) rfl (c_X0_become l D tk N0 sa hAD H.size g i hi r_6 y9 ) kw_593 kw_495 kw_496 kw_2 kw_497 (n := 2) (by decide +kernel) rfl ⟨⟨rfl, rfl⟩, ⟨by decide, by decide⟩, by decide, by decide⟩ rfl (Nat.le_of_ble_eq_true rfl) hW dX0_becomeSimplest_75) hS (fun q _ w => cwA.go hS.1 q w) hn (fun H locs hR hz hk hS => ?_)
          have hW := hR
          obtain ⟨g_25, eg_25⟩ : ∃ z, z = f_become g i r_6 y9 := ⟨_, rfl⟩
          rw [← eg_25] at hW
          try rw [hQ]
          refine r_vret (pc := 78) E hr hlk hS (by decide) (by decide) ?_ dX0_becomeSimplest_78
          have hso : f_smO g j pl md = some (r_6, y9) := by rw [← hg9, hw9, smL, ← hx9, ← er_6, ← er_9, ← er_1, if_pos c_11]
          exact hW.to (by rw [eg_25]; simp only [f_sm, hso])
  exact loop_17 ((f_p10 pl).toInt.toNat + 1) 1  1 (by omega) (by decide) rfl (by rw [Nat.add_sub_cancel]; rfl) _ _ _ hS hW (lv_sub hl [3, 4, 5, 6, 2, 1, 0] rfl)
