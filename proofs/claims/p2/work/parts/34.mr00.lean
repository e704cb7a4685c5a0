set_option maxHeartbeats 4000000 in
set_option maxRecDepth 100000 in
/-- BestratiosModel.simplestOf([JII)[J -/
theorem c_X5_simplestOf (l : Launch) (D : va_G) (tk : Nat → ClassId) (N0 : Nat) (sa : Nat → Nat)  (sz : Nat) (pa : Nat) (ta : Int64) (ba : Int64) (pl md : Int32) (kp : Nat) (hfa : m_F ta ba) (hpl : pl = nI kp) (hkp : kp ≤ 2) : Met l yX5_simplestOf (wsy yX5_simplestOf cX5_simplestOf 10 (some (.array .long))) ({ frames := 3, cells := 1, slots := 2, locals := 77 } : Room) (cP D tk N0 sa [.ref pa, .int pl, .int md] sz (fun H => L2 D tk pa ta ba H)) (kQr (fun r H => sz ≤ r ∧ ∃ t b, L2 D tk r t b H ∧ (1 ≤ b.toInt ∧ b.toInt ≤ 100 ∧ t.toInt.natAbs ≤ 20000000000000) ∧ m_SMP ta ba kp md (t, b)) (nwA sz)) (1) (2) (nwA sz) := by
  refine mStart RX5 rfl (by decide +kernel) (Nat.le_of_ble_eq_true rfl) ?_
  intro p e s m args below meth c E hr hlk hnm hsz hC hF ls hl
  subst hsz
  obtain ⟨hx, hb, -⟩ := id E
  have hA : ∀ q, (nwA s.heap.size) q → N0 ≤ q := fun q h => Nat.le_trans hC.2.1 h
  have hn : ∀ q, s.heap.size ≤ q → (nwA s.heap.size) q := fun q h => h
  have hS : va_S (nwA s.heap.size) s.heap s.heap [] := va_S.rf
  have hl : lv_has ls 10 [(0, .ref pa), (1, .int pl), (2, .int md)] := hl
  obtain ⟨Q, hQ⟩ : ∃ Q, Q = MQ below (kQr (fun r H => s.heap.size ≤ r ∧ ∃ t b, L2 D tk r t b H ∧ (1 ≤ b.toInt ∧ b.toInt ≤ 100 ∧ t.toInt.natAbs ≤ 20000000000000) ∧ m_SMP ta ba kp md (t, b)) (nwA s.heap.size)) args s (1) (2) (nwA s.heap.size) := ⟨_, rfl⟩
  rw [← hQ]
  have fa : L2 D tk pa ta ba s.heap := hF
  refine lv_aload_n (pc := 0) hx hb dX5_simplestOf_0 rfl (lv_at hl 0 rfl) ?_
  refine lv_iconst (pc := 1) (v := 0) hx hb dX5_simplestOf_1 (by decide) ?_
  refine r_l0 (pc := 2) E hC fa dX5_simplestOf_2 ?_
  refine lv_aload_n (pc := 3) hx hb dX5_simplestOf_3 rfl (lv_at hl 0 rfl) ?_
  refine lv_iconst (pc := 4) (v := 1) hx hb dX5_simplestOf_4 (by decide) ?_
  refine r_l1 (pc := 5) E hC fa dX5_simplestOf_5 ?_
  refine lv_iload_n (pc := 6) hx hb dX5_simplestOf_6 rfl (lv_at hl 1 rfl) ?_
  refine lv_iload_n (pc := 7) hx hb dX5_simplestOf_7 rfl (lv_at hl 2 rfl) ?_
  refine k_l (pc := 8) (k_S E hC hS hA hl.1 (c_X5_cutOf l D tk N0 sa s.heap.size ta ba pl md (m_ne0 hfa.2.1)) kw_1704 kw_1705 kw_5 kw_1706 (n := 4) (by decide +kernel) rfl ⟨⟨rfl, rfl⟩, ⟨Nat.le_of_ble_eq_true rfl, Nat.le_of_ble_eq_true rfl⟩, (by dsimp only; omega), (by dsimp only; omega)⟩ rfl (Nat.le_of_ble_eq_true rfl) trivial dX5_simplestOf_8) hS (fun q z w => absurd w (Nat.not_le.mpr z)) hn (fun r_1 H locs hR hz hk hS => ?_)
  have er_1 := hR
  have fa := fa.kept (hk _ fa.lt (Nat.not_le.mpr fa.lt))
  refine lv_lstore_n (pc := 11) (lv' := [(3, .long r_1), (0, .ref pa), (1, .int pl), (2, .int md)]) hx hb dX5_simplestOf_11 rfl hl (by decide) rfl (fun ls hl => ?_)
  refine lv_iload_n (pc := 12) hx hb dX5_simplestOf_12 rfl (lv_at hl 2 rfl) ?_
  refine k_l (pc := 13) (k_S E hC hS hA hl.1 (c_X5_power l D tk N0 sa H.size pl ) kw_1278 kw_1279 kw_5 kw_1280 (n := 1) (by decide +kernel) rfl ⟨⟨rfl, rfl⟩, ⟨Nat.le_of_ble_eq_true rfl, Nat.le_of_ble_eq_true rfl⟩, (by dsimp only; omega), (by dsimp only; omega)⟩ rfl (Nat.le_of_ble_eq_true rfl) trivial dX5_simplestOf_13) hS (fun q z w => absurd w (Nat.not_le.mpr z)) hn (fun r_3 H locs hR hz hk hS => ?_)
  have er_3 := hR
  have fa := fa.kept (hk _ fa.lt (Nat.not_le.mpr fa.lt))
  refine lv_lstore (pc := 16) (lv' := [(5, .long r_3), (3, .long r_1), (0, .ref pa), (1, .int pl), (2, .int md)]) hx hb dX5_simplestOf_16 hl (by decide) rfl (fun ls hl => ?_)
  have hpw := m_powC hkp
  rw [← hpl, ← er_3] at hpw
  have hmu := (m_mulB (x := ta) (y := r_3) (B := 1000000000) (C := 100) hfa.1 (by omega) (by decide)).2
  have hN : r_1.toInt.natAbs ≤ 100000000002 := by rw [er_1]; exact m_cutB (B := 100000000000) (by rw [← er_3]; exact hmu) (by decide) hfa.2.1
  obtain ⟨kb, hkb⟩ : ∃ kb : Nat, r_3.toInt = (kb : Int) := ⟨r_3.toInt.toNat, by omega⟩
  have hpp : m_pow pl = r_3 := er_3.symm
  refine lv_iconst (pc := 18) (v := 1) hx hb dX5_simplestOf_18 (by decide) ?_
  refine lv_istore (pc := 19) (lv' := [(7, .int 1), (5, .long r_3), (3, .long r_1), (0, .ref pa), (1, .int pl), (2, .int md)]) hx hb dX5_simplestOf_19 hl (by decide) rfl (fun ls hl => ?_)
  have loop_21 : ∀ (n : Nat) (k : Nat)(y9 : Int32), kb + 1 - k < n → 1 ≤ k ∧ k ≤ kb → y9 = nI k → (∀ n2 : Nat, 1 ≤ n2 → n2 < k → m_smR r_1 r_3 n2 pl md) → ∀ (H : Heap) (locs : List Loc) (ls : Array Slot), va_S (nwA s.heap.size) s.heap H locs → lv_has ls 10 [(0, .ref pa), (1, .int pl), (2, .int md), (3, .long r_1), (5, .long r_3), (7, .int y9)] → W p l e ({ frames := 3, cells := 1, slots := 2, locals := 77 } : Room) s m args below meth c H locs (0) (0) Q (F0 m 21 ls []) := by
    intro n
    induction n with
    | zero =>
      intro k y9 hf9 hk9 hx9 hno H locs ls hS hl
      omega
    | succ n ih_21 =>
      intro k y9 hf9 hk9 hx9 hno H locs ls hS hl
      refine lv_lload_n (pc := 21) hx hb dX5_simplestOf_21 rfl (lv_at hl 3 rfl) ?_
      have hY : y9.toInt64.toInt = (k : Int) := m_i64 hx9 (by omega)
      have hs1e := (m_subB (x := r_1) (y := 1) (B := 100000000002) (C := 1) hN (by decide) (by decide)).1
      have hs1 := (m_subB (x := r_1) (y := 1) (B := 100000000002) (C := 1) hN (by decide) (by decide)).2
      have hs2e := (m_mulB (x := r_1 - 1) (y := y9.toInt64) (B := 100000000003) (C := 100) hs1 (by omega) (by decide)).1
      have hs2 := (m_mulB (x := r_1 - 1) (y := y9.toInt64) (B := 100000000003) (C := 100) hs1 (by omega) (by decide)).2
      have hs3 := m_floorB (a := (r_1 - 1) * y9.toInt64) (b := r_3) (B := 10000000000300) (by omega) (by decide) hpw.1
      have hlN9 : y9.toInt64 = lN k := by rw [hx9]; exact nI_l (by omega)
      refine lv_lconst (pc := 22) (v := 1) hx hb dX5_simplestOf_22 (by decide) ?_
      refine lv_lsub (pc := 23) hx hb dX5_simplestOf_23 ?_
      refine lv_iload (pc := 24) hx hb dX5_simplestOf_24 (lv_at hl 5 rfl) ?_
      refine lv_i2l (pc := 26) (v := y9.toInt64) hx hb dX5_simplestOf_26 rfl ?_
      refine lv_lmul (pc := 27) hx hb dX5_simplestOf_27 ?_
      refine lv_lload (pc := 28) hx hb dX5_simplestOf_28 (lv_at hl 4 rfl) ?_
      refine k_l (pc := 30) (k_S E hC hS hA hl.1 (c_X5_floor l D tk N0 sa H.size ((r_1 - 1) * y9.toInt64) r_3 (m_ne0 hpw.1)) kw_1392 kw_1393 kw_5 kw_1394 (n := 2) (by decide +kernel) rfl ⟨⟨rfl, rfl⟩, ⟨Nat.le_of_ble_eq_true rfl, Nat.le_of_ble_eq_true rfl⟩, (by dsimp only; omega), (by dsimp only; omega)⟩ rfl (Nat.le_of_ble_eq_true rfl) trivial dX5_simplestOf_30) hS (fun q z w => absurd w (Nat.not_le.mpr z)) hn (fun r_5 H locs hR hz hk hS => ?_)
      have er_5 := hR
      rw [← er_5] at hs3
      have hst : k = kb → r_5.toInt ≤ r_1.toInt := by
        intro hkk
        have hYP : y9.toInt64 = r_3 := Int64.toInt_inj.mp (by rw [hY, hkb, hkk])
        have hE := m_flE (u := r_1 - 1) (b := r_3) (B := 100000000003) hs1 (by decide) hpw
        have h8 := (m_subB (x := r_1) (y := 1) (B := 100000000002) (C := 1) hN (by decide) (by decide)).1
        have e1 : (1 : Int64).toInt = 1 := rfl
        rw [er_5, hYP, hE, h8, e1]
        omega
      have hin0 : m_smI r_1 r_3 k pl md r_5 := m_smI.z (by rw [er_5, q_mfl (by omega) hpw.1, hs2e, hY, hs1e] <;> rfl)
      refine lv_lstore (pc := 33) (lv' := [(8, .long r_5), (0, .ref pa), (1, .int pl), (2, .int md), (3, .long r_1), (5, .long r_3), (7, .int y9)]) hx hb dX5_simplestOf_33 hl (by decide) rfl (fun ls hl => ?_)
      have loop_35 : ∀ (n : Nat) (t8 : Int64), (20000000000001 - t8.toInt).toNat < n → t8.toInt.natAbs ≤ 20000000000000 ∧ (k = kb → t8.toInt ≤ r_1.toInt) → m_smI r_1 r_3 k pl md t8 → ∀ (H : Heap) (locs : List Loc) (ls : Array Slot), va_S (nwA s.heap.size) s.heap H locs → lv_has ls 10 [(0, .ref pa), (1, .int pl), (2, .int md), (3, .long r_1), (5, .long r_3), (7, .int y9), (8, .long t8)] → W p l e ({ frames := 3, cells := 1, slots := 2, locals := 77 } : Room) s m args below meth c H locs (0) (0) Q (F0 m 35 ls []) := by
        intro n
        induction n with
        | zero =>
          intro t8 hf8 hT8 hin H locs ls hS hl
          omega
        | succ n ih_35 =>
          intro t8 hf8 hT8 hin H locs ls hS hl
          refine lv_lload (pc := 35) hx hb dX5_simplestOf_35 (lv_at hl 6 rfl) ?_
          refine lv_lload_n (pc := 37) hx hb dX5_simplestOf_37 rfl (lv_at hl 3 rfl) ?_
          refine lv_lconst (pc := 38) (v := 1) hx hb dX5_simplestOf_38 (by decide) ?_
          refine lv_ladd (pc := 39) hx hb dX5_simplestOf_39 ?_
          refine lv_iload (pc := 40) hx hb dX5_simplestOf_40 (lv_at hl 5 rfl) ?_
          refine lv_i2l (pc := 42) (v := y9.toInt64) hx hb dX5_simplestOf_42 rfl ?_
          refine lv_lmul (pc := 43) hx hb dX5_simplestOf_43 ?_
          refine lv_lload (pc := 44) hx hb dX5_simplestOf_44 (lv_at hl 4 rfl) ?_
          refine k_l (pc := 46) (k_S E hC hS hA hl.1 (c_X5_floor l D tk N0 sa H.size ((r_1 + 1) * y9.toInt64) r_3 (m_ne0 hpw.1)) kw_1392 kw_1393 kw_5 kw_1394 (n := 2) (by decide +kernel) rfl ⟨⟨rfl, rfl⟩, ⟨Nat.le_of_ble_eq_true rfl, Nat.le_of_ble_eq_true rfl⟩, (by dsimp only; omega), (by dsimp only; omega)⟩ rfl (Nat.le_of_ble_eq_true rfl) trivial dX5_simplestOf_46) hS (fun q z w => absurd w (Nat.not_le.mpr z)) hn (fun r_7 H locs hR hz hk hS => ?_)
          have er_7 := hR
          have hl1 := (m_addB (x := r_1) (y := 1) (B := 100000000002) (C := 1) hN (by decide) (by decide))
          have hl2e := (m_mulB (x := r_1 + 1) (y := y9.toInt64) (B := 100000000003) (C := 100) hl1.2 (by omega) (by decide)).1
          have hl2 := (m_mulB (x := r_1 + 1) (y := y9.toInt64) (B := 100000000003) (C := 100) hl1.2 (by omega) (by decide)).2
          have hl3 := m_floorB (a := (r_1 + 1) * y9.toInt64) (b := r_3) (B := 10000000000300) (by omega) (by decide) hpw.1
          rw [← er_7] at hl3
          have hl4 := m_addB (x := r_7) (y := 1) (B := 10000000000301) (C := 1) hl3 (by decide) (by decide)
          refine lv_lconst (pc := 49) (v := 1) hx hb dX5_simplestOf_49 (by decide) ?_
          refine lv_ladd (pc := 50) hx hb dX5_simplestOf_50 ?_
          refine r_lcgt (pc := 51) (tgt := 88) E dX5_simplestOf_51 dX5_simplestOf_52 (by decide) (fun c_9 => ?_) (fun c_9 => ?_)
          · have e1 : (1 : Int64).toInt = 1 := rfl
            have hgt8 := Int64.lt_iff_toInt_lt.mp c_9
            rw [hl4.1, e1] at hgt8
            have hkne : k ≠ kb := by
              intro hkk
              have hYP : y9.toInt64 = r_3 := Int64.toInt_inj.mp (by rw [hY, hkb, hkk])
              have hE := m_flE (u := r_1 + 1) (b := r_3) (B := 100000000003) hl1.2 (by decide) hpw
              have h8 := hT8.2 hkk
              have h7 := hl1.1
              rw [e1] at h7
              rw [er_7, hYP, hE, h7] at hgt8
              omega
            have hnk : m_smR r_1 r_3 k pl md := m_smR.of hin (by rw [er_7, q_mfl (by omega) hpw.1, hl2e, hY, hl1.1] <;> rfl) hgt8
            obtain ⟨x_10, ex_10⟩ : ∃ z9 : Int32, z9 = y9 + 1 := ⟨_, rfl⟩
            refine lv_iinc (pc := 88) (v := x_10) (lv' := [(7, .int x_10), (0, .ref pa), (1, .int pl), (2, .int md), (3, .long r_1), (5, .long r_3), (8, .long t8)]) hx hb dX5_simplestOf_88 hl (k := 5) rfl (by rw [ex_10]; rfl) (by decide) rfl (fun ls hl => ?_)
            refine lv_goto (pc := 91) (tgt := 21) hx hb dX5_simplestOf_91 (by decide) ?_
            refine W.widen (k := 0) (n := 0) (by omega) (by omega) ?_
            exact ih_21  (k + 1)  x_10 (by omega) (by omega) (i_up hx9 ex_10) (m_smA hno hnk) _ _ _ hS (lv_sub hl [1, 2, 3, 4, 5, 0] rfl)
          · have e1 : (1 : Int64).toInt = 1 := rfl
            have hlt8 := Int64.le_iff_toInt_le.mp (Int64.not_lt.mp c_9)
            rw [hl4.1, e1] at hlt8
            refine lv_lload (pc := 55) hx hb dX5_simplestOf_55 (lv_at hl 6 rfl) ?_
            refine lv_iload (pc := 57) hx hb dX5_simplestOf_57 (lv_at hl 5 rfl) ?_
            refine lv_i2l (pc := 59) (v := y9.toInt64) hx hb dX5_simplestOf_59 rfl ?_
            refine lv_iload_n (pc := 60) hx hb dX5_simplestOf_60 rfl (lv_at hl 1 rfl) ?_
            refine lv_iload_n (pc := 61) hx hb dX5_simplestOf_61 rfl (lv_at hl 2 rfl) ?_
            refine k_l (pc := 62) (k_S E hC hS hA hl.1 (c_X5_cutOf l D tk N0 sa H.size t8 y9.toInt64 pl md (m_ne0 (by rw [hY]; omega))) kw_1704 kw_1705 kw_5 kw_1706 (n := 4) (by decide +kernel) rfl ⟨⟨rfl, rfl⟩, ⟨Nat.le_of_ble_eq_true rfl, Nat.le_of_ble_eq_true rfl⟩, (by dsimp only; omega), (by dsimp only; omega)⟩ rfl (Nat.le_of_ble_eq_true rfl) trivial dX5_simplestOf_62) hS (fun q z w => absurd w (Nat.not_le.mpr z)) hn (fun r_11 H locs hR hz hk hS => ?_)
            have er_11 := hR
            refine lv_lload_n (pc := 65) hx hb dX5_simplestOf_65 rfl (lv_at hl 3 rfl) ?_
            refine r_lcne (pc := 66) (tgt := 79) E dX5_simplestOf_66 dX5_simplestOf_67 (by decide) (fun c_13 => ?_) (fun c_13 => ?_)
            · have hu8 := (m_addB (x := t8) (y := 1) (B := 20000000000000) (C := 1) hT8.1 (by decide) (by decide)).1
              rw [e1] at hu8
              have hnt : k = kb → t8.toInt < r_1.toInt := by
                intro hkk
                have hYP : y9.toInt64 = r_3 := Int64.toInt_inj.mp (by rw [hY, hkb, hkk])
                have hne : t8.toInt ≠ r_1.toInt := fun z => c_13 (by rw [er_11, hYP, Int64.toInt_inj.mp z]; exact m_cutE (B := 100000000002) hpp hN (by decide) hpw)
                have := hT8.2 hkk
                omega
              have hnh : m_cut t8 (lN k) pl md ≠ r_1 := fun z9 => c_13 (er_11.trans (by rw [hlN9]; exact z9))
              refine lv_lload (pc := 79) hx hb dX5_simplestOf_79 (lv_at hl 6 rfl) ?_
              refine lv_lconst (pc := 81) (v := 1) hx hb dX5_simplestOf_81 (by decide) ?_
              refine lv_ladd (pc := 82) hx hb dX5_simplestOf_82 ?_
              obtain ⟨x_14, ex_14⟩ : ∃ z9 : Int64, z9 = t8 + 1 := ⟨_, rfl⟩
              rw [← ex_14]
              refine lv_lstore (pc := 83) (lv' := [(8, .long x_14), (0, .ref pa), (1, .int pl), (2, .int md), (3, .long r_1), (5, .long r_3), (7, .int y9)]) hx hb dX5_simplestOf_83 hl (by decide) rfl (fun ls hl => ?_)
              refine lv_goto (pc := 85) (tgt := 35) hx hb dX5_simplestOf_85 (by decide) ?_
              refine W.widen (k := 0) (n := 0) (by omega) (by omega) ?_
              exact ih_35   x_14 (by rw [ex_14]; omega) ⟨by rw [ex_14]; omega, fun z9 => by rw [ex_14]; have := hnt z9; omega⟩ (hin.up (by rw [ex_14]; exact hu8) hnh) _ _ _ hS (lv_sub hl [1, 2, 3, 4, 5, 6, 0] rfl)
            · have hP9 := m_loP (t := t8) (b := y9.toInt64) (B := 20000000000000) (C := 100) hT8.1 (by decide) (by omega) (by omega)
              refine lv_lload (pc := 70) hx hb dX5_simplestOf_70 (lv_at hl 6 rfl) ?_
              refine lv_iload (pc := 72) hx hb dX5_simplestOf_72 (lv_at hl 5 rfl) ?_
              refine lv_i2l (pc := 74) (v := y9.toInt64) hx hb dX5_simplestOf_74 rfl ?_
              have hZ0_ := hS.1
              refine k_r (pc := 75) (k_S E hC hS hA hl.1 (c_X5_lowest l D tk N0 sa H.size t8 y9.toInt64 hP9.1) kw_1199 kw_1200 kw_5 kw_1201 (n := 2) (by decide +kernel) rfl ⟨⟨rfl, rfl⟩, ⟨Nat.le_of_ble_eq_true rfl, Nat.le_of_ble_eq_true rfl⟩, (by dsimp only; omega), (by dsimp only; omega)⟩ rfl (Nat.le_of_ble_eq_true rfl) trivial dX5_simplestOf_75) hS (fun q z w => absurd w (Nat.not_le.mpr z)) hn (fun r_15 H locs hR hz hk hS => ?_)
              obtain ⟨z9_, f16⟩ := hR
              have s_f16 : s.heap.size ≤ r_15 := Nat.le_trans hZ0_ z9_
              have g_f16 := hn _ s_f16
              try rw [hQ]
              refine r_aret (pc := 78) E hr (Or.inr ⟨_, rfl⟩) hlk hS (by omega) (by omega) ?_ dX5_simplestOf_78
              exact ⟨s_f16, _, _, f16, ⟨hP9.2.1, hP9.2.2.1, hP9.2.2.2⟩, m_SMPof hpl er_1 hpp.symm hk9.1 (by omega) hT8.1 hlN9 (er_11.symm.trans c_13) hno hin⟩
      refine W.widen (k := 0) (n := 0) (by omega) (by omega) ?_
      exact loop_35 40000000000002  r_5 (by omega) ⟨by omega, hst⟩ hin0 _ _ _ hS (lv_sub hl [1, 2, 3, 4, 5, 6, 0] rfl)
  refine W.widen (k := 0) (n := 0) (by omega) (by omega) ?_
  exact loop_21 (kb + 1) 1  1 (by omega) (by omega) (by decide) (fun n2 g1 g2 => absurd g1 (by omega)) _ _ _ hS (lv_sub hl [3, 4, 5, 2, 1, 0] rfl)
