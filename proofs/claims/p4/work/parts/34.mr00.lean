set_option maxHeartbeats 4000000 in
set_option maxRecDepth 100000 in
/-- BestratiosModel.simplestOf([JII)[J -/
theorem c_X5_simplestOf (l : Launch) (D : va_G) (tk : Nat → ClassId) (N0 : Nat) (sa : Nat → Nat)  (sz : Nat) (pa : Nat) (ta : Int64) (ba : Int64) (pl md : Int32) (kp : Nat) (hfa : m_F ta ba) (hpl : pl = nI kp) (hkp : kp ≤ 2) : Met l yX5_simplestOf (wsy yX5_simplestOf cX5_simplestOf 10 (some (.array .long))) ({ frames := 3, cells := 1, slots := 2, locals := 77 } : Room) (cP D tk N0 sa [.ref pa, .int pl, .int md] sz (fun H => L2 D tk pa ta ba H)) (kQr (fun r H => sz ≤ r ∧ ∃ t b, L2 D tk r t b H ∧ (1 ≤ b.toInt ∧ b.toInt ≤ 100 ∧ t.toInt.natAbs ≤ 20000000000000) ∧ m_SMP ta ba kp md (t, b)) (nwA sz)) (1) (2) (nwA sz) := by
  refine mStart RX5 rfl (by decide +kernel) (Nat.le_of_ble_eq_true rfl) ?_
  intro p e s m args below meth c E hr hlk hnm hsz hC hF ls hl
  subst hsz
  obtain ⟨hx, hb, -⟩ := id E
  have hA : ∀ q, (nwA s.heap.size) q → N0 ≤ q := fun q h => Nat.le_trans hC.2.1 h
  have hn : ∀ q, s.heap.size ≤ q → (nwA s.heap.size) q := fun q h => h
  have hS : va_S (nwA s.heap.size) s.heap s.heap [] := va_S.rf
  have hl : lv_has ls 10 [(0, .ref pa), (1, .int pl), (2, .int md)] := hl
  obtain ⟨Q, hQ⟩ : ∃ Q, Q = MQ below (kQr (fun r H => s.heap.size ≤ r ∧ ∃ t b, L2 D tk r t b H ∧ (1 ≤ b.toInt ∧ b.toInt ≤ 100 ∧ t.toInt.natAbs ≤ 20000000000000) ∧ m_SMP ta ba kp md (t, b)) (nwA s.heap.size)) args s (1) (2) (nwA s.heap.size) := ⟨_, rfl⟩
  rw [← hQ]
  have fa : L2 D tk pa ta ba s.heap := hF
  refine lv_aload_n (pc := 0) hx hb dX5_simplestOf_0 rfl (lv_at hl 0 rfl) ?_
  refine lv_iconst (pc := 1) (v := 0) hx hb dX5_simplestOf_1 (by decide) ?_
  refine r_l0 (pc := 2) E hC fa dX5_simplestOf_2 ?_
  refine lv_aload_n (pc := 3) hx hb dX5_simplestOf_3 rfl (lv_at hl 0 rfl) ?_
  refine lv_iconst (pc := 4) (v := 1) hx hb dX5_simplestOf_4 (by decide) ?_
  refine r_l1 (pc := 5) E hC fa dX5_simplestOf_5 ?_
  refine lv_iload_n (pc := 6) hx hb dX5_simplestOf_6 rfl (lv_at hl 1 rfl) ?_
  refine lv_iload_n (pc := 7) hx hb dX5_simplestOf_7 rfl (lv_at hl 2 rfl) ?_
  refine k_l (pc := 8) (k_S E hC hS hA hl.1 (c_X5_cutOf l D tk N0 sa s.heap.size ta ba pl md (m_ne0 hfa.2.1)) kw_1704 kw_1705 kw_5 kw_1706 (n := 4) (by decide +kernel) rfl ⟨⟨rfl, rfl⟩, ⟨Nat.le_of_ble_eq_true rfl, Nat.le_of_ble_eq_true rfl⟩, (by dsimp only; omega), (by dsimp only; omega)⟩ rfl (Nat.le_of_ble_eq_true rfl) trivial dX5_simplestOf_8) hS (fun q z w => absurd w (Nat.not_le.mpr z)) hn (fun r_1 H locs hR hz hk hS => ?_)
  have er_1 := hR
  have fa := fa.kept (hk _ fa.lt (Nat.not_le.mpr fa.lt))
  refine lv_lstore_n (pc := 11) (lv' := [(3, .long r_1), (0, .ref pa), (1, .int pl), (2, .int md)]) hx hb dX5_simplestOf_11 rfl hl (by decide) rfl (fun ls hl => ?_)
  refine lv_iload_n (pc := 12) hx hb dX5_simplestOf_12 rfl (lv_at hl 2 rfl) ?_
  refine k_l (pc := 13) (k_S E hC hS hA hl.1 (c_X5_power l D tk N0 sa H.size pl ) kw_1278 kw_1279 kw_5 kw_1280 (n := 1) (by decide +kernel) rfl ⟨⟨rfl, rfl⟩, ⟨Nat.le_of_ble_eq_true rfl, Nat.le_of_ble_eq_true rfl⟩, (by dsimp only; omega), (by dsimp only; omega)⟩ rfl (Nat.le_of_ble_eq_true rfl) trivial dX5_simplestOf_13) hS (fun q z w => absurd w (Nat.not_le.mpr z)) hn (fun r_3 H locs hR hz hk hS => ?_)
  have er_3 := hR
  have fa := fa.kept (hk _ fa.lt (Nat.not_le.mpr fa.lt))
  refine lv_lstore (pc := 16) (lv' := [(5, .long r_3), (3, .long r_1), (0, .ref pa), (1, .int pl), (2, .int md)]) hx hb dX5_simplestOf_16 hl (by decide) rfl (fun ls hl => ?_)
  have hpw := m_powC hkp
  rw [← hpl, ← er_3] at hpw
  have hmu := (m_mulB (x := ta) (y := r_3) (B := 1000000000) (C := 100) hfa.1 (by omega) (by decide)).2
  have hN : r_1.toInt.natAbs ≤ 100000000002 := by rw [er_1]; exact m_cutB (B := 100000000000) (by rw [← er_3]; exact hmu) (by decide) hfa.2.1
  obtain ⟨kb, hkb⟩ : ∃ kb : Nat, r_3.toInt = (kb : Int) := ⟨r_3.toInt.toNat, by omega⟩
  have hpp : m_pow pl = r_3 := er_3.symm
  refine lv_iconst (pc := 18) (v := 1) hx hb dX5_simplestOf_18 (by decide) ?_
  refine lv_istore (pc := 19) (lv' := [(7, .int 1), (5, .long r_3), (3, .long r_1), (0, .ref pa), (1, .int pl), (2, .int md)]) hx hb dX5_simplestOf_19 hl (by decide) rfl (fun ls hl => ?_)
  have loop_21 : ∀ (n : Nat) (k : Nat)(y9 : Int32), kb + 1 - k < n → 1 ≤ k ∧ k ≤ kb → y9 = nI k → (∀ n2 : Nat, 1 ≤ n2 → n2 < k → m_smR r_1 r_3 n2 pl md) → ∀ (H : Heap) (locs : List Loc) (ls : Array Slot), va_S (nwA s.heap.size) s.heap H locs → lv_has ls 10 [(0, .ref pa), (1, .int pl), (2, .int md), (3, .long r_1), (5, .long r_3), (7, .int y9)] → W p l e ({ frames := 3, cells := 1, slots := 2, locals := 77 } : Room) s m args below meth c H locs (0) (0) Q (F0 m 21 ls []) := by
    intro n
    induction n with
    | zero =>
      intro k y9 hf9 hk9 hx9 hno H locs ls hS hl
      omega
    | succ n ih_21 =>
      intro k y9 hf9 hk9 hx9 hno H locs ls hS hl
      refine lv_lload_n (pc := 21) hx hb dX5_simplestOf_21 rfl (lv_at hl 3 rfl) ?_
      have hY : y9.toInt64.toInt = (k : Int) := m_i64 hx9 (by omega)
      have hs1e := (m_subB (x := r_1) (y := 1) (B := 100000000002) (C := 1) hN (by decide) (by decide)).1
      have hs1 := (m_subB (x := r_1) (y := 1) (B := 100000000002) (C := 1) hN (by decide) (by decide)).2
      have hs2e := (m_mulB (x := r_1 - 1) (y := y9.toInt64) (B := 100000000003) (C := 100) hs1 (by omega) (by decide)).1
      have hs2 := (m_mulB (x := r_1 - 1) (y := y9.toInt64) (B := 100000000003) (C := 100) hs1 (by omega) (by decide)).2
      have hs3 := m_floorB (a := (r_1 - 1) * y9.toInt64) (b := r_3) (B := 10000000000300) (by omega) (by decide) hpw.1
      have hlN9 : y9.toInt64 = lN k := by rw [hx9]; exact nI_l (by omega)
      refine lv_lconst (pc := 22) (v := 1) hx hb dX5_simplestOf_22 (by decide) ?_
      refine lv_lsub (pc := 23) hx hb dX5_simplestOf_23 ?_
      refine lv_iload (pc := 24) hx hb dX5_simplestOf_24 (lv_at hl 5 rfl) ?_
      refine lv_i2l (pc := 26) (v := y9.toInt64) hx hb dX5_simplestOf_26 rfl ?_
      refine lv_lmul (pc := 27) hx hb dX5_simplestOf_27 ?_
      refine lv_lload (pc := 28) hx hb dX5_simplestOf_28 (lv_at hl 4 rfl) ?_
      refine k_l (pc := 30) (k_S E hC hS hA hl.1 (c_X5_floor l D tk N0 sa H.size ((r_1 - 1) * y9.toInt64) r_3 (m_ne0 hpw.1)) kw_1392 kw_1393 kw_5 kw_1394 (n := 2) (by decide +kernel) rfl ⟨⟨rfl, rfl⟩, ⟨Nat.le_of_ble_eq_true rfl, Nat.le_of_ble_eq_true rfl⟩, (by dsimp only; omega), (by dsimp only; omega)⟩ rfl (Nat.le_of_ble_eq_true rfl) trivial dX5_simplestOf_30) hS (fun q z w => absurd w (Nat.not_le.mpr z)) hn (fun r_5 H locs hR hz hk hS => ?_)
      have er_5 := hR
      rw [← er_5] at hs3
      have hst : k = kb → r_5.toInt ≤ r_1.toInt := by
        intro hkk
        have hYP : y9.toInt64 = r_3 := Int64.toInt_inj.mp (by rw [hY, hkb, hkk])
        have hE := m_flE (u := r_1 - 1) (b := r_3) (B := 100000000003) hs1 (by decide) hpw
        have h8 := (m_subB (x := r_1) (y := 1) (B := 100000000002) (C := 1) hN (by decide) (by decide)).1
        have e1 : (1 : Int64).toInt = 1 := rfl
        rw [er_5, hYP, hE, h8, e1]
        omega
      have hin0 : m_smI r_1 r_3 k pl md r_5 := m_smI.z (by rw [er_5, q_mfl (by omega) hpw.1, hs2e, hY, hs1e] <;> rfl)
      refine lv_lstore (pc := 33) (lv' := [(8, .long r_5), (0, .ref pa), (1, .int pl), (2, .int md), (3, .long r_1), (5, .long r_3), (7, .int y9)]) hx hb dX5_simplestOf_33 hl (by decide) rfl (fun ls hl => ?_)
      have loop_35 : ∀ (n : Nat) (t8 : Int64), (20000000000001 - t8.toInt).toNat < n → t8.toInt.natAbs ≤ 20000000000000 ∧ (k = kb → t8.toInt ≤ r_1.toInt) → m_smI r_1 r_3 k pl md t8 → ∀ (H : Heap) (locs : List Loc) (ls : Array Slot), va_S (nwA s.heap.size) s.heap H locs → lv_has ls 10 [(0, .ref pa), (1, .int pl), (2, .int md), (3, .long r_1), (5, .long r_3), (7, .int y9), (8, .long t8)] → W p l e ({ frames := 3, cells := 1, slots := 2, locals := 77 } : Room) s m args below meth c H locs (0) (0) Q (F0 m 35 ls []) := by
        intro n
        induction n with
        | zero =>
          intro t8 hf8 hT8 hin H locs ls hS hl
          omega
        | succ n ih_35 =>
          intro t8 hf8 hT8 hin H locs ls hS hl
          refine lv_lload (pc := 35) hx hb dX5_simplestOf_35 (lv_at hl 6 rfl) ?_
          refine lv_lload_n (pc := 37) hx hb dX5_simplestOf_37 rfl (lv_at hl 3 rfl) ?_
          refine lv_lconst (pc := 38) (v := 1) hx hb dX5_simplestOf_38 (by decide) ?_
          refine lv_ladd (pc := 39) hx hb dX5_simplestOf_39 ?_
          refine lv_iload (pc := 40) hx hb dX5_simplestOf_40 (lv_at hl 5 rfl) ?_
          refine lv_i2l (pc := 42) (v := y9.toInt64) hx hb dX5_simplestOf_42 rfl ?_
          refine lv_lmul (pc := 43) hx hb dX5_simplestOf_43 ?_
          refine lv_lload (pc := 44) hx hb dX5_simplestOf_44 (lv_at hl 4 rfl) ?_
          refine k_l (pc := 46) (k_S E hC hS hA hl.1 (c_X5_floor l D tk N0 sa H.size ((r_1 + 1) * y9.toInt64) r_3 (m_ne0 hpw.1)) kw_1392 kw_1393 kw_5 kw_1394 (n := 2) (by decide +kernel) rfl ⟨⟨rfl, rfl⟩, ⟨Nat.le_of_ble_eq_true rfl, Nat.le_of_ble_eq_true rfl⟩, (by dsimp only; omega), (by dsimp only; omega)⟩ rfl (Nat.le_of_ble_eq_true rfl) trivial dX5_simplestOf_46) hS (fun q z w => absurd w (Nat.not_le.mpr z)) hn (fun r_7 H locs hR hz hk hS => ?_)
          have er_7 := hR
          have hl1 := (m_addB (x := r_1) (y := 1) (B := 100000000002) (C := 1) hN (by decide) (by decide))
          have hl2e := (m_mulB (x := r_1 + 1) (y := y9.toInt64) (B := 100000000003) (C := 100) hl1.2 (by omega) (by decide)).1
          have hl2 := (m_mulB (x := r_1 + 1) (y := y9.toInt64) (B := 100000000003) (C := 100) hl1.2 (by omega) (by decide)).2
          have hl3 := m_floorB (a := (r_1 + 1) * y9.toInt64) (b := r_3) (B := 10000000000300) (by omega) (by decide) hpw.1
          rw [← er_7] at hl3
          have hl4 := m_addB (x := r_7) (y := 1) (B := 10000000000301) (C := 1) hl3 (by decide) (by decide)
          refine lv_lconst (pc := 49) (v := 1) hx hb dX5_simplestOf_49 (by decide) ?_
          refine lv_ladd (pc := 50) hx hb dX5_simplestOf_50 ?_
          refine r_lcgt (pc := 51) (tgt := 88) E dX5_simplestOf_51 dX5_simplestOf_52 (by decide) (fun c_9 => ?_) (fun c_9 => ?_)
          · have e1 : (1 : Int64).toInt = 1 := rfl
            have hgt8 := Int64.lt_iff_toInt_lt.mp c_9
            rw [hl4.1, e1] at hgt8
            have hkne : k ≠ kb := by
              intro hkk
              have hYP : y9.toInt64 = r_3 := Int64.toInt_inj.mp (by rw [hY, hkb, hkk])
              have hE := m_flE (u := r_1 + 1) (b := r_3) (B := 100000000003) hl1.2 (by decide) hpw
              have h8 := hT8.2 hkk
              have h7 := hl1.1
              rw [e1] at h7
              rw [er_7, hYP, hE, h7] at hgt8
              omega
            have hnk : m_smR r_1 r_3 k pl md := m_smR.of hin (by rw [er_7, q_mfl (by omega) hpw.1, hl2e, hY, hl1.1] <;> rfl) hgt8
            obtain ⟨x_10, ex_10⟩ : ∃ z9 : Int32, z9 = y9 + 1 := ⟨_, rfl⟩
            refine lv_iinc (pc := 88) (v := x_10) (lv' := [(7, .int x_10), (0, .ref pa), (1, .int pl), (2, .int md), (3, .long r_1), (5, .long r_3), (8, .long t8)]) hx hb dX5_simplestOf_88 hl (k := 5) rfl (by rw [ex_10]; rfl) (by decide) rfl (fun ls hl => ?_)
            refine lv_goto (pc := 91) (tgt := 21) hx hb dX5_simplestOf_91 (by decide) ?_
            refine W.widen (k := 0) (n := 0) (by omega) (by omega) ?_
            exact ih_21  (k + 1)  x_10 (by omega) (by omega) (i_up hx9 ex_10) (m_smA hno hnk) _ _ _ hS (lv_sub hl [1, 2, 3, 4, 5, 0] rfl)
          · have e1 : (1 : Int64).toInt = 1 := rfl
            have hlt8 := Int64.le_iff_toInt_le.mp (Int64.not_lt.mp c_9)
            rw [hl4.1, e1] at hlt8
            refine lv_lload (pc := 55) hx hb dX5_simplestOf_55 (lv_at hl 6 rfl) ?_
            refine lv_iload (pc := 57) hx hb dX5_simplestOf_57 (lv_at hl 5 rfl) ?_
            refine lv_i2l (pc := 59) (v := y9.toInt64) hx hb dX5_simplestOf_59 rfl ?_
            refine lv_iload_n (pc := 60) hx hb dX5_simplestOf_60 rfl (lv_at hl 1 rfl) ?_
            refine lv_iload_n (pc := 61) hx hb dX5_simplestOf_61 rfl (lv_at hl 2 rfl) ?_
            refine k_l (pc := 62) (k_S E hC hS hA hl.1 (c_X5_cutOf l D tk N0 sa H.size t8 y9.toInt64 pl md (m_ne0 (by rw [hY]; omega))) kw_1704 kw_1705 kw_5 kw_1706 (n := 4) (by decide +kernel) rfl ⟨⟨rfl, rfl⟩, ⟨Nat.le_of_ble_eq_true rfl, Nat.le_of_ble_eq_true rfl⟩, (by dsimp only; omega), (by dsimp only; omega)⟩ rfl (Nat.le_of_ble_eq_true rfl) trivial dX5_simplestOf_62) hS (fun q z w => absurd w (Nat.not_le.mpr z)) hn (fun r_11 H locs hR hz hk hS => ?_)
            have er_11 := hR
            refine lv_lload_n (pc := 65) hx hb dX5_simplestOf_65 rfl (lv_at hl 3 rfl) ?_
            refine r_lcne (pc := 66) (tgt := 79) E dX5_simplestOf_66 dX5_simplestOf_67 (by decide) (fun c_13 => ?_) (fun c_13 => ?_)
            · have hu8 := (m_addB (x := t8) (y := 1) (B := 20000000000000) (C := 1) hT8.1 (by decide) (by decide)).1
              rw [e1] at hu8
              have hnt : k = kb → t8.toInt < r_1.toInt := by
                intro hkk
                have hYP : y9.toInt64 = r_3 := Int64.toInt_inj.mp (by rw [hY, hkb, hkk])
                have hne : t8.toInt ≠ r_1.toInt := fun z => c_13 (by rw [er_11, hYP, Int64.toInt_inj.mp z]; exact m_cutE (B := 100000000002) hpp hN (by decide) hpw)
                have := hT8.2 hkk
                omega
              have hnh : m_cut t8 (lN k) pl md ≠ r_1 := fun z9 => c_13 (er_11.trans (by rw [hlN9]; exact z9))
              refine lv_lload (pc := 79) hx hb dX5_simplestOf_79 (lv_at hl 6 rfl) ?_
              refine lv_lconst (pc := 81) (v := 1) hx hb dX5_simplestOf_81 (by decide) ?_
              refine lv_ladd (pc := 82) hx hb dX5_simplestOf_82 ?_
              obtain ⟨x_14, ex_14⟩ : ∃ z9 : Int64, z9 = t8 + 1 := ⟨_, rfl⟩
              rw [← ex_14]
              refine lv_lstore (pc := 83) (lv' := [(8, .long x_14), (0, .ref pa), (1, .int pl), (2, .int md), (3, .long r_1), (5, .long r_3), (7, .int y9)]) hx hb dX5_simplestOf_83 hl (by decide) rfl (fun ls hl => ?_)
              refine lv_goto (pc := 85) (tgt := 35) hx hb dX5_simplestOf_85 (by decide) ?_
              refine W.widen (k := 0) (n := 0) (by omega) (by omega) ?_
              exact ih_35   x_14 (by rw [ex_14]; omega) ⟨by rw [ex_14]; omega, fun z9 => by rw [ex_14]; have := hnt z9; omega⟩ (hin.up (by rw [ex_14]; exact hu8) hnh) _ _ _ hS (lv_sub hl [1, 2, 3, 4, 5, 6, 0] rfl)
            · have hP9 := m_loP (t := t8) (b := y9.toInt64) (B := 20000000000000) (C := 100) hT8.1 (by decide) (by omega) (by omega)
              refine lv_lload (pc := 70) hx hb dX5_simplestOf_70 (lv_at hl 6 rfl) ?_
              refine lv_iload (pc := 72) hx hb dX5_simplestOf_72 (lv_at hl 5 rfl) ?_
              refine lv_i2l (pc := 74) (v := y9.toInt64) hx hb dX5_simplestOf_74 rfl ?_
              have hZ0_ := hS.1
              refine k_r (pc := 75) (k_S E hC hS hA hl.1 (c_X5_lowest l D tk N0 sa H.size t8 y9.toInt64 hP9.1) kw_1199 kw_1200 kw_5 kw_1201 (n := 2) (by decide +kernel) rfl ⟨⟨rfl, rfl⟩, ⟨Nat.le_of_ble_eq_true rfl, Nat.le_of_ble_eq_true rfl⟩, (by dsimp only; omega), (by dsimp only; omega)⟩ rfl (Nat.le_of_ble_eq_true rfl) trivial dX5_simplestOf_75) hS (fun q z w => absurd w (Nat.not_le.mpr z)) hn (fun r_15 H locs hR hz hk hS => ?_)
              obtain ⟨z9_, f16⟩ := hR
              have s_f16 : s.heap.size ≤ r_15 := Nat.le_trans hZ0_ z9_
              have g_f16 := hn _ s_f16
              try rw [hQ]
              refine r_aret (pc := 78) E hr (Or.inr ⟨_, rfl⟩) hlk hS (by omega) (by omega) ?_ dX5_simplestOf_78
              exact ⟨s_f16, _, _, f16, ⟨hP9.2.1, hP9.2.2.1, hP9.2.2.2⟩, m_SMPof hpl er_1 hpp.symm hk9.1 (by omega) hT8.1 hlN9 (er_11.symm.trans c_13) hno hin⟩
      refine W.widen (k := 0) (n := 0) (by omega) (by omega) ?_
      exact loop_35 40000000000002  r_5 (by omega) ⟨by omega, hst⟩ hin0 _ _ _ hS (lv_sub hl [1, 2, 3, 4, 5, 6, 0] rfl)
  refine W.widen (k := 0) (n := 0) (by omega) (by omega) ?_
  exact loop_21 (kb + 1) 1  1 (by omega) (by omega) (by decide) (fun n2 g1 g2 => absurd g1 (by omega)) _ _ _ hS (lv_sub hl [3, 4, 5, 2, 1, 0] rfl)
/-! ===== the reference's TERMS: at most 43 of them ===== -/
def m_fib (k : Nat) : Nat := [0, 1, 1, 2, 3, 5, 8, 13, 21, 34, 55, 89, 144, 233, 377, 610, 987, 1597, 2584, 4181, 6765, 10946, 17711, 28657, 46368, 75025, 121393, 196418, 317811, 514229, 832040, 1346269, 2178309, 3524578, 5702887, 9227465, 14930352, 24157817, 39088169, 63245986, 102334155, 165580141, 267914296, 433494437, 701408733, 1134903170].getD k 0
theorem m_fib2 {k : Nat} (h1 : 1 ≤ k) (h2 : k ≤ 43) : m_fib (k + 1) = m_fib k + m_fib (k - 1) := by
  have hall : ∀ i : Fin 43, m_fib (i.val + 1 + 1) = m_fib (i.val + 1) + m_fib (i.val + 1 - 1) := by decide +kernel
  have := hall ⟨k - 1, by omega⟩
  rw [show k - 1 + 1 = k by omega] at this
  exact this
def m_T (k : Nat) (T B : Int64) : Prop := 0 ≤ B.toInt ∧ B.toInt < T.toInt ∧ T.toInt ≤ 1000000000 ∧ m_fib k * T.toInt.toNat + m_fib (k - 1) * B.toInt.toNat ≤ 1000000000
theorem m_left {T B q L : Int64} (hT : T.toInt.natAbs ≤ 1000000000) (hB : 1 ≤ B.toInt) (hB2 : B.toInt ≤ 1000000000) (hq : q = m_floor T B) (hL : L = T - q * B) : L.toInt = T.toInt - q.toInt * B.toInt ∧ q.toInt.natAbs ≤ 1000000001 ∧ 0 ≤ L.toInt ∧ L.toInt < B.toInt := by
  have h1 := m_floorB hT (by decide) hB
  have h2 := m_flr hT (by decide) hB
  rw [← hq] at h1 h2
  obtain ⟨e1, e2⟩ := m_mulB (x := q) (y := B) (B := 1000000001) (C := 1000000000) h1 (by omega) (by decide)
  have e3 := (m_subB (x := T) (y := q * B) (B := 1000000000) (C := 1000000001 * 1000000000) hT e2 (by decide)).1
  rw [← hL, e1] at e3
  exact ⟨e3, h1, by omega, by omega⟩
theorem m_T1 {t b q L : Int64} (h : m_F t b) (hq : q = m_floor t b) (hL : L = t - q * b) : m_T 1 b L ∧ q.toInt.natAbs ≤ 1000000001 := by
  obtain ⟨a1, a2, a3⟩ := h
  obtain ⟨e1, e2, e3, e4⟩ := m_left a1 a2 a3 hq hL
  refine ⟨⟨e3, e4, a3, ?_⟩, e2⟩
  show 1 * b.toInt.toNat + 0 * L.toInt.toNat ≤ 1000000000
  omega
theorem m_T0 {k : Nat} {T B : Int64} (h : m_T k T B) (hk : 1 ≤ k ∧ k ≤ 43) (hB : ¬ B = 0) : k ≤ 42 ∧ 1 ≤ B.toInt := by
  obtain ⟨a1, a2, a3, a4⟩ := h
  have hb0 : B.toInt ≠ 0 := fun z => hB (Int64.toInt_inj.mp (by rw [z]; rfl))
  refine ⟨?_, by omega⟩
  rcases Nat.lt_or_ge k 43 with z | z
  · omega
  · have e : k = 43 := by omega
    subst e
    have h1 : m_fib 43 = 433494437 := by decide
    have h2 : m_fib (43 - 1) = 267914296 := by decide
    rw [h1, h2] at a4
    omega
theorem m_T2 {k : Nat} {T B q L : Int64} (h : m_T k T B) (hk : 1 ≤ k ∧ k ≤ 43) (hB : ¬ B = 0) (hq : q = m_floor T B) (hL : L = T - q * B) : m_T (k + 1) B L ∧ 1 ≤ q.toInt ∧ q.toInt.natAbs ≤ 1000000001 ∧ (L = 0 → 2 ≤ q.toInt) := by
  obtain ⟨k1, b1⟩ := m_T0 h hk hB
  obtain ⟨a1, a2, a3, a4⟩ := h
  obtain ⟨e1, e2, e3, e4⟩ := m_left (by omega) b1 (by omega) hq hL
  have f1 : 1 ≤ q.toInt := by
    rcases Int.lt_or_le 0 q.toInt with z | z
    · omega
    · have := Int.mul_le_mul_of_nonneg_right z a1
      omega
  have f2 := Int.mul_le_mul_of_nonneg_right f1 a1
  have f3 : L = 0 → 2 ≤ q.toInt := by
    intro z
    rcases Int.lt_or_le 1 q.toInt with y | y
    · omega
    · have := Int.mul_le_mul_of_nonneg_right y a1
      have e0 : L.toInt = 0 := by rw [z]; rfl
      omega
  refine ⟨⟨e3, e4, by omega, ?_⟩, f1, e2, f3⟩
  have g1 := m_fib2 hk.1 hk.2
  rw [Nat.add_sub_cancel, g1, Nat.add_mul]
  have g2 : m_fib k * (B.toInt.toNat + L.toInt.toNat) ≤ m_fib k * T.toInt.toNat := Nat.mul_le_mul_left _ (by omega)
  rw [Nat.mul_add] at g2
  omega
/-- the terms so far; those behind the first are at least 1, the last one at least 2 -/
def PT (k : Nat) (w : Nat → Value) (bot : Int64) : Prop := ∀ i, i < k → ∃ x : Int64, w i = .long x ∧ x.toInt.natAbs ≤ 1000000001 ∧ (1 ≤ i → 1 ≤ x.toInt) ∧ (1 ≤ i → i + 1 = k → bot = 0 → 2 ≤ x.toInt)
theorem PT.one {w : Nat → Value} {q L : Int64} (h : q.toInt.natAbs ≤ 1000000001) : PT 1 (va_up w 0 (.long q)) L := by
  intro i hi
  have e : i = 0 := by omega
  subst e
  exact ⟨q, va_up_self _ _ _, h, fun z => absurd z (by decide), fun z => absurd z (by decide)⟩
theorem PT.add {k : Nat} {w : Nat → Value} {B q L : Int64} (h : PT k w B) (h1 : 1 ≤ q.toInt) (h2 : q.toInt.natAbs ≤ 1000000001) (h3 : L = 0 → 2 ≤ q.toInt) : PT (k + 1) (va_up w k (.long q)) L := by
  intro i hi
  by_cases e : i = k
  · subst e
    exact ⟨q, va_up_self _ _ _, h2, fun _ => h1, fun _ _ => h3⟩
  · obtain ⟨x, x1, x2, x3, x4⟩ := h i (by omega)
    exact ⟨x, by rw [va_up_ne _ _ e]; exact x1, x2, x3, fun _ z => absurd z (by omega)⟩
/-! the room that a list's arrays have taken -/
def m_ac (c9 : Nat) : Nat := if c9 ≤ 10 then 1 else if c9 ≤ 15 then 2 else if c9 ≤ 22 then 3 else if c9 ≤ 33 then 4 else 5
def m_as (c9 : Nat) : Nat := if c9 ≤ 10 then 10 else if c9 ≤ 15 then 25 else if c9 ≤ 22 then 47 else if c9 ≤ 33 then 80 else 129
def m_cap (c9 : Nat) : Prop := c9 = 10 ∨ c9 = 15 ∨ c9 = 22 ∨ c9 = 33 ∨ c9 = 49
theorem m_acB {c9 : Nat} (h : m_cap c9) : m_ac c9 ≤ 5 ∧ m_as c9 ≤ 129 ∧ 10 ≤ c9 ∧ c9 ≤ 49 := by
  rcases h with rfl | rfl | rfl | rfl | rfl <;> decide
theorem m_grow {c9 : Nat} (h : m_cap c9) (h2 : c9 ≤ 48) : m_cap (c9 + c9 / 2) ∧ m_ac (c9 + c9 / 2) = m_ac c9 + 1 ∧ m_as (c9 + c9 / 2) = m_as c9 + (c9 + c9 / 2) := by
  rcases h with rfl | rfl | rfl | rfl | rfl
  · exact ⟨Or.inr (Or.inl rfl), rfl, rfl⟩
  · exact ⟨Or.inr (Or.inr (Or.inl rfl)), rfl, rfl⟩
  · exact ⟨Or.inr (Or.inr (Or.inr (Or.inl rfl))), rfl, rfl⟩
  · exact ⟨Or.inr (Or.inr (Or.inr (Or.inr rfl))), rfl, rfl⟩
  · omega
/-- the tops that the terms come from -/
def EU (n : Nat) (w : Nat → Value) (t g r : Int) : Prop := ∃ T : Nat → Int, T 0 = t ∧ T n = g ∧ T (n + 1) = r ∧ (∀ i, i < n → ∃ x : Int64, w i = .long x ∧ x.toInt * T (i + 1) + T (i + 2) = T i) ∧ ∀ i, 1 ≤ i → i ≤ n → 1 ≤ T i ∧ T i ≤ 1000000000
theorem EU.one {w : Nat → Value} {q : Int64} {t b r : Int} (h : r = t - q.toInt * b) (h1 : 1 ≤ b) (h2 : b ≤ 1000000000) : EU 1 (va_up w 0 (.long q)) t b r := by
  refine ⟨fun i => if i = 0 then t else if i = 1 then b else r, rfl, rfl, rfl, fun i hi => ?_, fun i g1 g2 => ?_⟩
  · have e : i = 0 := by omega
    rw [e]
    exact ⟨q, va_up_self _ _ _, by show q.toInt * b + r = t; omega⟩
  · have e : i = 1 := by omega
    rw [e]
    exact ⟨h1, h2⟩
theorem EU.add {k : Nat} {w : Nat → Value} {t T9 B9 r : Int} {q : Int64} (h : EU k w t T9 B9) (hr : r = T9 - q.toInt * B9) (h1 : 1 ≤ B9) (h2 : B9 ≤ 1000000000) : EU (k + 1) (va_up w k (.long q)) t B9 r := by
  obtain ⟨T, e0, e1, e2, e3, e4⟩ := h
  refine ⟨fun i => if i = k + 2 then r else T i, ?_, ?_, ?_, fun i hi => ?_, fun i g1 g2 => ?_⟩
  · show (if 0 = k + 2 then r else T 0) = t
    rw [if_neg (by omega)]
    exact e0
  · show (if k + 1 = k + 2 then r else T (k + 1)) = B9
    rw [if_neg (by omega)]
    exact e2
  · show (if k + 1 + 1 = k + 2 then r else T (k + 1 + 1)) = r
    exact if_pos rfl
  · by_cases e : i = k
    · rw [e]
      refine ⟨q, va_up_self _ _ _, ?_⟩
      show q.toInt * (if k + 1 = k + 2 then r else T (k + 1)) + (if k + 2 = k + 2 then r else T (k + 2)) = (if k = k + 2 then r else T k)
      rw [if_neg (by omega), if_pos rfl, if_neg (by omega), e1, e2]
      omega
    · obtain ⟨x, x1, x2⟩ := e3 i (by omega)
      refine ⟨x, by rw [va_up_ne _ _ e]; exact x1, ?_⟩
      show x.toInt * (if i + 1 = k + 2 then r else T (i + 1)) + (if i + 2 = k + 2 then r else T (i + 2)) = (if i = k + 2 then r else T i)
      rw [if_neg (by omega), if_neg (by omega), if_neg (by omega)]
      exact x2
  · show 1 ≤ (if i = k + 2 then r else T i) ∧ (if i = k + 2 then r else T i) ≤ 1000000000
    rw [if_neg (by omega)]
    by_cases e : i = k + 1
    · rw [e, e2]
      exact ⟨h1, h2⟩
    · exact e4 i g1 (by omega)
set_option maxHeartbeats 4000000 in
set_option maxRecDepth 100000 in
/-- BestratiosModel.termsOf([J)Ljava/util/ArrayList; -/
theorem c_X5_termsOf (l : Launch) (D : va_G) (tk : Nat → ClassId) (N0 : Nat) (sa : Nat → Nat)  (sz : Nat) (pa : Nat) (ta : Int64) (ba : Int64) (hfa : m_F ta ba) : Met l yX5_termsOf (wsy yX5_termsOf cX5_termsOf 10 (some (.object "java/util/ArrayList"))) ({ frames := 7, cells := 49, slots := 175, locals := 157 } : Room) (cP D tk N0 sa [.ref pa] sz (fun H => L2 D tk pa ta ba H)) (kQr (fun r H => ∃ (n bb cap : Nat) (f : Nat → Option Nat) (w : Nat → Value) (md : Int32), sz ≤ r ∧ sz ≤ bb ∧ c1 D r (.inr (7, [.int md, .ref bb, .int (nI n)])) H ∧ c1 D bb (.inl (tk 4, cap, .inr (.inr (.inr (.inr f))))) H ∧ EL D 3 n f w H ∧ PT n w 0 ∧ 1 ≤ n ∧ n ≤ 43 ∧ n ≤ cap ∧ m_cap cap ∧ (n = (m_TE ta ba).length ∧ ∀ i, i < n → w i = .long (m_at ta ba i)) ∧ ∃ g : Int, EU n w ta.toInt g 0) (nwA sz)) (49) (175) (nwA sz) := by
  refine mStart RX5 rfl (by decide +kernel) (Nat.le_of_ble_eq_true rfl) ?_
  intro p e s m args below meth c E hr hlk hnm hsz hC hF ls hl
  subst hsz
  obtain ⟨hx, hb, -⟩ := id E
  have hA : ∀ q, (nwA s.heap.size) q → N0 ≤ q := fun q h => Nat.le_trans hC.2.1 h
  have hn : ∀ q, s.heap.size ≤ q → (nwA s.heap.size) q := fun q h => h
  have hS : va_S (nwA s.heap.size) s.heap s.heap [] := va_S.rf
  have hl : lv_has ls 10 [(0, .ref pa)] := hl
  obtain ⟨Q, hQ⟩ : ∃ Q, Q = MQ below (kQr (fun r H => ∃ (n bb cap : Nat) (f : Nat → Option Nat) (w : Nat → Value) (md : Int32), s.heap.size ≤ r ∧ s.heap.size ≤ bb ∧ c1 D r (.inr (7, [.int md, .ref bb, .int (nI n)])) H ∧ c1 D bb (.inl (tk 4, cap, .inr (.inr (.inr (.inr f))))) H ∧ EL D 3 n f w H ∧ PT n w 0 ∧ 1 ≤ n ∧ n ≤ 43 ∧ n ≤ cap ∧ m_cap cap ∧ (n = (m_TE ta ba).length ∧ ∀ i, i < n → w i = .long (m_at ta ba i)) ∧ ∃ g : Int, EU n w ta.toInt g 0) (nwA s.heap.size)) args s (49) (175) (nwA s.heap.size) := ⟨_, rfl⟩
  rw [← hQ]
  have fa : L2 D tk pa ta ba s.heap := hF
  have hS0_ := hS
  refine r_new (pc := 0) E hC hS tyJx4a65c_ok uJx4a65c (List.mem_cons_of_mem _ kw_1170) (List.mem_cons_of_mem _ kw_1171) (List.mem_cons_of_mem _ kw_8) (ci := 7) rfl (fs := [.int 0, .null, .int 0]) (by decide) (by dsimp only; omega) (by dsimp only; omega) dX5_termsOf_0 (fun qf1 H zq_ n_ ho_ hS => ?_)
  have l_fa_f1 : pa < qf1 := zq_ ▸ fa.lt
  have fa := fa.kept (ho_ _ fa.lt)
  have f1 := n_
  have s_f1 : s.heap.size ≤ qf1 := zq_ ▸ hS0_.1
  have g_f1 := hn _ s_f1
  refine lv_dup (pc := 3) hx hb dX5_termsOf_3 rfl ?_
  refine k_v (pc := 4) (k_I E hC hS hA hl.1 (c_Jx4a65c_init_da8c8 l D tk N0 sa H.size qf1 (hA _ g_f1)) kw_1172 kw_1173 kw_8 kw_1174 rfl (n := 0) (by decide +kernel) rfl ⟨⟨rfl, rfl⟩, ⟨Nat.le_of_ble_eq_true rfl, Nat.le_of_ble_eq_true rfl⟩, (by dsimp only; omega), (by dsimp only; omega)⟩ rfl (Nat.le_of_ble_eq_true rfl) f1 dX5_termsOf_4) hS (inA1.to g_f1) hn (fun H locs hR hz hk hS => ?_)
  have fa := fa.kept (hk _ fa.lt (inA1.not (clA.ne fa.cla f1.cl (hC.ao 7 0 rfl rfl)) fa.lt))
  have f1 := hR
  refine lv_astore_n (pc := 7) (lv' := [(1, .ref qf1), (0, .ref pa)]) hx hb dX5_termsOf_7 rfl hl (by decide) rfl (fun ls hl => ?_)
  refine lv_aload_n (pc := 8) hx hb dX5_termsOf_8 rfl (lv_at hl 1 rfl) ?_
  refine lv_iconst (pc := 9) (v := 0) hx hb dX5_termsOf_9 (by decide) ?_
  refine r_l0 (pc := 10) E hC fa dX5_termsOf_10 ?_
  refine lv_lstore_n (pc := 11) (lv' := [(2, .long ta), (1, .ref qf1), (0, .ref pa)]) hx hb dX5_termsOf_11 rfl hl (by decide) rfl (fun ls hl => ?_)
  refine lv_aload_n (pc := 12) hx hb dX5_termsOf_12 rfl (lv_at hl 2 rfl) ?_
  refine lv_iconst (pc := 13) (v := 1) hx hb dX5_termsOf_13 (by decide) ?_
  refine r_l1 (pc := 14) E hC fa dX5_termsOf_14 ?_
  refine lv_lstore (pc := 15) (lv' := [(4, .long ba), (2, .long ta), (1, .ref qf1), (0, .ref pa)]) hx hb dX5_termsOf_15 hl (by decide) rfl (fun ls hl => ?_)
  refine lv_lload (pc := 17) hx hb dX5_termsOf_17 (lv_at hl 0 rfl) ?_
  refine lv_lconst (pc := 19) (v := 0) hx hb dX5_termsOf_19 (by decide) ?_
  refine r_lceq (pc := 20) (tgt := 61) E dX5_termsOf_20 dX5_termsOf_21 (by decide) (fun c_3 => ?_) (fun c_3 => ?_)
  · exact absurd c_3 (m_ne0 hfa.2.1)
  refine lv_lload_n (pc := 24) hx hb dX5_termsOf_24 rfl (lv_at hl 1 rfl) ?_
  refine lv_lload (pc := 25) hx hb dX5_termsOf_25 (lv_at hl 0 rfl) ?_
  refine k_l (pc := 27) (k_S E hC hS hA hl.1 (c_X5_floor l D tk N0 sa H.size ta ba (m_ne0 hfa.2.1)) kw_1392 kw_1393 kw_5 kw_1394 (n := 2) (by decide +kernel) rfl ⟨⟨rfl, rfl⟩, ⟨Nat.le_of_ble_eq_true rfl, Nat.le_of_ble_eq_true rfl⟩, (by dsimp only; omega), (by dsimp only; omega)⟩ rfl (Nat.le_of_ble_eq_true rfl) trivial dX5_termsOf_27) hS (fun q z w => absurd w (Nat.not_le.mpr z)) hn (fun r_4 H locs hR hz hk hS => ?_)
  have er_4 := hR
  have fa := fa.kept (hk _ fa.lt (Nat.not_le.mpr fa.lt))
  have f1 := f1.kept (hk _ f1.lt (Nat.not_le.mpr f1.lt))
  refine lv_lstore (pc := 30) (lv' := [(6, .long r_4), (4, .long ba), (2, .long ta), (1, .ref qf1), (0, .ref pa)]) hx hb dX5_termsOf_30 hl (by decide) rfl (fun ls hl => ?_)
  refine lv_aload_n (pc := 32) hx hb dX5_termsOf_32 rfl (lv_at hl 3 rfl) ?_
  refine lv_lload (pc := 33) hx hb dX5_termsOf_33 (lv_at hl 0 rfl) ?_
  have hZ0_ := hS.1
  have t_fa := fa.lt
  have t_f1 := f1.lt
  refine k_r (pc := 35) (k_S E hC hS hA hl.1 (c_J13_valueOf_928b6 l D tk N0 sa H.size r_4) kw_1414 kw_1415 kw_17 kw_1416 (n := 1) (by decide +kernel) rfl ⟨⟨rfl, rfl⟩, ⟨Nat.le_of_ble_eq_true rfl, Nat.le_of_ble_eq_true rfl⟩, (by dsimp only; omega), (by dsimp only; omega)⟩ rfl (Nat.le_of_ble_eq_true rfl) trivial dX5_termsOf_35) hS (fun q z w => absurd w (Nat.not_le.mpr z)) hn (fun r_6 H locs hR hz hk hS => ?_)
  have fa := fa.kept (hk _ fa.lt (Nat.not_le.mpr fa.lt))
  have f1 := f1.kept (hk _ f1.lt (Nat.not_le.mpr f1.lt))
  have f7 := hR
  have hZ0_ := hS.1
  have t_fa := fa.lt
  have t_f1 := f1.lt
  have t_f7 := f7.lt
  refine k_i (pc := 38) (k_V E hC hS hA hl.1 (c1.recv hC f1 rfl) rfl (c_Jx4a65c_add_9ea2d_E l D tk N0 sa H.size qf1 r_6 3 0 (.long r_4) (fun _ => .null) (hA _ g_f1) (Or.inl rfl)) kw_1434 kw_1435 kw_1436 kw_8 kw_1437 (n := 1) (by decide +kernel) rfl ⟨⟨rfl, rfl⟩, ⟨Nat.le_of_ble_eq_true rfl, Nat.le_of_ble_eq_true rfl⟩, (by dsimp only; omega), (by dsimp only; omega)⟩ rfl (Nat.le_of_ble_eq_true rfl) ⟨f1, f7⟩ dX5_termsOf_38) hS (inA1.to g_f1) hn (fun r_8 H locs hR hz hk hS => ?_)
  have fa := fa.kept (hk _ fa.lt (inA1.not (clA.ne fa.cla f1.cl (hC.ao 7 0 rfl rfl)) fa.lt))
  have f7 := f7.kept (hk _ f7.lt (inA1.not (clA.ne f7.cl f1.cl (hC.oo 3 7 rfl rfl (by decide))) f7.lt))
  obtain ⟨hr9, q9, z9_, f1, f9, e9⟩ := hR
  have s_f9 : s.heap.size ≤ q9 := Nat.le_trans hZ0_ z9_
  have g_f9 := hn _ s_f9
  have l_fa_f9 : pa < q9 := Nat.lt_of_lt_of_le t_fa z9_
  have l_f1_f9 : qf1 < q9 := Nat.lt_of_lt_of_le t_f1 z9_
  have l_f7_f9 : r_6 < q9 := Nat.lt_of_lt_of_le t_f7 z9_
  rw [hr9]
  refine lv_pop (pc := 41) hx hb dX5_termsOf_41 rfl ?_
  refine lv_lload_n (pc := 42) hx hb dX5_termsOf_42 rfl (lv_at hl 2 rfl) ?_
  refine lv_lload (pc := 43) hx hb dX5_termsOf_43 (lv_at hl 0 rfl) ?_
  refine lv_lload (pc := 45) hx hb dX5_termsOf_45 (lv_at hl 1 rfl) ?_
  refine lv_lmul (pc := 47) hx hb dX5_termsOf_47 ?_
  refine lv_lsub (pc := 48) hx hb dX5_termsOf_48 ?_
  obtain ⟨x_10, ex_10⟩ : ∃ z9 : Int64, z9 = ta - (r_4 * ba) := ⟨_, rfl⟩
  rw [← ex_10]
  refine lv_lstore (pc := 49) (lv' := [(8, .long x_10), (6, .long r_4), (4, .long ba), (2, .long ta), (1, .ref qf1), (0, .ref pa)]) hx hb dX5_termsOf_49 hl (by decide) rfl (fun ls hl => ?_)
  have hS1 := m_T1 hfa er_4 ex_10
  have hq9 := er_4
  have hl9 := ex_10
  have hL1 := m_left hfa.1 hfa.2.1 hfa.2.2 er_4 ex_10
  refine lv_lload (pc := 51) hx hb dX5_termsOf_51 (lv_at hl 2 rfl) ?_
  refine lv_lstore_n (pc := 53) (lv' := [(2, .long ba), (8, .long x_10), (6, .long r_4), (4, .long ba), (1, .ref qf1), (0, .ref pa)]) hx hb dX5_termsOf_53 rfl hl (by decide) rfl (fun ls hl => ?_)
  refine lv_lload (pc := 54) hx hb dX5_termsOf_54 (lv_at hl 1 rfl) ?_
  refine lv_lstore (pc := 56) (lv' := [(4, .long x_10), (2, .long ba), (8, .long x_10), (6, .long r_4), (1, .ref qf1), (0, .ref pa)]) hx hb dX5_termsOf_56 hl (by decide) rfl (fun ls hl => ?_)
  refine lv_goto (pc := 58) (tgt := 17) hx hb dX5_termsOf_58 (by decide) ?_
  have loop_17 : ∀ (n : Nat) (k : Nat) (v9 : Nat) (c9 : Nat) (m9 : Int32) (f9 : Nat → Option Nat) (w9 : Nat → Value)(T9 : Int64) (B9 : Int64), 44 - k < n → 1 ≤ k ∧ k ≤ 43 → m_T k T9 B9 → PT k w9 B9 → EU k w9 ta.toInt T9.toInt B9.toInt → TX ta ba k w9 T9 B9 → m_cap c9 ∧ k ≤ c9 → s.heap.size ≤ v9 → ∀ (H : Heap) (locs : List Loc) (ls : Array Slot), va_S (nwA s.heap.size) s.heap H locs → c1 D qf1 (.inr (7, [.int m9, .ref v9, .int (nI k)])) H → c1 D v9 (.inl (tk 4, c9, .inr (.inr (.inr (.inr f9))))) H → EL D 3 k f9 w9 H → lv_has ls 10 [(1, .ref qf1), (2, .long T9), (4, .long B9)] → W p l e ({ frames := 7, cells := 49, slots := 175, locals := 157 } : Room) s m args below meth c H locs (1 + k + m_ac c9) (3 + k + m_as c9) Q (F0 m 17 ls []) := by
    intro n
    induction n with
    | zero =>
      intro k v9 c9 m9 f9 w9 T9 B9 hf9 hk9 hT9 hP9 hE9 hX9 hc9 hv9 H locs ls hS f1 fR el hl
      omega
    | succ n ih_17 =>
      intro k v9 c9 m9 f9 w9 T9 B9 hf9 hk9 hT9 hP9 hE9 hX9 hc9 hv9 H locs ls hS f1 fR el hl
      have g_fR := hn _ hv9
      have hcb := m_acB hc9.1
      refine lv_lload (pc := 17) hx hb dX5_termsOf_17 (lv_at hl 2 rfl) ?_
      refine lv_lconst (pc := 19) (v := 0) hx hb dX5_termsOf_19 (by decide) ?_
      refine r_lceq (pc := 20) (tgt := 61) E dX5_termsOf_20 dX5_termsOf_21 (by decide) (fun c_11 => ?_) (fun c_11 => ?_)
      · refine lv_aload_n (pc := 61) hx hb dX5_termsOf_61 rfl (lv_at hl 0 rfl) ?_
        try rw [hQ]
        refine r_aret (pc := 62) E hr (Or.inl ⟨_, rfl⟩) hlk hS (by omega) (by omega) ?_ dX5_termsOf_62
        exact ⟨k, v9, c9, f9, w9, m9, s_f1, hv9, f1, fR, el, (by have h9 := hP9; rw [c_11] at h9; exact h9), hk9.1, hk9.2, hc9.2, hc9.1, hX9.fin c_11 (by omega), _, (by have h9 := hE9; rw [c_11] at h9; exact h9)⟩
      · have hk0 := m_T0 hT9 hk9 c_11
        refine lv_lload_n (pc := 24) hx hb dX5_termsOf_24 rfl (lv_at hl 1 rfl) ?_
        refine lv_lload (pc := 25) hx hb dX5_termsOf_25 (lv_at hl 2 rfl) ?_
        refine k_l (pc := 27) (k_S E hC hS hA hl.1 (c_X5_floor l D tk N0 sa H.size T9 B9 c_11) kw_1392 kw_1393 kw_5 kw_1394 (n := 2) (by decide +kernel) rfl ⟨⟨rfl, rfl⟩, ⟨Nat.le_of_ble_eq_true rfl, Nat.le_of_ble_eq_true rfl⟩, (by dsimp only; omega), (by dsimp only; omega)⟩ rfl (Nat.le_of_ble_eq_true rfl) trivial dX5_termsOf_27) hS (fun q z w => absurd w (Nat.not_le.mpr z)) hn (fun r_12 H locs hR hz hk hS => ?_)
        have er_12 := hR
        have f1 := f1.kept (hk _ f1.lt (Nat.not_le.mpr f1.lt))
        have fR := fR.kept (hk _ fR.lt (Nat.not_le.mpr fR.lt))
        have el := el.new hk
        refine lv_lstore (pc := 30) (lv' := [(6, .long r_12), (1, .ref qf1), (2, .long T9), (4, .long B9)]) hx hb dX5_termsOf_30 hl (by decide) rfl (fun ls hl => ?_)
        refine lv_aload_n (pc := 32) hx hb dX5_termsOf_32 rfl (lv_at hl 1 rfl) ?_
        refine lv_lload (pc := 33) hx hb dX5_termsOf_33 (lv_at hl 0 rfl) ?_
        have hZ0_ := hS.1
        have t_f1 := f1.lt
        have t_fR := fR.lt
        refine k_r (pc := 35) (k_S E hC hS hA hl.1 (c_J13_valueOf_928b6 l D tk N0 sa H.size r_12) kw_1414 kw_1415 kw_17 kw_1416 (n := 1) (by decide +kernel) rfl ⟨⟨rfl, rfl⟩, ⟨Nat.le_of_ble_eq_true rfl, Nat.le_of_ble_eq_true rfl⟩, (by dsimp only; omega), (by dsimp only; omega)⟩ rfl (Nat.le_of_ble_eq_true rfl) trivial dX5_termsOf_35) hS (fun q z w => absurd w (Nat.not_le.mpr z)) hn (fun r_14 H locs hR hz hk hS => ?_)
        have f1 := f1.kept (hk _ f1.lt (Nat.not_le.mpr f1.lt))
        have fR := fR.kept (hk _ fR.lt (Nat.not_le.mpr fR.lt))
        have el := el.new hk
        have f15 := hR
        rcases Nat.lt_or_ge k c9 with hkc | hkc9
        · refine k_i (pc := 38) (k_V E hC hS hA hl.1 (c1.recv hC f1 rfl) rfl (c_Jx4a65c_add_9ea2d l D tk N0 sa H.size qf1 v9 k c9 r_14 3 m9 (.long r_12) f9 w9 (hA _ g_f1) (hA _ g_fR) (Or.inl rfl) hkc (by omega)) kw_1434 kw_1435 kw_1436 kw_8 kw_1437 (n := 1) (by decide +kernel) rfl ⟨⟨rfl, rfl⟩, ⟨Nat.le_of_ble_eq_true rfl, Nat.le_of_ble_eq_true rfl⟩, (by dsimp only; omega), (by dsimp only; omega)⟩ rfl (Nat.le_of_ble_eq_true rfl) ⟨f1, fR, el, f15⟩ dX5_termsOf_38) hS (inA2.to g_f1 g_fR) hn (fun r_16 H locs hR hz hk hS => ?_)
          have f15 := f15.kept (hk _ f15.lt (inA2.not (clA.ne f15.cl f1.cl (hC.oo 3 7 rfl rfl (by decide))) (clA.ne f15.cl fR.cla (hC.oa 3 4 rfl rfl)) f15.lt))
          obtain ⟨hr9, f1, fR, el⟩ := hR
          rw [hr9]
          refine lv_pop (pc := 41) hx hb dX5_termsOf_41 rfl ?_
          refine lv_lload_n (pc := 42) hx hb dX5_termsOf_42 rfl (lv_at hl 2 rfl) ?_
          refine lv_lload (pc := 43) hx hb dX5_termsOf_43 (lv_at hl 0 rfl) ?_
          refine lv_lload (pc := 45) hx hb dX5_termsOf_45 (lv_at hl 3 rfl) ?_
          refine lv_lmul (pc := 47) hx hb dX5_termsOf_47 ?_
          refine lv_lsub (pc := 48) hx hb dX5_termsOf_48 ?_
          obtain ⟨x_17, ex_17⟩ : ∃ z9 : Int64, z9 = T9 - (r_12 * B9) := ⟨_, rfl⟩
          rw [← ex_17]
          refine lv_lstore (pc := 49) (lv' := [(8, .long x_17), (6, .long r_12), (1, .ref qf1), (2, .long T9), (4, .long B9)]) hx hb dX5_termsOf_49 hl (by decide) rfl (fun ls hl => ?_)
          have hq9 := er_12
          have hl9 := ex_17
          have hS1 := m_T2 hT9 hk9 c_11 er_12 ex_17
          have hL1 := m_left (T := T9) (B := B9) (by obtain ⟨y1, y2, y3, -⟩ := hT9; omega) hk0.2 (by obtain ⟨-, y2, y3, -⟩ := hT9; omega) er_12 ex_17
          refine lv_lload (pc := 51) hx hb dX5_termsOf_51 (lv_at hl 4 rfl) ?_
          refine lv_lstore_n (pc := 53) (lv' := [(2, .long B9), (8, .long x_17), (6, .long r_12), (1, .ref qf1), (4, .long B9)]) hx hb dX5_termsOf_53 rfl hl (by decide) rfl (fun ls hl => ?_)
          refine lv_lload (pc := 54) hx hb dX5_termsOf_54 (lv_at hl 1 rfl) ?_
          refine lv_lstore (pc := 56) (lv' := [(4, .long x_17), (2, .long B9), (8, .long x_17), (6, .long r_12), (1, .ref qf1)]) hx hb dX5_termsOf_56 hl (by decide) rfl (fun ls hl => ?_)
          refine lv_goto (pc := 58) (tgt := 17) hx hb dX5_termsOf_58 (by decide) ?_
          refine W.widen (k := 1 + (k + 1) + m_ac (c9)) (n := 3 + (k + 1) + m_as (c9)) (by omega) (by omega) ?_
          exact ih_17  (k + 1) _ _ _ _ _  B9 x_17 (by omega) (by omega) hS1.1 (by exact hP9.add hS1.2.1 hS1.2.2.1 hS1.2.2.2) (by exact hE9.add hL1.1 hk0.2 (by obtain ⟨-, y2, y3, -⟩ := hT9; omega)) (by exact hX9.add c_11 (by omega) hq9 hl9) (by exact ⟨hc9.1, by omega⟩) hv9 _ _ _ hS f1 fR el (lv_sub hl [4, 1, 0] rfl)
        · have hkc : k = c9 := by omega
          have fR : c1 D v9 (.inl (tk 4, k, .inr (.inr (.inr (.inr f9))))) H := by have h9 := fR; rw [← hkc] at h9; exact h9
          have hgr := m_grow (c9 := k) (by rw [hkc]; exact hc9.1) (by omega)
          have hmk : m_ac c9 = m_ac k ∧ m_as c9 = m_as k := by rw [hkc]; exact ⟨rfl, rfl⟩
          have hgb := m_acB hgr.1
          have hZ0_ := hS.1
          have t_f1 := f1.lt
          have t_fR := fR.lt
          have t_f15 := f15.lt
          refine k_i (pc := 38) (k_V E hC hS hA hl.1 (c1.recv hC f1 rfl) rfl (c_Jx4a65c_add_9ea2d_G l D tk N0 sa H.size qf1 v9 k r_14 3 m9 (.long r_12) f9 w9 (hA _ g_f1) (Or.inl rfl) (by omega) (by omega)) kw_1434 kw_1435 kw_1436 kw_8 kw_1437 (n := 1) (by decide +kernel) rfl ⟨⟨rfl, rfl⟩, ⟨Nat.le_of_ble_eq_true rfl, Nat.le_of_ble_eq_true rfl⟩, (by dsimp only; omega), (by dsimp only; omega)⟩ rfl (Nat.le_of_ble_eq_true rfl) ⟨f1, fR, el, f15⟩ dX5_termsOf_38) hS (inA1.to g_f1) hn (fun r_18 H locs hR hz hk hS => ?_)
          have fR := fR.kept (hk _ fR.lt (inA1.not (clA.ne fR.cla f1.cl (hC.ao 7 4 rfl rfl)) fR.lt))
          have f15 := f15.kept (hk _ f15.lt (inA1.not (clA.ne f15.cl f1.cl (hC.oo 3 7 rfl rfl (by decide))) f15.lt))
          obtain ⟨hr9, q19, f_19, z9_, f1, f19, el⟩ := hR
          have s_f19 : s.heap.size ≤ q19 := Nat.le_trans hZ0_ z9_
          have g_f19 := hn _ s_f19
          have l_f1_f19 : qf1 < q19 := Nat.lt_of_lt_of_le t_f1 z9_
          have l_fR_f19 : v9 < q19 := Nat.lt_of_lt_of_le t_fR z9_
          have l_f15_f19 : r_14 < q19 := Nat.lt_of_lt_of_le t_f15 z9_
          rw [hr9]
          refine lv_pop (pc := 41) hx hb dX5_termsOf_41 rfl ?_
          refine lv_lload_n (pc := 42) hx hb dX5_termsOf_42 rfl (lv_at hl 2 rfl) ?_
          refine lv_lload (pc := 43) hx hb dX5_termsOf_43 (lv_at hl 0 rfl) ?_
          refine lv_lload (pc := 45) hx hb dX5_termsOf_45 (lv_at hl 3 rfl) ?_
          refine lv_lmul (pc := 47) hx hb dX5_termsOf_47 ?_
          refine lv_lsub (pc := 48) hx hb dX5_termsOf_48 ?_
          obtain ⟨x_20, ex_20⟩ : ∃ z9 : Int64, z9 = T9 - (r_12 * B9) := ⟨_, rfl⟩
          rw [← ex_20]
          refine lv_lstore (pc := 49) (lv' := [(8, .long x_20), (6, .long r_12), (1, .ref qf1), (2, .long T9), (4, .long B9)]) hx hb dX5_termsOf_49 hl (by decide) rfl (fun ls hl => ?_)
          have hq9 := er_12
          have hl9 := ex_20
          have hS1 := m_T2 hT9 hk9 c_11 er_12 ex_20
          have hL1 := m_left (T := T9) (B := B9) (by obtain ⟨y1, y2, y3, -⟩ := hT9; omega) hk0.2 (by obtain ⟨-, y2, y3, -⟩ := hT9; omega) er_12 ex_20
          refine lv_lload (pc := 51) hx hb dX5_termsOf_51 (lv_at hl 4 rfl) ?_
          refine lv_lstore_n (pc := 53) (lv' := [(2, .long B9), (8, .long x_20), (6, .long r_12), (1, .ref qf1), (4, .long B9)]) hx hb dX5_termsOf_53 rfl hl (by decide) rfl (fun ls hl => ?_)
          refine lv_lload (pc := 54) hx hb dX5_termsOf_54 (lv_at hl 1 rfl) ?_
          refine lv_lstore (pc := 56) (lv' := [(4, .long x_20), (2, .long B9), (8, .long x_20), (6, .long r_12), (1, .ref qf1)]) hx hb dX5_termsOf_56 hl (by decide) rfl (fun ls hl => ?_)
          refine lv_goto (pc := 58) (tgt := 17) hx hb dX5_termsOf_58 (by decide) ?_
          refine W.widen (k := 1 + (k + 1) + m_ac (k + k / 2)) (n := 3 + (k + 1) + m_as (k + k / 2)) (by omega) (by omega) ?_
          exact ih_17  (k + 1) _ _ _ _ _  B9 x_20 (by omega) (by omega) hS1.1 (by exact hP9.add hS1.2.1 hS1.2.2.1 hS1.2.2.2) (by exact hE9.add hL1.1 hk0.2 (by obtain ⟨-, y2, y3, -⟩ := hT9; omega)) (by exact hX9.add c_11 (by omega) hq9 hl9) (by exact ⟨hgr.1, by omega⟩) s_f19 _ _ _ hS f1 f19 el (lv_sub hl [4, 1, 0] rfl)
  have hm0 : m_ac 10 = 1 ∧ m_as 10 = 10 := ⟨rfl, rfl⟩
  refine W.widen (k := 1 + 1 + m_ac (10)) (n := 3 + 1 + m_as (10)) (by omega) (by omega) ?_
  exact loop_17 45 1 _ _ _ _ _  ba x_10 (by omega) (by omega) hS1.1 (by exact PT.one hS1.2) (by exact EU.one hL1.1 hfa.2.1 hfa.2.2) (by exact TX.one (m_ne0 hfa.2.1) hq9 hl9) (by exact ⟨Or.inl rfl, by decide⟩) s_f9 _ _ _ hS f1 f9 e9 (lv_sub hl [4, 1, 0] rfl)
/-! ===== the reference's rows: their values taken out ===== -/
section LR14
variable {p : Program} {l : Launch} {e : Env} {R : Room} {s : State} {m : MethodId} {args : Array Value} {below : List Frame} {meth : Method} {c : Code} {H : Heap} {locs : List Loc} {cells slots : Nat} {Q : State → Prop}
variable {cc : ByteArray} {pc nL : Nat} {ls : Array Slot} {rest : List Value} {w0 : Cond} {own : String} {D : va_G} {tk : Nat → ClassId} {N0 : Nat} {sa : Nat → Nat}
theorem r_castO (E : CallFix p m c cc nL s args (w0 :: GW) own) (hC : Ctx D tk N0 sa s) {a ci k index : Nat} {v : Value} {q : vw_C} (h : xf D ci a k v H) (hc : vwCl[ci]? = some q) (w1 : Cond.classLink own index q.1 ∈ GW) (hdg : decode cc pc = .ok (.checkcast index, 3))
    (kk : W p l e R s m args below meth c H locs cells slots Q (F0 m (pc + 3) ls (.ref a :: rest))) : W p l e R s m args below meth c H locs cells slots Q (F0 m pc ls (.ref a :: rest)) :=
  va_castS E.1 E.2.1 E.2.2.2.1 (E.2.2.2.2 _ (List.mem_cons_of_mem _ w1)) (hC.1.1 ci q hc).2 (xf.recv hC h hc) hdg kk
end LR14
/-- what the folding asks of a row -/
def PF (n : Nat) (w : Nat → Value) : Prop := ∀ i, i < n → ∃ x : Int64, w i = .long x ∧ x.toInt.natAbs ≤ 1000000010 ∧ (1 ≤ i → 1 ≤ x.toInt)
theorem m_two {mn : Int32} {mj : Nat} (h : mn = nI (mj + 1)) : mn - 2 + 1 = nI mj := by
  have h0 : ∀ a : Int32, a - 2 + 1 = a - 1 := by
    intro a
    rw [Int32.sub_eq_add_neg, Int32.sub_eq_add_neg, Int32.add_assoc]
    rfl
  rw [h0, h]
  exact nI_pred mj
/-- one step of the folding -/
theorem m_fold {T B x y : Int64} {k : Nat} (hT : 1 ≤ T.toInt) (hT2 : T ≤ 4000000000) (hB : 1 ≤ B.toInt ∧ B.toInt ≤ 4000000000) (hx : x.toInt.natAbs ≤ 1000000010) (hx1 : 1 ≤ k → 1 ≤ x.toInt) (hy : y = x * T + B) : T.toInt ≤ 4000000000 ∧ y.toInt.natAbs ≤ 5000000000000000000 ∧ (1 ≤ k → 1 ≤ y.toInt) := by
  have h1 : T.toInt ≤ 4000000000 := by
    have := Int64.le_iff_toInt_le.mp hT2
    have e : (4000000000 : Int64).toInt = 4000000000 := by decide
    omega
  obtain ⟨e1, e2⟩ := m_mulB (x := x) (y := T) (B := 1000000010) (C := 4000000000) hx (by omega) (by decide)
  obtain ⟨f1, f2⟩ := m_addB (x := x * T) (y := B) (B := 1000000010 * 4000000000) (C := 4000000000) e2 (by omega) (by decide)
  refine ⟨h1, by rw [hy]; omega, fun hk => ?_⟩
  have h2 := hx1 hk
  have h3 := Int.mul_le_mul_of_nonneg_right h2 (show 0 ≤ T.toInt by omega)
  rw [hy, f1, e1]
  omega
/-- the last one changed by one -/
theorem PF.last {n j : Nat} {w : Nat → Value} {x y mo : Int64} (h : PT n w 0) (hj : j + 1 = n) (hx : w j = .long x) (hmo : mo.toInt = 1 ∨ mo.toInt = -1) (hy : y = x + mo) : PF n (va_up w j (.long y)) := by
  obtain ⟨x1, e1, e2, e3, e4⟩ := h j (by omega)
  have ex : x1 = x := by rw [hx] at e1; exact (Value.long.inj e1).symm
  subst ex
  have hm : mo.toInt.natAbs ≤ 1 := by omega
  obtain ⟨f1, f2⟩ := m_addB (x := x1) (y := mo) (B := 1000000001) (C := 1) e2 hm (by decide)
  intro i hi
  by_cases e : i = j
  · subst e
    refine ⟨y, va_up_self _ _ _, by rw [hy]; omega, fun z => ?_⟩
    have := e4 z hj rfl
    rw [hy, f1]
    omega
  · obtain ⟨x2, g1, g2, g3, -⟩ := h i hi
    exact ⟨x2, by rw [va_up_ne _ _ e]; exact g1, by omega, g3⟩
theorem m_ndg : ∀ (f k m : Nat), m < 10 ^ (k + 1) → ndg f m ≤ k + 1 := by
  intro f
  induction f with
  | zero => intro k m _; exact Nat.le_add_left 1 k
  | succ f ih =>
    intro k m h
    unfold ndg
    split
    · exact Nat.le_add_left 1 k
    · cases k with
      | zero => omega
      | succ k =>
        have h1 : m / 10 < 10 ^ (k + 1) := by
          rw [Nat.pow_succ] at h
          omega
        have := ih k (m / 10) h1
        omega
theorem m_dg {x : Int64} (h : x.toInt.natAbs < 10000000000) : dgJ x ≤ 11 := by
  have h1 := m_ndg 19 9 x.toInt.natAbs h
  unfold dgJ
  split <;> omega
/-- what the telling of a row takes -/
def m_tS : Nat → Nat
  | 0 => 0
  | k + 1 => m_tS k + (60 * k + 60)
theorem m_tSB {k : Nat} (h : k ≤ 43) : m_tS k ≤ 56760 := by
  have hall : ∀ i : Fin 44, m_tS i.val ≤ 56760 := by decide +kernel
  exact hall ⟨k, by omega⟩
/-- all whole numbers, none too great -/
def PV (n : Nat) (w : Nat → Value) : Prop := ∀ i, i < n → ∃ x : Int64, w i = .long x ∧ x.toInt.natAbs ≤ 1000000010
set_option maxHeartbeats 4000000 in
set_option maxRecDepth 100000 in
/-- BestratiosModel.folded(Ljava/util/ArrayList;I)[J -/
theorem c_X5_folded (l : Launch) (D : va_G) (tk : Nat → ClassId) (N0 : Nat) (sa : Nat → Nat)  (sz : Nat) (a b ln cap : Nat) (md mn : Int32) (f : Nat → Option Nat) (vs : Nat → Value) (mk : Nat) (a9 : Nat → Int64) (hnc : ln ≤ cap) (hcap : cap ≤ 100000000) (hmn : mn = nI mk) (hmk : 1 ≤ mk ∧ mk ≤ ln) (hl9 : ln ≤ 1000) (hPF : PF ln vs) (hav : ∀ i, i < ln → vs i = .long (a9 i)) : Met l yX5_folded (wsy yX5_folded cX5_folded 9 (some (.array .long))) ({ frames := 3, cells := 1, slots := 2, locals := 77 } : Room) (cP D tk N0 sa [.ref a, .int mn] sz (fun H => c1 D a (.inr (7, [.int md, .ref b, .int (nI ln)])) H ∧ c1 D b (.inl (tk 4, cap, .inr (.inr (.inr (.inr f))))) H ∧ EL D 3 ln f vs H)) (kQo (fun v H => (v = none ∧ m_FD a9 mk = none) ∨ (∃ q t b, v = some q ∧ sz ≤ q ∧ L2 D tk q t b H ∧ 1 ≤ b.toInt ∧ m_FD a9 mk = some (t, b))) (nwA sz)) (1) (2) (nwA sz) := by
  refine mStart RX5 rfl (by decide +kernel) (Nat.le_of_ble_eq_true rfl) ?_
  intro p e s m args below meth c E hr hlk hnm hsz hC hF ls hl
  subst hsz
  obtain ⟨hx, hb, -⟩ := id E
  have hA : ∀ q, (nwA s.heap.size) q → N0 ≤ q := fun q h => Nat.le_trans hC.2.1 h
  have hn : ∀ q, s.heap.size ≤ q → (nwA s.heap.size) q := fun q h => h
  have hS : va_S (nwA s.heap.size) s.heap s.heap [] := va_S.rf
  have hl : lv_has ls 9 [(0, .ref a), (1, .int mn)] := hl
  obtain ⟨Q, hQ⟩ : ∃ Q, Q = MQ below (kQo (fun v H => (v = none ∧ m_FD a9 mk = none) ∨ (∃ q t b, v = some q ∧ s.heap.size ≤ q ∧ L2 D tk q t b H ∧ 1 ≤ b.toInt ∧ m_FD a9 mk = some (t, b))) (nwA s.heap.size)) args s (1) (2) (nwA s.heap.size) := ⟨_, rfl⟩
  rw [← hQ]
  obtain ⟨f0, fR, el⟩ : c1 D a (.inr (7, [.int md, .ref b, .int (nI ln)])) s.heap ∧ c1 D b (.inl (tk 4, cap, .inr (.inr (.inr (.inr f))))) s.heap ∧ EL D 3 ln f vs s.heap := hF
  obtain ⟨mj, rfl⟩ : ∃ mj, mk = mj + 1 := ⟨mk - 1, by omega⟩
  refine lv_aload_n (pc := 0) hx hb dX5_folded_0 rfl (lv_at hl 0 rfl) ?_
  refine lv_iload_n (pc := 1) hx hb dX5_folded_1 rfl (lv_at hl 1 rfl) ?_
  refine lv_iconst (pc := 2) (v := 1) hx hb dX5_folded_2 (by decide) ?_
  refine lv_isub (pc := 3) hx hb dX5_folded_3 ?_
  obtain ⟨qe1, hq1, he1⟩ := el mj (by omega)
  obtain ⟨xe1, ev1, pf1⟩ := hPF mj (by omega)
  rw [ev1] at he1
  refine k_r (pc := 4) (k_V E hC hS hA hl.1 (c1.recv hC f0 rfl) rfl (c_Jx4a65c_get_915e3 l D tk N0 sa s.heap.size a b ln cap mj qe1 md (mn - 1) f (by rw [hmn]; exact nI_pred mj) (by omega) hnc hcap hq1) kw_1550 kw_1551 kw_1552 kw_8 kw_1553 (n := 1) (by decide +kernel) rfl ⟨⟨rfl, rfl⟩, ⟨Nat.le_of_ble_eq_true rfl, Nat.le_of_ble_eq_true rfl⟩, (by dsimp only; omega), (by dsimp only; omega)⟩ rfl (Nat.le_of_ble_eq_true rfl) ⟨f0, fR⟩ dX5_folded_4) hS (fun q z w => absurd w (Nat.not_le.mpr z)) hn (fun r_2 H locs hR hz hk hS => ?_)
  have f0 := f0.kept (hk _ f0.lt (Nat.not_le.mpr f0.lt))
  have fR := fR.kept (hk _ fR.lt (Nat.not_le.mpr fR.lt))
  have el := el.new hk
  have he1 := he1.kept (hk _ he1.lt (Nat.not_le.mpr he1.lt))
  rw [show r_2 = qe1 from hR]
  refine r_castO (pc := 7) E hC he1 rfl kw_1532 dX5_folded_7 ?_
  refine k_l (pc := 10) (k_V E hC hS hA hl.1 (xf.recv hC he1 rfl) rfl (c_J13_longValue_f9912 l D tk N0 sa H.size qe1 xe1) kw_1533 kw_1534 kw_1535 kw_17 kw_1536 (n := 0) (by decide +kernel) rfl ⟨⟨rfl, rfl⟩, ⟨Nat.le_of_ble_eq_true rfl, Nat.le_of_ble_eq_true rfl⟩, (by dsimp only; omega), (by dsimp only; omega)⟩ rfl (Nat.le_of_ble_eq_true rfl) he1 dX5_folded_10) hS (fun q z w => absurd w (Nat.not_le.mpr z)) hn (fun r_3 H locs hR hz hk hS => ?_)
  have f0 := f0.kept (hk _ f0.lt (Nat.not_le.mpr f0.lt))
  have fR := fR.kept (hk _ fR.lt (Nat.not_le.mpr fR.lt))
  have el := el.new hk
  have he1 := he1.kept (hk _ he1.lt (Nat.not_le.mpr he1.lt))
  have er_3 : r_3 = xe1 := hR
  refine lv_lstore_n (pc := 13) (lv' := [(2, .long r_3), (0, .ref a), (1, .int mn)]) hx hb dX5_folded_13 rfl hl (by decide) rfl (fun ls hl => ?_)
  refine lv_lconst (pc := 14) (v := 1) hx hb dX5_folded_14 (by decide) ?_
  refine lv_lstore (pc := 15) (lv' := [(4, .long 1), (2, .long r_3), (0, .ref a), (1, .int mn)]) hx hb dX5_folded_15 hl (by decide) rfl (fun ls hl => ?_)
  refine lv_iload_n (pc := 17) hx hb dX5_folded_17 rfl (lv_at hl 3 rfl) ?_
  refine lv_iconst (pc := 18) (v := 2) hx hb dX5_folded_18 (by decide) ?_
  refine lv_isub (pc := 19) hx hb dX5_folded_19 ?_
  obtain ⟨x_4, ex_4⟩ : ∃ z9 : Int32, z9 = mn - 2 := ⟨_, rfl⟩
  rw [← ex_4]
  refine lv_istore (pc := 20) (lv' := [(6, .int x_4), (4, .long 1), (2, .long r_3), (0, .ref a), (1, .int mn)]) hx hb dX5_folded_20 hl (by decide) rfl (fun ls hl => ?_)
  have loop_22 : ∀ (n : Nat) (k : Nat)(T9 : Int64) (B9 : Int64) (y9 : Int32), k < n → k + 1 ≤ ln → y9 + 1 = nI k → 1 ≤ B9.toInt ∧ B9.toInt ≤ 4000000000 → T9.toInt.natAbs ≤ 5000000000000000000 ∧ (1 ≤ k → 1 ≤ T9.toInt) → m_fdL a9 k T9 B9 = m_FD a9 (mj + 1) → ∀ (H : Heap) (locs : List Loc) (ls : Array Slot), va_S (nwA s.heap.size) s.heap H locs → c1 D a (.inr (7, [.int md, .ref b, .int (nI ln)])) H → c1 D b (.inl (tk 4, cap, .inr (.inr (.inr (.inr f))))) H → EL D 3 ln f vs H → lv_has ls 9 [(0, .ref a), (1, .int mn), (2, .long T9), (4, .long B9), (6, .int y9)] → W p l e ({ frames := 3, cells := 1, slots := 2, locals := 77 } : Room) s m args below meth c H locs (0) (0) Q (F0 m 22 ls []) := by
    intro n
    induction n with
    | zero =>
      intro k T9 B9 y9 hf9 hk9 hx9 hb9 hT9 hg9 H locs ls hS f0 fR el hl
      omega
    | succ n ih_22 =>
      intro k T9 B9 y9 hf9 hk9 hx9 hb9 hT9 hg9 H locs ls hS f0 fR el hl
      refine lv_iload (pc := 22) hx hb dX5_folded_22 (lv_at hl 4 rfl) ?_
      refine lv_if_lt (pc := 24) (tgt := 68) hx hb dX5_folded_24 (by decide) (fun c_5 => ?_) (fun c_5 => ?_)
      · have hk0 := f_zero hx9 (by omega) c_5
        have hP9 := m_loP (t := T9) (b := B9) (B := 5000000000000000000) (C := 4000000000) hT9.1 (by decide) hb9.1 hb9.2
        refine lv_lload_n (pc := 68) hx hb dX5_folded_68 rfl (lv_at hl 2 rfl) ?_
        refine lv_lload (pc := 69) hx hb dX5_folded_69 (lv_at hl 3 rfl) ?_
        have hZ0_ := hS.1
        have t_f0 := f0.lt
        have t_fR := fR.lt
        refine k_r (pc := 71) (k_S E hC hS hA hl.1 (c_X5_lowest l D tk N0 sa H.size T9 B9 hP9.1) kw_1199 kw_1200 kw_5 kw_1201 (n := 2) (by decide +kernel) rfl ⟨⟨rfl, rfl⟩, ⟨Nat.le_of_ble_eq_true rfl, Nat.le_of_ble_eq_true rfl⟩, (by dsimp only; omega), (by dsimp only; omega)⟩ rfl (Nat.le_of_ble_eq_true rfl) trivial dX5_folded_71) hS (fun q z w => absurd w (Nat.not_le.mpr z)) hn (fun r_6 H locs hR hz hk hS => ?_)
        have f0 := f0.kept (hk _ f0.lt (Nat.not_le.mpr f0.lt))
        have fR := fR.kept (hk _ fR.lt (Nat.not_le.mpr fR.lt))
        have el := el.new hk
        obtain ⟨z9_, f7⟩ := hR
        have s_f7 : s.heap.size ≤ r_6 := Nat.le_trans hZ0_ z9_
        have g_f7 := hn _ s_f7
        have l_f0_f7 : a < r_6 := Nat.lt_of_lt_of_le t_f0 z9_
        have l_fR_f7 : b < r_6 := Nat.lt_of_lt_of_le t_fR z9_
        try rw [hQ]
        refine r_oret (pc := 74) E hr (Or.inr ⟨_, rfl⟩) hlk hS (by omega) (by omega) (some r_6) ?_ dX5_folded_74
        exact Or.inr ⟨_, _, _, rfl, s_f7, f7, hP9.2.1, by rw [hk0] at hg9; exact hg9.symm⟩
      · obtain ⟨k1, rfl⟩ : ∃ k1, k = k1 + 1 := ⟨k - 1, by have := f_pos hx9 (by omega) c_5; omega⟩
        have hx8 : y9 = nI k1 := f_prev hx9
        refine lv_lload_n (pc := 27) hx hb dX5_folded_27 rfl (lv_at hl 2 rfl) ?_
        refine lv_ldc2 (pc := 28) (v := 4000000000) hx hb E.2.2.2.1 (E.2.2.2.2 _ (List.mem_cons_of_mem _ kw_1569)) dX5_folded_28 ?_
        refine r_lcle (pc := 31) (tgt := 37) E dX5_folded_31 dX5_folded_32 (by decide) (fun c_8 => ?_) (fun c_8 => ?_)
        · refine lv_aload_n (pc := 37) hx hb dX5_folded_37 rfl (lv_at hl 0 rfl) ?_
          refine lv_iload (pc := 38) hx hb dX5_folded_38 (lv_at hl 4 rfl) ?_
          obtain ⟨qe9, hq9, he9⟩ := el k1 (by omega)
          obtain ⟨xe9, ev9, pf9⟩ := hPF k1 (by omega)
          rw [ev9] at he9
          refine k_r (pc := 40) (k_V E hC hS hA hl.1 (c1.recv hC f0 rfl) rfl (c_Jx4a65c_get_915e3 l D tk N0 sa H.size a b ln cap k1 qe9 md y9 f hx8 (by omega) hnc hcap hq9) kw_1550 kw_1551 kw_1552 kw_8 kw_1553 (n := 1) (by decide +kernel) rfl ⟨⟨rfl, rfl⟩, ⟨Nat.le_of_ble_eq_true rfl, Nat.le_of_ble_eq_true rfl⟩, (by dsimp only; omega), (by dsimp only; omega)⟩ rfl (Nat.le_of_ble_eq_true rfl) ⟨f0, fR⟩ dX5_folded_40) hS (fun q z w => absurd w (Nat.not_le.mpr z)) hn (fun r_10 H locs hR hz hk hS => ?_)
          have f0 := f0.kept (hk _ f0.lt (Nat.not_le.mpr f0.lt))
          have fR := fR.kept (hk _ fR.lt (Nat.not_le.mpr fR.lt))
          have el := el.new hk
          have he9 := he9.kept (hk _ he9.lt (Nat.not_le.mpr he9.lt))
          rw [show r_10 = qe9 from hR]
          refine r_castO (pc := 43) E hC he9 rfl kw_1532 dX5_folded_43 ?_
          refine k_l (pc := 46) (k_V E hC hS hA hl.1 (xf.recv hC he9 rfl) rfl (c_J13_longValue_f9912 l D tk N0 sa H.size qe9 xe9) kw_1533 kw_1534 kw_1535 kw_17 kw_1536 (n := 0) (by decide +kernel) rfl ⟨⟨rfl, rfl⟩, ⟨Nat.le_of_ble_eq_true rfl, Nat.le_of_ble_eq_true rfl⟩, (by dsimp only; omega), (by dsimp only; omega)⟩ rfl (Nat.le_of_ble_eq_true rfl) he9 dX5_folded_46) hS (fun q z w => absurd w (Nat.not_le.mpr z)) hn (fun r_11 H locs hR hz hk hS => ?_)
          have f0 := f0.kept (hk _ f0.lt (Nat.not_le.mpr f0.lt))
          have fR := fR.kept (hk _ fR.lt (Nat.not_le.mpr fR.lt))
          have el := el.new hk
          have he9 := he9.kept (hk _ he9.lt (Nat.not_le.mpr he9.lt))
          have er_11 : r_11 = xe9 := hR
          refine lv_lload_n (pc := 49) hx hb dX5_folded_49 rfl (lv_at hl 2 rfl) ?_
          refine lv_lmul (pc := 50) hx hb dX5_folded_50 ?_
          refine lv_lload (pc := 51) hx hb dX5_folded_51 (lv_at hl 3 rfl) ?_
          refine lv_ladd (pc := 53) hx hb dX5_folded_53 ?_
          obtain ⟨x_12, ex_12⟩ : ∃ z9 : Int64, z9 = (r_11 * T9) + B9 := ⟨_, rfl⟩
          rw [← ex_12]
          refine lv_lstore (pc := 54) (lv' := [(7, .long x_12), (0, .ref a), (1, .int mn), (2, .long T9), (4, .long B9), (6, .int y9)]) hx hb dX5_folded_54 hl (by decide) rfl (fun ls hl => ?_)
          refine lv_lload_n (pc := 56) hx hb dX5_folded_56 rfl (lv_at hl 3 rfl) ?_
          refine lv_lstore (pc := 57) (lv' := [(4, .long T9), (7, .long x_12), (0, .ref a), (1, .int mn), (2, .long T9), (6, .int y9)]) hx hb dX5_folded_57 hl (by decide) rfl (fun ls hl => ?_)
          refine lv_lload (pc := 59) hx hb dX5_folded_59 (lv_at hl 1 rfl) ?_
          refine lv_lstore_n (pc := 61) (lv' := [(2, .long x_12), (4, .long T9), (7, .long x_12), (0, .ref a), (1, .int mn), (6, .int y9)]) hx hb dX5_folded_61 rfl hl (by decide) rfl (fun ls hl => ?_)
          rw [er_11] at ex_12
          have hle4 := c_8
          have hxx := ex_12
          rw [m_lgI ev9 (hav k1 (by omega))] at hxx
          have hS1 := m_fold (k := k1) (hT9.2 (by omega)) c_8 hb9 pf9.1 pf9.2 ex_12
          obtain ⟨x_13, ex_13⟩ : ∃ z9 : Int32, z9 = y9 + (-1) := ⟨_, rfl⟩
          refine lv_iinc (pc := 62) (v := x_13) (lv' := [(6, .int x_13), (2, .long x_12), (4, .long T9), (7, .long x_12), (0, .ref a), (1, .int mn)]) hx hb dX5_folded_62 hl (k := 5) rfl (by rw [ex_13]; rfl) (by decide) rfl (fun ls hl => ?_)
          refine lv_goto (pc := 65) (tgt := 22) hx hb dX5_folded_65 (by decide) ?_
          refine W.widen (k := 0) (n := 0) (by omega) (by omega) ?_
          exact ih_22  k1  x_12 T9 x_13 (by omega) (by omega) (by rw [ex_13]; exact f_dn hx8) ⟨hT9.2 (by omega), hS1.1⟩ ⟨hS1.2.1, hS1.2.2⟩ (m_fdLs hg9 (Int64.not_lt.mpr hle4) hxx) _ _ _ hS f0 fR el (lv_sub hl [4, 5, 1, 2, 0] rfl)
        · refine lv_null (pc := 35) hx hb dX5_folded_35 ?_
          try rw [hQ]
          refine r_oret (pc := 36) E hr (Or.inr ⟨_, rfl⟩) hlk hS (by omega) (by omega) none ?_ dX5_folded_36
          exact Or.inl ⟨rfl, m_fdLn hg9 (Int64.not_le.mp c_8)⟩
  refine W.widen (k := 0) (n := 0) (by omega) (by omega) ?_
  exact loop_22 (mj + 1) mj  r_3 1 x_4 (by omega) (by omega) (by rw [ex_4]; exact m_two hmn) (by decide) (by rw [er_3]; exact ⟨by omega, pf1.2⟩) (by rw [er_3, m_lgI ev1 (hav mj (by omega))]; rfl) _ _ _ hS f0 fR el (lv_sub hl [3, 4, 2, 1, 0] rfl)
set_option maxHeartbeats 4000000 in
set_option maxRecDepth 100000 in
/-- BestratiosModel.withLast([JI)[J -/
theorem c_X5_withLast (l : Launch) (D : va_G) (tk : Nat → ClassId) (N0 : Nat) (sa : Nat → Nat)  (sz : Nat) (pa : Nat) (ta : Int64) (ba : Int64) (mo : Int32) (hfa : m_F ta ba) (hmo : mo = 1 ∨ mo = -1) : Met l yX5_withLast (wsy yX5_withLast cX5_withLast 4 (some (.array .long))) ({ frames := 8, cells := 51, slots := 178, locals := 186 } : Room) (cP D tk N0 sa [.ref pa, .int mo] sz (fun H => L2 D tk pa ta ba H)) (kQo (fun v H => (v = none ∧ m_WL ta ba mo.toInt64 = none) ∨ (∃ q t b, v = some q ∧ sz ≤ q ∧ L2 D tk q t b H ∧ 1 ≤ b.toInt ∧ m_WL ta ba mo.toInt64 = some (t, b))) (nwA sz)) (51) (178) (nwA sz) := by
  refine mStart RX5 rfl (by decide +kernel) (Nat.le_of_ble_eq_true rfl) ?_
  intro p e s m args below meth c E hr hlk hnm hsz hC hF ls hl
  subst hsz
  obtain ⟨hx, hb, -⟩ := id E
  have hA : ∀ q, (nwA s.heap.size) q → N0 ≤ q := fun q h => Nat.le_trans hC.2.1 h
  have hn : ∀ q, s.heap.size ≤ q → (nwA s.heap.size) q := fun q h => h
  have hS : va_S (nwA s.heap.size) s.heap s.heap [] := va_S.rf
  have hl : lv_has ls 4 [(0, .ref pa), (1, .int mo)] := hl
  have fa : L2 D tk pa ta ba s.heap := hF
  refine lv_aload_n (pc := 0) hx hb dX5_withLast_0 rfl (lv_at hl 0 rfl) ?_
  have hZ0_ := hS.1
  have t_fa := fa.lt
  refine k_r (pc := 1) (k_S E hC hS hA hl.1 (c_X5_termsOf l D tk N0 sa s.heap.size pa ta ba hfa) kw_1411 kw_1412 kw_5 kw_1413 (n := 1) (by decide +kernel) rfl ⟨⟨rfl, rfl⟩, ⟨Nat.le_of_ble_eq_true rfl, Nat.le_of_ble_eq_true rfl⟩, (by dsimp only; omega), (by dsimp only; omega)⟩ rfl (Nat.le_of_ble_eq_true rfl) fa dX5_withLast_1) hS (fun q z w => absurd w (Nat.not_le.mpr z)) hn (fun r_1 H locs hR hz hk hS => ?_)
  have fa := fa.kept (hk _ fa.lt (Nat.not_le.mpr fa.lt))
  obtain ⟨nl2, bb2, cap2, ff2, ww2, md2, zr9_, zb9_, fl2, fR2, el2, hPT2, hln2, hlm2, hlc2, hlp2, ⟨hTL2, hTA2⟩, gg2, hEU2⟩ := hR
  have hcb2 := m_acB hlp2
  have s_fl2 : s.heap.size ≤ r_1 := Nat.le_trans hZ0_ zr9_
  have g_fl2 := hn _ s_fl2
  have l_fa_fl2 : pa < r_1 := Nat.lt_of_lt_of_le t_fa zr9_
  have s_fR2 : s.heap.size ≤ bb2 := Nat.le_trans hZ0_ zb9_
  have g_fR2 := hn _ s_fR2
  have l_fa_fR2 : pa < bb2 := Nat.lt_of_lt_of_le t_fa zb9_
  refine lv_astore_n (pc := 4) (lv' := [(2, .ref r_1), (0, .ref pa), (1, .int mo)]) hx hb dX5_withLast_4 rfl hl (by decide) rfl (fun ls hl => ?_)
  obtain ⟨j9, hj9⟩ : ∃ j9, nl2 = j9 + 1 := ⟨nl2 - 1, by omega⟩
  refine lv_aload_n (pc := 5) hx hb dX5_withLast_5 rfl (lv_at hl 0 rfl) ?_
  refine k_i (pc := 6) (k_V E hC hS hA hl.1 (c1.recv hC fl2 rfl) rfl (c_Jx4a65c_size_8abf5 l D tk N0 sa H.size r_1 bb2 nl2 md2) kw_1546 kw_1547 kw_1548 kw_8 kw_1549 (n := 0) (by decide +kernel) rfl ⟨⟨rfl, rfl⟩, ⟨Nat.le_of_ble_eq_true rfl, Nat.le_of_ble_eq_true rfl⟩, (by dsimp only; omega), (by dsimp only; omega)⟩ rfl (Nat.le_of_ble_eq_true rfl) fl2 dX5_withLast_6) hS (fun q z w => absurd w (Nat.not_le.mpr z)) hn (fun r_3 H locs hR hz hk hS => ?_)
  have fa := fa.kept (hk _ fa.lt (Nat.not_le.mpr fa.lt))
  have fR2 := fR2.kept (hk _ fR2.lt (Nat.not_le.mpr fR2.lt))
  have fl2 := fl2.kept (hk _ fl2.lt (Nat.not_le.mpr fl2.lt))
  have el2 := el2.new hk
  rw [show r_3 = nI nl2 from hR]
  refine lv_iconst (pc := 9) (v := 1) hx hb dX5_withLast_9 (by decide) ?_
  refine lv_isub (pc := 10) hx hb dX5_withLast_10 ?_
  obtain ⟨x_4, ex_4⟩ : ∃ z9 : Int32, z9 = (nI nl2) - 1 := ⟨_, rfl⟩
  rw [← ex_4]
  refine lv_istore_n (pc := 11) (lv' := [(3, .int x_4), (2, .ref r_1), (0, .ref pa), (1, .int mo)]) hx hb dX5_withLast_11 rfl hl (by decide) rfl (fun ls hl => ?_)
  refine lv_aload_n (pc := 12) hx hb dX5_withLast_12 rfl (lv_at hl 1 rfl) ?_
  refine lv_iload_n (pc := 13) hx hb dX5_withLast_13 rfl (lv_at hl 0 rfl) ?_
  refine lv_aload_n (pc := 14) hx hb dX5_withLast_14 rfl (lv_at hl 1 rfl) ?_
  refine lv_iload_n (pc := 15) hx hb dX5_withLast_15 rfl (lv_at hl 0 rfl) ?_
  have hix : x_4 = nI j9 := by rw [ex_4, hj9]; exact nI_pred j9
  obtain ⟨qe5, hq5, he5⟩ := el2 j9 (by omega)
  obtain ⟨xe5, ev5, pf5⟩ := hPT2 j9 (by omega)
  rw [ev5] at he5
  refine k_r (pc := 16) (k_V E hC hS hA hl.1 (c1.recv hC fl2 rfl) rfl (c_Jx4a65c_get_915e3 l D tk N0 sa H.size r_1 bb2 nl2 cap2 j9 qe5 md2 x_4 ff2 hix (by omega) (by omega) (by omega) hq5) kw_1550 kw_1551 kw_1552 kw_8 kw_1553 (n := 1) (by decide +kernel) rfl ⟨⟨rfl, rfl⟩, ⟨Nat.le_of_ble_eq_true rfl, Nat.le_of_ble_eq_true rfl⟩, (by dsimp only; omega), (by dsimp only; omega)⟩ rfl (Nat.le_of_ble_eq_true rfl) ⟨fl2, fR2⟩ dX5_withLast_16) hS (fun q z w => absurd w (Nat.not_le.mpr z)) hn (fun r_6 H locs hR hz hk hS => ?_)
  have fa := fa.kept (hk _ fa.lt (Nat.not_le.mpr fa.lt))
  have fR2 := fR2.kept (hk _ fR2.lt (Nat.not_le.mpr fR2.lt))
  have fl2 := fl2.kept (hk _ fl2.lt (Nat.not_le.mpr fl2.lt))
  have el2 := el2.new hk
  have he5 := he5.kept (hk _ he5.lt (Nat.not_le.mpr he5.lt))
  rw [show r_6 = qe5 from hR]
  refine r_castO (pc := 19) E hC he5 rfl kw_1532 dX5_withLast_19 ?_
  refine k_l (pc := 22) (k_V E hC hS hA hl.1 (xf.recv hC he5 rfl) rfl (c_J13_longValue_f9912 l D tk N0 sa H.size qe5 xe5) kw_1533 kw_1534 kw_1535 kw_17 kw_1536 (n := 0) (by decide +kernel) rfl ⟨⟨rfl, rfl⟩, ⟨Nat.le_of_ble_eq_true rfl, Nat.le_of_ble_eq_true rfl⟩, (by dsimp only; omega), (by dsimp only; omega)⟩ rfl (Nat.le_of_ble_eq_true rfl) he5 dX5_withLast_22) hS (fun q z w => absurd w (Nat.not_le.mpr z)) hn (fun r_7 H locs hR hz hk hS => ?_)
  have fa := fa.kept (hk _ fa.lt (Nat.not_le.mpr fa.lt))
  have fR2 := fR2.kept (hk _ fR2.lt (Nat.not_le.mpr fR2.lt))
  have fl2 := fl2.kept (hk _ fl2.lt (Nat.not_le.mpr fl2.lt))
  have el2 := el2.new hk
  have he5 := he5.kept (hk _ he5.lt (Nat.not_le.mpr he5.lt))
  have er_7 : r_7 = xe5 := hR
  refine lv_iload_n (pc := 25) hx hb dX5_withLast_25 rfl (lv_at hl 3 rfl) ?_
  refine lv_i2l (pc := 26) (v := mo.toInt64) hx hb dX5_withLast_26 rfl ?_
  refine lv_ladd (pc := 27) hx hb dX5_withLast_27 ?_
  have hZ0_ := hS.1
  have t_fa := fa.lt
  have t_fR2 := fR2.lt
  have t_fl2 := fl2.lt
  have t_he5 := he5.lt
  refine k_r (pc := 28) (k_S E hC hS hA hl.1 (c_J13_valueOf_928b6 l D tk N0 sa H.size (r_7 + mo.toInt64)) kw_1414 kw_1415 kw_17 kw_1416 (n := 1) (by decide +kernel) rfl ⟨⟨rfl, rfl⟩, ⟨Nat.le_of_ble_eq_true rfl, Nat.le_of_ble_eq_true rfl⟩, (by dsimp only; omega), (by dsimp only; omega)⟩ rfl (Nat.le_of_ble_eq_true rfl) trivial dX5_withLast_28) hS (fun q z w => absurd w (Nat.not_le.mpr z)) hn (fun r_8 H locs hR hz hk hS => ?_)
  have fa := fa.kept (hk _ fa.lt (Nat.not_le.mpr fa.lt))
  have fR2 := fR2.kept (hk _ fR2.lt (Nat.not_le.mpr fR2.lt))
  have fl2 := fl2.kept (hk _ fl2.lt (Nat.not_le.mpr fl2.lt))
  have el2 := el2.new hk
  have he5 := he5.kept (hk _ he5.lt (Nat.not_le.mpr he5.lt))
  have f9 := hR
  refine k_r (pc := 31) (k_V E hC hS hA hl.1 (c1.recv hC fl2 rfl) rfl (c_Jx4a65c_set_bcc79 l D tk N0 sa H.size r_1 bb2 nl2 cap2 j9 qe5 r_8 3 md2 x_4 ff2 ww2 (.long (r_7 + mo.toInt64)) (hA _ g_fR2) (Or.inl rfl) hix (by omega) (by omega) (by omega) hq5) kw_1654 kw_1655 kw_1656 kw_8 kw_1657 (n := 2) (by decide +kernel) rfl ⟨⟨rfl, rfl⟩, ⟨Nat.le_of_ble_eq_true rfl, Nat.le_of_ble_eq_true rfl⟩, (by dsimp only; omega), (by dsimp only; omega)⟩ rfl (Nat.le_of_ble_eq_true rfl) ⟨fl2, fR2, el2, f9⟩ dX5_withLast_31) hS (inA1.to g_fR2) hn (fun r_10 H locs hR hz hk hS => ?_)
  have fa := fa.kept (hk _ fa.lt (inA1.not (clA.ne fa.cla fR2.cla (hC.aa 0 4 rfl rfl (by dsimp only; decide))) fa.lt))
  have he5 := he5.kept (hk _ he5.lt (inA1.not (clA.ne he5.cl fR2.cla (hC.oa 3 4 rfl rfl)) he5.lt))
  have f9 := f9.kept (hk _ f9.lt (inA1.not (clA.ne f9.cl fR2.cla (hC.oa 3 4 rfl rfl)) f9.lt))
  obtain ⟨fl2, fR2, el2⟩ := hR
  refine lv_pop (pc := 34) hx hb dX5_withLast_34 rfl ?_
  refine lv_aload_n (pc := 35) hx hb dX5_withLast_35 rfl (lv_at hl 1 rfl) ?_
  refine lv_iload_n (pc := 36) hx hb dX5_withLast_36 rfl (lv_at hl 0 rfl) ?_
  refine lv_iconst (pc := 37) (v := 1) hx hb dX5_withLast_37 (by decide) ?_
  refine lv_iadd (pc := 38) hx hb dX5_withLast_38 ?_
  have hPF := PF.last (mo := mo.toInt64) (y := r_7 + mo.toInt64) hPT2 (by omega) ev5 (by rcases hmo with rfl | rfl <;> decide) (by rw [er_7])
  have hjL : (m_TE ta ba).length = j9 + 1 := by rw [← hTL2]; exact hj9
  have hxa : xe5 = m_at ta ba j9 := m_lgI ev5 (hTA2 j9 (by omega))
  have hWL : m_WL ta ba mo.toInt64 = m_FD (va_up (m_at ta ba) j9 (r_7 + mo.toInt64)) (j9 + 1) := by
    unfold m_WL
    rw [hjL, Nat.add_sub_cancel, er_7, hxa]
  have hav9 : ∀ i, i < nl2 → va_up ww2 j9 (.long (r_7 + mo.toInt64)) i = .long (va_up (m_at ta ba) j9 (r_7 + mo.toInt64) i) := by
    intro i hi
    by_cases e : i = j9
    · rw [e, va_up_self, va_up_self]
    · rw [va_up_ne _ _ e, va_up_ne _ _ e]
      exact hTA2 i hi
  have hZ0_ := hS.1
  have t_fa := fa.lt
  have t_fR2 := fR2.lt
  have t_he5 := he5.lt
  have t_f9 := f9.lt
  have t_fl2 := fl2.lt
  refine k_o (pc := 39) (k_S E hC hS hA hl.1 (c_X5_folded l D tk N0 sa H.size r_1 bb2 nl2 cap2 md2 (x_4 + 1) (va_up ff2 j9 (some r_8)) (va_up ww2 j9 (.long (r_7 + mo.toInt64))) ((j9 + 1)) _ (by omega) (by omega) (by rw [hix]; exact nI_1 j9) (by omega) (by omega) hPF hav9) kw_1566 kw_1567 kw_5 kw_1568 (n := 2) (by decide +kernel) rfl ⟨⟨rfl, rfl⟩, ⟨Nat.le_of_ble_eq_true rfl, Nat.le_of_ble_eq_true rfl⟩, (by dsimp only; omega), (by dsimp only; omega)⟩ rfl (Nat.le_of_ble_eq_true rfl) ⟨fl2, fR2, el2⟩ dX5_withLast_39) hS (fun q z w => absurd w (Nat.not_le.mpr z)) hn (fun r_11 H locs hR hz hk hS => ?_)
  have fa := fa.kept (hk _ fa.lt (Nat.not_le.mpr fa.lt))
  have fR2 := fR2.kept (hk _ fR2.lt (Nat.not_le.mpr fR2.lt))
  have he5 := he5.kept (hk _ he5.lt (Nat.not_le.mpr he5.lt))
  have f9 := f9.kept (hk _ f9.lt (Nat.not_le.mpr f9.lt))
  have fl2 := fl2.kept (hk _ fl2.lt (Nat.not_le.mpr fl2.lt))
  have el2 := el2.new hk
  rcases hR with ⟨rfl, hv_f12⟩ | ⟨q_f12, tt_f12, bb_f12, rfl, z9_, f12, hb_f12, hv_f12⟩
  · refine r_oret (pc := 42) E hr (Or.inr ⟨_, rfl⟩) hlk hS (by omega) (by omega) none ?_ dX5_withLast_42
    exact Or.inl ⟨rfl, hWL.trans hv_f12⟩
  · have s_f12 : s.heap.size ≤ q_f12 := Nat.le_trans hZ0_ z9_
    have g_f12 := hn _ s_f12
    have l_fa_f12 : pa < q_f12 := Nat.lt_of_lt_of_le t_fa z9_
    have l_fR2_f12 : bb2 < q_f12 := Nat.lt_of_lt_of_le t_fR2 z9_
    have l_he5_f12 : qe5 < q_f12 := Nat.lt_of_lt_of_le t_he5 z9_
    have l_f9_f12 : r_8 < q_f12 := Nat.lt_of_lt_of_le t_f9 z9_
    have l_fl2_f12 : r_1 < q_f12 := Nat.lt_of_lt_of_le t_fl2 z9_
    refine r_oret (pc := 42) E hr (Or.inr ⟨_, rfl⟩) hlk hS (by omega) (by omega) (some q_f12) ?_ dX5_withLast_42
    exact Or.inr ⟨_, _, _, rfl, s_f12, f12, hb_f12, hWL.trans hv_f12⟩
/-! ===== the room of a text that is put together: its parts' sums are known beforehand ===== -/
theorem pre1 {a b r : Nat} (h : a + b ≤ r) : a ≤ r := Nat.le_trans (Nat.le_add_right a b) h
theorem m_sb (c9 q : Nat) : (q ≤ c9 ∧ sbC c9 q = c9 ∧ sbS c9 q = 0) ∨ (c9 < q ∧ sbC c9 q = max q (2 * c9 + 2) ∧ sbS c9 q = max q (2 * c9 + 2)) := by
  unfold sbC sbS
  rcases Nat.lt_or_ge c9 q with h | h
  · rw [if_neg (Nat.not_le.mpr h), if_neg (Nat.not_le.mpr h)]
    exact Or.inr ⟨h, rfl, rfl⟩
  · rw [if_pos h, if_pos h]
    exact Or.inl ⟨h, rfl, rfl⟩
theorem m_cat3g {k1 k2 k3 s1 s2 s3 L p1 d1 : Nat} (h1 : (0 + L ≤ 16 ∧ k1 = 16 ∧ s1 = 0) ∨ (16 < 0 + L ∧ k1 = max (0 + L) (2 * 16 + 2) ∧ s1 = max (0 + L) (2 * 16 + 2))) (h2 : (0 + L + p1 ≤ k1 ∧ k2 = k1 ∧ s2 = 0) ∨ (k1 < 0 + L + p1 ∧ k2 = max (0 + L + p1) (2 * k1 + 2) ∧ s2 = max (0 + L + p1) (2 * k1 + 2))) (h3 : (0 + L + p1 + d1 ≤ k2 ∧ k3 = k2 ∧ s3 = 0) ∨ (k2 < 0 + L + p1 + d1 ∧ k3 = max (0 + L + p1 + d1) (2 * k2 + 2) ∧ s3 = max (0 + L + p1 + d1) (2 * k2 + 2))) (hL : L ≤ 2000) (hp : p1 + d1 ≤ 18) :
    (L + p1 + d1 ≤ 16 → s1 + s2 + s3 = 0) ∧ (L + p1 + d1 ≤ 34 → s1 + s2 + s3 ≤ 34) ∧ s1 + s2 + s3 ≤ 3 * (L + p1 + d1) + 2 ∧ k1 ≤ 500000 ∧ k2 ≤ 500000 ∧ k3 ≤ 100000000 := by
  refine ⟨fun _ => ?_, fun _ => ?_, ?_, ?_, ?_, ?_⟩ <;> omega
theorem m_cat3 {L d1 : Nat} (p1 : Nat) (hL : L ≤ 2000) (hp : p1 + d1 ≤ 18) : (L + p1 + d1 ≤ 16 → sbS 16 (0 + L) + sbS (sbC 16 (0 + L)) (0 + L + p1) + sbS (sbC (sbC 16 (0 + L)) (0 + L + p1)) (0 + L + p1 + d1) = 0) ∧ (L + p1 + d1 ≤ 34 → sbS 16 (0 + L) + sbS (sbC 16 (0 + L)) (0 + L + p1) + sbS (sbC (sbC 16 (0 + L)) (0 + L + p1)) (0 + L + p1 + d1) ≤ 34) ∧ sbS 16 (0 + L) + sbS (sbC 16 (0 + L)) (0 + L + p1) + sbS (sbC (sbC 16 (0 + L)) (0 + L + p1)) (0 + L + p1 + d1) ≤ 3 * (L + p1 + d1) + 2 ∧ sbC 16 (0 + L) ≤ 500000 ∧ sbC (sbC 16 (0 + L)) (0 + L + p1) ≤ 500000 ∧ sbC (sbC (sbC 16 (0 + L)) (0 + L + p1)) (0 + L + p1 + d1) ≤ 100000000 := m_cat3g (m_sb 16 (0 + L)) (m_sb (sbC 16 (0 + L)) (0 + L + p1)) (m_sb (sbC (sbC 16 (0 + L)) (0 + L + p1)) (0 + L + p1 + d1)) hL hp
theorem m_cat4g {k1 k2 k3 k4 s1 s2 s3 s4 L p1 p2 d1 : Nat} (h1 : (0 + L ≤ 16 ∧ k1 = 16 ∧ s1 = 0) ∨ (16 < 0 + L ∧ k1 = max (0 + L) (2 * 16 + 2) ∧ s1 = max (0 + L) (2 * 16 + 2))) (h2 : (0 + L + p1 ≤ k1 ∧ k2 = k1 ∧ s2 = 0) ∨ (k1 < 0 + L + p1 ∧ k2 = max (0 + L + p1) (2 * k1 + 2) ∧ s2 = max (0 + L + p1) (2 * k1 + 2))) (h3 : (0 + L + p1 + p2 ≤ k2 ∧ k3 = k2 ∧ s3 = 0) ∨ (k2 < 0 + L + p1 + p2 ∧ k3 = max (0 + L + p1 + p2) (2 * k2 + 2) ∧ s3 = max (0 + L + p1 + p2) (2 * k2 + 2))) (h4 : (0 + L + p1 + p2 + d1 ≤ k3 ∧ k4 = k3 ∧ s4 = 0) ∨ (k3 < 0 + L + p1 + p2 + d1 ∧ k4 = max (0 + L + p1 + p2 + d1) (2 * k3 + 2) ∧ s4 = max (0 + L + p1 + p2 + d1) (2 * k3 + 2))) (hL : L ≤ 2000) (hp : p1 + p2 + d1 ≤ 18) :
    (L + p1 + p2 + d1 ≤ 16 → s1 + s2 + s3 + s4 = 0) ∧ s1 + s2 + s3 + s4 ≤ 3 * (L + p1 + p2 + d1) + 2 ∧ k1 ≤ 500000 ∧ k2 ≤ 500000 ∧ k3 ≤ 500000 ∧ k4 ≤ 100000000 := by
  refine ⟨fun _ => ?_, ?_, ?_, ?_, ?_, ?_⟩ <;> omega
theorem m_cat4 {L d1 : Nat} (p1 p2 : Nat) (hL : L ≤ 2000) (hp : p1 + p2 + d1 ≤ 18) : (L + p1 + p2 + d1 ≤ 16 → sbS 16 (0 + L) + sbS (sbC 16 (0 + L)) (0 + L + p1) + sbS (sbC (sbC 16 (0 + L)) (0 + L + p1)) (0 + L + p1 + p2) + sbS (sbC (sbC (sbC 16 (0 + L)) (0 + L + p1)) (0 + L + p1 + p2)) (0 + L + p1 + p2 + d1) = 0) ∧ sbS 16 (0 + L) + sbS (sbC 16 (0 + L)) (0 + L + p1) + sbS (sbC (sbC 16 (0 + L)) (0 + L + p1)) (0 + L + p1 + p2) + sbS (sbC (sbC (sbC 16 (0 + L)) (0 + L + p1)) (0 + L + p1 + p2)) (0 + L + p1 + p2 + d1) ≤ 3 * (L + p1 + p2 + d1) + 2 ∧ sbC 16 (0 + L) ≤ 500000 ∧ sbC (sbC 16 (0 + L)) (0 + L + p1) ≤ 500000 ∧ sbC (sbC (sbC 16 (0 + L)) (0 + L + p1)) (0 + L + p1 + p2) ≤ 500000 ∧ sbC (sbC (sbC (sbC 16 (0 + L)) (0 + L + p1)) (0 + L + p1 + p2)) (0 + L + p1 + p2 + d1) ≤ 100000000 := m_cat4g (m_sb 16 (0 + L)) (m_sb (sbC 16 (0 + L)) (0 + L + p1)) (m_sb (sbC (sbC 16 (0 + L)) (0 + L + p1)) (0 + L + p1 + p2)) (m_sb (sbC (sbC (sbC 16 (0 + L)) (0 + L + p1)) (0 + L + p1 + p2)) (0 + L + p1 + p2 + d1)) hL hp
theorem m_sbk (c9 q : Nat) : (q ≤ c9 ∧ sbC c9 q = c9 ∧ sbS c9 q = 0 ∧ sbK c9 q = 0) ∨ (c9 < q ∧ sbC c9 q = max q (2 * c9 + 2) ∧ sbS c9 q = max q (2 * c9 + 2) ∧ sbK c9 q = 1) := by
  unfold sbC sbS sbK
  rcases Nat.lt_or_ge c9 q with h | h
  · rw [if_neg (Nat.not_le.mpr h), if_neg (Nat.not_le.mpr h), if_neg (Nat.not_le.mpr h)]
    exact Or.inr ⟨h, rfl, rfl, rfl⟩
  · rw [if_pos h, if_pos h, if_pos h]
    exact Or.inl ⟨h, rfl, rfl, rfl⟩
theorem m_ct3g {k1 k2 k3 s1 s2 s3 j1 j2 j3 p1 p2 p3 : Nat} (h1 : (0 + p1 ≤ 16 ∧ k1 = 16 ∧ s1 = 0 ∧ j1 = 0) ∨ (16 < 0 + p1 ∧ k1 = max (0 + p1) (2 * 16 + 2) ∧ s1 = max (0 + p1) (2 * 16 + 2) ∧ j1 = 1)) (h2 : (0 + p1 + p2 ≤ k1 ∧ k2 = k1 ∧ s2 = 0 ∧ j2 = 0) ∨ (k1 < 0 + p1 + p2 ∧ k2 = max (0 + p1 + p2) (2 * k1 + 2) ∧ s2 = max (0 + p1 + p2) (2 * k1 + 2) ∧ j2 = 1)) (h3 : (0 + p1 + p2 + p3 ≤ k2 ∧ k3 = k2 ∧ s3 = 0 ∧ j3 = 0) ∨ (k2 < 0 + p1 + p2 + p3 ∧ k3 = max (0 + p1 + p2 + p3) (2 * k2 + 2) ∧ s3 = max (0 + p1 + p2 + p3) (2 * k2 + 2) ∧ j3 = 1)) (hp : p1 + p2 + p3 ≤ 34) :
    (p1 + p2 + p3 ≤ 16 → s1 + s2 + s3 = 0 ∧ j1 + j2 + j3 = 0) ∧ s1 + s2 + s3 ≤ 34 ∧ j1 + j2 + j3 ≤ 1 ∧ k1 ≤ 500000 ∧ k2 ≤ 500000 ∧ k3 ≤ 500000 := by
  refine ⟨fun _ => ⟨?_, ?_⟩, ?_, ?_, ?_, ?_, ?_⟩ <;> omega
theorem m_ct3 (p1 p2 p3 : Nat) (hp : p1 + p2 + p3 ≤ 34) : (p1 + p2 + p3 ≤ 16 → sbS 16 (0 + p1) + sbS (sbC 16 (0 + p1)) (0 + p1 + p2) + sbS (sbC (sbC 16 (0 + p1)) (0 + p1 + p2)) (0 + p1 + p2 + p3) = 0 ∧ sbK 16 (0 + p1) + sbK (sbC 16 (0 + p1)) (0 + p1 + p2) + sbK (sbC (sbC 16 (0 + p1)) (0 + p1 + p2)) (0 + p1 + p2 + p3) = 0) ∧ sbS 16 (0 + p1) + sbS (sbC 16 (0 + p1)) (0 + p1 + p2) + sbS (sbC (sbC 16 (0 + p1)) (0 + p1 + p2)) (0 + p1 + p2 + p3) ≤ 34 ∧ sbK 16 (0 + p1) + sbK (sbC 16 (0 + p1)) (0 + p1 + p2) + sbK (sbC (sbC 16 (0 + p1)) (0 + p1 + p2)) (0 + p1 + p2 + p3) ≤ 1 ∧ sbC 16 (0 + p1) ≤ 500000 ∧ sbC (sbC 16 (0 + p1)) (0 + p1 + p2) ≤ 500000 ∧ sbC (sbC (sbC 16 (0 + p1)) (0 + p1 + p2)) (0 + p1 + p2 + p3) ≤ 500000 := m_ct3g (m_sbk 16 (0 + p1)) (m_sbk (sbC 16 (0 + p1)) (0 + p1 + p2)) (m_sbk (sbC (sbC 16 (0 + p1)) (0 + p1 + p2)) (0 + p1 + p2 + p3)) hp
theorem m_ct2g {k1 k2 s1 s2 j1 j2 p1 p2 : Nat} (h1 : (0 + p1 ≤ 16 ∧ k1 = 16 ∧ s1 = 0 ∧ j1 = 0) ∨ (16 < 0 + p1 ∧ k1 = max (0 + p1) (2 * 16 + 2) ∧ s1 = max (0 + p1) (2 * 16 + 2) ∧ j1 = 1)) (h2 : (0 + p1 + p2 ≤ k1 ∧ k2 = k1 ∧ s2 = 0 ∧ j2 = 0) ∨ (k1 < 0 + p1 + p2 ∧ k2 = max (0 + p1 + p2) (2 * k1 + 2) ∧ s2 = max (0 + p1 + p2) (2 * k1 + 2) ∧ j2 = 1)) (hp : p1 + p2 ≤ 34) :
    (p1 + p2 ≤ 16 → s1 + s2 = 0 ∧ j1 + j2 = 0) ∧ s1 + s2 ≤ 34 ∧ j1 + j2 ≤ 1 ∧ k1 ≤ 500000 ∧ k2 ≤ 500000 := by
  refine ⟨fun _ => ⟨?_, ?_⟩, ?_, ?_, ?_, ?_⟩ <;> omega
theorem m_ct2 (p1 p2 : Nat) (hp : p1 + p2 ≤ 34) : (p1 + p2 ≤ 16 → sbS 16 (0 + p1) + sbS (sbC 16 (0 + p1)) (0 + p1 + p2) = 0 ∧ sbK 16 (0 + p1) + sbK (sbC 16 (0 + p1)) (0 + p1 + p2) = 0) ∧ sbS 16 (0 + p1) + sbS (sbC 16 (0 + p1)) (0 + p1 + p2) ≤ 34 ∧ sbK 16 (0 + p1) + sbK (sbC 16 (0 + p1)) (0 + p1 + p2) ≤ 1 ∧ sbC 16 (0 + p1) ≤ 500000 ∧ sbC (sbC 16 (0 + p1)) (0 + p1 + p2) ≤ 500000 := m_ct2g (m_sbk 16 (0 + p1)) (m_sbk (sbC 16 (0 + p1)) (0 + p1 + p2)) hp
theorem m_dg1 (x : Int64) : 1 ≤ dgJ x := by
  have := ndg_pos 19 x.toInt.natAbs
  unfold dgJ
  omega
def m_dG (n : Nat) : Nat := if n ≤ 14 then 0 else 1
theorem m_dG1 (n : Nat) : (n ≤ 14 → m_dG n = 0) ∧ (14 < n → m_dG n = 1) := ⟨fun h => if_pos h, fun h => if_neg (by omega)⟩
/-! ===== a folding that cannot grow too great ===== -/
def FU (n : Nat) (w : Nat → Value) : Prop := ∃ U : Nat → Int, (∀ i, i + 1 = n → ∀ x : Int64, w i = .long x → x.toInt ≤ U i) ∧ 1 ≤ U n ∧ (∀ i, i + 1 < n → ∀ x : Int64, w i = .long x → x.toInt * U (i + 1) + U (i + 2) ≤ U i) ∧ ∀ i, 1 ≤ i → i < n → U i ≤ 4000000000
theorem m_foldE {T B x y : Int64} (hT : 1 ≤ T.toInt) (hT2 : T ≤ 4000000000) (hB : 1 ≤ B.toInt ∧ B.toInt ≤ 4000000000) (hx : x.toInt.natAbs ≤ 1000000010) (hy : y = x * T + B) : y.toInt = x.toInt * T.toInt + B.toInt := by
  have h1 : T.toInt ≤ 4000000000 := by
    have := Int64.le_iff_toInt_le.mp hT2
    have e : (4000000000 : Int64).toInt = 4000000000 := by decide
    omega
  obtain ⟨e1, e2⟩ := m_mulB (x := x) (y := T) (B := 1000000010) (C := 4000000000) hx (by omega) (by decide)
  obtain ⟨f1, f2⟩ := m_addB (x := x * T) (y := B) (B := 1000000010 * 4000000000) (C := 4000000000) e2 (by omega) (by decide)
  rw [hy, f1, e1]
theorem m_foldU {x T B U0 U1 U2 : Int} (hx : 0 ≤ x) (h : x * U1 + U2 ≤ U0) (h1 : T ≤ U1) (h2 : B ≤ U2) : x * T + B ≤ U0 := by
  have := Int.mul_le_mul_of_nonneg_left h1 hx
  omega
theorem m_le4 {T : Int64} {u : Int} (h : T.toInt ≤ u) (h2 : u ≤ 4000000000) : T ≤ 4000000000 := Int64.le_iff_toInt_le.mpr (by have e : (4000000000 : Int64).toInt = 4000000000 := by decide
                                                                                                                              omega)
theorem EU.last {n j : Nat} {w : Nat → Value} {t g : Int} {T : Nat → Int} {x : Int64} (e0 : T 0 = t) (e1 : T n = g) (e2 : T (n + 1) = 0) (e3 : ∀ i, i < n → ∃ x : Int64, w i = .long x ∧ x.toInt * T (i + 1) + T (i + 2) = T i) (e4 : ∀ i, 1 ≤ i → i ≤ n → 1 ≤ T i ∧ T i ≤ 1000000000) (hj : j + 1 = n) (ht : 1 ≤ t) (hx : w j = .long x) : 1 ≤ x.toInt ∧ x.toInt ≤ T j := by
  obtain ⟨x1, y1, y2⟩ := e3 j (by omega)
  have ex : x1 = x := by rw [hx] at y1; exact (Value.long.inj y1).symm
  rw [ex, hj, show j + 2 = n + 1 by omega, e2, e1] at y2
  have hg := (e4 n (by omega) (Nat.le_refl n)).1
  rw [e1] at hg
  have hT : 1 ≤ T j := by
    rcases Nat.eq_zero_or_pos j with z | z
    · rw [z, e0]; exact ht
    · exact (e4 j z (by omega)).1
  have h1 : 1 ≤ x.toInt := by
    rcases Int.lt_or_le 0 x.toInt with z | z
    · omega
    · have := Int.mul_le_mul_of_nonneg_right z (show 0 ≤ g by omega)
      omega
  have h2 := Int.mul_le_mul_of_nonneg_left hg (show 0 ≤ x.toInt by omega)
  exact ⟨h1, by omega⟩
theorem EU.up {n j : Nat} {w : Nat → Value} {t g : Int} {x y : Int64} (h : EU n w t g 0) (hj : j + 1 = n) (ht : 1 ≤ t) (hx : w j = .long x) (hy : y.toInt = x.toInt + 1) : FU n (va_up w j (.long y)) := by
  obtain ⟨T, e0, e1, e2, e3, e4⟩ := h
  obtain ⟨h1, h2⟩ := EU.last e0 e1 e2 e3 e4 hj ht hx
  refine ⟨fun i => 2 * T i, fun i hi z hz => ?_, ?_, fun i hi z hz => ?_, fun i g1 g2 => ?_⟩
  · have e : i = j := by omega
    rw [e, va_up_self] at hz
    have ez : z = y := (Value.long.inj hz).symm
    show z.toInt ≤ 2 * T i
    rw [ez, hy, e]
    omega
  · show 1 ≤ 2 * T n
    have := (e4 n (by omega) (Nat.le_refl n)).1
    omega
  · rw [va_up_ne _ _ (by omega)] at hz
    obtain ⟨x1, y1, y2⟩ := e3 i (by omega)
    have ez : z = x1 := by rw [hz] at y1; exact Value.long.inj y1
    show z.toInt * (2 * T (i + 1)) + 2 * T (i + 2) ≤ 2 * T i
    rw [ez, Int.mul_left_comm]
    omega
  · show 2 * T i ≤ 4000000000
    have := (e4 i g1 (by omega)).2
    omega
theorem EU.two {n j : Nat} {w : Nat → Value} {t g : Int} {x y : Int64} (h : EU n w t g 0) (hj : j + 1 = n) (ht : 1 ≤ t) (hx : w j = .long x) (hy : y.toInt = x.toInt - 1) : FU (n + 1) (va_up (va_up w j (.long y)) n (.long 2)) := by
  obtain ⟨T, e0, e1, e2, e3, e4⟩ := h
  obtain ⟨h1, h2⟩ := EU.last e0 e1 e2 e3 e4 hj ht hx
  have hg := (e4 n (by omega) (Nat.le_refl n)).1
  refine ⟨fun i => if i = n + 1 then 1 else if i = n then 2 else 2 * T i, fun i hi z hz => ?_, ?_, fun i hi z hz => ?_, fun i g1 g2 => ?_⟩
  · have e : i = n := by omega
    rw [e, va_up_self] at hz
    have ez : z = 2 := (Value.long.inj hz).symm
    show z.toInt ≤ (if i = n + 1 then 1 else if i = n then 2 else 2 * T i)
    rw [ez, if_neg (by omega), if_pos e]
    decide
  · show (1 : Int) ≤ (if n + 1 = n + 1 then 1 else if n + 1 = n then 2 else 2 * T (n + 1))
    rw [if_pos rfl]
    decide
  · rw [va_up_ne _ _ (by omega)] at hz
    show z.toInt * (if i + 1 = n + 1 then 1 else if i + 1 = n then 2 else 2 * T (i + 1)) + (if i + 2 = n + 1 then 1 else if i + 2 = n then 2 else 2 * T (i + 2)) ≤ (if i = n + 1 then 1 else if i = n then 2 else 2 * T i)
    have q0 : (if i = n + 1 then (1 : Int) else if i = n then 2 else 2 * T i) = 2 * T i := by rw [if_neg (by omega), if_neg (by omega)]
    rw [q0]
    by_cases e : i = j
    · rw [e, va_up_self] at hz
      have ez : z = y := (Value.long.inj hz).symm
      have q1 : (if i + 1 = n + 1 then (1 : Int) else if i + 1 = n then 2 else 2 * T (i + 1)) = 2 := by rw [if_neg (by omega), if_pos (by omega)]
      have q2 : (if i + 2 = n + 1 then (1 : Int) else if i + 2 = n then 2 else 2 * T (i + 2)) = 1 := by rw [if_pos (by omega)]
      rw [q1, q2, ez, hy, e]
      omega
    · rw [va_up_ne _ _ e] at hz
      obtain ⟨x1, y1, y2⟩ := e3 i (by omega)
      have ez : z = x1 := by rw [hz] at y1; exact Value.long.inj y1
      have q1 : (if i + 1 = n + 1 then (1 : Int) else if i + 1 = n then 2 else 2 * T (i + 1)) = 2 * T (i + 1) := by rw [if_neg (by omega), if_neg (by omega)]
      have q2 : (if i + 2 = n + 1 then (1 : Int) else if i + 2 = n then 2 else 2 * T (i + 2)) ≤ 2 * T (i + 2) := by
        rw [if_neg (by omega)]
        by_cases e5 : i + 2 = n
        · rw [if_pos e5, e5]
          omega
        · rw [if_neg e5]
          exact Int.le_refl _
      rw [q1, ez, Int.mul_left_comm]
      omega
  · show (if i = n + 1 then (1 : Int) else if i = n then 2 else 2 * T i) ≤ 4000000000
    rw [if_neg (by omega)]
    by_cases e : i = n
    · rw [if_pos e]
      decide
    · rw [if_neg e]
      have := (e4 i g1 (by omega)).2
      omega
theorem PF.add {n : Nat} {w : Nat → Value} {y : Int64} (h : PF n w) (h1 : 1 ≤ y.toInt) (h2 : y.toInt.natAbs ≤ 1000000010) : PF (n + 1) (va_up w n (.long y)) := by
  intro i hi
  by_cases e : i = n
  · rw [e]
    exact ⟨y, va_up_self _ _ _, h2, fun _ => h1⟩
  · obtain ⟨x2, g1, g2, g3⟩ := h i (by omega)
    exact ⟨x2, by rw [va_up_ne _ _ e]; exact g1, g2, g3⟩
theorem m_sub1 {r x : Int64} (h : r = x) (h2 : x.toInt.natAbs ≤ 1000000010) : (r - 1).toInt = x.toInt - 1 := by
  have e1 : (1 : Int64).toInt = 1 := rfl
  rw [h, (m_subB (x := x) (y := 1) (B := 1000000010) (C := 1) h2 (by decide) (by decide)).1, e1]
theorem m_pls1 {r x : Int64} {mo : Int32} (h : r = x) (hm : mo = 1) (h2 : x.toInt.natAbs ≤ 1000000010) : (r + mo.toInt64).toInt = x.toInt + 1 := by
  have e1 : (1 : Int32).toInt64.toInt = 1 := by decide
  rw [h, hm, (m_addB (x := x) (y := (1 : Int32).toInt64) (B := 1000000010) (C := 1) h2 (by decide) (by decide)).1, e1]
theorem c1.ofcap {D : va_G} {tk : Nat → ClassId} {b cap n : Nat} {f : Nat → Option Nat} {H : Heap} (h : c1 D b (.inl (tk 4, cap, .inr (.inr (.inr (.inr f))))) H) (e : cap = n) : c1 D b (.inl (tk 4, n, .inr (.inr (.inr (.inr f))))) H := e ▸ h
set_option maxHeartbeats 20000000 in
set_option maxRecDepth 100000 in
theorem g2_X5_told {p : Program} {l : Launch} {e : Env} {s : State} {m : MethodId} {args : Array Value} {below : List Frame} {meth : Method} {c : Code} {Q : State → Prop} {D : va_G} {tk : Nat → ClassId} {N0 : Nat} {sa : Nat → Nat} (E : CallFix p m c cX5_told 5 s args (wsy yX5_told cX5_told 5 (some (.object "java/lang/String"))) RX5) (hC : Ctx D tk N0 sa s) (hA : ∀ q, (nwA s.heap.size) q → N0 ≤ q) (hn : ∀ q, s.heap.size ≤ q → (nwA s.heap.size) q) (hr : meth.sig.returnType = (some (.object "java/lang/String"))) (hlk : meth.locks = false) (a : Nat) (b : Nat) (ln : Nat) (cap : Nat) (md : Int32) (f : Nat → Option Nat) (vs : Nat → Value) (hnc : ln ≤ cap) (hcap : cap ≤ 1000) (hl9 : ln ≤ 43) (hPV : PV ln vs) (r_2 : Nat) (v_13 : Nat) (qf9 : Nat) (r_8 : Int64) (n : Nat) (k : Nat) (l9 : Nat) (lr : Int32) (q9 : Nat) (hf9 : 44 - k < n + 1) (hk9 : k ≤ ln) (hl8 : l9 ≤ 12 * k) (ih_8 : ∀ (k : Nat) (l9 : Nat) (lr : Int32)(q9 : Nat), 44 - k < n → k ≤ ln → l9 ≤ 12 * k → ∀ (H : Heap) (locs : List Loc) (ls : Array Slot), va_S (nwA s.heap.size) s.heap H locs → c1 D a (.inr (7, [.int md, .ref b, .int (nI ln)])) H → c1 D b (.inl (tk 4, cap, .inr (.inr (.inr (.inr f))))) H → EL D 3 ln f vs H → SX D tk q9 l9 H → c1 D r_2 (.inr (6, [.int (nI k), .int lr, .int md, .ref a])) H → lv_has ls 5 [(0, .ref a), (1, .ref q9), (2, .ref r_2)] → W p l e ({ frames := 6, cells := 302, slots := 56764, locals := 137 } : Room) s m args below meth c H locs (1 + 7 * k) (4 + m_tS k) Q (F0 m 8 ls [])) (b0_ : Nat) (hkn : k < ln) (hd11 : dgJ r_8 ≤ 11) (hl4 : l9 ≤ 400000) (hcA : sbC 16 (0 + l9) ≤ 500000) (hcB : sbC (sbC 16 (0 + l9)) (0 + l9 + 1) ≤ 500000) (hcC : sbC (sbC (sbC 16 (0 + l9)) (0 + l9 + 1)) (0 + l9 + 1 + dgJ r_8) ≤ 100000000) (hTc1 : 1 + 7 * k + 0 + 0 + 0 + 1 + 1 + (sbK 16 (0 + l9)) + 0 + (sbK (sbC 16 (0 + l9)) ((0 + l9) + 1)) + (sbK (sbC (sbC 16 (0 + l9)) ((0 + l9) + 1)) (((0 + l9) + 1) + dgJ r_8)) + 2 ≤ 302) (hTs1 : 4 + m_tS k + 0 + 0 + 0 + 4 + 16 + (sbS 16 (0 + l9)) + 0 + (sbS (sbC 16 (0 + l9)) ((0 + l9) + 1)) + (sbS (sbC (sbC 16 (0 + l9)) ((0 + l9) + 1)) (((0 + l9) + 1) + dgJ r_8)) + (4 + (((0 + l9) + 1) + dgJ r_8)) ≤ 56764) (hWc1 : 1 + 7 * k + 0 + 0 + 0 + 1 + 1 + (sbK 16 (0 + l9)) + 0 + (sbK (sbC 16 (0 + l9)) ((0 + l9) + 1)) + (sbK (sbC (sbC 16 (0 + l9)) ((0 + l9) + 1)) (((0 + l9) + 1) + dgJ r_8)) + 2 ≤ 1 + 7 * (k + 1)) (hWs1 : 4 + m_tS k + 0 + 0 + 0 + 4 + 16 + (sbS 16 (0 + l9)) + 0 + (sbS (sbC 16 (0 + l9)) ((0 + l9) + 1)) + (sbS (sbC (sbC 16 (0 + l9)) ((0 + l9) + 1)) (((0 + l9) + 1) + dgJ r_8)) + (4 + (((0 + l9) + 1) + dgJ r_8)) ≤ 4 + m_tS (k + 1)) (hTc2 : 1 + 7 * k + 0 + 0 + 0 + 1 + 1 + (sbK 16 (0 + l9)) + 0 + (sbK (sbC 16 (0 + l9)) ((0 + l9) + 0)) + (sbK (sbC (sbC 16 (0 + l9)) ((0 + l9) + 0)) (((0 + l9) + 0) + dgJ r_8)) + 2 ≤ 302) (hTs2 : 4 + m_tS k + 0 + 0 + 0 + 4 + 16 + (sbS 16 (0 + l9)) + 0 + (sbS (sbC 16 (0 + l9)) ((0 + l9) + 0)) + (sbS (sbC (sbC 16 (0 + l9)) ((0 + l9) + 0)) (((0 + l9) + 0) + dgJ r_8)) + (4 + (((0 + l9) + 0) + dgJ r_8)) ≤ 56764) (hWc2 : 1 + 7 * k + 0 + 0 + 0 + 1 + 1 + (sbK 16 (0 + l9)) + 0 + (sbK (sbC 16 (0 + l9)) ((0 + l9) + 0)) + (sbK (sbC (sbC 16 (0 + l9)) ((0 + l9) + 0)) (((0 + l9) + 0) + dgJ r_8)) + 2 ≤ 1 + 7 * (k + 1)) (hWs2 : 4 + m_tS k + 0 + 0 + 0 + 4 + 16 + (sbS 16 (0 + l9)) + 0 + (sbS (sbC 16 (0 + l9)) ((0 + l9) + 0)) + (sbS (sbC (sbC 16 (0 + l9)) ((0 + l9) + 0)) (((0 + l9) + 0) + dgJ r_8)) + (4 + (((0 + l9) + 0) + dgJ r_8)) ≤ 4 + m_tS (k + 1)) (H : Heap) (locs : List Loc) (ls : Array Slot) (hS : va_S (nwA s.heap.size) s.heap H locs) (f0 : c1 D a (.inr (7, [.int md, .ref b, .int (nI ln)])) H) (fR : c1 D b (.inl (tk 4, cap, .inr (.inr (.inr (.inr (f)))))) H) (el : EL D 3 ln f vs H) (h0s : xf D 0 q9 0 (.ref b0_) H) (h1s : xf D 0 q9 1 (.int 0) H) (h2s : BX tk b0_ l9 H) (f3 : c1 D r_2 (.inr (6, [.int (nI (k + 1)), .int (nI k), .int md, .ref a])) H) (f9 : c1 D qf9 (.inr (1, [.ref v_13, .int 0, .int 0, .int (nI (0 + l9))])) H) (f11 : BA D tk v_13 (sbC 16 (0 + l9)) H) (k16 : SX D tk (sa (10 + 8)) 1 H) (s_f9 : s.heap.size ≤ qf9) (g_f9 : (nwA s.heap.size) qf9) (g_f11 : (nwA s.heap.size) v_13) (l_f0_f11 : a < v_13) (l_f0_f9 : a < qf9) (l_f3_f11 : r_2 < v_13) (l_f3_f9 : r_2 < qf9) (l_f9_f11 : qf9 < v_13) (l_fR_f11 : b < v_13) (l_fR_f9 : b < qf9) (l_h0s_f11 : q9 < v_13) (l_h0s_f9 : q9 < qf9) (l_h1s_f11 : q9 < v_13) (l_h1s_f9 : q9 < qf9) (l_h2s_f11 : b0_ < v_13) (l_h2s_f9 : b0_ < qf9) (hl : lv_has ls 5 [(3, .long r_8), (0, .ref a), (1, .ref q9), (2, .ref r_2)]) : W p l e ({ frames := 6, cells := 302, slots := 56764, locals := 137 } : Room) s m args below meth c H locs (1 + 7 * k + 0 + 0 + 0 + 1 + 1 + (sbK 16 (0 + l9)) + 0) (4 + m_tS k + 0 + 0 + 0 + 4 + 16 + (sbS 16 (0 + l9)) + 0) Q (F0 m 55 ls [.ref (sa (10 + 8)), .ref qf9]) := by
  obtain ⟨hx, hb, -⟩ := id E
  have hZ0_ := hS.1
  have t_f0 := f0.lt
  have t_fR := fR.lt
  have t_h0s := h0s.lt
  have t_h1s := h1s.lt
  have t_h2s := h2s.lt
  have t_f3 := f3.lt
  have t_f9 := f9.lt
  have t_f11 := f11.lt
  have t_k16 := k16.lt
  refine k_r (pc := 55) (k_V E hC hS hA hl.1 (c1.recv hC f9 rfl) rfl (c_J4_append_15ec4 l D tk N0 sa H.size qf9 v_13 (sbC 16 (0 + l9)) (0 + l9) (sa (10 + 8)) 1 0 (hA _ g_f9) (hA _ g_f11) (sbC_ge _ _).1 hcA (by decide)) kw_1353 kw_399 kw_400 kw_19 kw_401 (n := 1) (by decide +kernel) rfl ⟨⟨rfl, rfl⟩, ⟨Nat.le_of_ble_eq_true rfl, Nat.le_of_ble_eq_true rfl⟩, (pre1 (pre1 hTc1)), (pre1 (pre1 hTs1))⟩ rfl (Nat.le_of_ble_eq_true rfl) ⟨f9, f11, k16⟩ dX5_told_55) hS (inA2.to g_f9 g_f11) hn (fun r_17 H locs hR hz hk hS => ?_)
  have f0 := f0.kept (hk _ f0.lt (inA2.not (clA.ne f0.cl f9.cl (hC.oo 7 1 rfl rfl (by decide))) (clA.ne f0.cl f11.cl (hC.oa 7 1 rfl rfl)) f0.lt))
  have fR := fR.kept (hk _ fR.lt (inA2.not (clA.ne fR.cla f9.cl (hC.ao 1 4 rfl rfl)) (clA.ne fR.cla f11.cl (hC.aa 4 1 rfl rfl (by dsimp only; decide))) fR.lt))
  have el := el.keep2 hk (fun q9 h9 => clA.ne h9 f9.cl (hC.ceo (Or.inl rfl) 1 rfl (by decide))) (fun q9 h9 => clA.ne h9 f11.cl (hC.cea (Or.inl rfl) 1 rfl))
  have h0s := h0s.kept (hk _ h0s.lt (inA2.not (clA.ne h0s.cl f9.cl (hC.oo 0 1 rfl rfl (by decide))) (clA.ne h0s.cl f11.cl (hC.oa 0 1 rfl rfl)) h0s.lt))
  have h1s := h1s.kept (hk _ h1s.lt (inA2.not (clA.ne h1s.cl f9.cl (hC.oo 0 1 rfl rfl (by decide))) (clA.ne h1s.cl f11.cl (hC.oa 0 1 rfl rfl)) h1s.lt))
  have h2s := h2s.kept (hk _ h2s.lt (inA2.not (h2s.neo hC f9.cl (ci := 1) rfl) (Nat.ne_of_lt l_h2s_f11) h2s.lt))
  have f3 := f3.kept (hk _ f3.lt (inA2.not (clA.ne f3.cl f9.cl (hC.oo 6 1 rfl rfl (by decide))) (clA.ne f3.cl f11.cl (hC.oa 6 1 rfl rfl)) f3.lt))
  obtain ⟨er9, hR⟩ := hR
  rw [er9]
  obtain ⟨v_18, hv_18, f9, f11⟩ := hR
  have g_f11 := hv_18.elim (fun e9 => e9 ▸ g_f11) (fun z9 => hn _ (Nat.le_trans hZ0_ z9))
  have l_f0_f11 : a < v_18 := hv_18.elim (fun e9 => e9 ▸ l_f0_f11) (fun z9 => Nat.lt_of_lt_of_le t_f0 z9)
  have l_fR_f11 : b < v_18 := hv_18.elim (fun e9 => e9 ▸ l_fR_f11) (fun z9 => Nat.lt_of_lt_of_le t_fR z9)
  have l_h0s_f11 : q9 < v_18 := hv_18.elim (fun e9 => e9 ▸ l_h0s_f11) (fun z9 => Nat.lt_of_lt_of_le t_h0s z9)
  have l_h1s_f11 : q9 < v_18 := hv_18.elim (fun e9 => e9 ▸ l_h1s_f11) (fun z9 => Nat.lt_of_lt_of_le t_h1s z9)
  have l_h2s_f11 : b0_ < v_18 := hv_18.elim (fun e9 => e9 ▸ l_h2s_f11) (fun z9 => Nat.lt_of_lt_of_le t_h2s z9)
  have l_f3_f11 : r_2 < v_18 := hv_18.elim (fun e9 => e9 ▸ l_f3_f11) (fun z9 => Nat.lt_of_lt_of_le t_f3 z9)
  have l_f9_f11 : qf9 < v_18 := hv_18.elim (fun e9 => e9 ▸ l_f9_f11) (fun z9 => Nat.lt_of_lt_of_le t_f9 z9)
  have hv_18 := hv_18.imp_right (fun z9 => Nat.le_trans hZ0_ z9)
  refine lv_lload_n (pc := 58) hx hb dX5_told_58 rfl (lv_at hl 0 rfl) ?_
  have hZ0_ := hS.1
  have t_f0 := f0.lt
  have t_fR := fR.lt
  have t_h0s := h0s.lt
  have t_h1s := h1s.lt
  have t_h2s := h2s.lt
  have t_f3 := f3.lt
  have t_f9 := f9.lt
  have t_f11 := f11.lt
  refine k_r (pc := 59) (k_V E hC hS hA hl.1 (c1.recv hC f9 rfl) rfl (c_J4_append_f7089 l D tk N0 sa H.size qf9 v_18 (sbC (sbC 16 (0 + l9)) ((0 + l9) + 1)) ((0 + l9) + 1) 0 r_8 (hA _ g_f9) (hA _ g_f11) (sbC_ge _ _).1 hcB) kw_1354 kw_1355 kw_1356 kw_19 kw_1357 (n := 1) (by decide +kernel) rfl ⟨⟨rfl, rfl⟩, ⟨Nat.le_of_ble_eq_true rfl, Nat.le_of_ble_eq_true rfl⟩, (pre1 hTc1), (pre1 hTs1)⟩ rfl (Nat.le_of_ble_eq_true rfl) ⟨f9, f11⟩ dX5_told_59) hS (inA2.to g_f9 g_f11) hn (fun r_19 H locs hR hz hk hS => ?_)
  have f0 := f0.kept (hk _ f0.lt (inA2.not (clA.ne f0.cl f9.cl (hC.oo 7 1 rfl rfl (by decide))) (clA.ne f0.cl f11.cl (hC.oa 7 1 rfl rfl)) f0.lt))
  have fR := fR.kept (hk _ fR.lt (inA2.not (clA.ne fR.cla f9.cl (hC.ao 1 4 rfl rfl)) (clA.ne fR.cla f11.cl (hC.aa 4 1 rfl rfl (by dsimp only; decide))) fR.lt))
  have el := el.keep2 hk (fun q9 h9 => clA.ne h9 f9.cl (hC.ceo (Or.inl rfl) 1 rfl (by decide))) (fun q9 h9 => clA.ne h9 f11.cl (hC.cea (Or.inl rfl) 1 rfl))
  have h0s := h0s.kept (hk _ h0s.lt (inA2.not (clA.ne h0s.cl f9.cl (hC.oo 0 1 rfl rfl (by decide))) (clA.ne h0s.cl f11.cl (hC.oa 0 1 rfl rfl)) h0s.lt))
  have h1s := h1s.kept (hk _ h1s.lt (inA2.not (clA.ne h1s.cl f9.cl (hC.oo 0 1 rfl rfl (by decide))) (clA.ne h1s.cl f11.cl (hC.oa 0 1 rfl rfl)) h1s.lt))
  have h2s := h2s.kept (hk _ h2s.lt (inA2.not (h2s.neo hC f9.cl (ci := 1) rfl) (Nat.ne_of_lt l_h2s_f11) h2s.lt))
  have f3 := f3.kept (hk _ f3.lt (inA2.not (clA.ne f3.cl f9.cl (hC.oo 6 1 rfl rfl (by decide))) (clA.ne f3.cl f11.cl (hC.oa 6 1 rfl rfl)) f3.lt))
  obtain ⟨er9, hR⟩ := hR
  rw [er9]
  obtain ⟨v_20, hv_20, f9, f11⟩ := hR
  have g_f11 := hv_20.elim (fun e9 => e9 ▸ g_f11) (fun z9 => hn _ (Nat.le_trans hZ0_ z9))
  have l_f0_f11 : a < v_20 := hv_20.elim (fun e9 => e9 ▸ l_f0_f11) (fun z9 => Nat.lt_of_lt_of_le t_f0 z9)
  have l_fR_f11 : b < v_20 := hv_20.elim (fun e9 => e9 ▸ l_fR_f11) (fun z9 => Nat.lt_of_lt_of_le t_fR z9)
  have l_h0s_f11 : q9 < v_20 := hv_20.elim (fun e9 => e9 ▸ l_h0s_f11) (fun z9 => Nat.lt_of_lt_of_le t_h0s z9)
  have l_h1s_f11 : q9 < v_20 := hv_20.elim (fun e9 => e9 ▸ l_h1s_f11) (fun z9 => Nat.lt_of_lt_of_le t_h1s z9)
  have l_h2s_f11 : b0_ < v_20 := hv_20.elim (fun e9 => e9 ▸ l_h2s_f11) (fun z9 => Nat.lt_of_lt_of_le t_h2s z9)
  have l_f3_f11 : r_2 < v_20 := hv_20.elim (fun e9 => e9 ▸ l_f3_f11) (fun z9 => Nat.lt_of_lt_of_le t_f3 z9)
  have l_f9_f11 : qf9 < v_20 := hv_20.elim (fun e9 => e9 ▸ l_f9_f11) (fun z9 => Nat.lt_of_lt_of_le t_f9 z9)
  have hv_20 := hv_20.imp_right (fun z9 => Nat.le_trans hZ0_ z9)
  have hv_20 := hv_20.elim (fun e9 => e9 ▸ hv_18) Or.inr
  have hZ0_ := hS.1
  have t_f0 := f0.lt
  have t_fR := fR.lt
  have t_h0s := h0s.lt
  have t_h1s := h1s.lt
  have t_h2s := h2s.lt
  have t_f3 := f3.lt
  have t_f9 := f9.lt
  have t_f11 := f11.lt
  refine k_r (pc := 62) (k_V E hC hS hA hl.1 (c1.recv hC f9 rfl) rfl (c_J4_toString_0e30d l D tk N0 sa H.size qf9 v_20 (sbC (sbC (sbC 16 (0 + l9)) ((0 + l9) + 1)) (((0 + l9) + 1) + dgJ r_8)) (((0 + l9) + 1) + dgJ r_8) 0 (sbC_ge _ _).1 hcC) kw_1381 kw_316 kw_317 kw_19 kw_318 (n := 0) (by decide +kernel) rfl ⟨⟨rfl, rfl⟩, ⟨Nat.le_of_ble_eq_true rfl, Nat.le_of_ble_eq_true rfl⟩, hTc1, hTs1⟩ rfl (Nat.le_of_ble_eq_true rfl) ⟨f9, f11⟩ dX5_told_62) hS (fun q z w => absurd w (Nat.not_le.mpr z)) hn (fun r_21 H locs hR hz hk hS => ?_)
  have f0 := f0.kept (hk _ f0.lt (Nat.not_le.mpr f0.lt))
  have fR := fR.kept (hk _ fR.lt (Nat.not_le.mpr fR.lt))
  have el := el.new hk
  have h0s := h0s.kept (hk _ h0s.lt (Nat.not_le.mpr h0s.lt))
  have h1s := h1s.kept (hk _ h1s.lt (Nat.not_le.mpr h1s.lt))
  have h2s := h2s.kept (hk _ h2s.lt (Nat.not_le.mpr h2s.lt))
  have f3 := f3.kept (hk _ f3.lt (Nat.not_le.mpr f3.lt))
  have f9 := f9.kept (hk _ f9.lt (Nat.not_le.mpr f9.lt))
  have f11 := f11.kept (hk _ f11.lt (Nat.not_le.mpr f11.lt))
  obtain ⟨q_f22, z9_, y9_, f22⟩ := hR
  have f22 := SM.sx f22
  have zr_f22 : s.heap.size ≤ r_21 := Nat.le_trans hZ0_ z9_
  refine lv_astore_n (pc := 65) (lv' := [(1, .ref r_21), (3, .long r_8), (0, .ref a), (2, .ref r_2)]) hx hb dX5_told_65 rfl hl (by decide) rfl (fun ls hl => ?_)
  refine lv_goto (pc := 66) (tgt := 8) hx hb dX5_told_66 (by decide) ?_
  refine W.widen (k := 1 + 7 * (k + 1)) (n := 4 + m_tS (k + 1)) hWc1 hWs1 ?_
  exact ih_8  (k + 1) _ _  r_21 (by omega) (by omega) (by omega) _ _ _ hS f0 fR el f22 f3 (lv_sub hl [2, 0, 3] rfl)
set_option maxHeartbeats 20000000 in
set_option maxRecDepth 100000 in
theorem g3_X5_told {p : Program} {l : Launch} {e : Env} {s : State} {m : MethodId} {args : Array Value} {below : List Frame} {meth : Method} {c : Code} {Q : State → Prop} {D : va_G} {tk : Nat → ClassId} {N0 : Nat} {sa : Nat → Nat} (E : CallFix p m c cX5_told 5 s args (wsy yX5_told cX5_told 5 (some (.object "java/lang/String"))) RX5) (hC : Ctx D tk N0 sa s) (hA : ∀ q, (nwA s.heap.size) q → N0 ≤ q) (hn : ∀ q, s.heap.size ≤ q → (nwA s.heap.size) q) (hr : meth.sig.returnType = (some (.object "java/lang/String"))) (hlk : meth.locks = false) (a : Nat) (b : Nat) (ln : Nat) (cap : Nat) (md : Int32) (f : Nat → Option Nat) (vs : Nat → Value) (hnc : ln ≤ cap) (hcap : cap ≤ 1000) (hl9 : ln ≤ 43) (hPV : PV ln vs) (r_2 : Nat) (v_13 : Nat) (qf9 : Nat) (r_8 : Int64) (n : Nat) (k : Nat) (l9 : Nat) (lr : Int32) (q9 : Nat) (hf9 : 44 - k < n + 1) (hk9 : k ≤ ln) (hl8 : l9 ≤ 12 * k) (ih_8 : ∀ (k : Nat) (l9 : Nat) (lr : Int32)(q9 : Nat), 44 - k < n → k ≤ ln → l9 ≤ 12 * k → ∀ (H : Heap) (locs : List Loc) (ls : Array Slot), va_S (nwA s.heap.size) s.heap H locs → c1 D a (.inr (7, [.int md, .ref b, .int (nI ln)])) H → c1 D b (.inl (tk 4, cap, .inr (.inr (.inr (.inr f))))) H → EL D 3 ln f vs H → SX D tk q9 l9 H → c1 D r_2 (.inr (6, [.int (nI k), .int lr, .int md, .ref a])) H → lv_has ls 5 [(0, .ref a), (1, .ref q9), (2, .ref r_2)] → W p l e ({ frames := 6, cells := 302, slots := 56764, locals := 137 } : Room) s m args below meth c H locs (1 + 7 * k) (4 + m_tS k) Q (F0 m 8 ls [])) (b0_ : Nat) (hkn : k < ln) (hd11 : dgJ r_8 ≤ 11) (hl4 : l9 ≤ 400000) (hcA : sbC 16 (0 + l9) ≤ 500000) (hcB : sbC (sbC 16 (0 + l9)) (0 + l9 + 0) ≤ 500000) (hcC : sbC (sbC (sbC 16 (0 + l9)) (0 + l9 + 0)) (0 + l9 + 0 + dgJ r_8) ≤ 100000000) (hTc1 : 1 + 7 * k + 0 + 0 + 0 + 1 + 1 + (sbK 16 (0 + l9)) + 0 + (sbK (sbC 16 (0 + l9)) ((0 + l9) + 1)) + (sbK (sbC (sbC 16 (0 + l9)) ((0 + l9) + 1)) (((0 + l9) + 1) + dgJ r_8)) + 2 ≤ 302) (hTs1 : 4 + m_tS k + 0 + 0 + 0 + 4 + 16 + (sbS 16 (0 + l9)) + 0 + (sbS (sbC 16 (0 + l9)) ((0 + l9) + 1)) + (sbS (sbC (sbC 16 (0 + l9)) ((0 + l9) + 1)) (((0 + l9) + 1) + dgJ r_8)) + (4 + (((0 + l9) + 1) + dgJ r_8)) ≤ 56764) (hWc1 : 1 + 7 * k + 0 + 0 + 0 + 1 + 1 + (sbK 16 (0 + l9)) + 0 + (sbK (sbC 16 (0 + l9)) ((0 + l9) + 1)) + (sbK (sbC (sbC 16 (0 + l9)) ((0 + l9) + 1)) (((0 + l9) + 1) + dgJ r_8)) + 2 ≤ 1 + 7 * (k + 1)) (hWs1 : 4 + m_tS k + 0 + 0 + 0 + 4 + 16 + (sbS 16 (0 + l9)) + 0 + (sbS (sbC 16 (0 + l9)) ((0 + l9) + 1)) + (sbS (sbC (sbC 16 (0 + l9)) ((0 + l9) + 1)) (((0 + l9) + 1) + dgJ r_8)) + (4 + (((0 + l9) + 1) + dgJ r_8)) ≤ 4 + m_tS (k + 1)) (hTc2 : 1 + 7 * k + 0 + 0 + 0 + 1 + 1 + (sbK 16 (0 + l9)) + 0 + (sbK (sbC 16 (0 + l9)) ((0 + l9) + 0)) + (sbK (sbC (sbC 16 (0 + l9)) ((0 + l9) + 0)) (((0 + l9) + 0) + dgJ r_8)) + 2 ≤ 302) (hTs2 : 4 + m_tS k + 0 + 0 + 0 + 4 + 16 + (sbS 16 (0 + l9)) + 0 + (sbS (sbC 16 (0 + l9)) ((0 + l9) + 0)) + (sbS (sbC (sbC 16 (0 + l9)) ((0 + l9) + 0)) (((0 + l9) + 0) + dgJ r_8)) + (4 + (((0 + l9) + 0) + dgJ r_8)) ≤ 56764) (hWc2 : 1 + 7 * k + 0 + 0 + 0 + 1 + 1 + (sbK 16 (0 + l9)) + 0 + (sbK (sbC 16 (0 + l9)) ((0 + l9) + 0)) + (sbK (sbC (sbC 16 (0 + l9)) ((0 + l9) + 0)) (((0 + l9) + 0) + dgJ r_8)) + 2 ≤ 1 + 7 * (k + 1)) (hWs2 : 4 + m_tS k + 0 + 0 + 0 + 4 + 16 + (sbS 16 (0 + l9)) + 0 + (sbS (sbC 16 (0 + l9)) ((0 + l9) + 0)) + (sbS (sbC (sbC 16 (0 + l9)) ((0 + l9) + 0)) (((0 + l9) + 0) + dgJ r_8)) + (4 + (((0 + l9) + 0) + dgJ r_8)) ≤ 4 + m_tS (k + 1)) (H : Heap) (locs : List Loc) (ls : Array Slot) (hS : va_S (nwA s.heap.size) s.heap H locs) (f0 : c1 D a (.inr (7, [.int md, .ref b, .int (nI ln)])) H) (fR : c1 D b (.inl (tk 4, cap, .inr (.inr (.inr (.inr (f)))))) H) (el : EL D 3 ln f vs H) (h0s : xf D 0 q9 0 (.ref b0_) H) (h1s : xf D 0 q9 1 (.int 0) H) (h2s : BX tk b0_ l9 H) (f3 : c1 D r_2 (.inr (6, [.int (nI (k + 1)), .int (nI k), .int md, .ref a])) H) (f9 : c1 D qf9 (.inr (1, [.ref v_13, .int 0, .int 0, .int (nI (0 + l9))])) H) (f11 : BA D tk v_13 (sbC 16 (0 + l9)) H) (k23 : SX D tk (sa (10 + 6)) 0 H) (s_f9 : s.heap.size ≤ qf9) (g_f9 : (nwA s.heap.size) qf9) (g_f11 : (nwA s.heap.size) v_13) (l_f0_f11 : a < v_13) (l_f0_f9 : a < qf9) (l_f3_f11 : r_2 < v_13) (l_f3_f9 : r_2 < qf9) (l_f9_f11 : qf9 < v_13) (l_fR_f11 : b < v_13) (l_fR_f9 : b < qf9) (l_h0s_f11 : q9 < v_13) (l_h0s_f9 : q9 < qf9) (l_h1s_f11 : q9 < v_13) (l_h1s_f9 : q9 < qf9) (l_h2s_f11 : b0_ < v_13) (l_h2s_f9 : b0_ < qf9) (hl : lv_has ls 5 [(3, .long r_8), (0, .ref a), (1, .ref q9), (2, .ref r_2)]) : W p l e ({ frames := 6, cells := 302, slots := 56764, locals := 137 } : Room) s m args below meth c H locs (1 + 7 * k + 0 + 0 + 0 + 1 + 1 + (sbK 16 (0 + l9)) + 0) (4 + m_tS k + 0 + 0 + 0 + 4 + 16 + (sbS 16 (0 + l9)) + 0) Q (F0 m 55 ls [.ref (sa (10 + 6)), .ref qf9]) := by
  obtain ⟨hx, hb, -⟩ := id E
  have hZ0_ := hS.1
  have t_f0 := f0.lt
  have t_fR := fR.lt
  have t_h0s := h0s.lt
  have t_h1s := h1s.lt
  have t_h2s := h2s.lt
  have t_f3 := f3.lt
  have t_f9 := f9.lt
  have t_f11 := f11.lt
  have t_k23 := k23.lt
  refine k_r (pc := 55) (k_V E hC hS hA hl.1 (c1.recv hC f9 rfl) rfl (c_J4_append_15ec4 l D tk N0 sa H.size qf9 v_13 (sbC 16 (0 + l9)) (0 + l9) (sa (10 + 6)) 0 0 (hA _ g_f9) (hA _ g_f11) (sbC_ge _ _).1 hcA (by decide)) kw_1353 kw_399 kw_400 kw_19 kw_401 (n := 1) (by decide +kernel) rfl ⟨⟨rfl, rfl⟩, ⟨Nat.le_of_ble_eq_true rfl, Nat.le_of_ble_eq_true rfl⟩, (pre1 (pre1 hTc2)), (pre1 (pre1 hTs2))⟩ rfl (Nat.le_of_ble_eq_true rfl) ⟨f9, f11, k23⟩ dX5_told_55) hS (inA2.to g_f9 g_f11) hn (fun r_24 H locs hR hz hk hS => ?_)
  have f0 := f0.kept (hk _ f0.lt (inA2.not (clA.ne f0.cl f9.cl (hC.oo 7 1 rfl rfl (by decide))) (clA.ne f0.cl f11.cl (hC.oa 7 1 rfl rfl)) f0.lt))
  have fR := fR.kept (hk _ fR.lt (inA2.not (clA.ne fR.cla f9.cl (hC.ao 1 4 rfl rfl)) (clA.ne fR.cla f11.cl (hC.aa 4 1 rfl rfl (by dsimp only; decide))) fR.lt))
  have el := el.keep2 hk (fun q9 h9 => clA.ne h9 f9.cl (hC.ceo (Or.inl rfl) 1 rfl (by decide))) (fun q9 h9 => clA.ne h9 f11.cl (hC.cea (Or.inl rfl) 1 rfl))
  have h0s := h0s.kept (hk _ h0s.lt (inA2.not (clA.ne h0s.cl f9.cl (hC.oo 0 1 rfl rfl (by decide))) (clA.ne h0s.cl f11.cl (hC.oa 0 1 rfl rfl)) h0s.lt))
  have h1s := h1s.kept (hk _ h1s.lt (inA2.not (clA.ne h1s.cl f9.cl (hC.oo 0 1 rfl rfl (by decide))) (clA.ne h1s.cl f11.cl (hC.oa 0 1 rfl rfl)) h1s.lt))
  have h2s := h2s.kept (hk _ h2s.lt (inA2.not (h2s.neo hC f9.cl (ci := 1) rfl) (Nat.ne_of_lt l_h2s_f11) h2s.lt))
  have f3 := f3.kept (hk _ f3.lt (inA2.not (clA.ne f3.cl f9.cl (hC.oo 6 1 rfl rfl (by decide))) (clA.ne f3.cl f11.cl (hC.oa 6 1 rfl rfl)) f3.lt))
  obtain ⟨er9, hR⟩ := hR
  rw [er9]
  obtain ⟨v_25, hv_25, f9, f11⟩ := hR
  have g_f11 := hv_25.elim (fun e9 => e9 ▸ g_f11) (fun z9 => hn _ (Nat.le_trans hZ0_ z9))
  have l_f0_f11 : a < v_25 := hv_25.elim (fun e9 => e9 ▸ l_f0_f11) (fun z9 => Nat.lt_of_lt_of_le t_f0 z9)
  have l_fR_f11 : b < v_25 := hv_25.elim (fun e9 => e9 ▸ l_fR_f11) (fun z9 => Nat.lt_of_lt_of_le t_fR z9)
  have l_h0s_f11 : q9 < v_25 := hv_25.elim (fun e9 => e9 ▸ l_h0s_f11) (fun z9 => Nat.lt_of_lt_of_le t_h0s z9)
  have l_h1s_f11 : q9 < v_25 := hv_25.elim (fun e9 => e9 ▸ l_h1s_f11) (fun z9 => Nat.lt_of_lt_of_le t_h1s z9)
  have l_h2s_f11 : b0_ < v_25 := hv_25.elim (fun e9 => e9 ▸ l_h2s_f11) (fun z9 => Nat.lt_of_lt_of_le t_h2s z9)
  have l_f3_f11 : r_2 < v_25 := hv_25.elim (fun e9 => e9 ▸ l_f3_f11) (fun z9 => Nat.lt_of_lt_of_le t_f3 z9)
  have l_f9_f11 : qf9 < v_25 := hv_25.elim (fun e9 => e9 ▸ l_f9_f11) (fun z9 => Nat.lt_of_lt_of_le t_f9 z9)
  have hv_25 := hv_25.imp_right (fun z9 => Nat.le_trans hZ0_ z9)
  refine lv_lload_n (pc := 58) hx hb dX5_told_58 rfl (lv_at hl 0 rfl) ?_
  have hZ0_ := hS.1
  have t_f0 := f0.lt
  have t_fR := fR.lt
  have t_h0s := h0s.lt
  have t_h1s := h1s.lt
  have t_h2s := h2s.lt
  have t_f3 := f3.lt
  have t_f9 := f9.lt
  have t_f11 := f11.lt
  refine k_r (pc := 59) (k_V E hC hS hA hl.1 (c1.recv hC f9 rfl) rfl (c_J4_append_f7089 l D tk N0 sa H.size qf9 v_25 (sbC (sbC 16 (0 + l9)) ((0 + l9) + 0)) ((0 + l9) + 0) 0 r_8 (hA _ g_f9) (hA _ g_f11) (sbC_ge _ _).1 hcB) kw_1354 kw_1355 kw_1356 kw_19 kw_1357 (n := 1) (by decide +kernel) rfl ⟨⟨rfl, rfl⟩, ⟨Nat.le_of_ble_eq_true rfl, Nat.le_of_ble_eq_true rfl⟩, (pre1 hTc2), (pre1 hTs2)⟩ rfl (Nat.le_of_ble_eq_true rfl) ⟨f9, f11⟩ dX5_told_59) hS (inA2.to g_f9 g_f11) hn (fun r_26 H locs hR hz hk hS => ?_)
  have f0 := f0.kept (hk _ f0.lt (inA2.not (clA.ne f0.cl f9.cl (hC.oo 7 1 rfl rfl (by decide))) (clA.ne f0.cl f11.cl (hC.oa 7 1 rfl rfl)) f0.lt))
  have fR := fR.kept (hk _ fR.lt (inA2.not (clA.ne fR.cla f9.cl (hC.ao 1 4 rfl rfl)) (clA.ne fR.cla f11.cl (hC.aa 4 1 rfl rfl (by dsimp only; decide))) fR.lt))
  have el := el.keep2 hk (fun q9 h9 => clA.ne h9 f9.cl (hC.ceo (Or.inl rfl) 1 rfl (by decide))) (fun q9 h9 => clA.ne h9 f11.cl (hC.cea (Or.inl rfl) 1 rfl))
  have h0s := h0s.kept (hk _ h0s.lt (inA2.not (clA.ne h0s.cl f9.cl (hC.oo 0 1 rfl rfl (by decide))) (clA.ne h0s.cl f11.cl (hC.oa 0 1 rfl rfl)) h0s.lt))
  have h1s := h1s.kept (hk _ h1s.lt (inA2.not (clA.ne h1s.cl f9.cl (hC.oo 0 1 rfl rfl (by decide))) (clA.ne h1s.cl f11.cl (hC.oa 0 1 rfl rfl)) h1s.lt))
  have h2s := h2s.kept (hk _ h2s.lt (inA2.not (h2s.neo hC f9.cl (ci := 1) rfl) (Nat.ne_of_lt l_h2s_f11) h2s.lt))
  have f3 := f3.kept (hk _ f3.lt (inA2.not (clA.ne f3.cl f9.cl (hC.oo 6 1 rfl rfl (by decide))) (clA.ne f3.cl f11.cl (hC.oa 6 1 rfl rfl)) f3.lt))
  obtain ⟨er9, hR⟩ := hR
  rw [er9]
  obtain ⟨v_27, hv_27, f9, f11⟩ := hR
  have g_f11 := hv_27.elim (fun e9 => e9 ▸ g_f11) (fun z9 => hn _ (Nat.le_trans hZ0_ z9))
  have l_f0_f11 : a < v_27 := hv_27.elim (fun e9 => e9 ▸ l_f0_f11) (fun z9 => Nat.lt_of_lt_of_le t_f0 z9)
  have l_fR_f11 : b < v_27 := hv_27.elim (fun e9 => e9 ▸ l_fR_f11) (fun z9 => Nat.lt_of_lt_of_le t_fR z9)
  have l_h0s_f11 : q9 < v_27 := hv_27.elim (fun e9 => e9 ▸ l_h0s_f11) (fun z9 => Nat.lt_of_lt_of_le t_h0s z9)
  have l_h1s_f11 : q9 < v_27 := hv_27.elim (fun e9 => e9 ▸ l_h1s_f11) (fun z9 => Nat.lt_of_lt_of_le t_h1s z9)
  have l_h2s_f11 : b0_ < v_27 := hv_27.elim (fun e9 => e9 ▸ l_h2s_f11) (fun z9 => Nat.lt_of_lt_of_le t_h2s z9)
  have l_f3_f11 : r_2 < v_27 := hv_27.elim (fun e9 => e9 ▸ l_f3_f11) (fun z9 => Nat.lt_of_lt_of_le t_f3 z9)
  have l_f9_f11 : qf9 < v_27 := hv_27.elim (fun e9 => e9 ▸ l_f9_f11) (fun z9 => Nat.lt_of_lt_of_le t_f9 z9)
  have hv_27 := hv_27.imp_right (fun z9 => Nat.le_trans hZ0_ z9)
  have hv_27 := hv_27.elim (fun e9 => e9 ▸ hv_25) Or.inr
  have hZ0_ := hS.1
  have t_f0 := f0.lt
  have t_fR := fR.lt
  have t_h0s := h0s.lt
  have t_h1s := h1s.lt
  have t_h2s := h2s.lt
  have t_f3 := f3.lt
  have t_f9 := f9.lt
  have t_f11 := f11.lt
  refine k_r (pc := 62) (k_V E hC hS hA hl.1 (c1.recv hC f9 rfl) rfl (c_J4_toString_0e30d l D tk N0 sa H.size qf9 v_27 (sbC (sbC (sbC 16 (0 + l9)) ((0 + l9) + 0)) (((0 + l9) + 0) + dgJ r_8)) (((0 + l9) + 0) + dgJ r_8) 0 (sbC_ge _ _).1 hcC) kw_1381 kw_316 kw_317 kw_19 kw_318 (n := 0) (by decide +kernel) rfl ⟨⟨rfl, rfl⟩, ⟨Nat.le_of_ble_eq_true rfl, Nat.le_of_ble_eq_true rfl⟩, hTc2, hTs2⟩ rfl (Nat.le_of_ble_eq_true rfl) ⟨f9, f11⟩ dX5_told_62) hS (fun q z w => absurd w (Nat.not_le.mpr z)) hn (fun r_28 H locs hR hz hk hS => ?_)
  have f0 := f0.kept (hk _ f0.lt (Nat.not_le.mpr f0.lt))
  have fR := fR.kept (hk _ fR.lt (Nat.not_le.mpr fR.lt))
  have el := el.new hk
  have h0s := h0s.kept (hk _ h0s.lt (Nat.not_le.mpr h0s.lt))
  have h1s := h1s.kept (hk _ h1s.lt (Nat.not_le.mpr h1s.lt))
  have h2s := h2s.kept (hk _ h2s.lt (Nat.not_le.mpr h2s.lt))
  have f3 := f3.kept (hk _ f3.lt (Nat.not_le.mpr f3.lt))
  have f9 := f9.kept (hk _ f9.lt (Nat.not_le.mpr f9.lt))
  have f11 := f11.kept (hk _ f11.lt (Nat.not_le.mpr f11.lt))
  obtain ⟨q_f29, z9_, y9_, f29⟩ := hR
  have f29 := SM.sx f29
  have zr_f29 : s.heap.size ≤ r_28 := Nat.le_trans hZ0_ z9_
  refine lv_astore_n (pc := 65) (lv' := [(1, .ref r_28), (3, .long r_8), (0, .ref a), (2, .ref r_2)]) hx hb dX5_told_65 rfl hl (by decide) rfl (fun ls hl => ?_)
  refine lv_goto (pc := 66) (tgt := 8) hx hb dX5_told_66 (by decide) ?_
  refine W.widen (k := 1 + 7 * (k + 1)) (n := 4 + m_tS (k + 1)) hWc2 hWs2 ?_
  exact ih_8  (k + 1) _ _  r_28 (by omega) (by omega) (by omega) _ _ _ hS f0 fR el f29 f3 (lv_sub hl [2, 0, 3] rfl)
set_option maxHeartbeats 20000000 in
set_option maxRecDepth 100000 in
theorem g1_X5_told {p : Program} {l : Launch} {e : Env} {s : State} {m : MethodId} {args : Array Value} {below : List Frame} {meth : Method} {c : Code} {Q : State → Prop} {D : va_G} {tk : Nat → ClassId} {N0 : Nat} {sa : Nat → Nat} (E : CallFix p m c cX5_told 5 s args (wsy yX5_told cX5_told 5 (some (.object "java/lang/String"))) RX5) (hC : Ctx D tk N0 sa s) (hA : ∀ q, (nwA s.heap.size) q → N0 ≤ q) (hn : ∀ q, s.heap.size ≤ q → (nwA s.heap.size) q) (hr : meth.sig.returnType = (some (.object "java/lang/String"))) (hlk : meth.locks = false) (a : Nat) (b : Nat) (ln : Nat) (cap : Nat) (md : Int32) (f : Nat → Option Nat) (vs : Nat → Value) (hnc : ln ≤ cap) (hcap : cap ≤ 1000) (hl9 : ln ≤ 43) (hPV : PV ln vs) (r_2 : Nat) (r_8 : Int64) (n : Nat) (k : Nat) (l9 : Nat) (lr : Int32) (q9 : Nat) (hf9 : 44 - k < n + 1) (hk9 : k ≤ ln) (hl8 : l9 ≤ 12 * k) (ih_8 : ∀ (k : Nat) (l9 : Nat) (lr : Int32)(q9 : Nat), 44 - k < n → k ≤ ln → l9 ≤ 12 * k → ∀ (H : Heap) (locs : List Loc) (ls : Array Slot), va_S (nwA s.heap.size) s.heap H locs → c1 D a (.inr (7, [.int md, .ref b, .int (nI ln)])) H → c1 D b (.inl (tk 4, cap, .inr (.inr (.inr (.inr f))))) H → EL D 3 ln f vs H → SX D tk q9 l9 H → c1 D r_2 (.inr (6, [.int (nI k), .int lr, .int md, .ref a])) H → lv_has ls 5 [(0, .ref a), (1, .ref q9), (2, .ref r_2)] → W p l e ({ frames := 6, cells := 302, slots := 56764, locals := 137 } : Room) s m args below meth c H locs (1 + 7 * k) (4 + m_tS k) Q (F0 m 8 ls [])) (b0_ : Nat) (hkn : k < ln) (hd11 : dgJ r_8 ≤ 11) (H : Heap) (locs : List Loc) (ls : Array Slot) (hS : va_S (nwA s.heap.size) s.heap H locs) (f0 : c1 D a (.inr (7, [.int md, .ref b, .int (nI ln)])) H) (fR : c1 D b (.inl (tk 4, cap, .inr (.inr (.inr (.inr (f)))))) H) (el : EL D 3 ln f vs H) (h0s : xf D 0 q9 0 (.ref b0_) H) (h1s : xf D 0 q9 1 (.int 0) H) (h2s : BX tk b0_ l9 H) (f3 : c1 D r_2 (.inr (6, [.int (nI (k + 1)), .int (nI k), .int md, .ref a])) H) (hl : lv_has ls 5 [(3, .long r_8), (0, .ref a), (1, .ref q9), (2, .ref r_2)]) : W p l e ({ frames := 6, cells := 302, slots := 56764, locals := 137 } : Room) s m args below meth c H locs (1 + 7 * k + 0 + 0 + 0) (4 + m_tS k + 0 + 0 + 0) Q (F0 m 30 ls []) := by
  obtain ⟨hx, hb, -⟩ := id E
  have htb0 := m_tSB (k := k) (by omega)
  have hts : m_tS (k + 1) = m_tS k + (60 * k + 60) := rfl
  have htb := m_tSB (k := k + 1) (by omega)
  have hl2 : l9 ≤ 2000 := by omega
  have hl4 : l9 ≤ 400000 := by omega
  have hct0 := m_cat3 0 hl2 (d1 := dgJ r_8) (by omega)
  have hct1 := m_cat3 1 hl2 (d1 := dgJ r_8) (by omega)
  have hNc : 1 + 7 * (k + 1) ≤ 302 := by omega
  have hNs : 4 + m_tS (k + 1) ≤ 56764 := by omega
  have hWc1 : 1 + 7 * k + 0 + 0 + 0 + 1 + 1 + (sbK 16 (0 + l9)) + 0 + (sbK (sbC 16 (0 + l9)) ((0 + l9) + 1)) + (sbK (sbC (sbC 16 (0 + l9)) ((0 + l9) + 1)) (((0 + l9) + 1) + dgJ r_8)) + 2 ≤ 1 + 7 * (k + 1) := by have k0_ := tx_k1 16 (0 + l9); have k1_ := tx_k1 (sbC 16 (0 + l9)) ((0 + l9) + 1); have k2_ := tx_k1 (sbC (sbC 16 (0 + l9)) ((0 + l9) + 1)) (((0 + l9) + 1) + dgJ r_8); omega
  have hWs1 : 4 + m_tS k + 0 + 0 + 0 + 4 + 16 + (sbS 16 (0 + l9)) + 0 + (sbS (sbC 16 (0 + l9)) ((0 + l9) + 1)) + (sbS (sbC (sbC 16 (0 + l9)) ((0 + l9) + 1)) (((0 + l9) + 1) + dgJ r_8)) + (4 + (((0 + l9) + 1) + dgJ r_8)) ≤ 4 + m_tS (k + 1) := by have h9 := hct1.1; have h8 := hct1.2.1; have h7 := hct1.2.2.1; omega
  have hTc1 : 1 + 7 * k + 0 + 0 + 0 + 1 + 1 + (sbK 16 (0 + l9)) + 0 + (sbK (sbC 16 (0 + l9)) ((0 + l9) + 1)) + (sbK (sbC (sbC 16 (0 + l9)) ((0 + l9) + 1)) (((0 + l9) + 1) + dgJ r_8)) + 2 ≤ 302 := Nat.le_trans hWc1 hNc
  have hTs1 : 4 + m_tS k + 0 + 0 + 0 + 4 + 16 + (sbS 16 (0 + l9)) + 0 + (sbS (sbC 16 (0 + l9)) ((0 + l9) + 1)) + (sbS (sbC (sbC 16 (0 + l9)) ((0 + l9) + 1)) (((0 + l9) + 1) + dgJ r_8)) + (4 + (((0 + l9) + 1) + dgJ r_8)) ≤ 56764 := Nat.le_trans hWs1 hNs
  have hWc2 : 1 + 7 * k + 0 + 0 + 0 + 1 + 1 + (sbK 16 (0 + l9)) + 0 + (sbK (sbC 16 (0 + l9)) ((0 + l9) + 0)) + (sbK (sbC (sbC 16 (0 + l9)) ((0 + l9) + 0)) (((0 + l9) + 0) + dgJ r_8)) + 2 ≤ 1 + 7 * (k + 1) := by have k0_ := tx_k1 16 (0 + l9); have k1_ := tx_k1 (sbC 16 (0 + l9)) ((0 + l9) + 0); have k2_ := tx_k1 (sbC (sbC 16 (0 + l9)) ((0 + l9) + 0)) (((0 + l9) + 0) + dgJ r_8); omega
  have hWs2 : 4 + m_tS k + 0 + 0 + 0 + 4 + 16 + (sbS 16 (0 + l9)) + 0 + (sbS (sbC 16 (0 + l9)) ((0 + l9) + 0)) + (sbS (sbC (sbC 16 (0 + l9)) ((0 + l9) + 0)) (((0 + l9) + 0) + dgJ r_8)) + (4 + (((0 + l9) + 0) + dgJ r_8)) ≤ 4 + m_tS (k + 1) := by have h9 := hct0.1; have h8 := hct0.2.1; have h7 := hct0.2.2.1; omega
  have hTc2 : 1 + 7 * k + 0 + 0 + 0 + 1 + 1 + (sbK 16 (0 + l9)) + 0 + (sbK (sbC 16 (0 + l9)) ((0 + l9) + 0)) + (sbK (sbC (sbC 16 (0 + l9)) ((0 + l9) + 0)) (((0 + l9) + 0) + dgJ r_8)) + 2 ≤ 302 := Nat.le_trans hWc2 hNc
  have hTs2 : 4 + m_tS k + 0 + 0 + 0 + 4 + 16 + (sbS 16 (0 + l9)) + 0 + (sbS (sbC 16 (0 + l9)) ((0 + l9) + 0)) + (sbS (sbC (sbC 16 (0 + l9)) ((0 + l9) + 0)) (((0 + l9) + 0) + dgJ r_8)) + (4 + (((0 + l9) + 0) + dgJ r_8)) ≤ 56764 := Nat.le_trans hWs2 hNs
  have hS0_ := hS
  refine r_new (pc := 30) E hC hS tyJ4_ok uJ4 (List.mem_cons_of_mem _ kw_1351) (List.mem_cons_of_mem _ kw_150) (List.mem_cons_of_mem _ kw_19) (ci := 1) rfl (fs := [.null, .int 0, .int 0, .int 0]) (by decide) (pre1 (pre1 (pre1 (pre1 (pre1 (pre1 hTc1)))))) (pre1 (pre1 (pre1 (pre1 (pre1 (pre1 hTs1)))))) dX5_told_30 (fun qf9 H zq_ n_ ho_ hS => ?_)
  have l_f0_f9 : a < qf9 := zq_ ▸ f0.lt
  have f0 := f0.kept (ho_ _ f0.lt)
  have l_fR_f9 : b < qf9 := zq_ ▸ fR.lt
  have fR := fR.kept (ho_ _ fR.lt)
  have el := el.old ho_
  have l_h0s_f9 : q9 < qf9 := zq_ ▸ h0s.lt
  have h0s := h0s.kept (ho_ _ h0s.lt)
  have l_h1s_f9 : q9 < qf9 := zq_ ▸ h1s.lt
  have h1s := h1s.kept (ho_ _ h1s.lt)
  have l_h2s_f9 : b0_ < qf9 := zq_ ▸ h2s.lt
  have h2s := h2s.kept (ho_ _ h2s.lt)
  have l_f3_f9 : r_2 < qf9 := zq_ ▸ f3.lt
  have f3 := f3.kept (ho_ _ f3.lt)
  have f9 := n_
  have s_f9 : s.heap.size ≤ qf9 := zq_ ▸ hS0_.1
  have g_f9 := hn _ s_f9
  refine lv_dup (pc := 33) hx hb dX5_told_33 rfl ?_
  have hZ0_ := hS.1
  have t_f0 := f0.lt
  have t_fR := fR.lt
  have t_h0s := h0s.lt
  have t_h1s := h1s.lt
  have t_h2s := h2s.lt
  have t_f3 := f3.lt
  have t_f9 := f9.lt
  refine k_v (pc := 34) (k_I E hC hS hA hl.1 (c_J4_init_da8c8 l D tk N0 sa H.size qf9 (hA _ g_f9)) kw_1352 kw_152 kw_19 kw_153 rfl (n := 0) (by decide +kernel) rfl ⟨⟨rfl, rfl⟩, ⟨Nat.le_of_ble_eq_true rfl, Nat.le_of_ble_eq_true rfl⟩, (pre1 (pre1 (pre1 (pre1 (pre1 hTc1))))), (pre1 (pre1 (pre1 (pre1 (pre1 hTs1)))))⟩ rfl (Nat.le_of_ble_eq_true rfl) f9 dX5_told_34) hS (inA1.to g_f9) hn (fun H locs hR hz hk hS => ?_)
  have f0 := f0.kept (hk _ f0.lt (inA1.not (clA.ne f0.cl f9.cl (hC.oo 7 1 rfl rfl (by decide))) f0.lt))
  have fR := fR.kept (hk _ fR.lt (inA1.not (clA.ne fR.cla f9.cl (hC.ao 1 4 rfl rfl)) fR.lt))
  have el := el.keep1 hk (fun q9 h9 => clA.ne h9 f9.cl (hC.ceo (Or.inl rfl) 1 rfl (by decide)))
  have h0s := h0s.kept (hk _ h0s.lt (inA1.not (clA.ne h0s.cl f9.cl (hC.oo 0 1 rfl rfl (by decide))) h0s.lt))
  have h1s := h1s.kept (hk _ h1s.lt (inA1.not (clA.ne h1s.cl f9.cl (hC.oo 0 1 rfl rfl (by decide))) h1s.lt))
  have h2s := h2s.kept (hk _ h2s.lt (inA1.not (h2s.neo hC f9.cl (ci := 1) rfl) h2s.lt))
  have f3 := f3.kept (hk _ f3.lt (inA1.not (clA.ne f3.cl f9.cl (hC.oo 6 1 rfl rfl (by decide))) f3.lt))
  obtain ⟨q_f11, z9_, f9, f11⟩ := hR
  have s_f11 : s.heap.size ≤ q_f11 := Nat.le_trans hZ0_ z9_
  have g_f11 := hn _ s_f11
  have l_f0_f11 : a < q_f11 := Nat.lt_of_lt_of_le t_f0 z9_
  have l_fR_f11 : b < q_f11 := Nat.lt_of_lt_of_le t_fR z9_
  have l_h0s_f11 : q9 < q_f11 := Nat.lt_of_lt_of_le t_h0s z9_
  have l_h1s_f11 : q9 < q_f11 := Nat.lt_of_lt_of_le t_h1s z9_
  have l_h2s_f11 : b0_ < q_f11 := Nat.lt_of_lt_of_le t_h2s z9_
  have l_f3_f11 : r_2 < q_f11 := Nat.lt_of_lt_of_le t_f3 z9_
  have l_f9_f11 : qf9 < q_f11 := Nat.lt_of_lt_of_le t_f9 z9_
  refine lv_aload_n (pc := 37) hx hb dX5_told_37 rfl (lv_at hl 2 rfl) ?_
  have hZ0_ := hS.1
  have t_f0 := f0.lt
  have t_fR := fR.lt
  have t_h0s := h0s.lt
  have t_h1s := h1s.lt
  have t_h2s := h2s.lt
  have t_f3 := f3.lt
  have t_f9 := f9.lt
  have t_f11 := f11.lt
  refine k_r (pc := 38) (k_V E hC hS hA hl.1 (c1.recv hC f9 rfl) rfl (c_J4_append_15ec4 l D tk N0 sa H.size qf9 q_f11 16 0 q9 l9 0 (hA _ g_f9) (hA _ g_f11) (Nat.zero_le _) (by decide) hl4) kw_1353 kw_399 kw_400 kw_19 kw_401 (n := 1) (by decide +kernel) rfl ⟨⟨rfl, rfl⟩, ⟨Nat.le_of_ble_eq_true rfl, Nat.le_of_ble_eq_true rfl⟩, (pre1 (pre1 (pre1 (pre1 hTc1)))), (pre1 (pre1 (pre1 (pre1 hTs1))))⟩ rfl (Nat.le_of_ble_eq_true rfl) ⟨f9, f11, ⟨_, h0s, h1s, h2s⟩⟩ dX5_told_38) hS (inA2.to g_f9 g_f11) hn (fun r_12 H locs hR hz hk hS => ?_)
  have f0 := f0.kept (hk _ f0.lt (inA2.not (clA.ne f0.cl f9.cl (hC.oo 7 1 rfl rfl (by decide))) (clA.ne f0.cl f11.cl (hC.oa 7 1 rfl rfl)) f0.lt))
  have fR := fR.kept (hk _ fR.lt (inA2.not (clA.ne fR.cla f9.cl (hC.ao 1 4 rfl rfl)) (clA.ne fR.cla f11.cl (hC.aa 4 1 rfl rfl (by dsimp only; decide))) fR.lt))
  have el := el.keep2 hk (fun q9 h9 => clA.ne h9 f9.cl (hC.ceo (Or.inl rfl) 1 rfl (by decide))) (fun q9 h9 => clA.ne h9 f11.cl (hC.cea (Or.inl rfl) 1 rfl))
  have h0s := h0s.kept (hk _ h0s.lt (inA2.not (clA.ne h0s.cl f9.cl (hC.oo 0 1 rfl rfl (by decide))) (clA.ne h0s.cl f11.cl (hC.oa 0 1 rfl rfl)) h0s.lt))
  have h1s := h1s.kept (hk _ h1s.lt (inA2.not (clA.ne h1s.cl f9.cl (hC.oo 0 1 rfl rfl (by decide))) (clA.ne h1s.cl f11.cl (hC.oa 0 1 rfl rfl)) h1s.lt))
  have h2s := h2s.kept (hk _ h2s.lt (inA2.not (h2s.neo hC f9.cl (ci := 1) rfl) (Nat.ne_of_lt l_h2s_f11) h2s.lt))
  have f3 := f3.kept (hk _ f3.lt (inA2.not (clA.ne f3.cl f9.cl (hC.oo 6 1 rfl rfl (by decide))) (clA.ne f3.cl f11.cl (hC.oa 6 1 rfl rfl)) f3.lt))
  obtain ⟨er9, hR⟩ := hR
  rw [er9]
  obtain ⟨v_13, hv_13, f9, f11⟩ := hR
  have g_f11 := hv_13.elim (fun e9 => e9 ▸ g_f11) (fun z9 => hn _ (Nat.le_trans hZ0_ z9))
  have l_f0_f11 : a < v_13 := hv_13.elim (fun e9 => e9 ▸ l_f0_f11) (fun z9 => Nat.lt_of_lt_of_le t_f0 z9)
  have l_fR_f11 : b < v_13 := hv_13.elim (fun e9 => e9 ▸ l_fR_f11) (fun z9 => Nat.lt_of_lt_of_le t_fR z9)
  have l_h0s_f11 : q9 < v_13 := hv_13.elim (fun e9 => e9 ▸ l_h0s_f11) (fun z9 => Nat.lt_of_lt_of_le t_h0s z9)
  have l_h1s_f11 : q9 < v_13 := hv_13.elim (fun e9 => e9 ▸ l_h1s_f11) (fun z9 => Nat.lt_of_lt_of_le t_h1s z9)
  have l_h2s_f11 : b0_ < v_13 := hv_13.elim (fun e9 => e9 ▸ l_h2s_f11) (fun z9 => Nat.lt_of_lt_of_le t_h2s z9)
  have l_f3_f11 : r_2 < v_13 := hv_13.elim (fun e9 => e9 ▸ l_f3_f11) (fun z9 => Nat.lt_of_lt_of_le t_f3 z9)
  have l_f9_f11 : qf9 < v_13 := hv_13.elim (fun e9 => e9 ▸ l_f9_f11) (fun z9 => Nat.lt_of_lt_of_le t_f9 z9)
  have hv_13 := hv_13.imp_right (fun z9 => Nat.le_trans hZ0_ z9)
  refine lv_aload_n (pc := 41) hx hb dX5_told_41 rfl (lv_at hl 2 rfl) ?_
  refine k_i (pc := 42) (k_V E hC hS hA hl.1 (xf.recv hC h0s rfl) rfl (c_J0_isEmpty_aae02 l D tk N0 sa H.size q9 l9 (by omega)) kw_1537 kw_1538 kw_1539 kw_20 kw_1540 (n := 0) (by decide +kernel) rfl ⟨⟨rfl, rfl⟩, ⟨Nat.le_of_ble_eq_true rfl, Nat.le_of_ble_eq_true rfl⟩, (pre1 (pre1 (pre1 hTc1))), (pre1 (pre1 (pre1 hTs1)))⟩ rfl (Nat.le_of_ble_eq_true rfl) ⟨_, h0s, h1s, h2s⟩ dX5_told_42) hS (fun q z w => absurd w (Nat.not_le.mpr z)) hn (fun r_14 H locs hR hz hk hS => ?_)
  have f0 := f0.kept (hk _ f0.lt (Nat.not_le.mpr f0.lt))
  have fR := fR.kept (hk _ fR.lt (Nat.not_le.mpr fR.lt))
  have el := el.new hk
  have h0s := h0s.kept (hk _ h0s.lt (Nat.not_le.mpr h0s.lt))
  have h1s := h1s.kept (hk _ h1s.lt (Nat.not_le.mpr h1s.lt))
  have h2s := h2s.kept (hk _ h2s.lt (Nat.not_le.mpr h2s.lt))
  have f3 := f3.kept (hk _ f3.lt (Nat.not_le.mpr f3.lt))
  have f9 := f9.kept (hk _ f9.lt (Nat.not_le.mpr f9.lt))
  have f11 := f11.kept (hk _ f11.lt (Nat.not_le.mpr f11.lt))
  have em_r_14 := hR
  refine lv_if_eq (pc := 45) (tgt := 53) hx hb dX5_told_45 (by decide) (fun c_15 => ?_) (fun c_15 => ?_)
  · have hcA := hct1.2.2.2.1
    have hcB := hct1.2.2.2.2.1
    have hcC := hct1.2.2.2.2.2
    refine va_ldcS (pc := 53) hx hb E.2.2.2.1 (hC.2.2.2.2.1 8 _ rfl).1 dX5_told_53 ?_
    have k16 : SX D tk (sa (10 + 8)) 1 H := hC.str hS hA 8 _ rfl (by decide)
    exact g2_X5_told E hC hA hn hr hlk a b ln cap md f vs hnc hcap hl9 hPV r_2 v_13 qf9 r_8 n k l9 lr q9 hf9 hk9 hl8 ih_8 b0_ hkn hd11 hl4 hcA hcB hcC hTc1 hTs1 hWc1 hWs1 hTc2 hTs2 hWc2 hWs2 _ _ _ hS f0 fR el h0s h1s h2s f3 f9 f11 k16 s_f9 g_f9 g_f11 l_f0_f11 l_f0_f9 l_f3_f11 l_f3_f9 l_f9_f11 l_fR_f11 l_fR_f9 l_h0s_f11 l_h0s_f9 l_h1s_f11 l_h1s_f9 l_h2s_f11 l_h2s_f9 hl
  · have hcA := hct0.2.2.2.1
    have hcB := hct0.2.2.2.2.1
    have hcC := hct0.2.2.2.2.2
    refine va_ldcS (pc := 48) hx hb E.2.2.2.1 (hC.2.2.2.2.1 6 _ rfl).1 dX5_told_48 ?_
    have k23 : SX D tk (sa (10 + 6)) 0 H := hC.str hS hA 6 _ rfl (by decide)
    refine lv_goto (pc := 50) (tgt := 55) hx hb dX5_told_50 (by decide) ?_
    exact g3_X5_told E hC hA hn hr hlk a b ln cap md f vs hnc hcap hl9 hPV r_2 v_13 qf9 r_8 n k l9 lr q9 hf9 hk9 hl8 ih_8 b0_ hkn hd11 hl4 hcA hcB hcC hTc1 hTs1 hWc1 hWs1 hTc2 hTs2 hWc2 hWs2 _ _ _ hS f0 fR el h0s h1s h2s f3 f9 f11 k23 s_f9 g_f9 g_f11 l_f0_f11 l_f0_f9 l_f3_f11 l_f3_f9 l_f9_f11 l_fR_f11 l_fR_f9 l_h0s_f11 l_h0s_f9 l_h1s_f11 l_h1s_f9 l_h2s_f11 l_h2s_f9 hl
set_option maxHeartbeats 20000000 in
set_option maxRecDepth 100000 in
/-- BestratiosModel.told(Ljava/util/ArrayList;)Ljava/lang/String; -/
theorem c_X5_told (l : Launch) (D : va_G) (tk : Nat → ClassId) (N0 : Nat) (sa : Nat → Nat)  (sz : Nat) (a b ln cap : Nat) (md : Int32) (f : Nat → Option Nat) (vs : Nat → Value) (hnc : ln ≤ cap) (hcap : cap ≤ 1000) (hl9 : ln ≤ 43) (hPV : PV ln vs) : Met l yX5_told (wsy yX5_told cX5_told 5 (some (.object "java/lang/String"))) ({ frames := 6, cells := 302, slots := 56764, locals := 137 } : Room) (cP D tk N0 sa [.ref a] sz (fun H => c1 D a (.inr (7, [.int md, .ref b, .int (nI ln)])) H ∧ c1 D b (.inl (tk 4, cap, .inr (.inr (.inr (.inr f))))) H ∧ EL D 3 ln f vs H)) (kQr (fun r H => ∃ n9, n9 ≤ 516 ∧ SX D tk r n9 H) (nwA sz)) (302) (56764) (nwA sz) := by
  refine mStart RX5 rfl (by decide +kernel) (Nat.le_of_ble_eq_true rfl) ?_
  intro p e s m args below meth c E hr hlk hnm hsz hC hF ls hl
  subst hsz
  obtain ⟨hx, hb, -⟩ := id E
  have hA : ∀ q, (nwA s.heap.size) q → N0 ≤ q := fun q h => Nat.le_trans hC.2.1 h
  have hn : ∀ q, s.heap.size ≤ q → (nwA s.heap.size) q := fun q h => h
  have hS : va_S (nwA s.heap.size) s.heap s.heap [] := va_S.rf
  have hl : lv_has ls 5 [(0, .ref a)] := hl
  obtain ⟨Q, hQ⟩ : ∃ Q, Q = MQ below (kQr (fun r H => ∃ n9, n9 ≤ 516 ∧ SX D tk r n9 H) (nwA s.heap.size)) args s (302) (56764) (nwA s.heap.size) := ⟨_, rfl⟩
  rw [← hQ]
  obtain ⟨f0, fR, el⟩ : c1 D a (.inr (7, [.int md, .ref b, .int (nI ln)])) s.heap ∧ c1 D b (.inl (tk 4, cap, .inr (.inr (.inr (.inr f))))) s.heap ∧ EL D 3 ln f vs s.heap := hF
  refine va_ldcS (pc := 0) hx hb E.2.2.2.1 (hC.2.2.2.2.1 6 _ rfl).1 dX5_told_0 ?_
  have k1 : SX D tk (sa (10 + 6)) 0 s.heap := hC.str hS hA 6 _ rfl (by decide)
  refine lv_astore_n (pc := 2) (lv' := [(1, .ref (sa (10 + 6))), (0, .ref a)]) hx hb dX5_told_2 rfl hl (by decide) rfl (fun ls hl => ?_)
  refine lv_aload_n (pc := 3) hx hb dX5_told_3 rfl (lv_at hl 1 rfl) ?_
  have hZ0_ := hS.1
  have t_f0 := f0.lt
  have t_fR := fR.lt
  have t_k1 := k1.lt
  refine k_r (pc := 4) (k_V E hC hS hA hl.1 (c1.recv hC f0 rfl) rfl (c_Jx4a65c_iterator_32c93 l D tk N0 sa s.heap.size a b ln md) kw_1486 kw_1487 kw_1488 kw_8 kw_1489 (n := 0) (by decide +kernel) rfl ⟨⟨rfl, rfl⟩, ⟨Nat.le_of_ble_eq_true rfl, Nat.le_of_ble_eq_true rfl⟩, (by dsimp only; omega), (by dsimp only; omega)⟩ rfl (Nat.le_of_ble_eq_true rfl) f0 dX5_told_4) hS (fun q z w => absurd w (Nat.not_le.mpr z)) hn (fun r_2 H locs hR hz hk hS => ?_)
  have f0 := f0.kept (hk _ f0.lt (Nat.not_le.mpr f0.lt))
  have fR := fR.kept (hk _ fR.lt (Nat.not_le.mpr fR.lt))
  have el := el.new hk
  have k1 := k1.new hk
  obtain ⟨z9_, f3⟩ := hR
  have s_f3 : s.heap.size ≤ r_2 := Nat.le_trans hZ0_ z9_
  have g_f3 := hn _ s_f3
  have l_f0_f3 : a < r_2 := Nat.lt_of_lt_of_le t_f0 z9_
  have l_fR_f3 : b < r_2 := Nat.lt_of_lt_of_le t_fR z9_
  have l_k1_f3 : sa (10 + 6) < r_2 := Nat.lt_of_lt_of_le t_k1 z9_
  refine lv_astore_n (pc := 7) (lv' := [(2, .ref r_2), (1, .ref (sa (10 + 6))), (0, .ref a)]) hx hb dX5_told_7 rfl hl (by decide) rfl (fun ls hl => ?_)
  have loop_8 : ∀ (n : Nat) (k : Nat) (l9 : Nat) (lr : Int32)(q9 : Nat), 44 - k < n → k ≤ ln → l9 ≤ 12 * k → ∀ (H : Heap) (locs : List Loc) (ls : Array Slot), va_S (nwA s.heap.size) s.heap H locs → c1 D a (.inr (7, [.int md, .ref b, .int (nI ln)])) H → c1 D b (.inl (tk 4, cap, .inr (.inr (.inr (.inr f))))) H → EL D 3 ln f vs H → SX D tk q9 l9 H → c1 D r_2 (.inr (6, [.int (nI k), .int lr, .int md, .ref a])) H → lv_has ls 5 [(0, .ref a), (1, .ref q9), (2, .ref r_2)] → W p l e ({ frames := 6, cells := 302, slots := 56764, locals := 137 } : Room) s m args below meth c H locs (1 + 7 * k) (4 + m_tS k) Q (F0 m 8 ls []) := by
    intro n
    induction n with
    | zero =>
      intro k l9 lr q9 hf9 hk9 hl8 H locs ls hS f0 fR el fs f3 hl
      omega
    | succ n ih_8 =>
      intro k l9 lr q9 hf9 hk9 hl8 H locs ls hS f0 fR el fs f3 hl
      obtain ⟨b0_, h0s, h1s, h2s⟩ := fs
      have htb0 := m_tSB (k := k) (by omega)
      refine lv_aload_n (pc := 8) hx hb dX5_told_8 rfl (lv_at hl 2 rfl) ?_
      refine k5_i (pc := 9) (k_F (ci := 6) rfl hC.xt.2.2.2.1 E hC hS hA hl.1 (c1.recv hC f3 rfl) (c_Jx35411_hasNext_aae02 l D tk N0 sa H.size r_2 a b ln k md lr (by omega) (by omega)) kw_1510 kw_1516 kw_1514 kw_29 kw_1518 (n := 0) (by decide +kernel) rfl ⟨⟨rfl, rfl⟩, ⟨Nat.le_of_ble_eq_true rfl, Nat.le_of_ble_eq_true rfl⟩, (by dsimp only; omega), (by dsimp only; omega)⟩ rfl (Nat.le_of_ble_eq_true rfl) ⟨f3, f0⟩ dX5_told_9) hS (fun q z w => absurd w (Nat.not_le.mpr z)) hn (fun r_4 H locs hR hz hk hS => ?_)
      have f0 := f0.kept (hk _ f0.lt (Nat.not_le.mpr f0.lt))
      have fR := fR.kept (hk _ fR.lt (Nat.not_le.mpr fR.lt))
      have el := el.new hk
      have h0s := h0s.kept (hk _ h0s.lt (Nat.not_le.mpr h0s.lt))
      have h1s := h1s.kept (hk _ h1s.lt (Nat.not_le.mpr h1s.lt))
      have h2s := h2s.kept (hk _ h2s.lt (Nat.not_le.mpr h2s.lt))
      have f3 := f3.kept (hk _ f3.lt (Nat.not_le.mpr f3.lt))
      have hn_r_4 := hR
      refine lv_if_eq (pc := 14) (tgt := 69) hx hb dX5_told_14 (by decide) (fun c_5 => ?_) (fun c_5 => ?_)
      · refine lv_aload_n (pc := 69) hx hb dX5_told_69 rfl (lv_at hl 1 rfl) ?_
        try rw [hQ]
        refine r_aret (pc := 70) E hr (Or.inl ⟨_, rfl⟩) hlk hS (by omega) (by omega) ?_ dX5_told_70
        exact ⟨l9, by omega, ⟨_, h0s, h1s, h2s⟩⟩
      · have hkn : k < ln := by
          rcases hn_r_4 with ⟨h9, _⟩ | ⟨_, h9⟩
          · exact absurd h9 c_5
          · omega
        refine lv_aload_n (pc := 17) hx hb dX5_told_17 rfl (lv_at hl 2 rfl) ?_
        obtain ⟨qe6, hq6, he6⟩ := el k hkn
        obtain ⟨xe6, ev6, pv6⟩ := hPV k hkn
        rw [ev6] at he6
        refine k5_r (pc := 18) (k_F (ci := 6) rfl hC.xt.2.2.2.2 E hC hS hA hl.1 (c1.recv hC f3 rfl) (c_Jx35411_next_0502b l D tk N0 sa H.size r_2 a b ln k cap qe6 md lr f (hA _ g_f3) hkn hnc (by omega) hq6) kw_1520 kw_1525 kw_1523 kw_29 kw_1527 (n := 0) (by decide +kernel) rfl ⟨⟨rfl, rfl⟩, ⟨Nat.le_of_ble_eq_true rfl, Nat.le_of_ble_eq_true rfl⟩, (by dsimp only; omega), (by dsimp only; omega)⟩ rfl (Nat.le_of_ble_eq_true rfl) ⟨f3, f0, fR⟩ dX5_told_18) hS (inA1.to g_f3) hn (fun r_7 H locs hR hz hk hS => ?_)
        have f0 := f0.kept (hk _ f0.lt (inA1.not (clA.ne f0.cl f3.cl (hC.oo 7 6 rfl rfl (by decide))) f0.lt))
        have fR := fR.kept (hk _ fR.lt (inA1.not (clA.ne fR.cla f3.cl (hC.ao 6 4 rfl rfl)) fR.lt))
        have el := el.keep1 hk (fun q9 h9 => clA.ne h9 f3.cl (hC.ceo (Or.inl rfl) 6 rfl (by decide)))
        have h0s := h0s.kept (hk _ h0s.lt (inA1.not (clA.ne h0s.cl f3.cl (hC.oo 0 6 rfl rfl (by decide))) h0s.lt))
        have h1s := h1s.kept (hk _ h1s.lt (inA1.not (clA.ne h1s.cl f3.cl (hC.oo 0 6 rfl rfl (by decide))) h1s.lt))
        have h2s := h2s.kept (hk _ h2s.lt (inA1.not (h2s.neo hC f3.cl (ci := 6) rfl) h2s.lt))
        have he6 := he6.kept (hk _ he6.lt (inA1.not (clA.ne he6.cl f3.cl (hC.oo 3 6 rfl rfl (by decide))) he6.lt))
        obtain ⟨hr9, f3⟩ := hR
        rw [hr9]
        refine r_castO (pc := 23) E hC he6 rfl kw_1532 dX5_told_23 ?_
        refine k_l (pc := 26) (k_V E hC hS hA hl.1 (xf.recv hC he6 rfl) rfl (c_J13_longValue_f9912 l D tk N0 sa H.size qe6 xe6) kw_1533 kw_1534 kw_1535 kw_17 kw_1536 (n := 0) (by decide +kernel) rfl ⟨⟨rfl, rfl⟩, ⟨Nat.le_of_ble_eq_true rfl, Nat.le_of_ble_eq_true rfl⟩, (by dsimp only; omega), (by dsimp only; omega)⟩ rfl (Nat.le_of_ble_eq_true rfl) he6 dX5_told_26) hS (fun q z w => absurd w (Nat.not_le.mpr z)) hn (fun r_8 H locs hR hz hk hS => ?_)
        have f0 := f0.kept (hk _ f0.lt (Nat.not_le.mpr f0.lt))
        have fR := fR.kept (hk _ fR.lt (Nat.not_le.mpr fR.lt))
        have el := el.new hk
        have h0s := h0s.kept (hk _ h0s.lt (Nat.not_le.mpr h0s.lt))
        have h1s := h1s.kept (hk _ h1s.lt (Nat.not_le.mpr h1s.lt))
        have h2s := h2s.kept (hk _ h2s.lt (Nat.not_le.mpr h2s.lt))
        have f3 := f3.kept (hk _ f3.lt (Nat.not_le.mpr f3.lt))
        have he6 := he6.kept (hk _ he6.lt (Nat.not_le.mpr he6.lt))
        have er_8 : r_8 = xe6 := hR
        have hd11 : dgJ r_8 ≤ 11 := m_dg (by rw [er_8]; have := pv6; omega)
        refine lv_lstore_n (pc := 29) (lv' := [(3, .long r_8), (0, .ref a), (1, .ref q9), (2, .ref r_2)]) hx hb dX5_told_29 rfl hl (by decide) rfl (fun ls hl => ?_)
        exact g1_X5_told E hC hA hn hr hlk a b ln cap md f vs hnc hcap hl9 hPV r_2 r_8 n k l9 lr q9 hf9 hk9 hl8 ih_8 b0_ hkn hd11 _ _ _ hS f0 fR el h0s h1s h2s f3 hl
  refine W.widen (k := 1 + 7 * 0) (n := 4 + m_tS 0) (by omega) (by show _ ≤ 4 + 0; omega) ?_
  exact loop_8 45 0 _ _  (sa (10 + 6)) (by omega) (by omega) (by omega) _ _ _ hS f0 fR el k1 f3 (lv_sub hl [2, 1, 0] rfl)
