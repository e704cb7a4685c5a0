set_option maxHeartbeats 4000000 in
set_option maxRecDepth 100000 in
/-- BestratiosModel.neighbour([JIZ)[J -/
theorem c_X5_neighbour (l : Launch) (D : va_G) (tk : Nat → ClassId) (N0 : Nat) (sa : Nat → Nat)  (sz : Nat) (pa : Nat) (ta : Int64) (ba : Int64) (nb_ b_ : Int32) (kn : Nat) (hfa : m_F ta ba) (hkn : nb_ = nI kn) (hn1 : 1 ≤ kn) (hn2 : kn ≤ 200) : Met l yX5_neighbour (wsy yX5_neighbour cX5_neighbour 8 (some (.array .long))) ({ frames := 3, cells := 200, slots := 400, locals := 77 } : Room) (cP D tk N0 sa [.ref pa, .int nb_, .int b_] sz (fun H => L2 D tk pa ta ba H)) (kQr (fun r H => sz ≤ r ∧ ∃ t b, L2 D tk r t b H ∧ (1 ≤ b.toInt ∧ b.toInt ≤ 200 ∧ t.toInt.natAbs ≤ 200000000001) ∧ (t, b) = m_NB ta ba kn b_) (nwA sz)) (200) (400) (nwA sz) := by
  refine mStart RX5 rfl (by decide +kernel) (Nat.le_of_ble_eq_true rfl) ?_
  intro p e s m args below meth c E hr hlk hnm hsz hC hF ls hl
  subst hsz
  obtain ⟨hx, hb, -⟩ := id E
  have hA : ∀ q, (nwA s.heap.size) q → N0 ≤ q := fun q h => Nat.le_trans hC.2.1 h
  have hn : ∀ q, s.heap.size ≤ q → (nwA s.heap.size) q := fun q h => h
  have hS : va_S (nwA s.heap.size) s.heap s.heap [] := va_S.rf
  have hl : lv_has ls 8 [(0, .ref pa), (1, .int nb_), (2, .int b_)] := hl
  obtain ⟨Q, hQ⟩ : ∃ Q, Q = MQ below (kQr (fun r H => s.heap.size ≤ r ∧ ∃ t b, L2 D tk r t b H ∧ (1 ≤ b.toInt ∧ b.toInt ≤ 200 ∧ t.toInt.natAbs ≤ 200000000001) ∧ (t, b) = m_NB ta ba kn b_) (nwA s.heap.size)) args s (200) (400) (nwA s.heap.size) := ⟨_, rfl⟩
  rw [← hQ]
  have fa : L2 D tk pa ta ba s.heap := hF
  refine lv_null (pc := 0) hx hb dX5_neighbour_0 ?_
  refine lv_astore_nN (pc := 1) (lv' := [(3, .null), (0, .ref pa), (1, .int nb_), (2, .int b_)]) hx hb dX5_neighbour_1 rfl hl (by decide) rfl (fun ls hl => ?_)
  refine lv_iconst (pc := 2) (v := 1) hx hb dX5_neighbour_2 (by decide) ?_
  refine lv_istore (pc := 3) (lv' := [(4, .int 1), (3, .null), (0, .ref pa), (1, .int nb_), (2, .int b_)]) hx hb dX5_neighbour_3 hl (by decide) rfl (fun ls hl => ?_)
  refine lv_iload (pc := 5) hx hb dX5_neighbour_5 (lv_at hl 0 rfl) ?_
  refine lv_iload_n (pc := 7) hx hb dX5_neighbour_7 rfl (lv_at hl 3 rfl) ?_
  refine lv_icmp_gt (pc := 8) (tgt := 89) hx hb dX5_neighbour_8 (by decide) (fun c_1 => ?_) (fun c_1 => ?_)
  · exact absurd c_1 (Int32.not_lt.mpr ((i_le (n := 1) hkn (by decide) (by omega) (by decide)).mpr hn1))
  refine lv_iload_n (pc := 11) hx hb dX5_neighbour_11 rfl (lv_at hl 4 rfl) ?_
  refine lv_if_eq (pc := 12) (tgt := 33) hx hb dX5_neighbour_12 (by decide) (fun c_2 => ?_) (fun c_2 => ?_)
  · refine lv_aload_n (pc := 33) hx hb dX5_neighbour_33 rfl (lv_at hl 2 rfl) ?_
    refine lv_iconst (pc := 34) (v := 0) hx hb dX5_neighbour_34 (by decide) ?_
    refine r_l0 (pc := 35) E hC fa dX5_neighbour_35 ?_
    refine lv_iload (pc := 36) hx hb dX5_neighbour_36 (lv_at hl 0 rfl) ?_
    refine lv_i2l (pc := 38) (v := 1) hx hb dX5_neighbour_38 (by decide) ?_
    refine lv_lmul (pc := 39) hx hb dX5_neighbour_39 ?_
    refine lv_aload_n (pc := 40) hx hb dX5_neighbour_40 rfl (lv_at hl 2 rfl) ?_
    refine lv_iconst (pc := 41) (v := 1) hx hb dX5_neighbour_41 (by decide) ?_
    refine r_l1 (pc := 42) E hC fa dX5_neighbour_42 ?_
    refine k_l (pc := 43) (k_S E hC hS hA hl.1 (c_X5_floor l D tk N0 sa s.heap.size (ta * 1) ba (m_ne0 hfa.2.1)) kw_1392 kw_1393 kw_5 kw_1394 (n := 2) (by decide +kernel) rfl ⟨⟨rfl, rfl⟩, ⟨Nat.le_of_ble_eq_true rfl, Nat.le_of_ble_eq_true rfl⟩, (by dsimp only; omega), (by dsimp only; omega)⟩ rfl (Nat.le_of_ble_eq_true rfl) trivial dX5_neighbour_43) hS (fun q z w => absurd w (Nat.not_le.mpr z)) hn (fun r_3 H locs hR hz hk hS => ?_)
    have er_3 := hR
    have fa := fa.kept (hk _ fa.lt (Nat.not_le.mpr fa.lt))
    refine lv_lstore (pc := 46) (lv' := [(5, .long r_3), (4, .int 1), (3, .null), (0, .ref pa), (1, .int nb_), (2, .int b_)]) hx hb dX5_neighbour_46 hl (by decide) rfl (fun ls hl => ?_)
    refine lv_lload (pc := 48) hx hb dX5_neighbour_48 (lv_at hl 0 rfl) ?_
    have hy9 : 1 ≤ (1 : Int64).toInt ∧ (1 : Int64).toInt ≤ 200 := by decide
    have hmu := (m_mulB (x := ta) (y := (1 : Int64)) (B := 1000000000) (C := 200) hfa.1 (by omega) (by decide)).2
    have hfl := m_floorB (a := ta * (1 : Int64)) (b := ba) (B := 200000000000) (by omega) (by decide) hfa.2.1
    have hT9 : r_3.toInt.natAbs ≤ 200000000001 := by rw [er_3]; exact hfl
    have hP9 := m_loP (t := r_3) (b := (1 : Int64)) (B := 200000000001) (C := 200) hT9 (by decide) hy9.1 (by omega)
    have hlN : (1 : Int64) = lN 1 := rfl
    have htp : r_3 = m_nbT ta ba 1 b_ := by
      unfold m_nbT
      rw [if_pos c_2, ← hlN, er_3]
    refine lv_iload (pc := 50) hx hb dX5_neighbour_50 (lv_at hl 1 rfl) ?_
    refine lv_i2l (pc := 52) (v := 1) hx hb dX5_neighbour_52 (by decide) ?_
    have hZ0_ := hS.1
    have t_fa := fa.lt
    refine k_r (pc := 53) (k_S E hC hS hA hl.1 (c_X5_lowest l D tk N0 sa H.size r_3 1 hP9.1) kw_1199 kw_1200 kw_5 kw_1201 (n := 2) (by decide +kernel) rfl ⟨⟨rfl, rfl⟩, ⟨Nat.le_of_ble_eq_true rfl, Nat.le_of_ble_eq_true rfl⟩, (by dsimp only; omega), (by dsimp only; omega)⟩ rfl (Nat.le_of_ble_eq_true rfl) trivial dX5_neighbour_53) hS (fun q z w => absurd w (Nat.not_le.mpr z)) hn (fun r_5 H locs hR hz hk hS => ?_)
    have fa := fa.kept (hk _ fa.lt (Nat.not_le.mpr fa.lt))
    obtain ⟨z9_, f6⟩ := hR
    have s_f6 : s.heap.size ≤ r_5 := Nat.le_trans hZ0_ z9_
    have g_f6 := hn _ s_f6
    have l_fa_f6 : pa < r_5 := Nat.lt_of_lt_of_le t_fa z9_
    refine lv_astore (pc := 56) (lv' := [(7, .ref r_5), (5, .long r_3), (4, .int 1), (3, .null), (0, .ref pa), (1, .int nb_), (2, .int b_)]) hx hb dX5_neighbour_56 hl (by decide) rfl (fun ls hl => ?_)
    refine lv_aload_nN (pc := 58) hx hb dX5_neighbour_58 rfl (lv_at hl 3 rfl) ?_
    refine lv_ifnullN (pc := 59) (tgt := 80) hx hb dX5_neighbour_59 (by decide) ?_
    refine lv_aload (pc := 80) hx hb dX5_neighbour_80 (lv_at hl 0 rfl) ?_
    refine lv_astore_n (pc := 82) (lv' := [(3, .ref r_5), (7, .ref r_5), (5, .long r_3), (4, .int 1), (0, .ref pa), (1, .int nb_), (2, .int b_)]) hx hb dX5_neighbour_82 rfl hl (by decide) rfl (fun ls hl => ?_)
    refine lv_iinc (pc := 83) (v := 2) (lv' := [(4, .int 2), (3, .ref r_5), (7, .ref r_5), (5, .long r_3), (0, .ref pa), (1, .int nb_), (2, .int b_)]) hx hb dX5_neighbour_83 hl (k := 3) rfl (by decide) (by decide) rfl (fun ls hl => ?_)
    refine lv_goto (pc := 86) (tgt := 5) hx hb dX5_neighbour_86 (by decide) ?_
    have loop_5 : ∀ (n : Nat) (k : Nat) (t9 : Int64) (b9 : Int64)(q9 : Nat) (y9 : Int32), 201 - k < n → 1 ≤ k ∧ k ≤ kn → y9 = nI (k + 1) → 1 ≤ b9.toInt ∧ b9.toInt ≤ 200 ∧ t9.toInt.natAbs ≤ 200000000001 → s.heap.size ≤ q9 → m_nbL ta ba b_ (kn - k) (k + 1) t9 b9 = m_NB ta ba kn b_ → ∀ (H : Heap) (locs : List Loc) (ls : Array Slot), va_S (nwA s.heap.size) s.heap H locs → L2 D tk pa ta ba H → L2 D tk q9 t9 b9 H → lv_has ls 8 [(0, .ref pa), (1, .int nb_), (2, .int b_), (3, .ref q9), (4, .int y9)] → W p l e ({ frames := 3, cells := 200, slots := 400, locals := 77 } : Room) s m args below meth c H locs (k) (2 * k) Q (F0 m 5 ls []) := by
      intro n
      induction n with
      | zero =>
        intro k t9 b9 q9 y9 hf9 hk9 hx9 hb9 hs9 hg9 H locs ls hS fa fm hl
        omega
      | succ n ih_5 =>
        intro k t9 b9 q9 y9 hf9 hk9 hx9 hb9 hs9 hg9 H locs ls hS fa fm hl
        refine lv_iload (pc := 5) hx hb dX5_neighbour_5 (lv_at hl 4 rfl) ?_
        refine lv_iload_n (pc := 7) hx hb dX5_neighbour_7 rfl (lv_at hl 1 rfl) ?_
        refine lv_icmp_gt (pc := 8) (tgt := 89) hx hb dX5_neighbour_8 (by decide) (fun c_7 => ?_) (fun c_7 => ?_)
        · refine lv_aload_n (pc := 89) hx hb dX5_neighbour_89 rfl (lv_at hl 3 rfl) ?_
          try rw [hQ]
          refine r_aret (pc := 90) E hr (Or.inr ⟨_, rfl⟩) hlk hS (by omega) (by omega) ?_ dX5_neighbour_90
          have h8 : kn ≤ k := by
            have h7 := c_7
            rw [hkn, hx9] at h7
            have := (nI_ltI (by omega) (by omega)).mp h7
            omega
          rw [show kn - k = 0 by omega] at hg9
          exact ⟨hs9, _, _, fm, hb9, hg9⟩
        · have hlt : k + 1 ≤ kn := Nat.not_lt.mp (fun z => c_7 ((i_lt hkn hx9 (by omega) (by omega)).mpr z))
          refine lv_iload_n (pc := 11) hx hb dX5_neighbour_11 rfl (lv_at hl 2 rfl) ?_
          refine lv_if_eq (pc := 12) (tgt := 33) hx hb dX5_neighbour_12 (by decide) (fun c_8 => ?_) (fun c_8 => ?_)
          rotate_left
          · exact absurd c_2 c_8
          refine lv_aload_n (pc := 33) hx hb dX5_neighbour_33 rfl (lv_at hl 0 rfl) ?_
          refine lv_iconst (pc := 34) (v := 0) hx hb dX5_neighbour_34 (by decide) ?_
          refine r_l0 (pc := 35) E hC fa dX5_neighbour_35 ?_
          refine lv_iload (pc := 36) hx hb dX5_neighbour_36 (lv_at hl 4 rfl) ?_
          refine lv_i2l (pc := 38) (v := y9.toInt64) hx hb dX5_neighbour_38 rfl ?_
          refine lv_lmul (pc := 39) hx hb dX5_neighbour_39 ?_
          refine lv_aload_n (pc := 40) hx hb dX5_neighbour_40 rfl (lv_at hl 0 rfl) ?_
          refine lv_iconst (pc := 41) (v := 1) hx hb dX5_neighbour_41 (by decide) ?_
          refine r_l1 (pc := 42) E hC fa dX5_neighbour_42 ?_
          refine k_l (pc := 43) (k_S E hC hS hA hl.1 (c_X5_floor l D tk N0 sa H.size (ta * y9.toInt64) ba (m_ne0 hfa.2.1)) kw_1392 kw_1393 kw_5 kw_1394 (n := 2) (by decide +kernel) rfl ⟨⟨rfl, rfl⟩, ⟨Nat.le_of_ble_eq_true rfl, Nat.le_of_ble_eq_true rfl⟩, (by dsimp only; omega), (by dsimp only; omega)⟩ rfl (Nat.le_of_ble_eq_true rfl) trivial dX5_neighbour_43) hS (fun q z w => absurd w (Nat.not_le.mpr z)) hn (fun r_9 H locs hR hz hk hS => ?_)
          have er_9 := hR
          have fa := fa.kept (hk _ fa.lt (Nat.not_le.mpr fa.lt))
          have fm := fm.kept (hk _ fm.lt (Nat.not_le.mpr fm.lt))
          refine lv_lstore (pc := 46) (lv' := [(5, .long r_9), (0, .ref pa), (1, .int nb_), (2, .int b_), (3, .ref q9), (4, .int y9)]) hx hb dX5_neighbour_46 hl (by decide) rfl (fun ls hl => ?_)
          refine lv_lload (pc := 48) hx hb dX5_neighbour_48 (lv_at hl 0 rfl) ?_
          have hy9 : 1 ≤ y9.toInt64.toInt ∧ y9.toInt64.toInt ≤ 200 := by rw [m_i64 hx9 (by omega)]; omega
          have hmu := (m_mulB (x := ta) (y := y9.toInt64) (B := 1000000000) (C := 200) hfa.1 (by omega) (by decide)).2
          have hfl := m_floorB (a := ta * y9.toInt64) (b := ba) (B := 200000000000) (by omega) (by decide) hfa.2.1
          have hT9 : r_9.toInt.natAbs ≤ 200000000001 := by rw [er_9]; exact hfl
          have hP9 := m_loP (t := r_9) (b := y9.toInt64) (B := 200000000001) (C := 200) hT9 (by decide) hy9.1 (by omega)
          have hlN : y9.toInt64 = lN (k + 1) := by rw [hx9]; exact nI_l (by omega)
          have htp : r_9 = m_nbT ta ba (k + 1) b_ := by
            unfold m_nbT
            rw [if_pos c_2, ← hlN, er_9]
          refine lv_iload (pc := 50) hx hb dX5_neighbour_50 (lv_at hl 5 rfl) ?_
          refine lv_i2l (pc := 52) (v := y9.toInt64) hx hb dX5_neighbour_52 rfl ?_
          have hZ0_ := hS.1
          have t_fa := fa.lt
          have t_fm := fm.lt
          refine k_r (pc := 53) (k_S E hC hS hA hl.1 (c_X5_lowest l D tk N0 sa H.size r_9 y9.toInt64 hP9.1) kw_1199 kw_1200 kw_5 kw_1201 (n := 2) (by decide +kernel) rfl ⟨⟨rfl, rfl⟩, ⟨Nat.le_of_ble_eq_true rfl, Nat.le_of_ble_eq_true rfl⟩, (by dsimp only; omega), (by dsimp only; omega)⟩ rfl (Nat.le_of_ble_eq_true rfl) trivial dX5_neighbour_53) hS (fun q z w => absurd w (Nat.not_le.mpr z)) hn (fun r_11 H locs hR hz hk hS => ?_)
          have fa := fa.kept (hk _ fa.lt (Nat.not_le.mpr fa.lt))
          have fm := fm.kept (hk _ fm.lt (Nat.not_le.mpr fm.lt))
          obtain ⟨z9_, f12⟩ := hR
          have s_f12 : s.heap.size ≤ r_11 := Nat.le_trans hZ0_ z9_
          have g_f12 := hn _ s_f12
          have l_fa_f12 : pa < r_11 := Nat.lt_of_lt_of_le t_fa z9_
          have l_fm_f12 : q9 < r_11 := Nat.lt_of_lt_of_le t_fm z9_
          refine lv_astore (pc := 56) (lv' := [(7, .ref r_11), (5, .long r_9), (0, .ref pa), (1, .int nb_), (2, .int b_), (3, .ref q9), (4, .int y9)]) hx hb dX5_neighbour_56 hl (by decide) rfl (fun ls hl => ?_)
          refine lv_aload_n (pc := 58) hx hb dX5_neighbour_58 rfl (lv_at hl 5 rfl) ?_
          refine lv_ifnull (pc := 59) hx hb dX5_neighbour_59 ?_
          refine lv_aload (pc := 62) hx hb dX5_neighbour_62 (lv_at hl 0 rfl) ?_
          refine lv_aload_n (pc := 64) hx hb dX5_neighbour_64 rfl (lv_at hl 5 rfl) ?_
          have hZ0_ := hS.1
          have t_fa := fa.lt
          have t_fm := fm.lt
          have t_f12 := f12.lt
          refine k_i (pc := 65) (k_S E hC hS hA hl.1 (c_X5_order l D tk N0 sa H.size r_11 (m_loT r_9 y9.toInt64) (m_loB r_9 y9.toInt64) q9 t9 b9 ) kw_1268 kw_1269 kw_5 kw_1270 (n := 2) (by decide +kernel) rfl ⟨⟨rfl, rfl⟩, ⟨Nat.le_of_ble_eq_true rfl, Nat.le_of_ble_eq_true rfl⟩, (by dsimp only; omega), (by dsimp only; omega)⟩ rfl (Nat.le_of_ble_eq_true rfl) ⟨f12, fm⟩ dX5_neighbour_65) hS (fun q z w => absurd w (Nat.not_le.mpr z)) hn (fun r_13 H locs hR hz hk hS => ?_)
          have fa := fa.kept (hk _ fa.lt (Nat.not_le.mpr fa.lt))
          have fm := fm.kept (hk _ fm.lt (Nat.not_le.mpr fm.lt))
          have f12 := f12.kept (hk _ f12.lt (Nat.not_le.mpr f12.lt))
          have er_13 := hR
          refine lv_iload_n (pc := 68) hx hb dX5_neighbour_68 rfl (lv_at hl 4 rfl) ?_
          refine lv_if_eq (pc := 69) (tgt := 76) hx hb dX5_neighbour_69 (by decide) (fun c_14 => ?_) (fun c_14 => ?_)
          rotate_left
          · exact absurd c_2 c_14
          refine lv_iconst (pc := 76) (v := 1) hx hb dX5_neighbour_76 (by decide) ?_
          refine lv_icmp_ne (pc := 77) (tgt := 83) hx hb dX5_neighbour_77 (by decide) (fun c_15 => ?_) (fun c_15 => ?_)
          · obtain ⟨x_16, ex_16⟩ : ∃ z9 : Int32, z9 = y9 + 1 := ⟨_, rfl⟩
            refine lv_iinc (pc := 83) (v := x_16) (lv' := [(4, .int x_16), (7, .ref r_11), (5, .long r_9), (0, .ref pa), (1, .int nb_), (2, .int b_), (3, .ref q9)]) hx hb dX5_neighbour_83 hl (k := 6) rfl (by rw [ex_16]; rfl) (by decide) rfl (fun ls hl => ?_)
            refine lv_goto (pc := 86) (tgt := 5) hx hb dX5_neighbour_86 (by decide) ?_
            refine W.widen (k := k + 1) (n := 2 * (k + 1)) (by omega) (by omega) ?_
            exact ih_5  (k + 1) _ _  q9 x_16 (by omega) ⟨by omega, hlt⟩ (i_up hx9 ex_16) hb9 hs9 (m_nbLn (by omega) hg9 (fun z9 => c_15 (er_13.trans (z9.trans (if_pos c_2)))) htp hlN) _ _ _ hS fa fm (lv_sub hl [3, 4, 5, 6, 0] rfl)
          · refine lv_aload (pc := 80) hx hb dX5_neighbour_80 (lv_at hl 0 rfl) ?_
            refine lv_astore_n (pc := 82) (lv' := [(3, .ref r_11), (7, .ref r_11), (5, .long r_9), (0, .ref pa), (1, .int nb_), (2, .int b_), (4, .int y9)]) hx hb dX5_neighbour_82 rfl hl (by decide) rfl (fun ls hl => ?_)
            obtain ⟨x_17, ex_17⟩ : ∃ z9 : Int32, z9 = y9 + 1 := ⟨_, rfl⟩
            refine lv_iinc (pc := 83) (v := x_17) (lv' := [(4, .int x_17), (3, .ref r_11), (7, .ref r_11), (5, .long r_9), (0, .ref pa), (1, .int nb_), (2, .int b_)]) hx hb dX5_neighbour_83 hl (k := 6) rfl (by rw [ex_17]; rfl) (by decide) rfl (fun ls hl => ?_)
            refine lv_goto (pc := 86) (tgt := 5) hx hb dX5_neighbour_86 (by decide) ?_
            refine W.widen (k := k + 1) (n := 2 * (k + 1)) (by omega) (by omega) ?_
            exact ih_5  (k + 1) _ _  r_11 x_17 (by omega) ⟨by omega, hlt⟩ (i_up hx9 ex_17) ⟨hP9.2.1, hP9.2.2.1, hP9.2.2.2⟩ s_f12 (m_nbLy (by omega) hg9 (by rw [if_pos c_2, ← er_13]; exact c_15) htp hlN) _ _ _ hS fa f12 (lv_sub hl [4, 5, 6, 1, 0] rfl)
    refine W.widen (k := 1) (n := 2 * 1) (by omega) (by omega) ?_
    exact loop_5 202 1 _ _  r_5 2 (by omega) ⟨Nat.le_refl _, hn1⟩ (by decide) ⟨hP9.2.1, hP9.2.2.1, hP9.2.2.2⟩ s_f6 (by show _ = m_nbL ta ba b_ (kn - 1) 2 (m_loT (m_nbT ta ba 1 b_) (lN 1)) (m_loB (m_nbT ta ba 1 b_) (lN 1)); rw [htp]; rfl) _ _ _ hS fa f6 (lv_sub hl [4, 5, 6, 1, 0] rfl)
  · refine lv_aload_n (pc := 15) hx hb dX5_neighbour_15 rfl (lv_at hl 2 rfl) ?_
    refine lv_iconst (pc := 16) (v := 0) hx hb dX5_neighbour_16 (by decide) ?_
    refine r_l0 (pc := 17) E hC fa dX5_neighbour_17 ?_
    refine lv_lneg (pc := 18) hx hb dX5_neighbour_18 ?_
    refine lv_iload (pc := 19) hx hb dX5_neighbour_19 (lv_at hl 0 rfl) ?_
    refine lv_i2l (pc := 21) (v := 1) hx hb dX5_neighbour_21 (by decide) ?_
    refine lv_lmul (pc := 22) hx hb dX5_neighbour_22 ?_
    refine lv_aload_n (pc := 23) hx hb dX5_neighbour_23 rfl (lv_at hl 2 rfl) ?_
    refine lv_iconst (pc := 24) (v := 1) hx hb dX5_neighbour_24 (by decide) ?_
    refine r_l1 (pc := 25) E hC fa dX5_neighbour_25 ?_
    refine k_l (pc := 26) (k_S E hC hS hA hl.1 (c_X5_floor l D tk N0 sa s.heap.size ((-ta) * 1) ba (m_ne0 hfa.2.1)) kw_1392 kw_1393 kw_5 kw_1394 (n := 2) (by decide +kernel) rfl ⟨⟨rfl, rfl⟩, ⟨Nat.le_of_ble_eq_true rfl, Nat.le_of_ble_eq_true rfl⟩, (by dsimp only; omega), (by dsimp only; omega)⟩ rfl (Nat.le_of_ble_eq_true rfl) trivial dX5_neighbour_26) hS (fun q z w => absurd w (Nat.not_le.mpr z)) hn (fun r_18 H locs hR hz hk hS => ?_)
    have er_18 := hR
    have fa := fa.kept (hk _ fa.lt (Nat.not_le.mpr fa.lt))
    refine lv_lneg (pc := 29) hx hb dX5_neighbour_29 ?_
    refine lv_goto (pc := 30) (tgt := 46) hx hb dX5_neighbour_30 (by decide) ?_
    obtain ⟨x_20, ex_20⟩ : ∃ z9 : Int64, z9 = -r_18 := ⟨_, rfl⟩
    rw [← ex_20]
    refine lv_lstore (pc := 46) (lv' := [(5, .long x_20), (4, .int 1), (3, .null), (0, .ref pa), (1, .int nb_), (2, .int b_)]) hx hb dX5_neighbour_46 hl (by decide) rfl (fun ls hl => ?_)
    refine lv_lload (pc := 48) hx hb dX5_neighbour_48 (lv_at hl 0 rfl) ?_
    have hy9 : 1 ≤ (1 : Int64).toInt ∧ (1 : Int64).toInt ≤ 200 := by decide
    have hng := (m_negB hfa.1 (by decide)).2
    have hmu := (m_mulB (x := -ta) (y := (1 : Int64)) (B := 1000000000) (C := 200) hng (by omega) (by decide)).2
    have hfl := m_floorB (a := -ta * (1 : Int64)) (b := ba) (B := 200000000000) (by omega) (by decide) hfa.2.1
    rw [← er_18] at hfl
    have hT9 : x_20.toInt.natAbs ≤ 200000000001 := by rw [ex_20]; exact (m_negB (B := 200000000001) hfl (by decide)).2
    have hP9 := m_loP (t := x_20) (b := (1 : Int64)) (B := 200000000001) (C := 200) hT9 (by decide) hy9.1 (by omega)
    have hlN : (1 : Int64) = lN 1 := rfl
    have htp : x_20 = m_nbT ta ba 1 b_ := by
      unfold m_nbT
      rw [if_neg c_2, ← hlN, ex_20, er_18]
    refine lv_iload (pc := 50) hx hb dX5_neighbour_50 (lv_at hl 1 rfl) ?_
    refine lv_i2l (pc := 52) (v := 1) hx hb dX5_neighbour_52 (by decide) ?_
    have hZ0_ := hS.1
    have t_fa := fa.lt
    refine k_r (pc := 53) (k_S E hC hS hA hl.1 (c_X5_lowest l D tk N0 sa H.size x_20 1 hP9.1) kw_1199 kw_1200 kw_5 kw_1201 (n := 2) (by decide +kernel) rfl ⟨⟨rfl, rfl⟩, ⟨Nat.le_of_ble_eq_true rfl, Nat.le_of_ble_eq_true rfl⟩, (by dsimp only; omega), (by dsimp only; omega)⟩ rfl (Nat.le_of_ble_eq_true rfl) trivial dX5_neighbour_53) hS (fun q z w => absurd w (Nat.not_le.mpr z)) hn (fun r_21 H locs hR hz hk hS => ?_)
    have fa := fa.kept (hk _ fa.lt (Nat.not_le.mpr fa.lt))
    obtain ⟨z9_, f22⟩ := hR
    have s_f22 : s.heap.size ≤ r_21 := Nat.le_trans hZ0_ z9_
    have g_f22 := hn _ s_f22
    have l_fa_f22 : pa < r_21 := Nat.lt_of_lt_of_le t_fa z9_
    refine lv_astore (pc := 56) (lv' := [(7, .ref r_21), (5, .long x_20), (4, .int 1), (3, .null), (0, .ref pa), (1, .int nb_), (2, .int b_)]) hx hb dX5_neighbour_56 hl (by decide) rfl (fun ls hl => ?_)
    refine lv_aload_nN (pc := 58) hx hb dX5_neighbour_58 rfl (lv_at hl 3 rfl) ?_
    refine lv_ifnullN (pc := 59) (tgt := 80) hx hb dX5_neighbour_59 (by decide) ?_
    refine lv_aload (pc := 80) hx hb dX5_neighbour_80 (lv_at hl 0 rfl) ?_
    refine lv_astore_n (pc := 82) (lv' := [(3, .ref r_21), (7, .ref r_21), (5, .long x_20), (4, .int 1), (0, .ref pa), (1, .int nb_), (2, .int b_)]) hx hb dX5_neighbour_82 rfl hl (by decide) rfl (fun ls hl => ?_)
    refine lv_iinc (pc := 83) (v := 2) (lv' := [(4, .int 2), (3, .ref r_21), (7, .ref r_21), (5, .long x_20), (0, .ref pa), (1, .int nb_), (2, .int b_)]) hx hb dX5_neighbour_83 hl (k := 3) rfl (by decide) (by decide) rfl (fun ls hl => ?_)
    refine lv_goto (pc := 86) (tgt := 5) hx hb dX5_neighbour_86 (by decide) ?_
    have loop_5 : ∀ (n : Nat) (k : Nat) (t9 : Int64) (b9 : Int64)(q9 : Nat) (y9 : Int32), 201 - k < n → 1 ≤ k ∧ k ≤ kn → y9 = nI (k + 1) → 1 ≤ b9.toInt ∧ b9.toInt ≤ 200 ∧ t9.toInt.natAbs ≤ 200000000001 → s.heap.size ≤ q9 → m_nbL ta ba b_ (kn - k) (k + 1) t9 b9 = m_NB ta ba kn b_ → ∀ (H : Heap) (locs : List Loc) (ls : Array Slot), va_S (nwA s.heap.size) s.heap H locs → L2 D tk pa ta ba H → L2 D tk q9 t9 b9 H → lv_has ls 8 [(0, .ref pa), (1, .int nb_), (2, .int b_), (3, .ref q9), (4, .int y9)] → W p l e ({ frames := 3, cells := 200, slots := 400, locals := 77 } : Room) s m args below meth c H locs (k) (2 * k) Q (F0 m 5 ls []) := by
      intro n
      induction n with
      | zero =>
        intro k t9 b9 q9 y9 hf9 hk9 hx9 hb9 hs9 hg9 H locs ls hS fa fm hl
        omega
      | succ n ih_5 =>
        intro k t9 b9 q9 y9 hf9 hk9 hx9 hb9 hs9 hg9 H locs ls hS fa fm hl
        refine lv_iload (pc := 5) hx hb dX5_neighbour_5 (lv_at hl 4 rfl) ?_
        refine lv_iload_n (pc := 7) hx hb dX5_neighbour_7 rfl (lv_at hl 1 rfl) ?_
        refine lv_icmp_gt (pc := 8) (tgt := 89) hx hb dX5_neighbour_8 (by decide) (fun c_23 => ?_) (fun c_23 => ?_)
        · refine lv_aload_n (pc := 89) hx hb dX5_neighbour_89 rfl (lv_at hl 3 rfl) ?_
          try rw [hQ]
          refine r_aret (pc := 90) E hr (Or.inr ⟨_, rfl⟩) hlk hS (by omega) (by omega) ?_ dX5_neighbour_90
          have h8 : kn ≤ k := by
            have h7 := c_23
            rw [hkn, hx9] at h7
            have := (nI_ltI (by omega) (by omega)).mp h7
            omega
          rw [show kn - k = 0 by omega] at hg9
          exact ⟨hs9, _, _, fm, hb9, hg9⟩
        · have hlt : k + 1 ≤ kn := Nat.not_lt.mp (fun z => c_23 ((i_lt hkn hx9 (by omega) (by omega)).mpr z))
          refine lv_iload_n (pc := 11) hx hb dX5_neighbour_11 rfl (lv_at hl 2 rfl) ?_
          refine lv_if_eq (pc := 12) (tgt := 33) hx hb dX5_neighbour_12 (by decide) (fun c_24 => ?_) (fun c_24 => ?_)
          · exact absurd c_24 c_2
          refine lv_aload_n (pc := 15) hx hb dX5_neighbour_15 rfl (lv_at hl 0 rfl) ?_
          refine lv_iconst (pc := 16) (v := 0) hx hb dX5_neighbour_16 (by decide) ?_
          refine r_l0 (pc := 17) E hC fa dX5_neighbour_17 ?_
          refine lv_lneg (pc := 18) hx hb dX5_neighbour_18 ?_
          refine lv_iload (pc := 19) hx hb dX5_neighbour_19 (lv_at hl 4 rfl) ?_
          refine lv_i2l (pc := 21) (v := y9.toInt64) hx hb dX5_neighbour_21 rfl ?_
          refine lv_lmul (pc := 22) hx hb dX5_neighbour_22 ?_
          refine lv_aload_n (pc := 23) hx hb dX5_neighbour_23 rfl (lv_at hl 0 rfl) ?_
          refine lv_iconst (pc := 24) (v := 1) hx hb dX5_neighbour_24 (by decide) ?_
          refine r_l1 (pc := 25) E hC fa dX5_neighbour_25 ?_
          refine k_l (pc := 26) (k_S E hC hS hA hl.1 (c_X5_floor l D tk N0 sa H.size ((-ta) * y9.toInt64) ba (m_ne0 hfa.2.1)) kw_1392 kw_1393 kw_5 kw_1394 (n := 2) (by decide +kernel) rfl ⟨⟨rfl, rfl⟩, ⟨Nat.le_of_ble_eq_true rfl, Nat.le_of_ble_eq_true rfl⟩, (by dsimp only; omega), (by dsimp only; omega)⟩ rfl (Nat.le_of_ble_eq_true rfl) trivial dX5_neighbour_26) hS (fun q z w => absurd w (Nat.not_le.mpr z)) hn (fun r_25 H locs hR hz hk hS => ?_)
          have er_25 := hR
          have fa := fa.kept (hk _ fa.lt (Nat.not_le.mpr fa.lt))
          have fm := fm.kept (hk _ fm.lt (Nat.not_le.mpr fm.lt))
          refine lv_lneg (pc := 29) hx hb dX5_neighbour_29 ?_
          refine lv_goto (pc := 30) (tgt := 46) hx hb dX5_neighbour_30 (by decide) ?_
          obtain ⟨x_27, ex_27⟩ : ∃ z9 : Int64, z9 = -r_25 := ⟨_, rfl⟩
          rw [← ex_27]
          refine lv_lstore (pc := 46) (lv' := [(5, .long x_27), (0, .ref pa), (1, .int nb_), (2, .int b_), (3, .ref q9), (4, .int y9)]) hx hb dX5_neighbour_46 hl (by decide) rfl (fun ls hl => ?_)
          refine lv_lload (pc := 48) hx hb dX5_neighbour_48 (lv_at hl 0 rfl) ?_
          have hy9 : 1 ≤ y9.toInt64.toInt ∧ y9.toInt64.toInt ≤ 200 := by rw [m_i64 hx9 (by omega)]; omega
          have hng := (m_negB hfa.1 (by decide)).2
          have hmu := (m_mulB (x := -ta) (y := y9.toInt64) (B := 1000000000) (C := 200) hng (by omega) (by decide)).2
          have hfl := m_floorB (a := -ta * y9.toInt64) (b := ba) (B := 200000000000) (by omega) (by decide) hfa.2.1
          rw [← er_25] at hfl
          have hT9 : x_27.toInt.natAbs ≤ 200000000001 := by rw [ex_27]; exact (m_negB (B := 200000000001) hfl (by decide)).2
          have hP9 := m_loP (t := x_27) (b := y9.toInt64) (B := 200000000001) (C := 200) hT9 (by decide) hy9.1 (by omega)
          have hlN : y9.toInt64 = lN (k + 1) := by rw [hx9]; exact nI_l (by omega)
          have htp : x_27 = m_nbT ta ba (k + 1) b_ := by
            unfold m_nbT
            rw [if_neg c_2, ← hlN, ex_27, er_25]
          refine lv_iload (pc := 50) hx hb dX5_neighbour_50 (lv_at hl 5 rfl) ?_
          refine lv_i2l (pc := 52) (v := y9.toInt64) hx hb dX5_neighbour_52 rfl ?_
          have hZ0_ := hS.1
          have t_fa := fa.lt
          have t_fm := fm.lt
          refine k_r (pc := 53) (k_S E hC hS hA hl.1 (c_X5_lowest l D tk N0 sa H.size x_27 y9.toInt64 hP9.1) kw_1199 kw_1200 kw_5 kw_1201 (n := 2) (by decide +kernel) rfl ⟨⟨rfl, rfl⟩, ⟨Nat.le_of_ble_eq_true rfl, Nat.le_of_ble_eq_true rfl⟩, (by dsimp only; omega), (by dsimp only; omega)⟩ rfl (Nat.le_of_ble_eq_true rfl) trivial dX5_neighbour_53) hS (fun q z w => absurd w (Nat.not_le.mpr z)) hn (fun r_28 H locs hR hz hk hS => ?_)
          have fa := fa.kept (hk _ fa.lt (Nat.not_le.mpr fa.lt))
          have fm := fm.kept (hk _ fm.lt (Nat.not_le.mpr fm.lt))
          obtain ⟨z9_, f29⟩ := hR
          have s_f29 : s.heap.size ≤ r_28 := Nat.le_trans hZ0_ z9_
          have g_f29 := hn _ s_f29
          have l_fa_f29 : pa < r_28 := Nat.lt_of_lt_of_le t_fa z9_
          have l_fm_f29 : q9 < r_28 := Nat.lt_of_lt_of_le t_fm z9_
          refine lv_astore (pc := 56) (lv' := [(7, .ref r_28), (5, .long x_27), (0, .ref pa), (1, .int nb_), (2, .int b_), (3, .ref q9), (4, .int y9)]) hx hb dX5_neighbour_56 hl (by decide) rfl (fun ls hl => ?_)
          refine lv_aload_n (pc := 58) hx hb dX5_neighbour_58 rfl (lv_at hl 5 rfl) ?_
          refine lv_ifnull (pc := 59) hx hb dX5_neighbour_59 ?_
          refine lv_aload (pc := 62) hx hb dX5_neighbour_62 (lv_at hl 0 rfl) ?_
          refine lv_aload_n (pc := 64) hx hb dX5_neighbour_64 rfl (lv_at hl 5 rfl) ?_
          have hZ0_ := hS.1
          have t_fa := fa.lt
          have t_fm := fm.lt
          have t_f29 := f29.lt
          refine k_i (pc := 65) (k_S E hC hS hA hl.1 (c_X5_order l D tk N0 sa H.size r_28 (m_loT x_27 y9.toInt64) (m_loB x_27 y9.toInt64) q9 t9 b9 ) kw_1268 kw_1269 kw_5 kw_1270 (n := 2) (by decide +kernel) rfl ⟨⟨rfl, rfl⟩, ⟨Nat.le_of_ble_eq_true rfl, Nat.le_of_ble_eq_true rfl⟩, (by dsimp only; omega), (by dsimp only; omega)⟩ rfl (Nat.le_of_ble_eq_true rfl) ⟨f29, fm⟩ dX5_neighbour_65) hS (fun q z w => absurd w (Nat.not_le.mpr z)) hn (fun r_30 H locs hR hz hk hS => ?_)
          have fa := fa.kept (hk _ fa.lt (Nat.not_le.mpr fa.lt))
          have fm := fm.kept (hk _ fm.lt (Nat.not_le.mpr fm.lt))
          have f29 := f29.kept (hk _ f29.lt (Nat.not_le.mpr f29.lt))
          have er_30 := hR
          refine lv_iload_n (pc := 68) hx hb dX5_neighbour_68 rfl (lv_at hl 4 rfl) ?_
          refine lv_if_eq (pc := 69) (tgt := 76) hx hb dX5_neighbour_69 (by decide) (fun c_31 => ?_) (fun c_31 => ?_)
          · exact absurd c_31 c_2
          refine lv_iconst (pc := 72) (v := (-1)) hx hb dX5_neighbour_72 (by decide) ?_
          refine lv_goto (pc := 73) (tgt := 77) hx hb dX5_neighbour_73 (by decide) ?_
          refine lv_icmp_ne (pc := 77) (tgt := 83) hx hb dX5_neighbour_77 (by decide) (fun c_32 => ?_) (fun c_32 => ?_)
          · obtain ⟨x_33, ex_33⟩ : ∃ z9 : Int32, z9 = y9 + 1 := ⟨_, rfl⟩
            refine lv_iinc (pc := 83) (v := x_33) (lv' := [(4, .int x_33), (7, .ref r_28), (5, .long x_27), (0, .ref pa), (1, .int nb_), (2, .int b_), (3, .ref q9)]) hx hb dX5_neighbour_83 hl (k := 6) rfl (by rw [ex_33]; rfl) (by decide) rfl (fun ls hl => ?_)
            refine lv_goto (pc := 86) (tgt := 5) hx hb dX5_neighbour_86 (by decide) ?_
            refine W.widen (k := k + 1) (n := 2 * (k + 1)) (by omega) (by omega) ?_
            exact ih_5  (k + 1) _ _  q9 x_33 (by omega) ⟨by omega, hlt⟩ (i_up hx9 ex_33) hb9 hs9 (m_nbLn (by omega) hg9 (fun z9 => c_32 (er_30.trans (z9.trans (if_neg c_2)))) htp hlN) _ _ _ hS fa fm (lv_sub hl [3, 4, 5, 6, 0] rfl)
          · refine lv_aload (pc := 80) hx hb dX5_neighbour_80 (lv_at hl 0 rfl) ?_
            refine lv_astore_n (pc := 82) (lv' := [(3, .ref r_28), (7, .ref r_28), (5, .long x_27), (0, .ref pa), (1, .int nb_), (2, .int b_), (4, .int y9)]) hx hb dX5_neighbour_82 rfl hl (by decide) rfl (fun ls hl => ?_)
            obtain ⟨x_34, ex_34⟩ : ∃ z9 : Int32, z9 = y9 + 1 := ⟨_, rfl⟩
            refine lv_iinc (pc := 83) (v := x_34) (lv' := [(4, .int x_34), (3, .ref r_28), (7, .ref r_28), (5, .long x_27), (0, .ref pa), (1, .int nb_), (2, .int b_)]) hx hb dX5_neighbour_83 hl (k := 6) rfl (by rw [ex_34]; rfl) (by decide) rfl (fun ls hl => ?_)
            refine lv_goto (pc := 86) (tgt := 5) hx hb dX5_neighbour_86 (by decide) ?_
            refine W.widen (k := k + 1) (n := 2 * (k + 1)) (by omega) (by omega) ?_
            exact ih_5  (k + 1) _ _  r_28 x_34 (by omega) ⟨by omega, hlt⟩ (i_up hx9 ex_34) ⟨hP9.2.1, hP9.2.2.1, hP9.2.2.2⟩ s_f29 (m_nbLy (by omega) hg9 (by rw [if_neg c_2, ← er_30]; exact c_32) htp hlN) _ _ _ hS fa f29 (lv_sub hl [4, 5, 6, 1, 0] rfl)
    refine W.widen (k := 1) (n := 2 * 1) (by omega) (by omega) ?_
    exact loop_5 202 1 _ _  r_21 2 (by omega) ⟨Nat.le_refl _, hn1⟩ (by decide) ⟨hP9.2.1, hP9.2.2.1, hP9.2.2.2⟩ s_f22 (by show _ = m_nbL ta ba b_ (kn - 1) 2 (m_loT (m_nbT ta ba 1 b_) (lN 1)) (m_loB (m_nbT ta ba 1 b_) (lN 1)); rw [htp]; rfl) _ _ _ hS fa f22 (lv_sub hl [4, 5, 6, 1, 0] rfl)
