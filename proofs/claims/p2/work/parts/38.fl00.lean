set_option maxHeartbeats 4000000 in
set_option maxRecDepth 100000 in
/-- BestratiosModel.folded(Ljava/util/ArrayList;I)[J -/
theorem c_X5_folded (l : Launch) (D : va_G) (tk : Nat → ClassId) (N0 : Nat) (sa : Nat → Nat)  (sz : Nat) (a b ln cap : Nat) (md mn : Int32) (f : Nat → Option Nat) (vs : Nat → Value) (mk : Nat) (a9 : Nat → Int64) (hnc : ln ≤ cap) (hcap : cap ≤ 100000000) (hmn : mn = nI mk) (hmk : 1 ≤ mk ∧ mk ≤ ln) (hl9 : ln ≤ 1000) (hPF : PF ln vs) (hav : ∀ i, i < ln → vs i = .long (a9 i)) : Met l yX5_folded (wsy yX5_folded cX5_folded 9 (some (.array .long))) ({ frames := 3, cells := 1, slots := 2, locals := 77 } : Room) (cP D tk N0 sa [.ref a, .int mn] sz (fun H => c1 D a (.inr (7, [.int md, .ref b, .int (nI ln)])) H ∧ c1 D b (.inl (tk 4, cap, .inr (.inr (.inr (.inr f))))) H ∧ EL D 3 ln f vs H)) (kQo (fun v H => (v = none ∧ m_FD a9 mk = none) ∨ (∃ q t b, v = some q ∧ sz ≤ q ∧ L2 D tk q t b H ∧ 1 ≤ b.toInt ∧ m_FD a9 mk = some (t, b))) (nwA sz)) (1) (2) (nwA sz) := by
  refine mStart RX5 rfl (by decide +kernel) (Nat.le_of_ble_eq_true rfl) ?_
  intro p e s m args below meth c E hr hlk hnm hsz hC hF ls hl
  subst hsz
  obtain ⟨hx, hb, -⟩ := id E
  have hA : ∀ q, (nwA s.heap.size) q → N0 ≤ q := fun q h => Nat.le_trans hC.2.1 h
  have hn : ∀ q, s.heap.size ≤ q → (nwA s.heap.size) q := fun q h => h
  have hS : va_S (nwA s.heap.size) s.heap s.heap [] := va_S.rf
  have hl : lv_has ls 9 [(0, .ref a), (1, .int mn)] := hl
  obtain ⟨Q, hQ⟩ : ∃ Q, Q = MQ below (kQo (fun v H => (v = none ∧ m_FD a9 mk = none) ∨ (∃ q t b, v = some q ∧ s.heap.size ≤ q ∧ L2 D tk q t b H ∧ 1 ≤ b.toInt ∧ m_FD a9 mk = some (t, b))) (nwA s.heap.size)) args s (1) (2) (nwA s.heap.size) := ⟨_, rfl⟩
  rw [← hQ]
  obtain ⟨f0, fR, el⟩ : c1 D a (.inr (7, [.int md, .ref b, .int (nI ln)])) s.heap ∧ c1 D b (.inl (tk 4, cap, .inr (.inr (.inr (.inr f))))) s.heap ∧ EL D 3 ln f vs s.heap := hF
  obtain ⟨mj, rfl⟩ : ∃ mj, mk = mj + 1 := ⟨mk - 1, by omega⟩
  refine lv_aload_n (pc := 0) hx hb dX5_folded_0 rfl (lv_at hl 0 rfl) ?_
  refine lv_iload_n (pc := 1) hx hb dX5_folded_1 rfl (lv_at hl 1 rfl) ?_
  refine lv_iconst (pc := 2) (v := 1) hx hb dX5_folded_2 (by decide) ?_
  refine lv_isub (pc := 3) hx hb dX5_folded_3 ?_
  obtain ⟨qe1, hq1, he1⟩ := el mj (by omega)
  obtain ⟨xe1, ev1, pf1⟩ := hPF mj (by omega)
  rw [ev1] at he1
  refine k_r (pc := 4) (k_V E hC hS hA hl.1 (c1.recv hC f0 rfl) rfl (c_Jx4a65c_get_915e3 l D tk N0 sa s.heap.size a b ln cap mj qe1 md (mn - 1) f (by rw [hmn]; exact nI_pred mj) (by omega) hnc hcap hq1) kw_1550 kw_1551 kw_1552 kw_8 kw_1553 (n := 1) (by decide +kernel) rfl ⟨⟨rfl, rfl⟩, ⟨Nat.le_of_ble_eq_true rfl, Nat.le_of_ble_eq_true rfl⟩, (by dsimp only; omega), (by dsimp only; omega)⟩ rfl (Nat.le_of_ble_eq_true rfl) ⟨f0, fR⟩ dX5_folded_4) hS (fun q z w => absurd w (Nat.not_le.mpr z)) hn (fun r_2 H locs hR hz hk hS => ?_)
  have f0 := f0.kept (hk _ f0.lt (Nat.not_le.mpr f0.lt))
  have fR := fR.kept (hk _ fR.lt (Nat.not_le.mpr fR.lt))
  have el := el.new hk
  have he1 := he1.kept (hk _ he1.lt (Nat.not_le.mpr he1.lt))
  rw [show r_2 = qe1 from hR]
  refine r_castO (pc := 7) E hC he1 rfl kw_1532 dX5_folded_7 ?_
  refine k_l (pc := 10) (k_V E hC hS hA hl.1 (xf.recv hC he1 rfl) rfl (c_J13_longValue_f9912 l D tk N0 sa H.size qe1 xe1) kw_1533 kw_1534 kw_1535 kw_17 kw_1536 (n := 0) (by decide +kernel) rfl ⟨⟨rfl, rfl⟩, ⟨Nat.le_of_ble_eq_true rfl, Nat.le_of_ble_eq_true rfl⟩, (by dsimp only; omega), (by dsimp only; omega)⟩ rfl (Nat.le_of_ble_eq_true rfl) he1 dX5_folded_10) hS (fun q z w => absurd w (Nat.not_le.mpr z)) hn (fun r_3 H locs hR hz hk hS => ?_)
  have f0 := f0.kept (hk _ f0.lt (Nat.not_le.mpr f0.lt))
  have fR := fR.kept (hk _ fR.lt (Nat.not_le.mpr fR.lt))
  have el := el.new hk
  have he1 := he1.kept (hk _ he1.lt (Nat.not_le.mpr he1.lt))
  have er_3 : r_3 = xe1 := hR
  refine lv_lstore_n (pc := 13) (lv' := [(2, .long r_3), (0, .ref a), (1, .int mn)]) hx hb dX5_folded_13 rfl hl (by decide) rfl (fun ls hl => ?_)
  refine lv_lconst (pc := 14) (v := 1) hx hb dX5_folded_14 (by decide) ?_
  refine lv_lstore (pc := 15) (lv' := [(4, .long 1), (2, .long r_3), (0, .ref a), (1, .int mn)]) hx hb dX5_folded_15 hl (by decide) rfl (fun ls hl => ?_)
  refine lv_iload_n (pc := 17) hx hb dX5_folded_17 rfl (lv_at hl 3 rfl) ?_
  refine lv_iconst (pc := 18) (v := 2) hx hb dX5_folded_18 (by decide) ?_
  refine lv_isub (pc := 19) hx hb dX5_folded_19 ?_
  obtain ⟨x_4, ex_4⟩ : ∃ z9 : Int32, z9 = mn - 2 := ⟨_, rfl⟩
  rw [← ex_4]
  refine lv_istore (pc := 20) (lv' := [(6, .int x_4), (4, .long 1), (2, .long r_3), (0, .ref a), (1, .int mn)]) hx hb dX5_folded_20 hl (by decide) rfl (fun ls hl => ?_)
  have loop_22 : ∀ (n : Nat) (k : Nat)(T9 : Int64) (B9 : Int64) (y9 : Int32), k < n → k + 1 ≤ ln → y9 + 1 = nI k → 1 ≤ B9.toInt ∧ B9.toInt ≤ 4000000000 → T9.toInt.natAbs ≤ 5000000000000000000 ∧ (1 ≤ k → 1 ≤ T9.toInt) → m_fdL a9 k T9 B9 = m_FD a9 (mj + 1) → ∀ (H : Heap) (locs : List Loc) (ls : Array Slot), va_S (nwA s.heap.size) s.heap H locs → c1 D a (.inr (7, [.int md, .ref b, .int (nI ln)])) H → c1 D b (.inl (tk 4, cap, .inr (.inr (.inr (.inr f))))) H → EL D 3 ln f vs H → lv_has ls 9 [(0, .ref a), (1, .int mn), (2, .long T9), (4, .long B9), (6, .int y9)] → W p l e ({ frames := 3, cells := 1, slots := 2, locals := 77 } : Room) s m args below meth c H locs (0) (0) Q (F0 m 22 ls []) := by
    intro n
    induction n with
    | zero =>
      intro k T9 B9 y9 hf9 hk9 hx9 hb9 hT9 hg9 H locs ls hS f0 fR el hl
      omega
    | succ n ih_22 =>
      intro k T9 B9 y9 hf9 hk9 hx9 hb9 hT9 hg9 H locs ls hS f0 fR el hl
      refine lv_iload (pc := 22) hx hb dX5_folded_22 (lv_at hl 4 rfl) ?_
      refine lv_if_lt (pc := 24) (tgt := 68) hx hb dX5_folded_24 (by decide) (fun c_5 => ?_) (fun c_5 => ?_)
      · have hk0 := f_zero hx9 (by omega) c_5
        have hP9 := m_loP (t := T9) (b := B9) (B := 5000000000000000000) (C := 4000000000) hT9.1 (by decide) hb9.1 hb9.2
        refine lv_lload_n (pc := 68) hx hb dX5_folded_68 rfl (lv_at hl 2 rfl) ?_
        refine lv_lload (pc := 69) hx hb dX5_folded_69 (lv_at hl 3 rfl) ?_
        have hZ0_ := hS.1
        have t_f0 := f0.lt
        have t_fR := fR.lt
        refine k_r (pc := 71) (k_S E hC hS hA hl.1 (c_X5_lowest l D tk N0 sa H.size T9 B9 hP9.1) kw_1199 kw_1200 kw_5 kw_1201 (n := 2) (by decide +kernel) rfl ⟨⟨rfl, rfl⟩, ⟨Nat.le_of_ble_eq_true rfl, Nat.le_of_ble_eq_true rfl⟩, (by dsimp only; omega), (by dsimp only; omega)⟩ rfl (Nat.le_of_ble_eq_true rfl) trivial dX5_folded_71) hS (fun q z w => absurd w (Nat.not_le.mpr z)) hn (fun r_6 H locs hR hz hk hS => ?_)
        have f0 := f0.kept (hk _ f0.lt (Nat.not_le.mpr f0.lt))
        have fR := fR.kept (hk _ fR.lt (Nat.not_le.mpr fR.lt))
        have el := el.new hk
        obtain ⟨z9_, f7⟩ := hR
        have s_f7 : s.heap.size ≤ r_6 := Nat.le_trans hZ0_ z9_
        have g_f7 := hn _ s_f7
        have l_f0_f7 : a < r_6 := Nat.lt_of_lt_of_le t_f0 z9_
        have l_fR_f7 : b < r_6 := Nat.lt_of_lt_of_le t_fR z9_
        try rw [hQ]
        refine r_oret (pc := 74) E hr (Or.inr ⟨_, rfl⟩) hlk hS (by omega) (by omega) (some r_6) ?_ dX5_folded_74
        exact Or.inr ⟨_, _, _, rfl, s_f7, f7, hP9.2.1, by rw [hk0] at hg9; exact hg9.symm⟩
      · obtain ⟨k1, rfl⟩ : ∃ k1, k = k1 + 1 := ⟨k - 1, by have := f_pos hx9 (by omega) c_5; omega⟩
        have hx8 : y9 = nI k1 := f_prev hx9
        refine lv_lload_n (pc := 27) hx hb dX5_folded_27 rfl (lv_at hl 2 rfl) ?_
        refine lv_ldc2 (pc := 28) (v := 4000000000) hx hb E.2.2.2.1 (E.2.2.2.2 _ (List.mem_cons_of_mem _ kw_1569)) dX5_folded_28 ?_
        refine r_lcle (pc := 31) (tgt := 37) E dX5_folded_31 dX5_folded_32 (by decide) (fun c_8 => ?_) (fun c_8 => ?_)
        · refine lv_aload_n (pc := 37) hx hb dX5_folded_37 rfl (lv_at hl 0 rfl) ?_
          refine lv_iload (pc := 38) hx hb dX5_folded_38 (lv_at hl 4 rfl) ?_
          obtain ⟨qe9, hq9, he9⟩ := el k1 (by omega)
          obtain ⟨xe9, ev9, pf9⟩ := hPF k1 (by omega)
          rw [ev9] at he9
          refine k_r (pc := 40) (k_V E hC hS hA hl.1 (c1.recv hC f0 rfl) rfl (c_Jx4a65c_get_915e3 l D tk N0 sa H.size a b ln cap k1 qe9 md y9 f hx8 (by omega) hnc hcap hq9) kw_1550 kw_1551 kw_1552 kw_8 kw_1553 (n := 1) (by decide +kernel) rfl ⟨⟨rfl, rfl⟩, ⟨Nat.le_of_ble_eq_true rfl, Nat.le_of_ble_eq_true rfl⟩, (by dsimp only; omega), (by dsimp only; omega)⟩ rfl (Nat.le_of_ble_eq_true rfl) ⟨f0, fR⟩ dX5_folded_40) hS (fun q z w => absurd w (Nat.not_le.mpr z)) hn (fun r_10 H locs hR hz hk hS => ?_)
          have f0 := f0.kept (hk _ f0.lt (Nat.not_le.mpr f0.lt))
          have fR := fR.kept (hk _ fR.lt (Nat.not_le.mpr fR.lt))
          have el := el.new hk
          have he9 := he9.kept (hk _ he9.lt (Nat.not_le.mpr he9.lt))
          rw [show r_10 = qe9 from hR]
          refine r_castO (pc := 43) E hC he9 rfl kw_1532 dX5_folded_43 ?_
          refine k_l (pc := 46) (k_V E hC hS hA hl.1 (xf.recv hC he9 rfl) rfl (c_J13_longValue_f9912 l D tk N0 sa H.size qe9 xe9) kw_1533 kw_1534 kw_1535 kw_17 kw_1536 (n := 0) (by decide +kernel) rfl ⟨⟨rfl, rfl⟩, ⟨Nat.le_of_ble_eq_true rfl, Nat.le_of_ble_eq_true rfl⟩, (by dsimp only; omega), (by dsimp only; omega)⟩ rfl (Nat.le_of_ble_eq_true rfl) he9 dX5_folded_46) hS (fun q z w => absurd w (Nat.not_le.mpr z)) hn (fun r_11 H locs hR hz hk hS => ?_)
          have f0 := f0.kept (hk _ f0.lt (Nat.not_le.mpr f0.lt))
          have fR := fR.kept (hk _ fR.lt (Nat.not_le.mpr fR.lt))
          have el := el.new hk
          have he9 := he9.kept (hk _ he9.lt (Nat.not_le.mpr he9.lt))
          have er_11 : r_11 = xe9 := hR
          refine lv_lload_n (pc := 49) hx hb dX5_folded_49 rfl (lv_at hl 2 rfl) ?_
          refine lv_lmul (pc := 50) hx hb dX5_folded_50 ?_
          refine lv_lload (pc := 51) hx hb dX5_folded_51 (lv_at hl 3 rfl) ?_
          refine lv_ladd (pc := 53) hx hb dX5_folded_53 ?_
          obtain ⟨x_12, ex_12⟩ : ∃ z9 : Int64, z9 = (r_11 * T9) + B9 := ⟨_, rfl⟩
          rw [← ex_12]
          refine lv_lstore (pc := 54) (lv' := [(7, .long x_12), (0, .ref a), (1, .int mn), (2, .long T9), (4, .long B9), (6, .int y9)]) hx hb dX5_folded_54 hl (by decide) rfl (fun ls hl => ?_)
          refine lv_lload_n (pc := 56) hx hb dX5_folded_56 rfl (lv_at hl 3 rfl) ?_
          refine lv_lstore (pc := 57) (lv' := [(4, .long T9), (7, .long x_12), (0, .ref a), (1, .int mn), (2, .long T9), (6, .int y9)]) hx hb dX5_folded_57 hl (by decide) rfl (fun ls hl => ?_)
          refine lv_lload (pc := 59) hx hb dX5_folded_59 (lv_at hl 1 rfl) ?_
          refine lv_lstore_n (pc := 61) (lv' := [(2, .long x_12), (4, .long T9), (7, .long x_12), (0, .ref a), (1, .int mn), (6, .int y9)]) hx hb dX5_folded_61 rfl hl (by decide) rfl (fun ls hl => ?_)
          rw [er_11] at ex_12
          have hle4 := c_8
          have hxx := ex_12
          rw [m_lgI ev9 (hav k1 (by omega))] at hxx
          have hS1 := m_fold (k := k1) (hT9.2 (by omega)) c_8 hb9 pf9.1 pf9.2 ex_12
          obtain ⟨x_13, ex_13⟩ : ∃ z9 : Int32, z9 = y9 + (-1) := ⟨_, rfl⟩
          refine lv_iinc (pc := 62) (v := x_13) (lv' := [(6, .int x_13), (2, .long x_12), (4, .long T9), (7, .long x_12), (0, .ref a), (1, .int mn)]) hx hb dX5_folded_62 hl (k := 5) rfl (by rw [ex_13]; rfl) (by decide) rfl (fun ls hl => ?_)
          refine lv_goto (pc := 65) (tgt := 22) hx hb dX5_folded_65 (by decide) ?_
          refine W.widen (k := 0) (n := 0) (by omega) (by omega) ?_
          exact ih_22  k1  x_12 T9 x_13 (by omega) (by omega) (by rw [ex_13]; exact f_dn hx8) ⟨hT9.2 (by omega), hS1.1⟩ ⟨hS1.2.1, hS1.2.2⟩ (m_fdLs hg9 (Int64.not_lt.mpr hle4) hxx) _ _ _ hS f0 fR el (lv_sub hl [4, 5, 1, 2, 0] rfl)
        · refine lv_null (pc := 35) hx hb dX5_folded_35 ?_
          try rw [hQ]
          refine r_oret (pc := 36) E hr (Or.inr ⟨_, rfl⟩) hlk hS (by omega) (by omega) none ?_ dX5_folded_36
          exact Or.inl ⟨rfl, m_fdLn hg9 (Int64.not_le.mp c_8)⟩
  refine W.widen (k := 0) (n := 0) (by omega) (by omega) ?_
  exact loop_22 (mj + 1) mj  r_3 1 x_4 (by omega) (by omega) (by rw [ex_4]; exact m_two hmn) (by decide) (by rw [er_3]; exact ⟨by omega, pf1.2⟩) (by rw [er_3, m_lgI ev1 (hav mj (by omega))]; rfl) _ _ _ hS f0 fR el (lv_sub hl [3, 4, 2, 1, 0] rfl)
