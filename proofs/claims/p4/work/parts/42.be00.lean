set_option maxHeartbeats 4000000 in
set_option maxRecDepth 100000 in
/-- BestratiosModel.folded(Ljava/util/ArrayList;I)[J -/
theorem c_X5_folded_B (l : Launch) (D : va_G) (tk : Nat → ClassId) (N0 : Nat) (sa : Nat → Nat)  (sz : Nat) (a b ln cap : Nat) (md mn : Int32) (f : Nat → Option Nat) (vs : Nat → Value) (mk : Nat) (a9 : Nat → Int64) (hnc : ln ≤ cap) (hcap : cap ≤ 100000000) (hmn : mn = nI mk) (hmk : 1 ≤ mk ∧ mk ≤ ln) (hl9 : ln ≤ 1000) (hPF : PF ln vs) (hav : ∀ i, i < ln → vs i = .long (a9 i)) (hFU : FU mk vs) : Met l yX5_folded (wsy yX5_folded cX5_folded 9 (some (.array .long))) ({ frames := 3, cells := 1, slots := 2, locals := 77 } : Room) (cP D tk N0 sa [.ref a, .int mn] sz (fun H => c1 D a (.inr (7, [.int md, .ref b, .int (nI ln)])) H ∧ c1 D b (.inl (tk 4, cap, .inr (.inr (.inr (.inr f))))) H ∧ EL D 3 ln f vs H)) (kQr (fun r H => sz ≤ r ∧ ∃ t b, L2 D tk r t b H ∧ (1 ≤ b.toInt) ∧ m_FD a9 mk = some (t, b)) (nwA sz)) (1) (2) (nwA sz) := by
  refine mStart RX5 rfl (by decide +kernel) (Nat.le_of_ble_eq_true rfl) ?_
  intro p e s m args below meth c E hr hlk hnm hsz hC hF ls hl
  subst hsz
  obtain ⟨hx, hb, -⟩ := id E
  have hA : ∀ q, (nwA s.heap.size) q → N0 ≤ q := fun q h => Nat.le_trans hC.2.1 h
  have hn : ∀ q, s.heap.size ≤ q → (nwA s.heap.size) q := fun q h => h
  have hS : va_S (nwA s.heap.size) s.heap s.heap [] := va_S.rf
  have hl : lv_has ls 9 [(0, .ref a), (1, .int mn)] := hl
  obtain ⟨Q, hQ⟩ : ∃ Q, Q = MQ below (kQr (fun r H => s.heap.size ≤ r ∧ ∃ t b, L2 D tk r t b H ∧ (1 ≤ b.toInt) ∧ m_FD a9 mk = some (t, b)) (nwA s.heap.size)) args s (1) (2) (nwA s.heap.size) := ⟨_, rfl⟩
  rw [← hQ]
  obtain ⟨f0, fR, el⟩ : c1 D a (.inr (7, [.int md, .ref b, .int (nI ln)])) s.heap ∧ c1 D b (.inl (tk 4, cap, .inr (.inr (.inr (.inr f))))) s.heap ∧ EL D 3 ln f vs s.heap := hF
  obtain ⟨mj, rfl⟩ : ∃ mj, mk = mj + 1 := ⟨mk - 1, by omega⟩
  obtain ⟨U, u1, u2, u3, u4⟩ := hFU
  refine lv_aload_n (pc := 0) hx hb dX5_folded_0 rfl (lv_at hl 0 rfl) ?_
  refine lv_iload_n (pc := 1) hx hb dX5_folded_1 rfl (lv_at hl 1 rfl) ?_
  refine lv_iconst (pc := 2) (v := 1) hx hb dX5_folded_2 (by decide) ?_
  refine lv_isub (pc := 3) hx hb dX5_folded_3 ?_
  obtain ⟨qe1, hq1, he1⟩ := el mj (by omega)
  obtain ⟨xe1, ev1, pf1⟩ := hPF mj (by omega)
  rw [ev1] at he1
  refine k_r (pc := 4) (k_V E hC hS hA hl.1 (c1.recv hC f0 rfl) rfl (c_Jx4a65c_get_915e3 l D tk N0 sa s.heap.size a b ln cap mj qe1 md (mn - 1) f (by rw [hmn]; exact nI_pred mj) (by omega) hnc hcap hq1) kw_1550 kw_1551 kw_1552 kw_8 kw_1553 (n := 1) (by decide +kernel) rfl ⟨⟨rfl, rfl⟩, ⟨Nat.le_of_ble_eq_true rfl, Nat.le_of_ble_eq_true rfl⟩, (by dsimp only; omega), (by dsimp only; omega)⟩ rfl (Nat.le_of_ble_eq_true rfl) ⟨f0, fR⟩ dX5_folded_4) hS (fun q z w => absurd w (Nat.not_le.mpr z)) hn (fun r_2 H locs hR hz hk hS => ?_)
  have f0 := f0.kept (hk _ f0.lt (Nat.not_le.mpr f0.lt))
  have fR := fR.kept (hk _ fR.lt (Nat.not_le.mpr fR.lt))
  have el := el.new hk
  have he1 := he1.kept (hk _ he1.lt (Nat.not_le.mpr he1.lt))
  rw [show r_2 = qe1 from hR]
  refine r_castO (pc := 7) E hC he1 rfl kw_1532 dX5_folded_7 ?_
  refine k_l (pc := 10) (k_V E hC hS hA hl.1 (xf.recv hC he1 rfl) rfl (c_J13_longValue_f9912 l D tk N0 sa H.size qe1 xe1) kw_1533 kw_1534 kw_1535 kw_17 kw_1536 (n := 0) (by decide +kernel) rfl ⟨⟨rfl, rfl⟩, ⟨Nat.le_of_ble_eq_true rfl, Nat.le_of_ble_eq_true rfl⟩, (by dsimp only; omega), (by dsimp only; omega)⟩ rfl (Nat.le_of_ble_eq_true rfl) he1 dX5_folded_10) hS (fun q z w => absurd w (Nat.not_le.mpr z)) hn (fun r_3 H locs hR hz hk hS => ?_)
  have f0 := f0.kept (hk _ f0.lt (Nat.not_le.mpr f0.lt))
  have fR := fR.kept (hk _ fR.lt (Nat.not_le.mpr fR.lt))
  have el := el.new hk
  have he1 := he1.kept (hk _ he1.lt (Nat.not_le.mpr he1.lt))
  have er_3 : r_3 = xe1 := hR
  refine lv_lstore_n (pc := 13) (lv' := [(2, .long r_3), (0, .ref a), (1, .int mn)]) hx hb dX5_folded_13 rfl hl (by decide) rfl (fun ls hl => ?_)
  refine lv_lconst (pc := 14) (v := 1) hx hb dX5_folded_14 (by decide) ?_
  refine lv_lstore (pc := 15) (lv' := [(4, .long 1), (2, .long r_3), (0, .ref a), (1, .int mn)]) hx hb dX5_folded_15 hl (by decide) rfl (fun ls hl => ?_)
  refine lv_iload_n (pc := 17) hx hb dX5_folded_17 rfl (lv_at hl 3 rfl) ?_
  refine lv_iconst (pc := 18) (v := 2) hx hb dX5_folded_18 (by decide) ?_
  refine lv_isub (pc := 19) hx hb dX5_folded_19 ?_
  obtain ⟨x_4, ex_4⟩ : ∃ z9 : Int32, z9 = mn - 2 := ⟨_, rfl⟩
  rw [← ex_4]
  refine lv_istore (pc := 20) (lv' := [(6, .int x_4), (4, .long 1), (2, .long r_3), (0, .ref a), (1, .int mn)]) hx hb dX5_folded_20 hl (by decide) rfl (fun ls hl => ?_)
  have loop_22 : ∀ (n : Nat) (k : Nat)(T9 : Int64) (B9 : Int64) (y9 : Int32), k < n → k + 1 ≤ ln → y9 + 1 = nI k → 1 ≤ B9.toInt ∧ B9.toInt ≤ 4000000000 → T9.toInt.natAbs ≤ 5000000000000000000 ∧ (1 ≤ k → 1 ≤ T9.toInt) → m_fdL a9 k T9 B9 = m_FD a9 (mj + 1) → k ≤ mj ∧ (1 ≤ k → T9.toInt ≤ U k) ∧ B9.toInt ≤ U (k + 1) → ∀ (H : Heap) (locs : List Loc) (ls : Array Slot), va_S (nwA s.heap.size) s.heap H locs → c1 D a (.inr (7, [.int md, .ref b, .int (nI ln)])) H → c1 D b (.inl (tk 4, cap, .inr (.inr (.inr (.inr f))))) H → EL D 3 ln f vs H → lv_has ls 9 [(0, .ref a), (1, .int mn), (2, .long T9), (4, .long B9), (6, .int y9)] → W p l e ({ frames := 3, cells := 1, slots := 2, locals := 77 } : Room) s m args below meth c H locs (0) (0) Q (F0 m 22 ls []) := by
    intro n
    induction n with
    | zero =>
      intro k T9 B9 y9 hf9 hk9 hx9 hb9 hT9 hg9 hU9 H locs ls hS f0 fR el hl
      omega
    | succ n ih_22 =>
      intro k T9 B9 y9 hf9 hk9 hx9 hb9 hT9 hg9 hU9 H locs ls hS f0 fR el hl
      refine lv_iload (pc := 22) hx hb dX5_folded_22 (lv_at hl 4 rfl) ?_
      refine lv_if_lt (pc := 24) (tgt := 68) hx hb dX5_folded_24 (by decide) (fun c_5 => ?_) (fun c_5 => ?_)
      · have hk0 := f_zero hx9 (by omega) c_5
        have hP9 := m_loP (t := T9) (b := B9) (B := 5000000000000000000) (C := 4000000000) hT9.1 (by decide) hb9.1 hb9.2
        refine lv_lload_n (pc := 68) hx hb dX5_folded_68 rfl (lv_at hl 2 rfl) ?_
        refine lv_lload (pc := 69) hx hb dX5_folded_69 (lv_at hl 3 rfl) ?_
        have hZ0_ := hS.1
        have t_f0 := f0.lt
        have t_fR := fR.lt
        refine k_r (pc := 71) (k_S E hC hS hA hl.1 (c_X5_lowest l D tk N0 sa H.size T9 B9 hP9.1) kw_1199 kw_1200 kw_5 kw_1201 (n := 2) (by decide +kernel) rfl ⟨⟨rfl, rfl⟩, ⟨Nat.le_of_ble_eq_true rfl, Nat.le_of_ble_eq_true rfl⟩, (by dsimp only; omega), (by dsimp only; omega)⟩ rfl (Nat.le_of_ble_eq_true rfl) trivial dX5_folded_71) hS (fun q z w => absurd w (Nat.not_le.mpr z)) hn (fun r_6 H locs hR hz hk hS => ?_)
        have f0 := f0.kept (hk _ f0.lt (Nat.not_le.mpr f0.lt))
        have fR := fR.kept (hk _ fR.lt (Nat.not_le.mpr fR.lt))
        have el := el.new hk
        obtain ⟨z9_, f7⟩ := hR
        have s_f7 : s.heap.size ≤ r_6 := Nat.le_trans hZ0_ z9_
        have g_f7 := hn _ s_f7
        have l_f0_f7 : a < r_6 := Nat.lt_of_lt_of_le t_f0 z9_
        have l_fR_f7 : b < r_6 := Nat.lt_of_lt_of_le t_fR z9_
        try rw [hQ]
        refine r_aret (pc := 74) E hr (Or.inr ⟨_, rfl⟩) hlk hS (by omega) (by omega) ?_ dX5_folded_74
        exact ⟨s_f7, _, _, f7, hP9.2.1, by rw [hk0] at hg9; exact hg9.symm⟩
      · obtain ⟨k1, rfl⟩ : ∃ k1, k = k1 + 1 := ⟨k - 1, by have := f_pos hx9 (by omega) c_5; omega⟩
        have hx8 : y9 = nI k1 := f_prev hx9
        have hle4 : T9 ≤ 4000000000 := m_le4 (hU9.2.1 (by omega)) (u4 _ (by omega) (by omega))
        refine lv_lload_n (pc := 27) hx hb dX5_folded_27 rfl (lv_at hl 2 rfl) ?_
        refine lv_ldc2 (pc := 28) (v := 4000000000) hx hb E.2.2.2.1 (E.2.2.2.2 _ (List.mem_cons_of_mem _ kw_1569)) dX5_folded_28 ?_
        refine r_lcle (pc := 31) (tgt := 37) E dX5_folded_31 dX5_folded_32 (by decide) (fun c_8 => ?_) (fun c_8 => ?_)
        rotate_left
        · exact absurd hle4 c_8
        refine lv_aload_n (pc := 37) hx hb dX5_folded_37 rfl (lv_at hl 0 rfl) ?_
        refine lv_iload (pc := 38) hx hb dX5_folded_38 (lv_at hl 4 rfl) ?_
        obtain ⟨qe9, hq9, he9⟩ := el k1 (by omega)
        obtain ⟨xe9, ev9, pf9⟩ := hPF k1 (by omega)
        rw [ev9] at he9
        refine k_r (pc := 40) (k_V E hC hS hA hl.1 (c1.recv hC f0 rfl) rfl (c_Jx4a65c_get_915e3 l D tk N0 sa H.size a b ln cap k1 qe9 md y9 f hx8 (by omega) hnc hcap hq9) kw_1550 kw_1551 kw_1552 kw_8 kw_1553 (n := 1) (by decide +kernel) rfl ⟨⟨rfl, rfl⟩, ⟨Nat.le_of_ble_eq_true rfl, Nat.le_of_ble_eq_true rfl⟩, (by dsimp only; omega), (by dsimp only; omega)⟩ rfl (Nat.le_of_ble_eq_true rfl) ⟨f0, fR⟩ dX5_folded_40) hS (fun q z w => absurd w (Nat.not_le.mpr z)) hn (fun r_10 H locs hR hz hk hS => ?_)
        have f0 := f0.kept (hk _ f0.lt (Nat.not_le.mpr f0.lt))
        have fR := fR.kept (hk _ fR.lt (Nat.not_le.mpr fR.lt))
        have el := el.new hk
        have he9 := he9.kept (hk _ he9.lt (Nat.not_le.mpr he9.lt))
        rw [show r_10 = qe9 from hR]
        refine r_castO (pc := 43) E hC he9 rfl kw_1532 dX5_folded_43 ?_
        refine k_l (pc := 46) (k_V E hC hS hA hl.1 (xf.recv hC he9 rfl) rfl (c_J13_longValue_f9912 l D tk N0 sa H.size qe9 xe9) kw_1533 kw_1534 kw_1535 kw_17 kw_1536 (n := 0) (by decide +kernel) rfl ⟨⟨rfl, rfl⟩, ⟨Nat.le_of_ble_eq_true rfl, Nat.le_of_ble_eq_true rfl⟩, (by dsimp only; omega), (by dsimp only; omega)⟩ rfl (Nat.le_of_ble_eq_true rfl) he9 dX5_folded_46) hS (fun q z w => absurd w (Nat.not_le.mpr z)) hn (fun r_11 H locs hR hz hk hS => ?_)
        have f0 := f0.kept (hk _ f0.lt (Nat.not_le.mpr f0.lt))
        have fR := fR.kept (hk _ fR.lt (Nat.not_le.mpr fR.lt))
        have el := el.new hk
        have he9 := he9.kept (hk _ he9.lt (Nat.not_le.mpr he9.lt))
        have er_11 : r_11 = xe9 := hR
        refine lv_lload_n (pc := 49) hx hb dX5_folded_49 rfl (lv_at hl 2 rfl) ?_
        refine lv_lmul (pc := 50) hx hb dX5_folded_50 ?_
        refine lv_lload (pc := 51) hx hb dX5_folded_51 (lv_at hl 3 rfl) ?_
        refine lv_ladd (pc := 53) hx hb dX5_folded_53 ?_
        obtain ⟨x_12, ex_12⟩ : ∃ z9 : Int64, z9 = (r_11 * T9) + B9 := ⟨_, rfl⟩
        rw [← ex_12]
        refine lv_lstore (pc := 54) (lv' := [(7, .long x_12), (0, .ref a), (1, .int mn), (2, .long T9), (4, .long B9), (6, .int y9)]) hx hb dX5_folded_54 hl (by decide) rfl (fun ls hl => ?_)
        refine lv_lload_n (pc := 56) hx hb dX5_folded_56 rfl (lv_at hl 3 rfl) ?_
        refine lv_lstore (pc := 57) (lv' := [(4, .long T9), (7, .long x_12), (0, .ref a), (1, .int mn), (2, .long T9), (6, .int y9)]) hx hb dX5_folded_57 hl (by decide) rfl (fun ls hl => ?_)
        refine lv_lload (pc := 59) hx hb dX5_folded_59 (lv_at hl 1 rfl) ?_
        refine lv_lstore_n (pc := 61) (lv' := [(2, .long x_12), (4, .long T9), (7, .long x_12), (0, .ref a), (1, .int mn), (6, .int y9)]) hx hb dX5_folded_61 rfl hl (by decide) rfl (fun ls hl => ?_)
        rw [er_11] at ex_12
        have hxx := ex_12
        rw [m_lgI ev9 (hav k1 (by omega))] at hxx
        have hS1 := m_fold (k := k1) (hT9.2 (by omega)) hle4 hb9 pf9.1 pf9.2 ex_12
        have hS2 : 1 ≤ k1 → x_12.toInt ≤ U k1 := fun z => by
          rw [m_foldE (hT9.2 (by omega)) hle4 hb9 pf9.1 ex_12]
          exact m_foldU (by have := pf9.2 z; omega) (u3 k1 (by omega) _ ev9) (hU9.2.1 (by omega)) hU9.2.2
        obtain ⟨x_13, ex_13⟩ : ∃ z9 : Int32, z9 = y9 + (-1) := ⟨_, rfl⟩
        refine lv_iinc (pc := 62) (v := x_13) (lv' := [(6, .int x_13), (2, .long x_12), (4, .long T9), (7, .long x_12), (0, .ref a), (1, .int mn)]) hx hb dX5_folded_62 hl (k := 5) rfl (by rw [ex_13]; rfl) (by decide) rfl (fun ls hl => ?_)
        refine lv_goto (pc := 65) (tgt := 22) hx hb dX5_folded_65 (by decide) ?_
        refine W.widen (k := 0) (n := 0) (by omega) (by omega) ?_
        exact ih_22  k1  x_12 T9 x_13 (by omega) (by omega) (by rw [ex_13]; exact f_dn hx8) ⟨hT9.2 (by omega), hS1.1⟩ ⟨hS1.2.1, hS1.2.2⟩ (m_fdLs hg9 (Int64.not_lt.mpr hle4) hxx) ⟨by omega, hS2, hU9.2.1 (by omega)⟩ _ _ _ hS f0 fR el (lv_sub hl [4, 5, 1, 2, 0] rfl)
  refine W.widen (k := 0) (n := 0) (by omega) (by omega) ?_
  exact loop_22 (mj + 1) mj  r_3 1 x_4 (by omega) (by omega) (by rw [ex_4]; exact m_two hmn) (by decide) (by rw [er_3]; exact ⟨by omega, pf1.2⟩) (by rw [er_3, m_lgI ev1 (hav mj (by omega))]; rfl) ⟨Nat.le_refl _, fun _ => (by rw [er_3]; exact u1 _ rfl _ ev1), u2⟩ _ _ _ hS f0 fR el (lv_sub hl [3, 4, 2, 1, 0] rfl)
set_option maxHeartbeats 4000000 in
set_option maxRecDepth 100000 in
/-- BestratiosModel.withLast([JI)[J -/
theorem c_X5_withLast_B (l : Launch) (D : va_G) (tk : Nat → ClassId) (N0 : Nat) (sa : Nat → Nat)  (sz : Nat) (pa : Nat) (ta : Int64) (ba : Int64) (mo : Int32) (hfa : m_F ta ba) (hmo : mo = 1) (ht1 : 1 ≤ ta.toInt) : Met l yX5_withLast (wsy yX5_withLast cX5_withLast 4 (some (.array .long))) ({ frames := 8, cells := 51, slots := 178, locals := 186 } : Room) (cP D tk N0 sa [.ref pa, .int mo] sz (fun H => L2 D tk pa ta ba H)) (kQr (fun r H => sz ≤ r ∧ ∃ t b, L2 D tk r t b H ∧ (1 ≤ b.toInt) ∧ m_WL ta ba mo.toInt64 = some (t, b)) (nwA sz)) (51) (178) (nwA sz) := by
  refine mStart RX5 rfl (by decide +kernel) (Nat.le_of_ble_eq_true rfl) ?_
  intro p e s m args below meth c E hr hlk hnm hsz hC hF ls hl
  subst hsz
  obtain ⟨hx, hb, -⟩ := id E
  have hA : ∀ q, (nwA s.heap.size) q → N0 ≤ q := fun q h => Nat.le_trans hC.2.1 h
  have hn : ∀ q, s.heap.size ≤ q → (nwA s.heap.size) q := fun q h => h
  have hS : va_S (nwA s.heap.size) s.heap s.heap [] := va_S.rf
  have hl : lv_has ls 4 [(0, .ref pa), (1, .int mo)] := hl
  have fa : L2 D tk pa ta ba s.heap := hF
  refine lv_aload_n (pc := 0) hx hb dX5_withLast_0 rfl (lv_at hl 0 rfl) ?_
  have hZ0_ := hS.1
  have t_fa := fa.lt
  refine k_r (pc := 1) (k_S E hC hS hA hl.1 (c_X5_termsOf l D tk N0 sa s.heap.size pa ta ba hfa) kw_1411 kw_1412 kw_5 kw_1413 (n := 1) (by decide +kernel) rfl ⟨⟨rfl, rfl⟩, ⟨Nat.le_of_ble_eq_true rfl, Nat.le_of_ble_eq_true rfl⟩, (by dsimp only; omega), (by dsimp only; omega)⟩ rfl (Nat.le_of_ble_eq_true rfl) fa dX5_withLast_1) hS (fun q z w => absurd w (Nat.not_le.mpr z)) hn (fun r_1 H locs hR hz hk hS => ?_)
  have fa := fa.kept (hk _ fa.lt (Nat.not_le.mpr fa.lt))
  obtain ⟨nl2, bb2, cap2, ff2, ww2, md2, zr9_, zb9_, fl2, fR2, el2, hPT2, hln2, hlm2, hlc2, hlp2, ⟨hTL2, hTA2⟩, gg2, hEU2⟩ := hR
  have hcb2 := m_acB hlp2
  have s_fl2 : s.heap.size ≤ r_1 := Nat.le_trans hZ0_ zr9_
  have g_fl2 := hn _ s_fl2
  have l_fa_fl2 : pa < r_1 := Nat.lt_of_lt_of_le t_fa zr9_
  have s_fR2 : s.heap.size ≤ bb2 := Nat.le_trans hZ0_ zb9_
  have g_fR2 := hn _ s_fR2
  have l_fa_fR2 : pa < bb2 := Nat.lt_of_lt_of_le t_fa zb9_
  refine lv_astore_n (pc := 4) (lv' := [(2, .ref r_1), (0, .ref pa), (1, .int mo)]) hx hb dX5_withLast_4 rfl hl (by decide) rfl (fun ls hl => ?_)
  obtain ⟨j9, hj9⟩ : ∃ j9, nl2 = j9 + 1 := ⟨nl2 - 1, by omega⟩
  refine lv_aload_n (pc := 5) hx hb dX5_withLast_5 rfl (lv_at hl 0 rfl) ?_
  refine k_i (pc := 6) (k_V E hC hS hA hl.1 (c1.recv hC fl2 rfl) rfl (c_Jx4a65c_size_8abf5 l D tk N0 sa H.size r_1 bb2 nl2 md2) kw_1546 kw_1547 kw_1548 kw_8 kw_1549 (n := 0) (by decide +kernel) rfl ⟨⟨rfl, rfl⟩, ⟨Nat.le_of_ble_eq_true rfl, Nat.le_of_ble_eq_true rfl⟩, (by dsimp only; omega), (by dsimp only; omega)⟩ rfl (Nat.le_of_ble_eq_true rfl) fl2 dX5_withLast_6) hS (fun q z w => absurd w (Nat.not_le.mpr z)) hn (fun r_3 H locs hR hz hk hS => ?_)
  have fa := fa.kept (hk _ fa.lt (Nat.not_le.mpr fa.lt))
  have fR2 := fR2.kept (hk _ fR2.lt (Nat.not_le.mpr fR2.lt))
  have fl2 := fl2.kept (hk _ fl2.lt (Nat.not_le.mpr fl2.lt))
  have el2 := el2.new hk
  rw [show r_3 = nI nl2 from hR]
  refine lv_iconst (pc := 9) (v := 1) hx hb dX5_withLast_9 (by decide) ?_
  refine lv_isub (pc := 10) hx hb dX5_withLast_10 ?_
  obtain ⟨x_4, ex_4⟩ : ∃ z9 : Int32, z9 = (nI nl2) - 1 := ⟨_, rfl⟩
  rw [← ex_4]
  refine lv_istore_n (pc := 11) (lv' := [(3, .int x_4), (2, .ref r_1), (0, .ref pa), (1, .int mo)]) hx hb dX5_withLast_11 rfl hl (by decide) rfl (fun ls hl => ?_)
  refine lv_aload_n (pc := 12) hx hb dX5_withLast_12 rfl (lv_at hl 1 rfl) ?_
  refine lv_iload_n (pc := 13) hx hb dX5_withLast_13 rfl (lv_at hl 0 rfl) ?_
  refine lv_aload_n (pc := 14) hx hb dX5_withLast_14 rfl (lv_at hl 1 rfl) ?_
  refine lv_iload_n (pc := 15) hx hb dX5_withLast_15 rfl (lv_at hl 0 rfl) ?_
  have hix : x_4 = nI j9 := by rw [ex_4, hj9]; exact nI_pred j9
  obtain ⟨qe5, hq5, he5⟩ := el2 j9 (by omega)
  obtain ⟨xe5, ev5, pf5⟩ := hPT2 j9 (by omega)
  rw [ev5] at he5
  refine k_r (pc := 16) (k_V E hC hS hA hl.1 (c1.recv hC fl2 rfl) rfl (c_Jx4a65c_get_915e3 l D tk N0 sa H.size r_1 bb2 nl2 cap2 j9 qe5 md2 x_4 ff2 hix (by omega) (by omega) (by omega) hq5) kw_1550 kw_1551 kw_1552 kw_8 kw_1553 (n := 1) (by decide +kernel) rfl ⟨⟨rfl, rfl⟩, ⟨Nat.le_of_ble_eq_true rfl, Nat.le_of_ble_eq_true rfl⟩, (by dsimp only; omega), (by dsimp only; omega)⟩ rfl (Nat.le_of_ble_eq_true rfl) ⟨fl2, fR2⟩ dX5_withLast_16) hS (fun q z w => absurd w (Nat.not_le.mpr z)) hn (fun r_6 H locs hR hz hk hS => ?_)
  have fa := fa.kept (hk _ fa.lt (Nat.not_le.mpr fa.lt))
  have fR2 := fR2.kept (hk _ fR2.lt (Nat.not_le.mpr fR2.lt))
  have fl2 := fl2.kept (hk _ fl2.lt (Nat.not_le.mpr fl2.lt))
  have el2 := el2.new hk
  have he5 := he5.kept (hk _ he5.lt (Nat.not_le.mpr he5.lt))
  rw [show r_6 = qe5 from hR]
  refine r_castO (pc := 19) E hC he5 rfl kw_1532 dX5_withLast_19 ?_
  refine k_l (pc := 22) (k_V E hC hS hA hl.1 (xf.recv hC he5 rfl) rfl (c_J13_longValue_f9912 l D tk N0 sa H.size qe5 xe5) kw_1533 kw_1534 kw_1535 kw_17 kw_1536 (n := 0) (by decide +kernel) rfl ⟨⟨rfl, rfl⟩, ⟨Nat.le_of_ble_eq_true rfl, Nat.le_of_ble_eq_true rfl⟩, (by dsimp only; omega), (by dsimp only; omega)⟩ rfl (Nat.le_of_ble_eq_true rfl) he5 dX5_withLast_22) hS (fun q z w => absurd w (Nat.not_le.mpr z)) hn (fun r_7 H locs hR hz hk hS => ?_)
  have fa := fa.kept (hk _ fa.lt (Nat.not_le.mpr fa.lt))
  have fR2 := fR2.kept (hk _ fR2.lt (Nat.not_le.mpr fR2.lt))
  have fl2 := fl2.kept (hk _ fl2.lt (Nat.not_le.mpr fl2.lt))
  have el2 := el2.new hk
  have he5 := he5.kept (hk _ he5.lt (Nat.not_le.mpr he5.lt))
  have er_7 : r_7 = xe5 := hR
  refine lv_iload_n (pc := 25) hx hb dX5_withLast_25 rfl (lv_at hl 3 rfl) ?_
  refine lv_i2l (pc := 26) (v := mo.toInt64) hx hb dX5_withLast_26 rfl ?_
  refine lv_ladd (pc := 27) hx hb dX5_withLast_27 ?_
  have hZ0_ := hS.1
  have t_fa := fa.lt
  have t_fR2 := fR2.lt
  have t_fl2 := fl2.lt
  have t_he5 := he5.lt
  refine k_r (pc := 28) (k_S E hC hS hA hl.1 (c_J13_valueOf_928b6 l D tk N0 sa H.size (r_7 + mo.toInt64)) kw_1414 kw_1415 kw_17 kw_1416 (n := 1) (by decide +kernel) rfl ⟨⟨rfl, rfl⟩, ⟨Nat.le_of_ble_eq_true rfl, Nat.le_of_ble_eq_true rfl⟩, (by dsimp only; omega), (by dsimp only; omega)⟩ rfl (Nat.le_of_ble_eq_true rfl) trivial dX5_withLast_28) hS (fun q z w => absurd w (Nat.not_le.mpr z)) hn (fun r_8 H locs hR hz hk hS => ?_)
  have fa := fa.kept (hk _ fa.lt (Nat.not_le.mpr fa.lt))
  have fR2 := fR2.kept (hk _ fR2.lt (Nat.not_le.mpr fR2.lt))
  have fl2 := fl2.kept (hk _ fl2.lt (Nat.not_le.mpr fl2.lt))
  have el2 := el2.new hk
  have he5 := he5.kept (hk _ he5.lt (Nat.not_le.mpr he5.lt))
  have f9 := hR
  refine k_r (pc := 31) (k_V E hC hS hA hl.1 (c1.recv hC fl2 rfl) rfl (c_Jx4a65c_set_bcc79 l D tk N0 sa H.size r_1 bb2 nl2 cap2 j9 qe5 r_8 3 md2 x_4 ff2 ww2 (.long (r_7 + mo.toInt64)) (hA _ g_fR2) (Or.inl rfl) hix (by omega) (by omega) (by omega) hq5) kw_1654 kw_1655 kw_1656 kw_8 kw_1657 (n := 2) (by decide +kernel) rfl ⟨⟨rfl, rfl⟩, ⟨Nat.le_of_ble_eq_true rfl, Nat.le_of_ble_eq_true rfl⟩, (by dsimp only; omega), (by dsimp only; omega)⟩ rfl (Nat.le_of_ble_eq_true rfl) ⟨fl2, fR2, el2, f9⟩ dX5_withLast_31) hS (inA1.to g_fR2) hn (fun r_10 H locs hR hz hk hS => ?_)
  have fa := fa.kept (hk _ fa.lt (inA1.not (clA.ne fa.cla fR2.cla (hC.aa 0 4 rfl rfl (by dsimp only; decide))) fa.lt))
  have he5 := he5.kept (hk _ he5.lt (inA1.not (clA.ne he5.cl fR2.cla (hC.oa 3 4 rfl rfl)) he5.lt))
  have f9 := f9.kept (hk _ f9.lt (inA1.not (clA.ne f9.cl fR2.cla (hC.oa 3 4 rfl rfl)) f9.lt))
  obtain ⟨fl2, fR2, el2⟩ := hR
  refine lv_pop (pc := 34) hx hb dX5_withLast_34 rfl ?_
  refine lv_aload_n (pc := 35) hx hb dX5_withLast_35 rfl (lv_at hl 1 rfl) ?_
  refine lv_iload_n (pc := 36) hx hb dX5_withLast_36 rfl (lv_at hl 0 rfl) ?_
  refine lv_iconst (pc := 37) (v := 1) hx hb dX5_withLast_37 (by decide) ?_
  refine lv_iadd (pc := 38) hx hb dX5_withLast_38 ?_
  have hPF := PF.last (mo := mo.toInt64) (y := r_7 + mo.toInt64) hPT2 (by omega) ev5 (by rw [hmo]; decide) (by rw [er_7])
  have hjL : (m_TE ta ba).length = j9 + 1 := by rw [← hTL2]; exact hj9
  have hxa : xe5 = m_at ta ba j9 := m_lgI ev5 (hTA2 j9 (by omega))
  have hWL : m_WL ta ba mo.toInt64 = m_FD (va_up (m_at ta ba) j9 (r_7 + mo.toInt64)) (j9 + 1) := by
    unfold m_WL
    rw [hjL, Nat.add_sub_cancel, er_7, hxa]
  have hav9 : ∀ i, i < nl2 → va_up ww2 j9 (.long (r_7 + mo.toInt64)) i = .long (va_up (m_at ta ba) j9 (r_7 + mo.toInt64) i) := by
    intro i hi
    by_cases e : i = j9
    · rw [e, va_up_self, va_up_self]
    · rw [va_up_ne _ _ e, va_up_ne _ _ e]
      exact hTA2 i hi
  have hFU := EU.up (y := r_7 + mo.toInt64) hEU2 (by omega) ht1 ev5 (m_pls1 er_7 hmo (by omega))
  have hZ0_ := hS.1
  have t_fa := fa.lt
  have t_fR2 := fR2.lt
  have t_he5 := he5.lt
  have t_f9 := f9.lt
  have t_fl2 := fl2.lt
  refine k_r (pc := 39) (k_S E hC hS hA hl.1 (c_X5_folded_B l D tk N0 sa H.size r_1 bb2 nl2 cap2 md2 (x_4 + 1) (va_up ff2 j9 (some r_8)) (va_up ww2 j9 (.long (r_7 + mo.toInt64))) ((j9 + 1)) _ (by omega) (by omega) (by rw [hix]; exact nI_1 j9) (by omega) (by omega) hPF hav9 (by rw [← hj9]; exact hFU)) kw_1566 kw_1567 kw_5 kw_1568 (n := 2) (by decide +kernel) rfl ⟨⟨rfl, rfl⟩, ⟨Nat.le_of_ble_eq_true rfl, Nat.le_of_ble_eq_true rfl⟩, (by dsimp only; omega), (by dsimp only; omega)⟩ rfl (Nat.le_of_ble_eq_true rfl) ⟨fl2, fR2, el2⟩ dX5_withLast_39) hS (fun q z w => absurd w (Nat.not_le.mpr z)) hn (fun r_11 H locs hR hz hk hS => ?_)
  have fa := fa.kept (hk _ fa.lt (Nat.not_le.mpr fa.lt))
  have fR2 := fR2.kept (hk _ fR2.lt (Nat.not_le.mpr fR2.lt))
  have he5 := he5.kept (hk _ he5.lt (Nat.not_le.mpr he5.lt))
  have f9 := f9.kept (hk _ f9.lt (Nat.not_le.mpr f9.lt))
  have fl2 := fl2.kept (hk _ fl2.lt (Nat.not_le.mpr fl2.lt))
  have el2 := el2.new hk
  obtain ⟨z9_, tt_f12, bb_f12, f12, hb_f12, hv_f12⟩ := hR
  have s_f12 : s.heap.size ≤ r_11 := Nat.le_trans hZ0_ z9_
  have g_f12 := hn _ s_f12
  have l_fa_f12 : pa < r_11 := Nat.lt_of_lt_of_le t_fa z9_
  have l_fR2_f12 : bb2 < r_11 := Nat.lt_of_lt_of_le t_fR2 z9_
  have l_he5_f12 : qe5 < r_11 := Nat.lt_of_lt_of_le t_he5 z9_
  have l_f9_f12 : r_8 < r_11 := Nat.lt_of_lt_of_le t_f9 z9_
  have l_fl2_f12 : r_1 < r_11 := Nat.lt_of_lt_of_le t_fl2 z9_
  refine r_aret (pc := 42) E hr (Or.inr ⟨_, rfl⟩) hlk hS (by omega) (by omega) ?_ dX5_withLast_42
  exact ⟨s_f12, _, _, f12, hb_f12, hWL.trans hv_f12⟩
set_option maxHeartbeats 4000000 in
set_option maxRecDepth 100000 in
/-- BestratiosModel.below([JZ)[J -/
theorem c_X5_below (l : Launch) (D : va_G) (tk : Nat → ClassId) (N0 : Nat) (sa : Nat → Nat)  (sz : Nat) (pa : Nat) (ta : Int64) (ba : Int64) (ir : Int32) (hfa : m_F ta ba) (ht1 : 1 ≤ ta.toInt) : Met l yX5_below (wsy yX5_below cX5_below 6 (some (.array .long))) ({ frames := 9, cells := 104, slots := 410, locals := 209 } : Room) (cP D tk N0 sa [.ref pa, .int ir] sz (fun H => L2 D tk pa ta ba H)) (kQr (fun r H => sz ≤ r ∧ ∃ t b, L2 D tk r t b H ∧ (1 ≤ b.toInt) ∧ ∃ p q : Int64 × Int64, m_WL ta ba 1 = some p ∧ m_W2 ta ba = some q ∧ (t, b) = if (if 0 < m_ord p.1 p.2 q.1 q.2 then (1 : Int32) else 0) = ir then p else q) (nwA sz)) (104) (410) (nwA sz) := by
  refine mStart RX5 rfl (by decide +kernel) (Nat.le_of_ble_eq_true rfl) ?_
  intro p e s m args below meth c E hr hlk hnm hsz hC hF ls hl
  subst hsz
  obtain ⟨hx, hb, -⟩ := id E
  have hA : ∀ q, (nwA s.heap.size) q → N0 ≤ q := fun q h => Nat.le_trans hC.2.1 h
  have hn : ∀ q, s.heap.size ≤ q → (nwA s.heap.size) q := fun q h => h
  have hS : va_S (nwA s.heap.size) s.heap s.heap [] := va_S.rf
  have hl : lv_has ls 6 [(0, .ref pa), (1, .int ir)] := hl
  have fa : L2 D tk pa ta ba s.heap := hF
  refine lv_aload_n (pc := 0) hx hb dX5_below_0 rfl (lv_at hl 0 rfl) ?_
  refine lv_iconst (pc := 1) (v := 1) hx hb dX5_below_1 (by decide) ?_
  have hZ0_ := hS.1
  have t_fa := fa.lt
  refine k_r (pc := 2) (k_S E hC hS hA hl.1 (c_X5_withLast_B l D tk N0 sa s.heap.size pa ta ba 1 hfa rfl ht1) kw_1651 kw_1652 kw_5 kw_1653 (n := 2) (by decide +kernel) rfl ⟨⟨rfl, rfl⟩, ⟨Nat.le_of_ble_eq_true rfl, Nat.le_of_ble_eq_true rfl⟩, (by dsimp only; omega), (by dsimp only; omega)⟩ rfl (Nat.le_of_ble_eq_true rfl) fa dX5_below_2) hS (fun q z w => absurd w (Nat.not_le.mpr z)) hn (fun r_1 H locs hR hz hk hS => ?_)
  have fa := fa.kept (hk _ fa.lt (Nat.not_le.mpr fa.lt))
  obtain ⟨z9_, tt_f2, bb_f2, f2, hb_f2, hv_f2⟩ := hR
  have s_f2 : s.heap.size ≤ r_1 := Nat.le_trans hZ0_ z9_
  have g_f2 := hn _ s_f2
  have l_fa_f2 : pa < r_1 := Nat.lt_of_lt_of_le t_fa z9_
  refine lv_astore_n (pc := 5) (lv' := [(2, .ref r_1), (0, .ref pa), (1, .int ir)]) hx hb dX5_below_5 rfl hl (by decide) rfl (fun ls hl => ?_)
  refine lv_aload_n (pc := 6) hx hb dX5_below_6 rfl (lv_at hl 1 rfl) ?_
  have hZ0_ := hS.1
  have t_fa := fa.lt
  have t_f2 := f2.lt
  refine k_r (pc := 7) (k_S E hC hS hA hl.1 (c_X5_termsOf l D tk N0 sa H.size pa ta ba hfa) kw_1411 kw_1412 kw_5 kw_1413 (n := 1) (by decide +kernel) rfl ⟨⟨rfl, rfl⟩, ⟨Nat.le_of_ble_eq_true rfl, Nat.le_of_ble_eq_true rfl⟩, (by dsimp only; omega), (by dsimp only; omega)⟩ rfl (Nat.le_of_ble_eq_true rfl) fa dX5_below_7) hS (fun q z w => absurd w (Nat.not_le.mpr z)) hn (fun r_3 H locs hR hz hk hS => ?_)
  have fa := fa.kept (hk _ fa.lt (Nat.not_le.mpr fa.lt))
  have f2 := f2.kept (hk _ f2.lt (Nat.not_le.mpr f2.lt))
  obtain ⟨nl4, bb4, cap4, ff4, ww4, md4, zr9_, zb9_, fl4, fR4, el4, hPT4, hln4, hlm4, hlc4, hlp4, ⟨hTL4, hTA4⟩, gg4, hEU4⟩ := hR
  have hcb4 := m_acB hlp4
  have s_fl4 : s.heap.size ≤ r_3 := Nat.le_trans hZ0_ zr9_
  have g_fl4 := hn _ s_fl4
  have l_fa_fl4 : pa < r_3 := Nat.lt_of_lt_of_le t_fa zr9_
  have l_f2_fl4 : r_1 < r_3 := Nat.lt_of_lt_of_le t_f2 zr9_
  have s_fR4 : s.heap.size ≤ bb4 := Nat.le_trans hZ0_ zb9_
  have g_fR4 := hn _ s_fR4
  have l_fa_fR4 : pa < bb4 := Nat.lt_of_lt_of_le t_fa zb9_
  have l_f2_fR4 : r_1 < bb4 := Nat.lt_of_lt_of_le t_f2 zb9_
  refine lv_astore_n (pc := 10) (lv' := [(3, .ref r_3), (2, .ref r_1), (0, .ref pa), (1, .int ir)]) hx hb dX5_below_10 rfl hl (by decide) rfl (fun ls hl => ?_)
  refine lv_aload_n (pc := 11) hx hb dX5_below_11 rfl (lv_at hl 0 rfl) ?_
  obtain ⟨j9, hj9⟩ : ∃ j9, nl4 = j9 + 1 := ⟨nl4 - 1, by omega⟩
  refine k_i (pc := 12) (k_V E hC hS hA hl.1 (c1.recv hC fl4 rfl) rfl (c_Jx4a65c_size_8abf5 l D tk N0 sa H.size r_3 bb4 nl4 md4) kw_1546 kw_1547 kw_1548 kw_8 kw_1549 (n := 0) (by decide +kernel) rfl ⟨⟨rfl, rfl⟩, ⟨Nat.le_of_ble_eq_true rfl, Nat.le_of_ble_eq_true rfl⟩, (by dsimp only; omega), (by dsimp only; omega)⟩ rfl (Nat.le_of_ble_eq_true rfl) fl4 dX5_below_12) hS (fun q z w => absurd w (Nat.not_le.mpr z)) hn (fun r_5 H locs hR hz hk hS => ?_)
  have fa := fa.kept (hk _ fa.lt (Nat.not_le.mpr fa.lt))
  have f2 := f2.kept (hk _ f2.lt (Nat.not_le.mpr f2.lt))
  have fR4 := fR4.kept (hk _ fR4.lt (Nat.not_le.mpr fR4.lt))
  have fl4 := fl4.kept (hk _ fl4.lt (Nat.not_le.mpr fl4.lt))
  have el4 := el4.new hk
  rw [show r_5 = nI nl4 from hR]
  refine lv_iconst (pc := 15) (v := 1) hx hb dX5_below_15 (by decide) ?_
  refine lv_isub (pc := 16) hx hb dX5_below_16 ?_
  obtain ⟨x_6, ex_6⟩ : ∃ z9 : Int32, z9 = (nI nl4) - 1 := ⟨_, rfl⟩
  rw [← ex_6]
  refine lv_istore (pc := 17) (lv' := [(4, .int x_6), (3, .ref r_3), (2, .ref r_1), (0, .ref pa), (1, .int ir)]) hx hb dX5_below_17 hl (by decide) rfl (fun ls hl => ?_)
  refine lv_aload_n (pc := 19) hx hb dX5_below_19 rfl (lv_at hl 1 rfl) ?_
  refine lv_iload (pc := 20) hx hb dX5_below_20 (lv_at hl 0 rfl) ?_
  refine lv_aload_n (pc := 22) hx hb dX5_below_22 rfl (lv_at hl 1 rfl) ?_
  refine lv_iload (pc := 23) hx hb dX5_below_23 (lv_at hl 0 rfl) ?_
  have hix : x_6 = nI j9 := by rw [ex_6, hj9]; exact nI_pred j9
  obtain ⟨qe7, hq7, he7⟩ := el4 j9 (by omega)
  obtain ⟨xe7, ev7, pf7⟩ := hPT4 j9 (by omega)
  rw [ev7] at he7
  refine k_r (pc := 25) (k_V E hC hS hA hl.1 (c1.recv hC fl4 rfl) rfl (c_Jx4a65c_get_915e3 l D tk N0 sa H.size r_3 bb4 nl4 cap4 j9 qe7 md4 x_6 ff4 hix (by omega) (by omega) (by omega) hq7) kw_1550 kw_1551 kw_1552 kw_8 kw_1553 (n := 1) (by decide +kernel) rfl ⟨⟨rfl, rfl⟩, ⟨Nat.le_of_ble_eq_true rfl, Nat.le_of_ble_eq_true rfl⟩, (by dsimp only; omega), (by dsimp only; omega)⟩ rfl (Nat.le_of_ble_eq_true rfl) ⟨fl4, fR4⟩ dX5_below_25) hS (fun q z w => absurd w (Nat.not_le.mpr z)) hn (fun r_8 H locs hR hz hk hS => ?_)
  have fa := fa.kept (hk _ fa.lt (Nat.not_le.mpr fa.lt))
  have f2 := f2.kept (hk _ f2.lt (Nat.not_le.mpr f2.lt))
  have fR4 := fR4.kept (hk _ fR4.lt (Nat.not_le.mpr fR4.lt))
  have fl4 := fl4.kept (hk _ fl4.lt (Nat.not_le.mpr fl4.lt))
  have el4 := el4.new hk
  have he7 := he7.kept (hk _ he7.lt (Nat.not_le.mpr he7.lt))
  rw [show r_8 = qe7 from hR]
  refine r_castO (pc := 28) E hC he7 rfl kw_1532 dX5_below_28 ?_
  refine k_l (pc := 31) (k_V E hC hS hA hl.1 (xf.recv hC he7 rfl) rfl (c_J13_longValue_f9912 l D tk N0 sa H.size qe7 xe7) kw_1533 kw_1534 kw_1535 kw_17 kw_1536 (n := 0) (by decide +kernel) rfl ⟨⟨rfl, rfl⟩, ⟨Nat.le_of_ble_eq_true rfl, Nat.le_of_ble_eq_true rfl⟩, (by dsimp only; omega), (by dsimp only; omega)⟩ rfl (Nat.le_of_ble_eq_true rfl) he7 dX5_below_31) hS (fun q z w => absurd w (Nat.not_le.mpr z)) hn (fun r_9 H locs hR hz hk hS => ?_)
  have fa := fa.kept (hk _ fa.lt (Nat.not_le.mpr fa.lt))
  have f2 := f2.kept (hk _ f2.lt (Nat.not_le.mpr f2.lt))
  have fR4 := fR4.kept (hk _ fR4.lt (Nat.not_le.mpr fR4.lt))
  have fl4 := fl4.kept (hk _ fl4.lt (Nat.not_le.mpr fl4.lt))
  have el4 := el4.new hk
  have he7 := he7.kept (hk _ he7.lt (Nat.not_le.mpr he7.lt))
  have er_9 : r_9 = xe7 := hR
  have hPF := PF.last (mo := -1) (y := r_9 - 1) hPT4 (by omega) ev7 (Or.inr (by decide)) (by rw [er_9]; exact Int64.sub_eq_add_neg _ _)
  have hPF2 := hPF.add (y := 2) (by decide) (by decide)
  have hFU := EU.two (y := r_9 - 1) hEU4 (by omega) ht1 ev7 (m_sub1 er_9 (by omega))
  have hxa : xe7 = m_at ta ba j9 := m_lgI ev7 (hTA4 j9 (by omega))
  have hW2 : m_W2 ta ba = m_FD (va_up (va_up (m_at ta ba) j9 (r_9 - 1)) nl4 2) (j9 + 1 + 1) := by
    unfold m_W2
    rw [← hTL4, hj9, Nat.add_sub_cancel, er_9, hxa, Int64.sub_eq_add_neg]
  have hav9 : ∀ i, i < nl4 + 1 → va_up (va_up ww4 j9 (.long (r_9 - 1))) nl4 (.long 2) i = .long (va_up (va_up (m_at ta ba) j9 (r_9 - 1)) nl4 2 i) := by
    intro i hi
    by_cases e : i = nl4
    · rw [e, va_up_self, va_up_self]
    · rw [va_up_ne _ _ e, va_up_ne _ _ e]
      by_cases e2 : i = j9
      · rw [e2, va_up_self, va_up_self]
      · rw [va_up_ne _ _ e2, va_up_ne _ _ e2]
        exact hTA4 i (by omega)
  refine lv_lconst (pc := 34) (v := 1) hx hb dX5_below_34 (by decide) ?_
  refine lv_lsub (pc := 35) hx hb dX5_below_35 ?_
  have hZ0_ := hS.1
  have t_fa := fa.lt
  have t_f2 := f2.lt
  have t_fR4 := fR4.lt
  have t_fl4 := fl4.lt
  have t_he7 := he7.lt
  refine k_r (pc := 36) (k_S E hC hS hA hl.1 (c_J13_valueOf_928b6 l D tk N0 sa H.size (r_9 - 1)) kw_1414 kw_1415 kw_17 kw_1416 (n := 1) (by decide +kernel) rfl ⟨⟨rfl, rfl⟩, ⟨Nat.le_of_ble_eq_true rfl, Nat.le_of_ble_eq_true rfl⟩, (by dsimp only; omega), (by dsimp only; omega)⟩ rfl (Nat.le_of_ble_eq_true rfl) trivial dX5_below_36) hS (fun q z w => absurd w (Nat.not_le.mpr z)) hn (fun r_10 H locs hR hz hk hS => ?_)
  have fa := fa.kept (hk _ fa.lt (Nat.not_le.mpr fa.lt))
  have f2 := f2.kept (hk _ f2.lt (Nat.not_le.mpr f2.lt))
  have fR4 := fR4.kept (hk _ fR4.lt (Nat.not_le.mpr fR4.lt))
  have fl4 := fl4.kept (hk _ fl4.lt (Nat.not_le.mpr fl4.lt))
  have el4 := el4.new hk
  have he7 := he7.kept (hk _ he7.lt (Nat.not_le.mpr he7.lt))
  have f11 := hR
  refine k_r (pc := 39) (k_V E hC hS hA hl.1 (c1.recv hC fl4 rfl) rfl (c_Jx4a65c_set_bcc79 l D tk N0 sa H.size r_3 bb4 nl4 cap4 j9 qe7 r_10 3 md4 x_6 ff4 ww4 (.long (r_9 - 1)) (hA _ g_fR4) (Or.inl rfl) hix (by omega) (by omega) (by omega) hq7) kw_1654 kw_1655 kw_1656 kw_8 kw_1657 (n := 2) (by decide +kernel) rfl ⟨⟨rfl, rfl⟩, ⟨Nat.le_of_ble_eq_true rfl, Nat.le_of_ble_eq_true rfl⟩, (by dsimp only; omega), (by dsimp only; omega)⟩ rfl (Nat.le_of_ble_eq_true rfl) ⟨fl4, fR4, el4, f11⟩ dX5_below_39) hS (inA1.to g_fR4) hn (fun r_12 H locs hR hz hk hS => ?_)
  have fa := fa.kept (hk _ fa.lt (inA1.not (clA.ne fa.cla fR4.cla (hC.aa 0 4 rfl rfl (by dsimp only; decide))) fa.lt))
  have f2 := f2.kept (hk _ f2.lt (inA1.not (clA.ne f2.cla fR4.cla (hC.aa 0 4 rfl rfl (by dsimp only; decide))) f2.lt))
  have he7 := he7.kept (hk _ he7.lt (inA1.not (clA.ne he7.cl fR4.cla (hC.oa 3 4 rfl rfl)) he7.lt))
  have f11 := f11.kept (hk _ f11.lt (inA1.not (clA.ne f11.cl fR4.cla (hC.oa 3 4 rfl rfl)) f11.lt))
  obtain ⟨fl4, fR4, el4⟩ := hR
  refine lv_pop (pc := 42) hx hb dX5_below_42 rfl ?_
  refine lv_aload_n (pc := 43) hx hb dX5_below_43 rfl (lv_at hl 1 rfl) ?_
  refine lv_ldc2 (pc := 44) (v := 2) hx hb E.2.2.2.1 (E.2.2.2.2 _ (List.mem_cons_of_mem _ kw_1665)) dX5_below_44 ?_
  have hZ0_ := hS.1
  have t_fa := fa.lt
  have t_f2 := f2.lt
  have t_fR4 := fR4.lt
  have t_he7 := he7.lt
  have t_f11 := f11.lt
  have t_fl4 := fl4.lt
  refine k_r (pc := 47) (k_S E hC hS hA hl.1 (c_J13_valueOf_928b6 l D tk N0 sa H.size 2) kw_1414 kw_1415 kw_17 kw_1416 (n := 1) (by decide +kernel) rfl ⟨⟨rfl, rfl⟩, ⟨Nat.le_of_ble_eq_true rfl, Nat.le_of_ble_eq_true rfl⟩, (by dsimp only; omega), (by dsimp only; omega)⟩ rfl (Nat.le_of_ble_eq_true rfl) trivial dX5_below_47) hS (fun q z w => absurd w (Nat.not_le.mpr z)) hn (fun r_13 H locs hR hz hk hS => ?_)
  have fa := fa.kept (hk _ fa.lt (Nat.not_le.mpr fa.lt))
  have f2 := f2.kept (hk _ f2.lt (Nat.not_le.mpr f2.lt))
  have fR4 := fR4.kept (hk _ fR4.lt (Nat.not_le.mpr fR4.lt))
  have he7 := he7.kept (hk _ he7.lt (Nat.not_le.mpr he7.lt))
  have f11 := f11.kept (hk _ f11.lt (Nat.not_le.mpr f11.lt))
  have fl4 := fl4.kept (hk _ fl4.lt (Nat.not_le.mpr fl4.lt))
  have el4 := el4.new hk
  have f14 := hR
  rcases Nat.lt_or_ge nl4 cap4 with hkc | hkc9
  · refine k_i (pc := 50) (k_V E hC hS hA hl.1 (c1.recv hC fl4 rfl) rfl (c_Jx4a65c_add_9ea2d l D tk N0 sa H.size r_3 bb4 nl4 cap4 r_13 3 md4 (.long 2) (va_up ff4 j9 (some r_10)) (va_up ww4 j9 (.long (r_9 - 1))) (hA _ g_fl4) (hA _ g_fR4) (Or.inl rfl) hkc (by omega)) kw_1434 kw_1435 kw_1436 kw_8 kw_1437 (n := 1) (by decide +kernel) rfl ⟨⟨rfl, rfl⟩, ⟨Nat.le_of_ble_eq_true rfl, Nat.le_of_ble_eq_true rfl⟩, (by dsimp only; omega), (by dsimp only; omega)⟩ rfl (Nat.le_of_ble_eq_true rfl) ⟨fl4, fR4, el4, f14⟩ dX5_below_50) hS (inA2.to g_fl4 g_fR4) hn (fun r_15 H locs hR hz hk hS => ?_)
    have fa := fa.kept (hk _ fa.lt (inA2.not (clA.ne fa.cla fl4.cl (hC.ao 7 0 rfl rfl)) (clA.ne fa.cla fR4.cla (hC.aa 0 4 rfl rfl (by dsimp only; decide))) fa.lt))
    have f2 := f2.kept (hk _ f2.lt (inA2.not (clA.ne f2.cla fl4.cl (hC.ao 7 0 rfl rfl)) (clA.ne f2.cla fR4.cla (hC.aa 0 4 rfl rfl (by dsimp only; decide))) f2.lt))
    have he7 := he7.kept (hk _ he7.lt (inA2.not (clA.ne he7.cl fl4.cl (hC.oo 3 7 rfl rfl (by decide))) (clA.ne he7.cl fR4.cla (hC.oa 3 4 rfl rfl)) he7.lt))
    have f11 := f11.kept (hk _ f11.lt (inA2.not (clA.ne f11.cl fl4.cl (hC.oo 3 7 rfl rfl (by decide))) (clA.ne f11.cl fR4.cla (hC.oa 3 4 rfl rfl)) f11.lt))
    have f14 := f14.kept (hk _ f14.lt (inA2.not (clA.ne f14.cl fl4.cl (hC.oo 3 7 rfl rfl (by decide))) (clA.ne f14.cl fR4.cla (hC.oa 3 4 rfl rfl)) f14.lt))
    obtain ⟨hr9, fl4, fR4, el4⟩ := hR
    rw [hr9]
    refine lv_pop (pc := 53) hx hb dX5_below_53 rfl ?_
    refine lv_aload_n (pc := 54) hx hb dX5_below_54 rfl (lv_at hl 1 rfl) ?_
    refine lv_iload (pc := 55) hx hb dX5_below_55 (lv_at hl 0 rfl) ?_
    refine lv_iconst (pc := 57) (v := 2) hx hb dX5_below_57 (by decide) ?_
    refine lv_iadd (pc := 58) hx hb dX5_below_58 ?_
    have hZ0_ := hS.1
    have t_fa := fa.lt
    have t_f2 := f2.lt
    have t_fR4 := fR4.lt
    have t_he7 := he7.lt
    have t_f11 := f11.lt
    have t_fl4 := fl4.lt
    have t_f14 := f14.lt
    refine k_r (pc := 59) (k_S E hC hS hA hl.1 (c_X5_folded_B l D tk N0 sa H.size r_3 bb4 (nl4 + 1) cap4 (md4 + 1) (x_6 + 2) (va_up (va_up ff4 j9 (some r_10)) nl4 (some r_13)) (va_up (va_up ww4 j9 (.long (r_9 - 1))) nl4 (.long 2)) ((j9 + 2)) _ (by omega) (by omega) (by rw [hix]; exact nI_add j9 2) (by omega) (by omega) hPF2 hav9 (by have h9 := hFU; rw [show nl4 + 1 = j9 + 2 by omega] at h9; exact h9)) kw_1566 kw_1567 kw_5 kw_1568 (n := 2) (by decide +kernel) rfl ⟨⟨rfl, rfl⟩, ⟨Nat.le_of_ble_eq_true rfl, Nat.le_of_ble_eq_true rfl⟩, (by dsimp only; omega), (by dsimp only; omega)⟩ rfl (Nat.le_of_ble_eq_true rfl) ⟨fl4, fR4, el4⟩ dX5_below_59) hS (fun q z w => absurd w (Nat.not_le.mpr z)) hn (fun r_16 H locs hR hz hk hS => ?_)
    have fa := fa.kept (hk _ fa.lt (Nat.not_le.mpr fa.lt))
    have f2 := f2.kept (hk _ f2.lt (Nat.not_le.mpr f2.lt))
    have fR4 := fR4.kept (hk _ fR4.lt (Nat.not_le.mpr fR4.lt))
    have he7 := he7.kept (hk _ he7.lt (Nat.not_le.mpr he7.lt))
    have f11 := f11.kept (hk _ f11.lt (Nat.not_le.mpr f11.lt))
    have fl4 := fl4.kept (hk _ fl4.lt (Nat.not_le.mpr fl4.lt))
    have f14 := f14.kept (hk _ f14.lt (Nat.not_le.mpr f14.lt))
    have el4 := el4.new hk
    obtain ⟨z9_, tt_f17, bb_f17, f17, hb_f17, hv_f17⟩ := hR
    have s_f17 : s.heap.size ≤ r_16 := Nat.le_trans hZ0_ z9_
    have g_f17 := hn _ s_f17
    have l_fa_f17 : pa < r_16 := Nat.lt_of_lt_of_le t_fa z9_
    have l_f2_f17 : r_1 < r_16 := Nat.lt_of_lt_of_le t_f2 z9_
    have l_fR4_f17 : bb4 < r_16 := Nat.lt_of_lt_of_le t_fR4 z9_
    have l_he7_f17 : qe7 < r_16 := Nat.lt_of_lt_of_le t_he7 z9_
    have l_f11_f17 : r_10 < r_16 := Nat.lt_of_lt_of_le t_f11 z9_
    have l_fl4_f17 : r_3 < r_16 := Nat.lt_of_lt_of_le t_fl4 z9_
    have l_f14_f17 : r_13 < r_16 := Nat.lt_of_lt_of_le t_f14 z9_
    refine lv_astore (pc := 62) (lv' := [(5, .ref r_16), (4, .int x_6), (3, .ref r_3), (2, .ref r_1), (0, .ref pa), (1, .int ir)]) hx hb dX5_below_62 hl (by decide) rfl (fun ls hl => ?_)
    refine lv_aload_n (pc := 64) hx hb dX5_below_64 rfl (lv_at hl 3 rfl) ?_
    refine lv_aload (pc := 65) hx hb dX5_below_65 (lv_at hl 0 rfl) ?_
    have hZ0_ := hS.1
    have t_fa := fa.lt
    have t_f2 := f2.lt
    have t_fR4 := fR4.lt
    have t_he7 := he7.lt
    have t_f11 := f11.lt
    have t_fl4 := fl4.lt
    have t_f14 := f14.lt
    have t_f17 := f17.lt
    refine k_i (pc := 67) (k_S E hC hS hA hl.1 (c_X5_order l D tk N0 sa H.size r_1 tt_f2 bb_f2 r_16 tt_f17 bb_f17 ) kw_1268 kw_1269 kw_5 kw_1270 (n := 2) (by decide +kernel) rfl ⟨⟨rfl, rfl⟩, ⟨Nat.le_of_ble_eq_true rfl, Nat.le_of_ble_eq_true rfl⟩, (by dsimp only; omega), (by dsimp only; omega)⟩ rfl (Nat.le_of_ble_eq_true rfl) ⟨f2, f17⟩ dX5_below_67) hS (fun q z w => absurd w (Nat.not_le.mpr z)) hn (fun r_18 H locs hR hz hk hS => ?_)
    have fa := fa.kept (hk _ fa.lt (Nat.not_le.mpr fa.lt))
    have f2 := f2.kept (hk _ f2.lt (Nat.not_le.mpr f2.lt))
    have fR4 := fR4.kept (hk _ fR4.lt (Nat.not_le.mpr fR4.lt))
    have he7 := he7.kept (hk _ he7.lt (Nat.not_le.mpr he7.lt))
    have f11 := f11.kept (hk _ f11.lt (Nat.not_le.mpr f11.lt))
    have fl4 := fl4.kept (hk _ fl4.lt (Nat.not_le.mpr fl4.lt))
    have f14 := f14.kept (hk _ f14.lt (Nat.not_le.mpr f14.lt))
    have el4 := el4.new hk
    have f17 := f17.kept (hk _ f17.lt (Nat.not_le.mpr f17.lt))
    have er_18 := hR
    refine lv_if_le (pc := 70) (tgt := 77) hx hb dX5_below_70 (by decide) (fun c_19 => ?_) (fun c_19 => ?_)
    · refine lv_iconst (pc := 77) (v := 0) hx hb dX5_below_77 (by decide) ?_
      refine lv_iload_n (pc := 78) hx hb dX5_below_78 rfl (lv_at hl 5 rfl) ?_
      refine lv_icmp_ne (pc := 79) (tgt := 86) hx hb dX5_below_79 (by decide) (fun c_20 => ?_) (fun c_20 => ?_)
      · refine lv_aload (pc := 86) hx hb dX5_below_86 (lv_at hl 0 rfl) ?_
        refine r_aret (pc := 88) E hr (Or.inr ⟨_, rfl⟩) hlk hS (by omega) (by omega) ?_ dX5_below_88
        have hps : ¬ 0 < m_ord tt_f2 bb_f2 tt_f17 bb_f17 := by rw [← er_18]; exact Int32.not_lt.mpr c_19
        exact ⟨s_f17, _, _, f17, hb_f17, (tt_f2, bb_f2), (tt_f17, bb_f17), hv_f2, hW2.trans hv_f17, by dsimp only; rw [if_neg hps, if_neg c_20]⟩
      · refine lv_aload_n (pc := 82) hx hb dX5_below_82 rfl (lv_at hl 3 rfl) ?_
        refine lv_goto (pc := 83) (tgt := 88) hx hb dX5_below_83 (by decide) ?_
        refine r_aret (pc := 88) E hr (Or.inr ⟨_, rfl⟩) hlk hS (by omega) (by omega) ?_ dX5_below_88
        have hps : ¬ 0 < m_ord tt_f2 bb_f2 tt_f17 bb_f17 := by rw [← er_18]; exact Int32.not_lt.mpr c_19
        exact ⟨s_f2, _, _, f2, hb_f2, (tt_f2, bb_f2), (tt_f17, bb_f17), hv_f2, hW2.trans hv_f17, by dsimp only; rw [if_neg hps, if_pos c_20]⟩
    · refine lv_iconst (pc := 73) (v := 1) hx hb dX5_below_73 (by decide) ?_
      refine lv_goto (pc := 74) (tgt := 78) hx hb dX5_below_74 (by decide) ?_
      refine lv_iload_n (pc := 78) hx hb dX5_below_78 rfl (lv_at hl 5 rfl) ?_
      refine lv_icmp_ne (pc := 79) (tgt := 86) hx hb dX5_below_79 (by decide) (fun c_21 => ?_) (fun c_21 => ?_)
      · refine lv_aload (pc := 86) hx hb dX5_below_86 (lv_at hl 0 rfl) ?_
        refine r_aret (pc := 88) E hr (Or.inr ⟨_, rfl⟩) hlk hS (by omega) (by omega) ?_ dX5_below_88
        have hps : 0 < m_ord tt_f2 bb_f2 tt_f17 bb_f17 := by rw [← er_18]; exact Int32.not_le.mp c_19
        exact ⟨s_f17, _, _, f17, hb_f17, (tt_f2, bb_f2), (tt_f17, bb_f17), hv_f2, hW2.trans hv_f17, by dsimp only; rw [if_pos hps, if_neg c_21]⟩
      · refine lv_aload_n (pc := 82) hx hb dX5_below_82 rfl (lv_at hl 3 rfl) ?_
        refine lv_goto (pc := 83) (tgt := 88) hx hb dX5_below_83 (by decide) ?_
        refine r_aret (pc := 88) E hr (Or.inr ⟨_, rfl⟩) hlk hS (by omega) (by omega) ?_ dX5_below_88
        have hps : 0 < m_ord tt_f2 bb_f2 tt_f17 bb_f17 := by rw [← er_18]; exact Int32.not_le.mp c_19
        exact ⟨s_f2, _, _, f2, hb_f2, (tt_f2, bb_f2), (tt_f17, bb_f17), hv_f2, hW2.trans hv_f17, by dsimp only; rw [if_pos hps, if_pos c_21]⟩
  · have hkc : cap4 = nl4 := by omega
    have fR4 := fR4.ofcap hkc
    have hgr := m_grow (c9 := nl4) (by rw [← hkc]; exact hlp4) (by omega)
    have hgb := m_acB hgr.1
    have hZ0_ := hS.1
    have t_fa := fa.lt
    have t_f2 := f2.lt
    have t_fR4 := fR4.lt
    have t_he7 := he7.lt
    have t_f11 := f11.lt
    have t_fl4 := fl4.lt
    have t_f14 := f14.lt
    refine k_i (pc := 50) (k_V E hC hS hA hl.1 (c1.recv hC fl4 rfl) rfl (c_Jx4a65c_add_9ea2d_G l D tk N0 sa H.size r_3 bb4 nl4 r_13 3 md4 (.long 2) (va_up ff4 j9 (some r_10)) (va_up ww4 j9 (.long (r_9 - 1))) (hA _ g_fl4) (Or.inl rfl) (by omega) (by omega)) kw_1434 kw_1435 kw_1436 kw_8 kw_1437 (n := 1) (by decide +kernel) rfl ⟨⟨rfl, rfl⟩, ⟨Nat.le_of_ble_eq_true rfl, Nat.le_of_ble_eq_true rfl⟩, (by dsimp only; omega), (by dsimp only; omega)⟩ rfl (Nat.le_of_ble_eq_true rfl) ⟨fl4, fR4, el4, f14⟩ dX5_below_50) hS (inA1.to g_fl4) hn (fun r_22 H locs hR hz hk hS => ?_)
    have fa := fa.kept (hk _ fa.lt (inA1.not (clA.ne fa.cla fl4.cl (hC.ao 7 0 rfl rfl)) fa.lt))
    have f2 := f2.kept (hk _ f2.lt (inA1.not (clA.ne f2.cla fl4.cl (hC.ao 7 0 rfl rfl)) f2.lt))
    have fR4 := fR4.kept (hk _ fR4.lt (inA1.not (clA.ne fR4.cla fl4.cl (hC.ao 7 4 rfl rfl)) fR4.lt))
    have he7 := he7.kept (hk _ he7.lt (inA1.not (clA.ne he7.cl fl4.cl (hC.oo 3 7 rfl rfl (by decide))) he7.lt))
    have f11 := f11.kept (hk _ f11.lt (inA1.not (clA.ne f11.cl fl4.cl (hC.oo 3 7 rfl rfl (by decide))) f11.lt))
    have f14 := f14.kept (hk _ f14.lt (inA1.not (clA.ne f14.cl fl4.cl (hC.oo 3 7 rfl rfl (by decide))) f14.lt))
    obtain ⟨hr9, q23, f_23, z9_, fl4, f23, el4⟩ := hR
    have s_f23 : s.heap.size ≤ q23 := Nat.le_trans hZ0_ z9_
    have g_f23 := hn _ s_f23
    have l_fa_f23 : pa < q23 := Nat.lt_of_lt_of_le t_fa z9_
    have l_f2_f23 : r_1 < q23 := Nat.lt_of_lt_of_le t_f2 z9_
    have l_fR4_f23 : bb4 < q23 := Nat.lt_of_lt_of_le t_fR4 z9_
    have l_he7_f23 : qe7 < q23 := Nat.lt_of_lt_of_le t_he7 z9_
    have l_f11_f23 : r_10 < q23 := Nat.lt_of_lt_of_le t_f11 z9_
    have l_fl4_f23 : r_3 < q23 := Nat.lt_of_lt_of_le t_fl4 z9_
    have l_f14_f23 : r_13 < q23 := Nat.lt_of_lt_of_le t_f14 z9_
    rw [hr9]
    refine lv_pop (pc := 53) hx hb dX5_below_53 rfl ?_
    refine lv_aload_n (pc := 54) hx hb dX5_below_54 rfl (lv_at hl 1 rfl) ?_
    refine lv_iload (pc := 55) hx hb dX5_below_55 (lv_at hl 0 rfl) ?_
    refine lv_iconst (pc := 57) (v := 2) hx hb dX5_below_57 (by decide) ?_
    refine lv_iadd (pc := 58) hx hb dX5_below_58 ?_
    have hZ0_ := hS.1
    have t_fa := fa.lt
    have t_f2 := f2.lt
    have t_fR4 := fR4.lt
    have t_he7 := he7.lt
    have t_f11 := f11.lt
    have t_fl4 := fl4.lt
    have t_f14 := f14.lt
    have t_f23 := f23.lt
    refine k_r (pc := 59) (k_S E hC hS hA hl.1 (c_X5_folded_B l D tk N0 sa H.size r_3 q23 (nl4 + 1) (nl4 + nl4 / 2) (md4 + 1) (x_6 + 2) f_23 (va_up (va_up ww4 j9 (.long (r_9 - 1))) nl4 (.long 2)) ((j9 + 2)) _ (by omega) (by omega) (by rw [hix]; exact nI_add j9 2) (by omega) (by omega) hPF2 hav9 (by have h9 := hFU; rw [show nl4 + 1 = j9 + 2 by omega] at h9; exact h9)) kw_1566 kw_1567 kw_5 kw_1568 (n := 2) (by decide +kernel) rfl ⟨⟨rfl, rfl⟩, ⟨Nat.le_of_ble_eq_true rfl, Nat.le_of_ble_eq_true rfl⟩, (by dsimp only; omega), (by dsimp only; omega)⟩ rfl (Nat.le_of_ble_eq_true rfl) ⟨fl4, f23, el4⟩ dX5_below_59) hS (fun q z w => absurd w (Nat.not_le.mpr z)) hn (fun r_24 H locs hR hz hk hS => ?_)
    have fa := fa.kept (hk _ fa.lt (Nat.not_le.mpr fa.lt))
    have f2 := f2.kept (hk _ f2.lt (Nat.not_le.mpr f2.lt))
    have fR4 := fR4.kept (hk _ fR4.lt (Nat.not_le.mpr fR4.lt))
    have he7 := he7.kept (hk _ he7.lt (Nat.not_le.mpr he7.lt))
    have f11 := f11.kept (hk _ f11.lt (Nat.not_le.mpr f11.lt))
    have fl4 := fl4.kept (hk _ fl4.lt (Nat.not_le.mpr fl4.lt))
    have f14 := f14.kept (hk _ f14.lt (Nat.not_le.mpr f14.lt))
    have f23 := f23.kept (hk _ f23.lt (Nat.not_le.mpr f23.lt))
    have el4 := el4.new hk
    obtain ⟨z9_, tt_f25, bb_f25, f25, hb_f25, hv_f25⟩ := hR
    have s_f25 : s.heap.size ≤ r_24 := Nat.le_trans hZ0_ z9_
    have g_f25 := hn _ s_f25
    have l_fa_f25 : pa < r_24 := Nat.lt_of_lt_of_le t_fa z9_
    have l_f2_f25 : r_1 < r_24 := Nat.lt_of_lt_of_le t_f2 z9_
    have l_fR4_f25 : bb4 < r_24 := Nat.lt_of_lt_of_le t_fR4 z9_
    have l_he7_f25 : qe7 < r_24 := Nat.lt_of_lt_of_le t_he7 z9_
    have l_f11_f25 : r_10 < r_24 := Nat.lt_of_lt_of_le t_f11 z9_
    have l_fl4_f25 : r_3 < r_24 := Nat.lt_of_lt_of_le t_fl4 z9_
    have l_f14_f25 : r_13 < r_24 := Nat.lt_of_lt_of_le t_f14 z9_
    have l_f23_f25 : q23 < r_24 := Nat.lt_of_lt_of_le t_f23 z9_
    refine lv_astore (pc := 62) (lv' := [(5, .ref r_24), (4, .int x_6), (3, .ref r_3), (2, .ref r_1), (0, .ref pa), (1, .int ir)]) hx hb dX5_below_62 hl (by decide) rfl (fun ls hl => ?_)
    refine lv_aload_n (pc := 64) hx hb dX5_below_64 rfl (lv_at hl 3 rfl) ?_
    refine lv_aload (pc := 65) hx hb dX5_below_65 (lv_at hl 0 rfl) ?_
    have hZ0_ := hS.1
    have t_fa := fa.lt
    have t_f2 := f2.lt
    have t_fR4 := fR4.lt
    have t_he7 := he7.lt
    have t_f11 := f11.lt
    have t_fl4 := fl4.lt
    have t_f14 := f14.lt
    have t_f23 := f23.lt
    have t_f25 := f25.lt
    refine k_i (pc := 67) (k_S E hC hS hA hl.1 (c_X5_order l D tk N0 sa H.size r_1 tt_f2 bb_f2 r_24 tt_f25 bb_f25 ) kw_1268 kw_1269 kw_5 kw_1270 (n := 2) (by decide +kernel) rfl ⟨⟨rfl, rfl⟩, ⟨Nat.le_of_ble_eq_true rfl, Nat.le_of_ble_eq_true rfl⟩, (by dsimp only; omega), (by dsimp only; omega)⟩ rfl (Nat.le_of_ble_eq_true rfl) ⟨f2, f25⟩ dX5_below_67) hS (fun q z w => absurd w (Nat.not_le.mpr z)) hn (fun r_26 H locs hR hz hk hS => ?_)
    have fa := fa.kept (hk _ fa.lt (Nat.not_le.mpr fa.lt))
    have f2 := f2.kept (hk _ f2.lt (Nat.not_le.mpr f2.lt))
    have fR4 := fR4.kept (hk _ fR4.lt (Nat.not_le.mpr fR4.lt))
    have he7 := he7.kept (hk _ he7.lt (Nat.not_le.mpr he7.lt))
    have f11 := f11.kept (hk _ f11.lt (Nat.not_le.mpr f11.lt))
    have fl4 := fl4.kept (hk _ fl4.lt (Nat.not_le.mpr fl4.lt))
    have f14 := f14.kept (hk _ f14.lt (Nat.not_le.mpr f14.lt))
    have f23 := f23.kept (hk _ f23.lt (Nat.not_le.mpr f23.lt))
    have el4 := el4.new hk
    have f25 := f25.kept (hk _ f25.lt (Nat.not_le.mpr f25.lt))
    have er_26 := hR
    refine lv_if_le (pc := 70) (tgt := 77) hx hb dX5_below_70 (by decide) (fun c_27 => ?_) (fun c_27 => ?_)
    · refine lv_iconst (pc := 77) (v := 0) hx hb dX5_below_77 (by decide) ?_
      refine lv_iload_n (pc := 78) hx hb dX5_below_78 rfl (lv_at hl 5 rfl) ?_
      refine lv_icmp_ne (pc := 79) (tgt := 86) hx hb dX5_below_79 (by decide) (fun c_28 => ?_) (fun c_28 => ?_)
      · refine lv_aload (pc := 86) hx hb dX5_below_86 (lv_at hl 0 rfl) ?_
        refine r_aret (pc := 88) E hr (Or.inr ⟨_, rfl⟩) hlk hS (by omega) (by omega) ?_ dX5_below_88
        have hps : ¬ 0 < m_ord tt_f2 bb_f2 tt_f25 bb_f25 := by rw [← er_26]; exact Int32.not_lt.mpr c_27
        exact ⟨s_f25, _, _, f25, hb_f25, (tt_f2, bb_f2), (tt_f25, bb_f25), hv_f2, hW2.trans hv_f25, by dsimp only; rw [if_neg hps, if_neg c_28]⟩
      · refine lv_aload_n (pc := 82) hx hb dX5_below_82 rfl (lv_at hl 3 rfl) ?_
        refine lv_goto (pc := 83) (tgt := 88) hx hb dX5_below_83 (by decide) ?_
        refine r_aret (pc := 88) E hr (Or.inr ⟨_, rfl⟩) hlk hS (by omega) (by omega) ?_ dX5_below_88
        have hps : ¬ 0 < m_ord tt_f2 bb_f2 tt_f25 bb_f25 := by rw [← er_26]; exact Int32.not_lt.mpr c_27
        exact ⟨s_f2, _, _, f2, hb_f2, (tt_f2, bb_f2), (tt_f25, bb_f25), hv_f2, hW2.trans hv_f25, by dsimp only; rw [if_neg hps, if_pos c_28]⟩
    · refine lv_iconst (pc := 73) (v := 1) hx hb dX5_below_73 (by decide) ?_
      refine lv_goto (pc := 74) (tgt := 78) hx hb dX5_below_74 (by decide) ?_
      refine lv_iload_n (pc := 78) hx hb dX5_below_78 rfl (lv_at hl 5 rfl) ?_
      refine lv_icmp_ne (pc := 79) (tgt := 86) hx hb dX5_below_79 (by decide) (fun c_29 => ?_) (fun c_29 => ?_)
      · refine lv_aload (pc := 86) hx hb dX5_below_86 (lv_at hl 0 rfl) ?_
        refine r_aret (pc := 88) E hr (Or.inr ⟨_, rfl⟩) hlk hS (by omega) (by omega) ?_ dX5_below_88
        have hps : 0 < m_ord tt_f2 bb_f2 tt_f25 bb_f25 := by rw [← er_26]; exact Int32.not_le.mp c_27
        exact ⟨s_f25, _, _, f25, hb_f25, (tt_f2, bb_f2), (tt_f25, bb_f25), hv_f2, hW2.trans hv_f25, by dsimp only; rw [if_pos hps, if_neg c_29]⟩
      · refine lv_aload_n (pc := 82) hx hb dX5_below_82 rfl (lv_at hl 3 rfl) ?_
        refine lv_goto (pc := 83) (tgt := 88) hx hb dX5_below_83 (by decide) ?_
        refine r_aret (pc := 88) E hr (Or.inr ⟨_, rfl⟩) hlk hS (by omega) (by omega) ?_ dX5_below_88
        have hps : 0 < m_ord tt_f2 bb_f2 tt_f25 bb_f25 := by rw [← er_26]; exact Int32.not_le.mp c_27
        exact ⟨s_f2, _, _, f2, hb_f2, (tt_f2, bb_f2), (tt_f25, bb_f25), hv_f2, hW2.trans hv_f25, by dsimp only; rw [if_pos hps, if_pos c_29]⟩
/-! ===== the reference's world: its object, its RATIOS, its ROW, its TALLY ===== -/
theorem w_oj : Cond.arrayOver (.array .long) ∈ tables_1 := List.mem_of_getElem? (i := 1169) (by decide +kernel)
theorem m_nmJ : (FieldType.array .long).toString = "[J" := by decide +kernel
section LR16
variable {p : Program} {l : Launch} {e : Env} {R : Room} {s : State} {m : MethodId} {args : Array Value} {below : List Frame} {meth : Method} {c : Code} {H : Heap} {locs : List Loc} {cells slots : Nat} {Q : State → Prop}
variable {cc : ByteArray} {pc nL : Nat} {ls : Array Slot} {rest : List Value} {Ts : List Cond} {own : String} {D : va_G} {tk : Nat → ClassId} {N0 : Nat} {sa : Nat → Nat} {A0 : Nat → Prop} {w0 : Cond}
/-- a reference out of the row of rows -/
theorem r_aaldJ (E : CallFix p m c cc nL s args Ts own) (hC : Ctx D tk N0 sa s) {a n : Nat} {f : Nat → Option Nat} (h : c1 D a (.inl (tk 3, n, .inr (.inr (.inr (.inr f))))) H) {i : Int32} (k : Nat) (hi : i = nI k) (hk : k < n) (hn : n < 2 ^ 31) {q : Nat} (hq : f k = some q) (hdg : decode cc pc = .ok (.aaload, 1))
    (kk : W p l e R s m args below meth c H locs cells slots Q (F0 m (pc + 1) ls (.ref q :: rest))) : W p l e R s m args below meth c H locs cells slots Q (F0 m pc ls (.int i :: .ref a :: rest)) := by
  have hin : vp_in i n := by rw [hi]; exact vp_in_nI hk hn
  have hk9 : i.toNatClampNeg = k := by rw [hi]; exact nI_clamp (by omega)
  have hlt : i.toNatClampNeg < n := by rw [hk9]; exact hk
  exact W.aald (v := .ref q) (ty := .array .long) E.1 E.2.1 h ((hC.1.2 3 (tk 3, .array .long) rfl).1 n (fun j => va_rf (f j))) rfl (fun q => by cases q) (by show ¬ (i < 0 ∨ (arrV _ _ _).slots.size ≤ _); rw [arrV_size]; exact hin) (by show (arrV (tk 3) n (fun j => va_rf (f j))).slots[_]? = _; rw [arrV_read _ _ hlt]; show some (va_rf (f i.toNatClampNeg)) = _; rw [hk9, hq]; rfl) rfl rfl hdg kk
/-- the classes of the rows -/
theorem Ctx.jj (hC : Ctx D tk N0 sa s) : ∃ (kA kJ : Class), s.vm.classes[tk 3]? = some kA ∧ kA.kind = .array (tk 0) (.array .long) ∧ s.vm.classes[tk 0]? = some kJ := by
  obtain ⟨comp, cA, kA, h1, -, h3, h4, h5⟩ := arrayOverA_spec (ao_vm (A := #[]) (A' := #[]) (U := s) rfl (hC.2.2.2.2.2.1 _ w_oj))
  have e3 : s.vm.findClass ("[" ++ (FieldType.array .long).toString) = some (tk 3) := (hC.1.2 3 (tk 3, .array .long) rfl).2
  have e0 : s.vm.findClass (FieldType.array .long).toString = some (tk 0) := (hC.1.2 0 (tk 0, .long) rfl).2
  cases e3.symm.trans h5
  cases e0.symm.trans h1
  obtain ⟨kJ, hkJ, -⟩ := Vm.findClass_spec h1
  exact ⟨kA, kJ, h3, h4, hkJ⟩
theorem r_aastJ (E : CallFix p m c cc nL s args Ts own) (hC : Ctx D tk N0 sa s) {a n v : Nat} {t b : Int64} {f : Nat → Option Nat} (h : c1 D a (.inl (tk 3, n, .inr (.inr (.inr (.inr f))))) H) (hv : L2 D tk v t b H) (hS : va_S A0 s.heap H locs) (hA : A0 a) {i : Int32} (k : Nat) (hi : i = nI k) (hk : k < n) (hn : n < 2 ^ 31) (hdg : decode cc pc = .ok (.aastore, 1))
    (kk : ∀ (H1 : Heap) (locs1 : List Loc), c1 D a (.inl (tk 3, n, .inr (.inr (.inr (.inr (va_up f k (some v))))))) H1 → (∀ q, q ≠ a → H1[q]? = H[q]?) → H1.size = H.size → va_S A0 s.heap H1 locs1 → W p l e R s m args below meth c H1 locs1 cells slots Q (F0 m (pc + 1) ls rest)) : W p l e R s m args below meth c H locs cells slots Q (F0 m pc ls (.ref v :: .int i :: .ref a :: rest)) := by
  have hin : vp_in i n := by rw [hi]; exact vp_in_nI hk hn
  have hk9 : i.toNatClampNeg = k := by rw [hi]; exact nI_clamp (by omega)
  subst hk9
  have hlt : i.toNatClampNeg < n := hk
  have h0 : ¬ i < 0 := fun q => hin (Or.inl q)
  obtain ⟨kA, kJ, k1, k2, k3⟩ := hC.jj
  have hvc : H[v]? = some (vp_cell (tk 0) (2, .inr (.inl (pr2 t b)))) := hv
  have hac : H[a]? = some (vp_cell (tk 3) (n, .inr (.inr (.inr (.inr f))))) := h
  refine W.aast E.1 E.2.1 hac (fun q h => by cases h) (fun h => by cases h) k1 k2 rfl k3 ⟨h0, by show _ < (arrV _ _ _).slots.size; rw [arrV_size]; exact hlt⟩ hvc (fun q h => by cases h) k3 (va_asg _ _) rfl rfl hdg fun H1 e z oq => ?_
  refine kk H1 _ ?_ oq z (hS.put z oq hA)
  show H1[a]? = some (vp_cell _ _)
  rw [e]
  rw [vp_cell_q, vp_cell_q, arrV_store]
  congr 2
  funext q
  by_cases hq : q = i.toNatClampNeg
  · subst hq
    simp [updV, va_up, va_rf]
  · simp [updV, va_up, hq]
theorem r_anewJ (E : CallFix p m c cc nL s args (w0 :: GW) own) (hC : Ctx D tk N0 sa s) (hS : va_S A0 s.heap H locs) {index : Nat} (w1 : Cond.classLink own index "[J" ∈ GW) {n : Int32} {N : Nat} (hn : ¬ n < 0) (hN : n.toNatClampNeg = N) (hbytes : N * 4 ≤ 536870912) (hcells : cells + 1 ≤ R.cells) (hslots : slots + N ≤ R.slots) (hdg : decode cc pc = .ok (.anewarray index, 3))
    (kk : ∀ (q : Nat) (H1 : Heap), q = H.size → c1 D q (.inl (tk 3, N, .inr (.inr (.inr (.inr (fun _ => none)))))) H1 → (∀ x : Nat, x < H.size → H1[x]? = H[x]?) → va_S A0 s.heap H1 locs → W p l e R s m args below meth c H1 locs (cells + 1) (slots + N) Q (F0 m (pc + 3) ls (.ref q :: rest))) : W p l e R s m args below meth c H locs cells slots Q (F0 m pc ls (.int n :: rest)) := by
  subst hN
  have hcl : (Cond.classLink own index (FieldType.array .long).toString).before args s = true := by rw [m_nmJ]; exact E.2.2.2.2 _ (List.mem_cons_of_mem _ w1)
  refine W.anewA (t := .long) E.1 E.2.1 E.2.2.2.1 hcl (ao_vm (A := #[]) (A' := args) (U := s) rfl (hC.2.2.2.2.2.1 _ w_oj)) rfl hdg rfl hn hbytes hcells hslots fun cA kA comp f1 f2 f3 f4 => ?_
  have h2 : s.vm.findClass ("[" ++ (FieldType.array .long).toString) = some (tk 3) := (hC.1.2 3 (tk 3, .array .long) rfl).2
  have hcA : cA = tk 3 := Option.some.inj (f1.symm.trans h2)
  subst hcA
  generalize hH1 : H.push ({ cls := tk 3, slots := Array.replicate n.toNatClampNeg .null, vm := .none } : Cell) = H1
  have z1 : H1.size = H.size + 1 := by rw [← hH1, Array.size_push]
  have e1 : H1[H.size]? = some (arrV (tk 3) n.toNatClampNeg (fun _ => .null)) := by rw [← hH1, Array.getElem?_push_size, ← arrV_new]
  have o1 : ∀ q : Nat, q < H.size → H1[q]? = H[q]? := fun q hq => by rw [← hH1, Array.getElem?_push, if_neg (Nat.ne_of_lt hq)]
  refine kk H.size H1 rfl ?_ o1 ⟨Nat.le_trans hS.1 (by omega), fun x h1 h2 => (o1 x (Nat.lt_of_lt_of_le h1 hS.1)).trans (hS.2.1 x h1 h2), hS.2.2⟩
  show H1[H.size]? = some (vp_cell _ _)
  rw [vp_cell_q]
  exact e1
end LR16
/-- its six RATIOS -/
def MK (D : va_G) (tk : Nat → ClassId) (rt : Nat → Nat) (tt bb : Nat → Int64) (H : Heap) : Prop := ∀ k, k < 6 → L2 D tk (rt k) (tt k) (bb k) H
theorem MK.kept {D : va_G} {tk : Nat → ClassId} {rt : Nat → Nat} {tt bb : Nat → Int64} {H H1 : Heap} (h : MK D tk rt tt bb H) (ho : ∀ k, k < 6 → H1[rt k]? = H[rt k]?) : MK D tk rt tt bb H1 := fun k hk => (h k hk).kept (ho k hk)
theorem MK.new {D : va_G} {tk : Nat → ClassId} {rt : Nat → Nat} {tt bb : Nat → Int64} {H H1 : Heap} (h : MK D tk rt tt bb H) (hk : ∀ q : Nat, q < H.size → ¬ nwA H.size q → H1[q]? = H[q]?) : MK D tk rt tt bb H1 := fun k hk9 => (h k hk9).new hk
theorem MK.upd {D : va_G} {tk : Nat → ClassId} {rt : Nat → Nat} {tt bb : Nat → Int64} {H : Heap} (h : MK D tk rt tt bb H) {q : Nat} {t b : Int64} (hL : L2 D tk q t b H) (i : Nat) : MK D tk (va_up rt i q) (va_up tt i t) (va_up bb i b) H := by
  intro k hk
  by_cases e : k = i
  · rw [e, va_up_self, va_up_self, va_up_self]
    exact hL
  · rw [va_up_ne _ _ e, va_up_ne _ _ e, va_up_ne _ _ e]
    exact h k hk
theorem c1.upJ {D : va_G} {tk : Nat → ClassId} {a n i q : Nat} {rt : Nat → Nat} {H : Heap} (h : c1 D a (.inl (tk 3, n, .inr (.inr (.inr (.inr (va_up (fun k => some (rt k)) i (some q))))))) H) : c1 D a (.inl (tk 3, n, .inr (.inr (.inr (.inr (fun k => some (va_up rt i q k))))))) H := by
  have e : va_up (fun k => some (rt k)) i (some q) = fun k => some (va_up rt i q k) := by
    funext k
    by_cases e : k = i
    · rw [e, va_up_self, va_up_self]
    · rw [va_up_ne _ _ e, va_up_ne _ _ e]
  rw [e] at h
  exact h
theorem m_upP {P : Nat → Prop} {rt : Nat → Nat} (h : ∀ k, k < 6 → P (rt k)) {q : Nat} (hq : P q) (i : Nat) : ∀ k, k < 6 → P (va_up rt i q k) := by
  intro k hk
  by_cases e : k = i
  · rw [e, va_up_self]; exact hq
  · rw [va_up_ne _ _ e]; exact h k hk
theorem m_upF {tt bb : Nat → Int64} (h : ∀ k, k < 6 → m_F (tt k) (bb k)) {t b : Int64} (hq : m_F t b) (i : Nat) : ∀ k, k < 6 → m_F (va_up tt i t k) (va_up bb i b k) := by
  intro k hk
  by_cases e : k = i
  · rw [e, va_up_self, va_up_self]; exact hq
  · rw [va_up_ne _ _ e, va_up_ne _ _ e]; exact h k hk
/-- its ROW -/
def PI (n : Nat) (w : Nat → Value) : Prop := ∀ i, i < n → ∃ x : Int32, w i = .int x ∧ x.toInt.natAbs ≤ 99999
def RW (D : va_G) (tk : Nat → ClassId) (sa : Nat → Nat) (P : Nat → Prop) (rl n : Nat) (vs : Nat → Value) (H : Heap) : Prop := (n = 0 ∧ ∃ md : Int32, c1 D rl (.inr (7, [.int md, .ref (sa 1), .int 0])) H) ∨ ∃ (md : Int32) (b cap : Nat) (f : Nat → Option Nat), P b ∧ c1 D rl (.inr (7, [.int md, .ref b, .int (nI n)])) H ∧ c1 D b (.inl (tk 4, cap, .inr (.inr (.inr (.inr f))))) H ∧ EL D 2 n f vs H ∧ PI n vs ∧ n ≤ cap ∧ m_cap cap
theorem RW.kept {D : va_G} {tk : Nat → ClassId} {sa : Nat → Nat} {P : Nat → Prop} {rl n : Nat} {vs : Nat → Value} {H H1 : Heap} {S : Nat → Prop} (h : RW D tk sa P rl n vs H) (hq : ∀ q : Nat, q < H.size → ¬ S q → H1[q]? = H[q]?) (n7 : ∀ q, clA q (D.1 7) H → q < H.size → (P q ∨ q = rl) → ¬ S q) (n4 : ∀ q, clA q (tk 4) H → q < H.size → P q → ¬ S q) (n2 : ∀ q, clA q (D.1 2) H → q < H.size → ¬ S q) : RW D tk sa P rl n vs H1 := by
  rcases h with ⟨h0, md, h1⟩ | ⟨md, b, cap, f, hb, h1, h2, h3, h4⟩
  · exact Or.inl ⟨h0, md, h1.kept (hq _ h1.lt (n7 _ h1.cl h1.lt (Or.inr rfl)))⟩
  · exact Or.inr ⟨md, b, cap, f, hb, h1.kept (hq _ h1.lt (n7 _ h1.cl h1.lt (Or.inr rfl))), h2.kept (hq _ h2.lt (n4 _ h2.cla h2.lt hb)), h3.kept hq n2, h4⟩
theorem RW.new {D : va_G} {tk : Nat → ClassId} {sa : Nat → Nat} {P : Nat → Prop} {rl n : Nat} {vs : Nat → Value} {H H1 : Heap} (h : RW D tk sa P rl n vs H) (hk : ∀ q : Nat, q < H.size → ¬ nwA H.size q → H1[q]? = H[q]?) : RW D tk sa P rl n vs H1 := h.kept hk (fun _ _ hl _ => Nat.not_le.mpr hl) (fun _ _ hl _ => Nat.not_le.mpr hl) (fun _ _ hl => Nat.not_le.mpr hl)
theorem RW.old {D : va_G} {tk : Nat → ClassId} {sa : Nat → Nat} {P : Nat → Prop} {rl n : Nat} {vs : Nat → Value} {H H1 : Heap} (h : RW D tk sa P rl n vs H) (hk : ∀ q : Nat, q < H.size → H1[q]? = H[q]?) : RW D tk sa P rl n vs H1 := h.kept (S := fun _ => False) (fun q hl _ => hk q hl) (fun _ _ _ _ => id) (fun _ _ _ _ => id) (fun _ _ _ => id)
theorem RW.put {D : va_G} {tk : Nat → ClassId} {sa : Nat → Nat} {P : Nat → Prop} {rl n w : Nat} {vs : Nat → Value} {H H1 : Heap} (h : RW D tk sa P rl n vs H) (ho : ∀ q : Nat, q ≠ w → H1[q]? = H[q]?) (n7 : ∀ q, clA q (D.1 7) H → q ≠ w) (n4 : ∀ q, clA q (tk 4) H → q ≠ w) (n2 : ∀ q, clA q (D.1 2) H → q ≠ w) : RW D tk sa P rl n vs H1 := h.kept (S := fun q => q = w) (fun q _ hn => ho q hn) (fun q hc _ _ => n7 q hc) (fun q hc _ _ => n4 q hc) (fun q hc _ => n2 q hc)
theorem RW.keep1 {D : va_G} {tk : Nat → ClassId} {sa : Nat → Nat} {P : Nat → Prop} {rl n w : Nat} {vs : Nat → Value} {H H1 : Heap} (h : RW D tk sa P rl n vs H) (hk : ∀ q : Nat, q < H.size → ¬ inA1 w H.size q → H1[q]? = H[q]?) (n7 : ∀ q, clA q (D.1 7) H → q ≠ w) (n4 : ∀ q, clA q (tk 4) H → q ≠ w) (n2 : ∀ q, clA q (D.1 2) H → q ≠ w) : RW D tk sa P rl n vs H1 := h.kept hk (fun q hc hl _ => inA1.not (n7 q hc) hl) (fun q hc hl _ => inA1.not (n4 q hc) hl) (fun q hc hl => inA1.not (n2 q hc) hl)
def MP (P : Nat → Prop) (mo ra rl ex ro : Nat) (rt : Nat → Nat) : Prop := P mo ∧ P ra ∧ P rl ∧ P ex ∧ P ro ∧ ∀ k, k < 6 → P (rt k)
/-- the bottom of what was rounded divides 10000 -/
def m_D4 (b : Int64) : Prop := b.toInt.natAbs ∣ 10000
def MF (tt bb : Nat → Int64) (eT eB oT oB : Int64) (pk n9 : Nat) : Prop := (∀ k, k < 6 → m_F (tt k) (bb k)) ∧ m_F eT eB ∧ (m_F oT oB ∧ m_D4 oB) ∧ pk ≤ 4 ∧ n9 ≤ 16
def MI (D : va_G) (tk : Nat → ClassId) (sa : Nat → Nat) (P : Nat → Prop) (mo : Nat) (tt bb : Nat → Int64) (eT eB oT oB : Int64) (pk : Nat) (ca rf : Int32) (vs : Nat → Value) (kn : Int32) (n9 : Nat) (th : Int32) (H : Heap) : Prop := ∃ (ra rl ex ro : Nat) (rt : Nat → Nat),
  c1 D mo (.inr (13, [.ref ra, .ref rl, .ref ex, .ref ro, .int (nI pk), .int ca, .int rf, .int kn, .int th])) H ∧ c1 D ra (.inl (tk 3, 6, .inr (.inr (.inr (.inr (fun k => some (rt k))))))) H ∧ MK D tk rt tt bb H ∧ L2 D tk ex eT eB H ∧ L2 D tk ro oT oB H ∧ RW D tk sa P rl n9 vs H ∧ MP P mo ra rl ex ro rt ∧ MF tt bb eT eB oT oB pk n9
/-! what it asks of its arguments -/
theorem m_inS {x a b : Int32} (h : ¬ m_isIn x a b = 0) : a.toInt ≤ x.toInt ∧ x.toInt ≤ b.toInt := by
  unfold m_isIn at h
  split at h
  · exact absurd rfl h
  · split at h
    · exact absurd rfl h
    · rename_i h2 h3
      exact ⟨Int32.le_iff_toInt_le.mp (Int32.not_lt.mp h2), Int32.le_iff_toInt_le.mp (Int32.not_lt.mp h3)⟩
theorem m_no {x : Int32} (h : m_isNo x = 0) : ∃ k : Nat, x = nI k ∧ k < 6 := by
  unfold m_isNo at h
  by_cases h1 : m_isIn x 0 5 = 0
  · rw [if_pos h1] at h
    exact absurd h (by decide)
  · obtain ⟨g2, g3⟩ := m_inS h1
    have e0 : (0 : Int32).toInt = 0 := rfl
    have e5 : (5 : Int32).toInt = 5 := rfl
    rw [e0] at g2
    rw [e5] at g3
    refine ⟨x.toInt.toNat, Int32.toInt_inj.mp ?_, by omega⟩
    rw [nI_toInt (by omega)]
    omega
theorem m_ano {a b : Int32} (h : m_areNo a b = 0) : m_isNo a = 0 ∧ m_isNo b = 0 := by
  unfold m_areNo at h
  split at h
  · rename_i h1
    split at h
    · rename_i h2
      exact ⟨h1, h2⟩
    · exact absurd h (by decide)
  · exact absurd h (by decide)
theorem m_in {x : Int32} {hi_ : Nat} (hh : hi_ ≤ 1000) (h : ¬ m_isIn x 0 (nI hi_) = 0) : ∃ k : Nat, x = nI k ∧ k ≤ hi_ := by
  unfold m_isIn at h
  split at h
  · exact absurd rfl h
  · split at h
    · exact absurd rfl h
    · rename_i h2 h3
      have g2 := Int32.le_iff_toInt_le.mp (Int32.not_lt.mp h2)
      have g3 := Int32.le_iff_toInt_le.mp (Int32.not_lt.mp h3)
      have e0 : (0 : Int32).toInt = 0 := rfl
      rw [e0] at g2
      rw [nI_toInt (by omega)] at g3
      refine ⟨x.toInt.toNat, Int32.toInt_inj.mp ?_, by omega⟩
      rw [nI_toInt (by omega)]
      omega
theorem m_in1 {x : Int32} {hi_ : Nat} (hh : hi_ ≤ 1000) (h : ¬ m_isIn x 1 (nI hi_) = 0) : ∃ k : Nat, x = nI k ∧ 1 ≤ k ∧ k ≤ hi_ := by
  unfold m_isIn at h
  split at h
  · exact absurd rfl h
  · split at h
    · exact absurd rfl h
    · rename_i h2 h3
      have g2 := Int32.le_iff_toInt_le.mp (Int32.not_lt.mp h2)
      have g3 := Int32.le_iff_toInt_le.mp (Int32.not_lt.mp h3)
      have e0 : (1 : Int32).toInt = 1 := rfl
      rw [e0] at g2
      rw [nI_toInt (by omega)] at g3
      refine ⟨x.toInt.toNat, Int32.toInt_inj.mp ?_, by omega, by omega⟩
      rw [nI_toInt (by omega)]
      omega
theorem m_noN {x : Int32} (h : m_isNo x = 0) : x = nI (nn x) ∧ nn x < 6 := by
  obtain ⟨k, e, hk⟩ := m_no h
  have e2 : nn x = k := by
    rw [e]
    exact nI_clamp (by omega)
  rw [e2]
  exact ⟨e, hk⟩
def m_fl (a b : Int32) : Int32 := if a = 0 then (if b = 0 then 0 else 1) else 1
def m_th (a b : Int32) : Int32 := if a = 0 then (if b = 0 then 0 else 2) else 1
theorem m_fl0 {a b : Int32} (h : m_fl a b = 0) : a = 0 ∧ b = 0 := by
  unfold m_fl at h
  split at h
  · rename_i h1
    split at h
    · rename_i h2
      exact ⟨h1, h2⟩
    · exact absurd h (by decide)
  · exact absurd h (by decide)
theorem m_fl1 (a : Int32) : m_fl a 1 = 1 := by
  unfold m_fl
  split <;> rfl
/-! ===== what the reference's acts make of its numbers ===== -/
def beR (tt bb : Nat → Int64) (k : Nat) : Option (Int64 × Int64) → Int32
  | none => -9
  | some q => if m_fit q.1 q.2 = 0 then -9 else if m_ord (tt k) (bb k) q.1 q.2 = 0 then 0 else 1
def beT (tt : Nat → Int64) (k : Nat) : Option (Int64 × Int64) → Nat → Int64
  | none => tt
  | some q => if m_fit q.1 q.2 = 0 then tt else va_up tt k q.1
def beB (bb : Nat → Int64) (k : Nat) : Option (Int64 × Int64) → Nat → Int64
  | none => bb
  | some q => if m_fit q.1 q.2 = 0 then bb else va_up bb k q.2
def beF (rf : Int32) : Option (Int64 × Int64) → Int32
  | none => rf + 1
  | some q => if m_fit q.1 q.2 = 0 then rf + 1 else rf
/-- a RATIO becomes that, or is REFUSED -/
def BE (tt bb : Nat → Int64) (rf : Int32) (k : Nat) (o : Option (Int64 × Int64)) (r : Int32) (tt1 bb1 : Nat → Int64) (rf1 : Int32) : Prop := r = beR tt bb k o ∧ tt1 = beT tt k o ∧ bb1 = beB bb k o ∧ rf1 = beF rf o
theorem BE.cast {tt bb : Nat → Int64} {rf : Int32} {k : Nat} {o o1 : Option (Int64 × Int64)} {r : Int32} {tt1 bb1 : Nat → Int64} {rf1 : Int32} (h : BE tt bb rf k o r tt1 bb1 rf1) (e : o = o1) : BE tt bb rf k o1 r tt1 bb1 rf1 := e ▸ h
/-- an act: which exception, and what it makes without one -/
def AC (a b : Int32) (tt bb : Nat → Int64) (rf : Int32) (k : Nat) (o : Option (Int64 × Int64)) (r th : Int32) (tt1 bb1 : Nat → Int64) (rf1 : Int32) : Prop := th = m_th a b ∧ (m_fl a b = 0 → BE tt bb rf k o r tt1 bb1 rf1) ∧ (¬ m_fl a b = 0 → tt1 = tt ∧ bb1 = bb ∧ rf1 = rf)
/-- a question: which exception, and the answer without one -/
def QU (a b : Int32) (x r th : Int32) : Prop := th = m_th a b ∧ (m_fl a b = 0 → r = x)
def m_or (a b : Int32) : Int32 := if a = 0 then (if b = 0 then 0 else 1) else 1
def m_not (a : Int32) : Int32 := if a = 0 then 1 else 0
def m_is0 (a : Int32) : Int32 := if a = 0 then 1 else 0
def m_lt0 (a : Int32) : Int32 := if a < 0 then 1 else 0
def m_OV (t b u v : Int64) : Option (Int64 × Int64) := if u = 0 then none else LO (t * m_loT v u) (b * m_loB v u)
theorem AC.fail {A B a b : Int32} {tt bb : Nat → Int64} {rf : Int32} {k : Nat} {o : Option (Int64 × Int64)} {r : Int32} (hA : a = A) (hB : b = B) (h : ¬ m_fl a b = 0) : AC A B tt bb rf k o r (m_th a b) tt bb rf := by
  subst hA hB
  exact ⟨rfl, fun z => absurd z h, fun _ => ⟨rfl, rfl, rfl⟩⟩
theorem AC.ok {A B a b : Int32} {tt bb tt1 bb1 : Nat → Int64} {rf rf1 : Int32} {k : Nat} {o : Option (Int64 × Int64)} {r : Int32} (hA : a = A) (hB : b = B) (h : m_fl a b = 0) (hb : BE tt bb rf k o r tt1 bb1 rf1) : AC A B tt bb rf k o r (m_th a b) tt1 bb1 rf1 := by
  subst hA hB
  exact ⟨rfl, fun _ => hb, fun z => absurd h z⟩
theorem QU.fail {A B a b x r : Int32} (hA : a = A) (hB : b = B) (h : ¬ m_fl a b = 0) : QU A B x r (m_th a b) := by
  subst hA hB
  exact ⟨rfl, fun z => absurd z h⟩
theorem QU.ok {A B a b x r : Int32} (hA : a = A) (hB : b = B) (_ : m_fl a b = 0) (hx : r = x) : QU A B x r (m_th a b) := by
  subst hA hB
  exact ⟨rfl, fun _ => hx⟩
/-- two RATIOS change places -/
def m_sw (tt bb : Nat → Int64) (i k : Nat) : Int32 := if m_ord (va_up (va_up tt i (tt k)) k (tt i) i) (va_up (va_up bb i (bb k)) k (bb i) i) (tt i) (bb i) = 0 then 0 else 1
def SW (a b : Int32) (tt bb : Nat → Int64) (i k : Nat) (r th : Int32) (tt1 bb1 : Nat → Int64) : Prop := th = m_th a b ∧ (m_fl a b = 0 → r = m_sw tt bb i k ∧ tt1 = va_up (va_up tt i (tt k)) k (tt i) ∧ bb1 = va_up (va_up bb i (bb k)) k (bb i)) ∧ (¬ m_fl a b = 0 → tt1 = tt ∧ bb1 = bb)
theorem SW.fail {A B a b : Int32} {tt bb : Nat → Int64} {i k : Nat} {r : Int32} (hA : a = A) (hB : b = B) (h : ¬ m_fl a b = 0) : SW A B tt bb i k r (m_th a b) tt bb := by
  subst hA hB
  exact ⟨rfl, fun z => absurd z h, fun _ => ⟨rfl, rfl⟩⟩
theorem SW.ok {A B a b : Int32} {tt bb : Nat → Int64} {i k : Nat} {r : Int32} (hA : a = A) (hB : b = B) (h : m_fl a b = 0) (hr : r = m_sw tt bb i k) : SW A B tt bb i k r (m_th a b) (va_up (va_up tt i (tt k)) k (tt i)) (va_up (va_up bb i (bb k)) k (bb i)) := by
  subst hA hB
  exact ⟨rfl, fun _ => ⟨hr, rfl, rfl⟩, fun z => absurd h z⟩
/-- a part of a RATIO; NEXT to each other -/
def m_pt (t b : Int64) (k : Nat) : Int64 := if k = 0 then t else if k = 1 then b else if k = 2 then (f_cmp t 0).toInt64 else m_floor t b
def m_nx1 (t b u v : Int64) : Int32 := if f_absJ (t * v - u * b) = 1 then 1 else 0
theorem m_nx1o {t b u v : Int64} {r : Int32} (e : r = m_nx1 t b u v) (h : ¬ r = 0) : 1 = m_nx1 t b u v := by
  rw [e] at h
  unfold m_nx1 at h ⊢
  split
  · rfl
  · rename_i c
    rw [if_neg c] at h
    exact absurd rfl h
/-- an act whose answer is 1 at the least, where none is REFUSED -/
def AN (a b : Int32) (tt bb : Nat → Int64) (rf : Int32) (k : Nat) (o : Option (Int64 × Int64)) (r th : Int32) (tt1 bb1 : Nat → Int64) (rf1 : Int32) : Prop := th = m_th a b ∧ (m_fl a b = 0 → r = beR tt bb k o ||| 1 ∧ tt1 = beT tt k o ∧ bb1 = beB bb k o ∧ rf1 = beF rf o) ∧ (¬ m_fl a b = 0 → tt1 = tt ∧ bb1 = bb ∧ rf1 = rf)
theorem AN.fail {A B a b : Int32} {tt bb : Nat → Int64} {rf : Int32} {k : Nat} {o : Option (Int64 × Int64)} {r : Int32} (hA : a = A) (hB : b = B) (h : ¬ m_fl a b = 0) : AN A B tt bb rf k o r (m_th a b) tt bb rf := by
  subst hA hB
  exact ⟨rfl, fun z => absurd z h, fun _ => ⟨rfl, rfl, rfl⟩⟩
theorem AN.ok {A B a b : Int32} {tt bb tt1 bb1 : Nat → Int64} {rf rf1 : Int32} {k : Nat} {o : Option (Int64 × Int64)} {r r0 : Int32} (hA : a = A) (hB : b = B) (h : m_fl a b = 0) (hb : BE tt bb rf k o r0 tt1 bb1 rf1) (hr : r = r0 ||| 1) : AN A B tt bb rf k o r (m_th a b) tt1 bb1 rf1 := by
  subst hA hB
  exact ⟨rfl, fun _ => ⟨by rw [hr, hb.1], hb.2⟩, fun z => absurd h z⟩
theorem AN.no {A B a b : Int32} {tt bb : Nat → Int64} {rf : Int32} {k : Nat} {o : Option (Int64 × Int64)} {r : Int32} (hA : a = A) (hB : b = B) (h : m_fl a b = 0) (ho : o = none) (hr : r = -9) : AN A B tt bb rf k o r (m_th a b) tt bb (rf + 1) := by
  subst hA hB ho hr
  exact ⟨rfl, fun _ => ⟨by show (-9 : Int32) = -9 ||| 1; decide, rfl, rfl, rfl⟩, fun z => absurd h z⟩
/-- the ROW as longs -/
def m_rw (vs : Nat → Value) (k : Nat) : Int64 := match vs k with
  | .int x => x.toInt64
  | _ => 0
/-- what the ROW is FOLDED to -/
def m_FO (n : Nat) (vs : Nat → Value) (o : Option (Int64 × Int64)) : Prop := (n = 0 ∧ o = none) ∨ (n ≠ 0 ∧ (∃ i, 1 ≤ i ∧ i < n ∧ (m_rw vs i).toInt < 1) ∧ o = none) ∨ (n ≠ 0 ∧ (∀ i, 1 ≤ i → i < n → 1 ≤ (m_rw vs i).toInt) ∧ o = m_FD (m_rw vs) n)
theorem q_rw {vs : Nat → Value} {k : Nat} {x : Int32} (h : vs k = .int x) : m_rw vs k = x.toInt64 := by
  unfold m_rw
  rw [h]
/-- the depth, term by term -/
def m_sm : List Int64 → Int64 → Int64
  | [], a => a
  | x :: l, a => m_sm l (a + x)
def m_DP (t b : Int64) : Int32 := if m_abv t = 0 then -9 else (m_sm (m_TE t b) (-1)).toInt32
theorem m_smS {t b x d : Int64} {k : Nat} {q : Int64} (hk : k < (m_TE t b).length) (h : m_sm ((m_TE t b).drop k) d = q) (hx : x = d + m_at t b k) : m_sm ((m_TE t b).drop (k + 1)) x = q := by
  rw [← h, List.drop_eq_getElem_cons hk, hx]
  unfold m_at
  rw [List.getD_eq_getElem?_getD, List.getElem?_eq_getElem hk]
  rfl
theorem m_smE {t b d : Int64} {k : Nat} {q : Int64} (hk : (m_TE t b).length ≤ k) (h : m_sm ((m_TE t b).drop k) d = q) : d = q := by
  rw [← h, List.drop_eq_nil_of_le hk]
  rfl
/-- the house -/
def m_whL (bb : Nat → Int64) : Nat → Nat → Int32 → Int32
  | 0, _, a => a
  | n + 1, k, a => m_whL bb n (k + 1) (a + if bb k = 1 then 1 else 0)
def m_HS (bb : Nat → Int64) (rf kn : Int32) (n9 : Nat) (ca : Int32) (k : Nat) : Int32 := if k = 0 then m_whL bb 6 0 0 else if k = 1 then rf else if k = 2 then kn else if k = 3 then nI n9 else ca
theorem m_whS {bb : Nat → Int64} {n m k : Nat} {a x y q : Int32} (e : n = m + 1) (h : m_whL bb n k a = q) (hy : y = if bb k = 1 then 1 else 0) (hx : x = a + y) : m_whL bb m (k + 1) x = q := by
  subst e
  rw [← h, hx, hy]
  rfl
/-- the TALLY -/
def m_TLe (eT eB t b : Int64) : Int64 × Int64 := (m_loT (eT * b + (1 : Int32).toInt64 * (t * eB)) (eB * b), m_loB (eT * b + (1 : Int32).toInt64 * (t * eB)) (eB * b))
def m_TLc (t b : Int64) (pl md : Int32) : Int64 × Int64 := (m_loT (m_cut t b pl md) (m_pow pl), m_loB (m_cut t b pl md) (m_pow pl))
def m_df (p q : Int64 × Int64) : Int64 × Int64 := (m_loT (p.1 * q.2 + (-1 : Int32).toInt64 * (q.1 * p.2)) (p.2 * q.2), m_loB (p.1 * q.2 + (-1 : Int32).toInt64 * (q.1 * p.2)) (p.2 * q.2))
def m_TLo (oT oB t b : Int64) (pl md : Int32) : Int64 × Int64 := m_TLe oT oB (m_TLc t b pl md).1 (m_TLc t b pl md).2
/-- whether all the sums FIT -/
def m_TLf (E R : Int64 × Int64) : Prop := ¬ m_fit E.1 E.2 = 0 ∧ ¬ m_fit R.1 R.2 = 0 ∧ ¬ m_fit (m_df E R).1 (m_df E R).2 = 0
/-- the act: what is told and what stands then (EXACT, ROUNDED, places, how many, REFUSED) -/
def TL (a b : Int32) (eT eB oT oB : Int64) (pk : Nat) (ca rf : Int32) (t bt : Int64) (pl md : Int32) (r th : Int32) (eT1 eB1 oT1 oB1 : Int64) (pk1 : Nat) (ca1 rf1 : Int32) : Prop := th = m_th a b ∧
  (¬ m_fl a b = 0 → eT1 = eT ∧ eB1 = eB ∧ oT1 = oT ∧ oB1 = oB ∧ pk1 = pk ∧ ca1 = ca ∧ rf1 = rf) ∧
  (m_fl a b = 0 → (m_TLf (m_TLe eT eB t bt) (m_TLo oT oB t bt pl md) ∧ r = ca + 1 ∧ (eT1, eB1) = m_TLe eT eB t bt ∧ (oT1, oB1) = m_TLo oT oB t bt pl md ∧ f_max (nI pk) pl = nI pk1 ∧ ca1 = ca + 1 ∧ rf1 = rf) ∨
    (¬ m_TLf (m_TLe eT eB t bt) (m_TLo oT oB t bt pl md) ∧ r = -9 ∧ eT1 = eT ∧ eB1 = eB ∧ oT1 = oT ∧ oB1 = oB ∧ pk1 = pk ∧ ca1 = ca ∧ rf1 = rf + 1))
theorem TL.fail {A B a b : Int32} {eT eB oT oB : Int64} {pk : Nat} {ca rf : Int32} {t bt : Int64} {pl md r : Int32} (hA : a = A) (hB : b = B) (h : ¬ m_fl a b = 0) : TL A B eT eB oT oB pk ca rf t bt pl md r (m_th a b) eT eB oT oB pk ca rf := by
  subst hA hB
  exact ⟨rfl, fun _ => ⟨rfl, rfl, rfl, rfl, rfl, rfl, rfl⟩, fun z => absurd z h⟩
theorem TL.no {A B a b : Int32} {eT eB oT oB : Int64} {pk : Nat} {ca rf : Int32} {t bt : Int64} {pl md r : Int32} (hA : a = A) (hB : b = B) (h : m_fl a b = 0) (hn : ¬ m_TLf (m_TLe eT eB t bt) (m_TLo oT oB t bt pl md)) (hr : r = -9) : TL A B eT eB oT oB pk ca rf t bt pl md r (m_th a b) eT eB oT oB pk ca (rf + 1) := by
  subst hA hB
  exact ⟨rfl, fun z => absurd h z, fun _ => Or.inr ⟨hn, hr, rfl, rfl, rfl, rfl, rfl, rfl, rfl⟩⟩
theorem TL.ok {A B a b : Int32} {eT eB oT oB : Int64} {pk pk1 : Nat} {ca rf : Int32} {t bt : Int64} {pl md r : Int32} {eT1 eB1 oT1 oB1 : Int64} (hA : a = A) (hB : b = B) (h : m_fl a b = 0) (hn : m_TLf (m_TLe eT eB t bt) (m_TLo oT oB t bt pl md)) (hE : (eT1, eB1) = m_TLe eT eB t bt) (hR : (oT1, oB1) = m_TLo oT oB t bt pl md) (hp : f_max (nI pk) pl = nI pk1) (hr : r = ca + 1) : TL A B eT eB oT oB pk ca rf t bt pl md r (m_th a b) eT1 eB1 oT1 oB1 pk1 (ca + 1) rf := by
  subst hA hB
  exact ⟨rfl, fun z => absurd h z, fun _ => Or.inl ⟨hn, hr, hE, hR, hp, rfl, rfl⟩⟩
theorem AC7 {A B a b : Int32} (hA : a = A) (hB : b = B) (h : ¬ m_fl a b = 0) : ¬ m_fl A B = 0 := by
  subst hA hB
  exact h
set_option maxHeartbeats 4000000 in
set_option maxRecDepth 100000 in
/-- BestratiosModel.fails(ZZ)Z -/
theorem c_X5_fails (l : Launch) (D : va_G) (tk : Nat → ClassId) (N0 : Nat) (sa : Nat → Nat)  (sz : Nat) (P : Nat → Prop) (hPN : ∀ q, P q → N0 ≤ q) (hPs : ∀ q, sz ≤ q → P q) (mo n9 : Nat) (kn th : Int32) (tt bb : Nat → Int64) (eT eB oT oB : Int64) (pk : Nat) (ca rf : Int32) (vs : Nat → Value) (a_ : Int32) (b_ : Int32) : Met l yX5_fails (wsy yX5_fails cX5_fails 3 (some .boolean)) ({ frames := 0, cells := 0, slots := 0, locals := 0 } : Room) (cP D tk N0 sa [.ref mo, .int a_, .int b_] sz (fun H => MI D tk sa P mo tt bb eT eB oT oB pk ca rf vs kn n9 th H)) (kQi (fun r H => r = m_fl a_ b_ ∧ MI D tk sa P mo tt bb eT eB oT oB pk ca rf vs kn n9 ((m_th a_ b_)) H) (P)) (0) (0) (P) := by
  refine mStart RX5 rfl (by decide +kernel) (Nat.le_of_ble_eq_true rfl) ?_
  intro p e s m args below meth c E hr hlk hnm hsz hC hF ls hl
  subst hsz
  obtain ⟨hx, hb, -⟩ := id E
  have hA : ∀ q, (P) q → N0 ≤ q := hPN
  have hn : ∀ q, s.heap.size ≤ q → (P) q := hPs
  have hS : va_S (P) s.heap s.heap [] := va_S.rf
  have hl : lv_has ls 3 [(0, .ref mo), (1, .int a_), (2, .int b_)] := hl
  have hM : MI D tk sa P mo tt bb eT eB oT oB pk ca rf vs kn n9 th s.heap := hF
  obtain ⟨ra, rl, ex, ro, rt, fo, fj, fk, fe, fr, fw, ⟨hPm, hPa, hPl, hPe, hPr, hPk⟩, hFk, hFe, hFr, hpk, hn9⟩ := hM
  have g_fo := hPm
  have g_fj := hPa
  refine lv_aload_n (pc := 0) hx hb dX5_fails_0 rfl (lv_at hl 0 rfl) ?_
  refine lv_iload_n (pc := 1) hx hb dX5_fails_1 rfl (lv_at hl 1 rfl) ?_
  refine lv_if_eq (pc := 2) (tgt := 9) hx hb dX5_fails_2 (by decide) (fun c_1 => ?_) (fun c_1 => ?_)
  · refine lv_iload_n (pc := 9) hx hb dX5_fails_9 rfl (lv_at hl 2 rfl) ?_
    refine lv_if_eq (pc := 10) (tgt := 17) hx hb dX5_fails_10 (by decide) (fun c_2 => ?_) (fun c_2 => ?_)
    · refine lv_iconst (pc := 17) (v := 0) hx hb dX5_fails_17 (by decide) ?_
      refine r_put (pc := 18) E hC fo hS g_fo 8 tyX5 tyX5_ok nmX5 rfl (by decide) (Nat.le_of_ble_eq_true rfl) uX5 (List.mem_cons_of_mem _ kw_1217) (fun _ h => h) rfl rfl rfl dX5_fails_18 (fun H locs n_ ho hz hS => ?_)
      have fw := fw.put ho (fun q9 h9 => clA.ne h9 fo.cl (hC.oo 7 13 rfl rfl (by decide))) (fun q9 h9 => clA.ne h9 fo.cl (hC.ao 13 4 rfl rfl)) (fun q9 h9 => clA.ne h9 fo.cl (hC.ceo (Or.inr rfl) 13 rfl (by decide)))
      have nW_fo : ∀ k, k < 6 → rt k ≠ mo := fun k hk9 => clA.ne (fk k hk9).cla fo.cl (hC.ao 13 0 rfl rfl)
      have fj := fj.kept (ho _ (clA.ne fj.cla fo.cl (hC.ao 13 3 rfl rfl)))
      have fk := fk.kept (fun k hk9 => ho _ (nW_fo k hk9))
      have fe := fe.kept (ho _ (clA.ne fe.cla fo.cl (hC.ao 13 0 rfl rfl)))
      have fr := fr.kept (ho _ (clA.ne fr.cla fo.cl (hC.ao 13 0 rfl rfl)))
      have fo : c1 D mo (.inr (13, [.ref ra, .ref rl, .ref ex, .ref ro, .int (nI pk), .int ca, .int rf, .int kn, .int 0])) H := n_
      refine lv_aload_n (pc := 21) hx hb dX5_fails_21 rfl (lv_at hl 0 rfl) ?_
      refine r_get (pc := 22) E hC fo 8 (v := .int 0) rfl rfl (by decide) uX5 (List.mem_cons_of_mem _ kw_1217) (fun _ h => h) dX5_fails_22 ?_
      refine lv_if_le (pc := 25) (tgt := 32) hx hb dX5_fails_25 (by decide) (fun c_3 => ?_) (fun c_3 => ?_)
      rotate_left
      · exact absurd (by decide) c_3
      refine lv_iconst (pc := 32) (v := 0) hx hb dX5_fails_32 (by decide) ?_
      refine r_zret (pc := 33) E hr hlk hS (by omega) (by omega) rfl ?_ dX5_fails_33
      exact ⟨by simp [m_fl, c_1, c_2], by rw [show m_th a_ b_ = 0 by simp [m_th, c_1, c_2]]; exact ⟨_, _, _, _, _, fo, fj, fk, fe, fr, fw, ⟨hPm, hPa, hPl, hPe, hPr, hPk⟩, hFk, hFe, hFr, hpk, hn9⟩⟩
    · refine lv_iconst (pc := 13) (v := 2) hx hb dX5_fails_13 (by decide) ?_
      refine lv_goto (pc := 14) (tgt := 18) hx hb dX5_fails_14 (by decide) ?_
      refine r_put (pc := 18) E hC fo hS g_fo 8 tyX5 tyX5_ok nmX5 rfl (by decide) (Nat.le_of_ble_eq_true rfl) uX5 (List.mem_cons_of_mem _ kw_1217) (fun _ h => h) rfl rfl rfl dX5_fails_18 (fun H locs n_ ho hz hS => ?_)
      have fw := fw.put ho (fun q9 h9 => clA.ne h9 fo.cl (hC.oo 7 13 rfl rfl (by decide))) (fun q9 h9 => clA.ne h9 fo.cl (hC.ao 13 4 rfl rfl)) (fun q9 h9 => clA.ne h9 fo.cl (hC.ceo (Or.inr rfl) 13 rfl (by decide)))
      have nW_fo : ∀ k, k < 6 → rt k ≠ mo := fun k hk9 => clA.ne (fk k hk9).cla fo.cl (hC.ao 13 0 rfl rfl)
      have fj := fj.kept (ho _ (clA.ne fj.cla fo.cl (hC.ao 13 3 rfl rfl)))
      have fk := fk.kept (fun k hk9 => ho _ (nW_fo k hk9))
      have fe := fe.kept (ho _ (clA.ne fe.cla fo.cl (hC.ao 13 0 rfl rfl)))
      have fr := fr.kept (ho _ (clA.ne fr.cla fo.cl (hC.ao 13 0 rfl rfl)))
      have fo : c1 D mo (.inr (13, [.ref ra, .ref rl, .ref ex, .ref ro, .int (nI pk), .int ca, .int rf, .int kn, .int 2])) H := n_
      refine lv_aload_n (pc := 21) hx hb dX5_fails_21 rfl (lv_at hl 0 rfl) ?_
      refine r_get (pc := 22) E hC fo 8 (v := .int 2) rfl rfl (by decide) uX5 (List.mem_cons_of_mem _ kw_1217) (fun _ h => h) dX5_fails_22 ?_
      refine lv_if_le (pc := 25) (tgt := 32) hx hb dX5_fails_25 (by decide) (fun c_4 => ?_) (fun c_4 => ?_)
      · exact absurd c_4 (by decide)
      refine lv_iconst (pc := 28) (v := 1) hx hb dX5_fails_28 (by decide) ?_
      refine lv_goto (pc := 29) (tgt := 33) hx hb dX5_fails_29 (by decide) ?_
      refine r_zret (pc := 33) E hr hlk hS (by omega) (by omega) rfl ?_ dX5_fails_33
      exact ⟨by simp [m_fl, c_1, c_2], by rw [show m_th a_ b_ = 2 by simp [m_th, c_1, c_2]]; exact ⟨_, _, _, _, _, fo, fj, fk, fe, fr, fw, ⟨hPm, hPa, hPl, hPe, hPr, hPk⟩, hFk, hFe, hFr, hpk, hn9⟩⟩
  · refine lv_iconst (pc := 5) (v := 1) hx hb dX5_fails_5 (by decide) ?_
    refine lv_goto (pc := 6) (tgt := 18) hx hb dX5_fails_6 (by decide) ?_
    refine r_put (pc := 18) E hC fo hS g_fo 8 tyX5 tyX5_ok nmX5 rfl (by decide) (Nat.le_of_ble_eq_true rfl) uX5 (List.mem_cons_of_mem _ kw_1217) (fun _ h => h) rfl rfl rfl dX5_fails_18 (fun H locs n_ ho hz hS => ?_)
    have fw := fw.put ho (fun q9 h9 => clA.ne h9 fo.cl (hC.oo 7 13 rfl rfl (by decide))) (fun q9 h9 => clA.ne h9 fo.cl (hC.ao 13 4 rfl rfl)) (fun q9 h9 => clA.ne h9 fo.cl (hC.ceo (Or.inr rfl) 13 rfl (by decide)))
    have nW_fo : ∀ k, k < 6 → rt k ≠ mo := fun k hk9 => clA.ne (fk k hk9).cla fo.cl (hC.ao 13 0 rfl rfl)
    have fj := fj.kept (ho _ (clA.ne fj.cla fo.cl (hC.ao 13 3 rfl rfl)))
    have fk := fk.kept (fun k hk9 => ho _ (nW_fo k hk9))
    have fe := fe.kept (ho _ (clA.ne fe.cla fo.cl (hC.ao 13 0 rfl rfl)))
    have fr := fr.kept (ho _ (clA.ne fr.cla fo.cl (hC.ao 13 0 rfl rfl)))
    have fo : c1 D mo (.inr (13, [.ref ra, .ref rl, .ref ex, .ref ro, .int (nI pk), .int ca, .int rf, .int kn, .int 1])) H := n_
    refine lv_aload_n (pc := 21) hx hb dX5_fails_21 rfl (lv_at hl 0 rfl) ?_
    refine r_get (pc := 22) E hC fo 8 (v := .int 1) rfl rfl (by decide) uX5 (List.mem_cons_of_mem _ kw_1217) (fun _ h => h) dX5_fails_22 ?_
    refine lv_if_le (pc := 25) (tgt := 32) hx hb dX5_fails_25 (by decide) (fun c_5 => ?_) (fun c_5 => ?_)
    · exact absurd c_5 (by decide)
    refine lv_iconst (pc := 28) (v := 1) hx hb dX5_fails_28 (by decide) ?_
    refine lv_goto (pc := 29) (tgt := 33) hx hb dX5_fails_29 (by decide) ?_
    refine r_zret (pc := 33) E hr hlk hS (by omega) (by omega) rfl ?_ dX5_fails_33
    exact ⟨by simp [m_fl, c_1], by rw [show m_th a_ b_ = 1 by simp [m_th, c_1]]; exact ⟨_, _, _, _, _, fo, fj, fk, fe, fr, fw, ⟨hPm, hPa, hPl, hPe, hPr, hPk⟩, hFk, hFe, hFr, hpk, hn9⟩⟩
set_option maxHeartbeats 4000000 in
set_option maxRecDepth 100000 in
/-- BestratiosModel.no()I -/
theorem c_X5_no (l : Launch) (D : va_G) (tk : Nat → ClassId) (N0 : Nat) (sa : Nat → Nat)  (sz : Nat) (P : Nat → Prop) (hPN : ∀ q, P q → N0 ≤ q) (hPs : ∀ q, sz ≤ q → P q) (mo n9 : Nat) (kn th : Int32) (tt bb : Nat → Int64) (eT eB oT oB : Int64) (pk : Nat) (ca rf : Int32) (vs : Nat → Value)  : Met l yX5_no (wsy yX5_no cX5_no 1 (some .int)) ({ frames := 0, cells := 0, slots := 0, locals := 0 } : Room) (cP D tk N0 sa [.ref mo] sz (fun H => MI D tk sa P mo tt bb eT eB oT oB pk ca rf vs kn n9 th H)) (kQi (fun r H => r = -9 ∧ MI D tk sa P mo tt bb eT eB oT oB pk ca ((rf + 1)) vs kn n9 th H) (P)) (0) (0) (P) := by
  refine mStart RX5 rfl (by decide +kernel) (Nat.le_of_ble_eq_true rfl) ?_
  intro p e s m args below meth c E hr hlk hnm hsz hC hF ls hl
  subst hsz
  obtain ⟨hx, hb, -⟩ := id E
  have hA : ∀ q, (P) q → N0 ≤ q := hPN
  have hn : ∀ q, s.heap.size ≤ q → (P) q := hPs
  have hS : va_S (P) s.heap s.heap [] := va_S.rf
  have hl : lv_has ls 1 [(0, .ref mo)] := hl
  have hM : MI D tk sa P mo tt bb eT eB oT oB pk ca rf vs kn n9 th s.heap := hF
  obtain ⟨ra, rl, ex, ro, rt, fo, fj, fk, fe, fr, fw, ⟨hPm, hPa, hPl, hPe, hPr, hPk⟩, hFk, hFe, hFr, hpk, hn9⟩ := hM
  have g_fo := hPm
  have g_fj := hPa
  refine lv_aload_n (pc := 0) hx hb dX5_no_0 rfl (lv_at hl 0 rfl) ?_
  refine lv_dup (pc := 1) hx hb dX5_no_1 rfl ?_
  refine r_get (pc := 2) E hC fo 6 (v := .int rf) rfl rfl (by decide) uX5 (List.mem_cons_of_mem _ kw_1215) (fun _ h => h) dX5_no_2 ?_
  refine lv_iconst (pc := 5) (v := 1) hx hb dX5_no_5 (by decide) ?_
  refine lv_iadd (pc := 6) hx hb dX5_no_6 ?_
  refine r_put (pc := 7) E hC fo hS g_fo 6 tyX5 tyX5_ok nmX5 rfl (by decide) (Nat.le_of_ble_eq_true rfl) uX5 (List.mem_cons_of_mem _ kw_1215) (fun _ h => h) rfl rfl rfl dX5_no_7 (fun H locs n_ ho hz hS => ?_)
  have fw := fw.put ho (fun q9 h9 => clA.ne h9 fo.cl (hC.oo 7 13 rfl rfl (by decide))) (fun q9 h9 => clA.ne h9 fo.cl (hC.ao 13 4 rfl rfl)) (fun q9 h9 => clA.ne h9 fo.cl (hC.ceo (Or.inr rfl) 13 rfl (by decide)))
  have nW_fo : ∀ k, k < 6 → rt k ≠ mo := fun k hk9 => clA.ne (fk k hk9).cla fo.cl (hC.ao 13 0 rfl rfl)
  have fj := fj.kept (ho _ (clA.ne fj.cla fo.cl (hC.ao 13 3 rfl rfl)))
  have fk := fk.kept (fun k hk9 => ho _ (nW_fo k hk9))
  have fe := fe.kept (ho _ (clA.ne fe.cla fo.cl (hC.ao 13 0 rfl rfl)))
  have fr := fr.kept (ho _ (clA.ne fr.cla fo.cl (hC.ao 13 0 rfl rfl)))
  have fo : c1 D mo (.inr (13, [.ref ra, .ref rl, .ref ex, .ref ro, .int (nI pk), .int ca, .int (rf + 1), .int kn, .int th])) H := n_
  refine lv_bipush (pc := 10) (v := (-9)) hx hb dX5_no_10 (by decide) ?_
  refine r_iret (pc := 12) E hr hlk hS (by omega) (by omega) ?_ dX5_no_12
  exact ⟨rfl, ⟨_, _, _, _, _, fo, fj, fk, fe, fr, fw, ⟨hPm, hPa, hPl, hPe, hPr, hPk⟩, hFk, hFe, hFr, hpk, hn9⟩⟩
set_option maxHeartbeats 4000000 in
set_option maxRecDepth 100000 in
/-- BestratiosModel.become(I[J)I -/
theorem c_X5_become (l : Launch) (D : va_G) (tk : Nat → ClassId) (N0 : Nat) (sa : Nat → Nat)  (sz : Nat) (P : Nat → Prop) (hPN : ∀ q, P q → N0 ≤ q) (hPs : ∀ q, sz ≤ q → P q) (mo n9 : Nat) (kn th : Int32) (tt bb : Nat → Int64) (eT eB oT oB : Int64) (pk : Nat) (ca rf : Int32) (vs : Nat → Value) (x : Int32) (k_x : Nat) (hx_x : x = nI k_x) (hk_x : k_x < 6) (pa : Nat) (ta ba : Int64) (hPq : P pa) (hb1 : 1 ≤ ba.toInt) : Met l yX5_become (wsy yX5_become cX5_become 4 (some .int)) ({ frames := 2, cells := 0, slots := 0, locals := 45 } : Room) (cP D tk N0 sa [.ref mo, .int x, .ref pa] sz (fun H => MI D tk sa P mo tt bb eT eB oT oB pk ca rf vs kn n9 th H ∧ L2 D tk pa ta ba H)) (kQi (fun r H => ∃ tt1 bb1 rf1, MI D tk sa P mo tt1 bb1 eT eB oT oB pk ca rf1 vs kn n9 th H ∧ BE tt bb rf k_x (some (ta, ba)) r tt1 bb1 rf1) (P)) (0) (0) (P) := by
  refine mStart RX5 rfl (by decide +kernel) (Nat.le_of_ble_eq_true rfl) ?_
  intro p e s m args below meth c E hr hlk hnm hsz hC hF ls hl
  subst hsz
  obtain ⟨hx, hb, -⟩ := id E
  have hA : ∀ q, (P) q → N0 ≤ q := hPN
  have hn : ∀ q, s.heap.size ≤ q → (P) q := hPs
  have hS : va_S (P) s.heap s.heap [] := va_S.rf
  have hl : lv_has ls 4 [(0, .ref mo), (1, .int x), (2, .ref pa)] := hl
  obtain ⟨hM, fa⟩ : MI D tk sa P mo tt bb eT eB oT oB pk ca rf vs kn n9 th s.heap ∧ L2 D tk pa ta ba s.heap := hF
  obtain ⟨ra, rl, ex, ro, rt, fo, fj, fk, fe, fr, fw, ⟨hPm, hPa, hPl, hPe, hPr, hPk⟩, hFk, hFe, hFr, hpk, hn9⟩ := hM
  have g_fo := hPm
  have g_fj := hPa
  refine lv_aload_n (pc := 0) hx hb dX5_become_0 rfl (lv_at hl 2 rfl) ?_
  have hZ0_ := hS.1
  have t_fo := fo.lt
  have t_fj := fj.lt
  have t_fk := fun k (hk9 : k < 6) => (fk k hk9).lt
  have t_fe := fe.lt
  have t_fr := fr.lt
  have t_fa := fa.lt
  refine k_i (pc := 1) (k_S E hC hS hA hl.1 (c_X5_isFit l D tk N0 sa s.heap.size pa ta ba ) kw_1259 kw_1260 kw_5 kw_1261 (n := 1) (by decide +kernel) rfl ⟨⟨rfl, rfl⟩, ⟨Nat.le_of_ble_eq_true rfl, Nat.le_of_ble_eq_true rfl⟩, (by dsimp only; omega), (by dsimp only; omega)⟩ rfl (Nat.le_of_ble_eq_true rfl) fa dX5_become_1) hS (fun q z w => absurd w (Nat.not_le.mpr z)) hn (fun r_1 H locs hR hz hk hS => ?_)
  have fw := fw.new hk
  have fo := fo.kept (hk _ fo.lt (Nat.not_le.mpr fo.lt))
  have fj := fj.kept (hk _ fj.lt (Nat.not_le.mpr fj.lt))
  have fk := fk.new hk
  have fe := fe.kept (hk _ fe.lt (Nat.not_le.mpr fe.lt))
  have fr := fr.kept (hk _ fr.lt (Nat.not_le.mpr fr.lt))
  have fa := fa.kept (hk _ fa.lt (Nat.not_le.mpr fa.lt))
  have er_1 := hR
  refine lv_if_ne (pc := 4) (tgt := 12) hx hb dX5_become_4 (by decide) (fun c_2 => ?_) (fun c_2 => ?_)
  · have hmF := m_fit1 (t := ta) (b := ba) (by rw [← er_1]; exact c_2) hb1
    refine lv_aload_n (pc := 12) hx hb dX5_become_12 rfl (lv_at hl 0 rfl) ?_
    refine r_get (pc := 13) E hC fo 0 (v := .ref ra) rfl rfl (by decide) uX5 (List.mem_cons_of_mem _ kw_1209) (fun _ h => h) dX5_become_13 ?_
    refine lv_iload_n (pc := 16) hx hb dX5_become_16 rfl (lv_at hl 1 rfl) ?_
    refine r_aaldJ (pc := 17) E hC fj k_x hx_x hk_x (by decide) rfl dX5_become_17 ?_
    have fL3 := fk k_x hk_x
    have mF_fL3 := hFk k_x hk_x
    have Pq_fL3 := hPk k_x hk_x
    refine lv_aload_n (pc := 18) hx hb dX5_become_18 rfl (lv_at hl 2 rfl) ?_
    have hZ0_ := hS.1
    have t_fo := fo.lt
    have t_fj := fj.lt
    have t_fk := fun k (hk9 : k < 6) => (fk k hk9).lt
    have t_fe := fe.lt
    have t_fr := fr.lt
    have t_fa := fa.lt
    have t_fL3 := fL3.lt
    refine k_i (pc := 19) (k_S E hC hS hA hl.1 (c_X5_order l D tk N0 sa H.size (rt k_x) (tt k_x) (bb k_x) pa ta ba ) kw_1268 kw_1269 kw_5 kw_1270 (n := 2) (by decide +kernel) rfl ⟨⟨rfl, rfl⟩, ⟨Nat.le_of_ble_eq_true rfl, Nat.le_of_ble_eq_true rfl⟩, (by dsimp only; omega), (by dsimp only; omega)⟩ rfl (Nat.le_of_ble_eq_true rfl) ⟨fL3, fa⟩ dX5_become_19) hS (fun q z w => absurd w (Nat.not_le.mpr z)) hn (fun r_4 H locs hR hz hk hS => ?_)
    have fw := fw.new hk
    have fo := fo.kept (hk _ fo.lt (Nat.not_le.mpr fo.lt))
    have fj := fj.kept (hk _ fj.lt (Nat.not_le.mpr fj.lt))
    have fk := fk.new hk
    have fe := fe.kept (hk _ fe.lt (Nat.not_le.mpr fe.lt))
    have fr := fr.kept (hk _ fr.lt (Nat.not_le.mpr fr.lt))
    have fa := fa.kept (hk _ fa.lt (Nat.not_le.mpr fa.lt))
    have fL3 := fL3.kept (hk _ fL3.lt (Nat.not_le.mpr fL3.lt))
    have er_4 := hR
    refine lv_if_eq (pc := 22) (tgt := 29) hx hb dX5_become_22 (by decide) (fun c_5 => ?_) (fun c_5 => ?_)
    · refine lv_iconst (pc := 29) (v := 0) hx hb dX5_become_29 (by decide) ?_
      refine lv_istore_n (pc := 30) (lv' := [(3, .int 0), (0, .ref mo), (1, .int x), (2, .ref pa)]) hx hb dX5_become_30 rfl hl (by decide) rfl (fun ls hl => ?_)
      refine lv_aload_n (pc := 31) hx hb dX5_become_31 rfl (lv_at hl 1 rfl) ?_
      refine r_get (pc := 32) E hC fo 0 (v := .ref ra) rfl rfl (by decide) uX5 (List.mem_cons_of_mem _ kw_1209) (fun _ h => h) dX5_become_32 ?_
      refine lv_iload_n (pc := 35) hx hb dX5_become_35 rfl (lv_at hl 2 rfl) ?_
      refine lv_aload_n (pc := 36) hx hb dX5_become_36 rfl (lv_at hl 3 rfl) ?_
      refine r_aastJ (pc := 37) E hC fj fa hS g_fj k_x hx_x hk_x (by decide) dX5_become_37 (fun H locs n_ ho hz hS => ?_)
      have fw := fw.put ho (fun q9 h9 => clA.ne h9 fj.cla (hC.oa 7 3 rfl rfl)) (fun q9 h9 => clA.ne h9 fj.cla (hC.aa 4 3 rfl rfl (by dsimp only; decide))) (fun q9 h9 => clA.ne h9 fj.cla (hC.cea (Or.inr rfl) 3 rfl))
      have nW_fj : ∀ k, k < 6 → rt k ≠ ra := fun k hk9 => clA.ne (fk k hk9).cla fj.cla (hC.aa 0 3 rfl rfl (by dsimp only; decide))
      have fo := fo.kept (ho _ (clA.ne fo.cl fj.cla (hC.oa 13 3 rfl rfl)))
      have fk := fk.kept (fun k hk9 => ho _ (nW_fj k hk9))
      have fe := fe.kept (ho _ (clA.ne fe.cla fj.cla (hC.aa 0 3 rfl rfl (by dsimp only; decide))))
      have fr := fr.kept (ho _ (clA.ne fr.cla fj.cla (hC.aa 0 3 rfl rfl (by dsimp only; decide))))
      have fa := fa.kept (ho _ (clA.ne fa.cla fj.cla (hC.aa 0 3 rfl rfl (by dsimp only; decide))))
      have fL3 := fL3.kept (ho _ (clA.ne fL3.cla fj.cla (hC.aa 0 3 rfl rfl (by dsimp only; decide))))
      have fk := fk.upd fa k_x
      have fj := n_.upJ
      have hPk := m_upP hPk hPq k_x
      have hFk := m_upF hFk hmF k_x
      refine lv_iload_n (pc := 38) hx hb dX5_become_38 rfl (lv_at hl 0 rfl) ?_
      refine k_i (pc := 39) (k_S E hC hS hA hl.1 (c_X5_bit l D tk N0 sa H.size 0 ) kw_1271 kw_1272 kw_5 kw_1273 (n := 1) (by decide +kernel) rfl ⟨⟨rfl, rfl⟩, ⟨Nat.le_of_ble_eq_true rfl, Nat.le_of_ble_eq_true rfl⟩, (by dsimp only; omega), (by dsimp only; omega)⟩ rfl (Nat.le_of_ble_eq_true rfl) trivial dX5_become_39) hS (fun q z w => absurd w (Nat.not_le.mpr z)) hn (fun r_6 H locs hR hz hk hS => ?_)
      have er_6 := hR
      have fw := fw.new hk
      have fo := fo.kept (hk _ fo.lt (Nat.not_le.mpr fo.lt))
      have fj := fj.kept (hk _ fj.lt (Nat.not_le.mpr fj.lt))
      have fk := fk.new hk
      have fe := fe.kept (hk _ fe.lt (Nat.not_le.mpr fe.lt))
      have fr := fr.kept (hk _ fr.lt (Nat.not_le.mpr fr.lt))
      have fa := fa.kept (hk _ fa.lt (Nat.not_le.mpr fa.lt))
      have fL3 := fL3.kept (hk _ fL3.lt (Nat.not_le.mpr fL3.lt))
      refine r_iret (pc := 42) E hr hlk hS (by omega) (by omega) ?_ dX5_become_42
      have hz9 : ¬ m_fit ta ba = 0 := (fun z9 => c_2 (er_1.trans z9))
      exact ⟨_, _, _, ⟨_, _, _, _, _, fo, fj, fk, fe, fr, fw, ⟨hPm, hPa, hPl, hPe, hPr, hPk⟩, hFk, hFe, hFr, hpk, hn9⟩, ⟨by rw [er_6]; simp only [beR, if_neg hz9]; rw [if_pos (er_4.symm.trans c_5)]; rfl, by simp only [beT, if_neg hz9], by simp only [beB, if_neg hz9], by simp only [beF, if_neg hz9]⟩⟩
    · refine lv_iconst (pc := 25) (v := 1) hx hb dX5_become_25 (by decide) ?_
      refine lv_goto (pc := 26) (tgt := 30) hx hb dX5_become_26 (by decide) ?_
      refine lv_istore_n (pc := 30) (lv' := [(3, .int 1), (0, .ref mo), (1, .int x), (2, .ref pa)]) hx hb dX5_become_30 rfl hl (by decide) rfl (fun ls hl => ?_)
      refine lv_aload_n (pc := 31) hx hb dX5_become_31 rfl (lv_at hl 1 rfl) ?_
      refine r_get (pc := 32) E hC fo 0 (v := .ref ra) rfl rfl (by decide) uX5 (List.mem_cons_of_mem _ kw_1209) (fun _ h => h) dX5_become_32 ?_
      refine lv_iload_n (pc := 35) hx hb dX5_become_35 rfl (lv_at hl 2 rfl) ?_
      refine lv_aload_n (pc := 36) hx hb dX5_become_36 rfl (lv_at hl 3 rfl) ?_
      refine r_aastJ (pc := 37) E hC fj fa hS g_fj k_x hx_x hk_x (by decide) dX5_become_37 (fun H locs n_ ho hz hS => ?_)
      have fw := fw.put ho (fun q9 h9 => clA.ne h9 fj.cla (hC.oa 7 3 rfl rfl)) (fun q9 h9 => clA.ne h9 fj.cla (hC.aa 4 3 rfl rfl (by dsimp only; decide))) (fun q9 h9 => clA.ne h9 fj.cla (hC.cea (Or.inr rfl) 3 rfl))
      have nW_fj : ∀ k, k < 6 → rt k ≠ ra := fun k hk9 => clA.ne (fk k hk9).cla fj.cla (hC.aa 0 3 rfl rfl (by dsimp only; decide))
      have fo := fo.kept (ho _ (clA.ne fo.cl fj.cla (hC.oa 13 3 rfl rfl)))
      have fk := fk.kept (fun k hk9 => ho _ (nW_fj k hk9))
      have fe := fe.kept (ho _ (clA.ne fe.cla fj.cla (hC.aa 0 3 rfl rfl (by dsimp only; decide))))
      have fr := fr.kept (ho _ (clA.ne fr.cla fj.cla (hC.aa 0 3 rfl rfl (by dsimp only; decide))))
      have fa := fa.kept (ho _ (clA.ne fa.cla fj.cla (hC.aa 0 3 rfl rfl (by dsimp only; decide))))
      have fL3 := fL3.kept (ho _ (clA.ne fL3.cla fj.cla (hC.aa 0 3 rfl rfl (by dsimp only; decide))))
      have fk := fk.upd fa k_x
      have fj := n_.upJ
      have hPk := m_upP hPk hPq k_x
      have hFk := m_upF hFk hmF k_x
      refine lv_iload_n (pc := 38) hx hb dX5_become_38 rfl (lv_at hl 0 rfl) ?_
      refine k_i (pc := 39) (k_S E hC hS hA hl.1 (c_X5_bit l D tk N0 sa H.size 1 ) kw_1271 kw_1272 kw_5 kw_1273 (n := 1) (by decide +kernel) rfl ⟨⟨rfl, rfl⟩, ⟨Nat.le_of_ble_eq_true rfl, Nat.le_of_ble_eq_true rfl⟩, (by dsimp only; omega), (by dsimp only; omega)⟩ rfl (Nat.le_of_ble_eq_true rfl) trivial dX5_become_39) hS (fun q z w => absurd w (Nat.not_le.mpr z)) hn (fun r_8 H locs hR hz hk hS => ?_)
      have er_8 := hR
      have fw := fw.new hk
      have fo := fo.kept (hk _ fo.lt (Nat.not_le.mpr fo.lt))
      have fj := fj.kept (hk _ fj.lt (Nat.not_le.mpr fj.lt))
      have fk := fk.new hk
      have fe := fe.kept (hk _ fe.lt (Nat.not_le.mpr fe.lt))
      have fr := fr.kept (hk _ fr.lt (Nat.not_le.mpr fr.lt))
      have fa := fa.kept (hk _ fa.lt (Nat.not_le.mpr fa.lt))
      have fL3 := fL3.kept (hk _ fL3.lt (Nat.not_le.mpr fL3.lt))
      refine r_iret (pc := 42) E hr hlk hS (by omega) (by omega) ?_ dX5_become_42
      have hz9 : ¬ m_fit ta ba = 0 := (fun z9 => c_2 (er_1.trans z9))
      exact ⟨_, _, _, ⟨_, _, _, _, _, fo, fj, fk, fe, fr, fw, ⟨hPm, hPa, hPl, hPe, hPr, hPk⟩, hFk, hFe, hFr, hpk, hn9⟩, ⟨by rw [er_8]; simp only [beR, if_neg hz9]; rw [if_neg (fun z9 => c_5 (er_4.trans z9))]; rfl, by simp only [beT, if_neg hz9], by simp only [beB, if_neg hz9], by simp only [beF, if_neg hz9]⟩⟩
  · refine lv_aload_n (pc := 7) hx hb dX5_become_7 rfl (lv_at hl 0 rfl) ?_
    have hZ0_ := hS.1
    have t_fo := fo.lt
    have t_fj := fj.lt
    have t_fk := fun k (hk9 : k < 6) => (fk k hk9).lt
    have t_fe := fe.lt
    have t_fr := fr.lt
    have t_fa := fa.lt
    refine k_i (pc := 8) (k_V E hC hS hA hl.1 (c1.recv hC fo rfl) rfl (c_X5_no l D tk N0 sa H.size P hPN (fun q h9 => hPs q (Nat.le_trans hS.1 h9)) mo n9 kn th tt bb eT eB oT oB pk ca rf vs  ) kw_1264 kw_1266 kp_22 kw_5 kw_1267 (n := 0) (by decide +kernel) rfl ⟨⟨rfl, rfl⟩, ⟨Nat.le_of_ble_eq_true rfl, Nat.le_of_ble_eq_true rfl⟩, (by dsimp only; omega), (by dsimp only; omega)⟩ rfl (Nat.le_of_ble_eq_true rfl) ⟨_, _, _, _, _, fo, fj, fk, fe, fr, fw, ⟨hPm, hPa, hPl, hPe, hPr, hPk⟩, hFk, hFe, hFr, hpk, hn9⟩ dX5_become_8) hS (fun q _ h => h) hn (fun r_10 H locs hR hz hk hS => ?_)
    obtain ⟨er_10, hM⟩ := hR
    obtain ⟨ra, rl, ex, ro, rt, fo, fj, fk, fe, fr, fw, ⟨hPm, hPa, hPl, hPe, hPr, hPk⟩, hFk, hFe, hFr, hpk, hn9⟩ := hM
    have g_fo := hPm
    have g_fj := hPa
    refine r_iret (pc := 11) E hr hlk hS (by omega) (by omega) ?_ dX5_become_11
    have hz9 : m_fit ta ba = 0 := (er_1.symm.trans c_2)
    exact ⟨_, _, _, ⟨_, _, _, _, _, fo, fj, fk, fe, fr, fw, ⟨hPm, hPa, hPl, hPe, hPr, hPk⟩, hFk, hFe, hFr, hpk, hn9⟩, ⟨by rw [er_10]; simp only [beR, if_pos hz9], by simp only [beT, if_pos hz9], by simp only [beB, if_pos hz9], by simp only [beF, if_pos hz9]⟩⟩
/-! ===== what the reference's calls make, in bounds ===== -/
theorem m_i32 (x : Int32) : x.toInt64.toInt.natAbs ≤ 2147483648 := by
  rw [Int32.toInt_toInt64]
  have h1 := x.toInt_lt
  have h2 := x.le_toInt
  omega
theorem m_lo32 {t b : Int32} (h : ¬ b = 0) : ¬ m_div t.toInt64 b.toInt64 = 0 ∧ 1 ≤ (m_loB t.toInt64 b.toInt64).toInt := by
  have h1 := m_i32 t
  have h2 := m_i32 b
  have h0 : ¬ b.toInt64 = 0 := fun z => h (Int32.toInt_inj.mp (by have := congrArg Int64.toInt z; rw [Int32.toInt_toInt64] at this; rw [this]; rfl))
  obtain ⟨q1, q2, -, -⟩ := m_lo (t := t.toInt64) (b := b.toInt64) (by omega) (by omega) h0
  exact ⟨q1, q2⟩
theorem m_sumP {ta ba tb bb : Int64} (sg : Int32) (h : m_F ta ba) (h2 : m_F tb bb) (hs : sg = 1 ∨ sg = -1) : ¬ m_div (ta * bb + sg.toInt64 * (tb * ba)) (ba * bb) = 0 ∧ 1 ≤ (m_loB (ta * bb + sg.toInt64 * (tb * ba)) (ba * bb)).toInt ∧ (m_loB (ta * bb + sg.toInt64 * (tb * ba)) (ba * bb)).toInt ≤ 1000000000000000000 ∧ (m_loT (ta * bb + sg.toInt64 * (tb * ba)) (ba * bb)).toInt.natAbs ≤ 2000000000000000000 := by
  obtain ⟨a1, a2, a3⟩ := h
  obtain ⟨b1, b2, b3⟩ := h2
  have hsg : sg.toInt64.toInt.natAbs ≤ 1 := by rcases hs with rfl | rfl <;> decide
  obtain ⟨e1, e2⟩ := m_mulB (x := ta) (y := bb) (B := 1000000000) (C := 1000000000) a1 (by omega) (by decide)
  obtain ⟨g1, g2⟩ := m_mulB (x := tb) (y := ba) (B := 1000000000) (C := 1000000000) b1 (by omega) (by decide)
  obtain ⟨k1, k2⟩ := m_mulB (x := sg.toInt64) (y := tb * ba) (B := 1) (C := 1000000000 * 1000000000) hsg g2 (by decide)
  obtain ⟨j1, j2⟩ := m_addB (x := ta * bb) (y := sg.toInt64 * (tb * ba)) (B := 1000000000 * 1000000000) (C := 1 * (1000000000 * 1000000000)) e2 k2 (by decide)
  obtain ⟨f1, f2⟩ := m_mulB (x := ba) (y := bb) (B := 1000000000) (C := 1000000000) (by omega) (by omega) (by decide)
  have h0 : 1 * 1 ≤ ba.toInt * bb.toInt := Int.mul_le_mul a2 b2 (by decide) (by omega)
  have h3 : 1 ≤ (ba * bb).toInt := by rw [f1]; omega
  exact m_loP (B := 2000000000000000000) (C := 1000000000000000000) (by omega) (by decide) h3 (by omega)
theorem m_btwP {ta ba tb bb : Int64} (h : m_F ta ba) (h2 : m_F tb bb) : ¬ m_div (ta + tb) (ba + bb) = 0 ∧ 1 ≤ (m_loB (ta + tb) (ba + bb)).toInt := by
  obtain ⟨a1, a2, a3⟩ := h
  obtain ⟨b1, b2, b3⟩ := h2
  obtain ⟨e1, e2⟩ := m_addB (x := ta) (y := tb) (B := 1000000000) (C := 1000000000) a1 b1 (by decide)
  obtain ⟨f1, f2⟩ := m_addB (x := ba) (y := bb) (B := 1000000000) (C := 1000000000) (by omega) (by omega) (by decide)
  obtain ⟨q1, q2, -, -⟩ := m_loP (t := ta + tb) (b := ba + bb) (B := 2000000000) (C := 2000000000) (by omega) (by decide) (by omega) (by omega)
  exact ⟨q1, q2⟩
theorem m_negP {t b : Int64} (h : m_F t b) : ¬ m_div (-t) b = 0 ∧ 1 ≤ (m_loB (-t) b).toInt := by
  obtain ⟨a1, a2, a3⟩ := h
  have := (m_negB a1 (by decide)).2
  obtain ⟨q1, q2, -, -⟩ := m_loP (t := -t) (b := b) (B := 1000000000) (C := 1000000000) this (by decide) a2 (by omega)
  exact ⟨q1, q2⟩
theorem m_invP {t b : Int64} (h : m_F t b) (h0 : ¬ t = 0) : m_F (m_loT b t) (m_loB b t) := by
  obtain ⟨q1, q2, q3, q4⟩ := m_inv h h0
  exact ⟨q4, q2, q3⟩
theorem m_abs6 {x : Int32} (h : ¬ m_isIn x (-6) 6 = 0) : ∃ k : Nat, f_absI x = nI k ∧ k ≤ 6 := by
  obtain ⟨h1, h2⟩ := m_inS h
  have e1 : (-6 : Int32).toInt = -6 := by decide
  have e2 : (6 : Int32).toInt = 6 := by decide
  rw [e1] at h1
  rw [e2] at h2
  have hx : x = Int32.ofInt x.toInt := by simp
  obtain ⟨z, hz⟩ : ∃ z, z = x.toInt := ⟨_, rfl⟩
  rw [← hz] at hx h1 h2
  have hall : ∀ i : Fin 13, f_absI (Int32.ofInt ((i.val : Int) - 6)) = nI (((i.val : Int) - 6).natAbs) := by decide +kernel
  have h3 : f_absI (Int32.ofInt ((((z + 6).toNat : Nat) : Int) - 6)) = nI (((((z + 6).toNat : Nat) : Int) - 6).natAbs) := hall ⟨(z + 6).toNat, by omega⟩
  have e3 : (((z + 6).toNat : Nat) : Int) - 6 = z := by omega
  rw [e3] at h3
  exact ⟨z.natAbs, by rw [hx]; exact h3, by omega⟩
theorem m_loT1 {t b : Int64} (ht : t.toInt < 9223372036854775807) (h1 : 1 ≤ t.toInt) (hb : b.toInt < 9223372036854775807) (h2 : 1 ≤ b.toInt) : 1 ≤ (m_loT t b).toInt := by
  have hg := m_divI (a := t) (b := b) (by omega) (by omega)
  have hg1 : 0 < Nat.gcd b.toInt.natAbs t.toInt.natAbs := Nat.gcd_pos_of_pos_left _ (by omega)
  have hg2 : Nat.gcd b.toInt.natAbs t.toInt.natAbs ≤ t.toInt.natAbs := Nat.le_of_dvd (by omega) (Nat.gcd_dvd_right _ _)
  obtain ⟨d1, d2⟩ := m_tdv (x := t) (y := m_div t b) (by omega) (by omega)
  have h0 : (0 : Int64) ≤ b := Int64.le_iff_toInt_le.mpr (by show (0 : Int) ≤ b.toInt; omega)
  have q2 := Nat.div_le_self t.toInt.natAbs (m_div t b).toInt.natAbs
  have e : (m_loT t b).toInt = (t / m_div t b).toInt := by
    unfold m_loT
    rw [m_sgI (by omega), if_pos h0]
  have hgn : (m_div t b).toInt.natAbs = Nat.gcd b.toInt.natAbs t.toInt.natAbs := by omega
  have q1 : 1 ≤ t.toInt.natAbs / (m_div t b).toInt.natAbs := by
    rw [hgn]
    exact (Nat.one_le_div_iff hg1).mpr hg2
  have q3 : 0 ≤ (t / m_div t b).toInt := by rw [d1]; exact Int.tdiv_nonneg (by omega) (by omega)
  rw [e]
  omega
/-- the next one -/
theorem m_nxtP {t b : Int64} (h : m_F t b) (ht : 1 ≤ t.toInt) : ¬ b = 0 ∧ ¬ m_div b ((2 * m_floor t b + 1) * b - t) = 0 ∧ 1 ≤ (m_loB b ((2 * m_floor t b + 1) * b - t)).toInt ∧ 1 ≤ (m_loT b ((2 * m_floor t b + 1) * b - t)).toInt := by
  obtain ⟨a1, a2, a3⟩ := h
  have f1 := m_floorB a1 (by decide) a2
  obtain ⟨f2, f3⟩ := m_flr a1 (by decide) a2
  have e2 : (2 : Int64).toInt = 2 := by decide
  have e1 : (1 : Int64).toInt = 1 := rfl
  obtain ⟨g1, g2⟩ := m_mulB (x := 2) (y := m_floor t b) (B := 2) (C := 1000000001) (by decide) f1 (by decide)
  obtain ⟨j1, j2⟩ := m_addB (x := 2 * m_floor t b) (y := 1) (B := 2 * 1000000001) (C := 1) g2 (by decide) (by decide)
  obtain ⟨k1, k2⟩ := m_mulB (x := 2 * m_floor t b + 1) (y := b) (B := 2 * 1000000001 + 1) (C := 1000000000) j2 (by omega) (by decide)
  obtain ⟨l1, l2⟩ := m_subB (x := (2 * m_floor t b + 1) * b) (y := t) (B := (2 * 1000000001 + 1) * 1000000000) (C := 1000000000) k2 a1 (by decide)
  have hz : ((2 * m_floor t b + 1) * b - t).toInt = 2 * ((m_floor t b).toInt * b.toInt) + b.toInt - t.toInt := by
    rw [l1, k1, j1, g1, e2, e1, Int.add_mul, Int.mul_assoc, Int.one_mul]
  have hf : 0 ≤ (m_floor t b).toInt * b.toInt := by
    rcases Int.lt_or_le (m_floor t b).toInt 0 with z | z
    · have := Int.mul_le_mul_of_nonneg_right (show (m_floor t b).toInt ≤ -1 by omega) (show 0 ≤ b.toInt by omega)
      omega
    · exact Int.mul_nonneg z (by omega)
  have hc : 1 ≤ ((2 * m_floor t b + 1) * b - t).toInt := by rw [hz]; omega
  have hd : ((2 * m_floor t b + 1) * b - t).toInt ≤ 2000000000 := by rw [hz]; omega
  obtain ⟨q1, q2, q3, q4⟩ := m_loP (t := b) (b := (2 * m_floor t b + 1) * b - t) (B := 1000000000) (C := 2000000000) (by omega) (by decide) hc (by omega)
  refine ⟨m_ne0 a2, q1, q2, ?_⟩
  exact m_loT1 (by omega) a2 (by omega) hc
theorem PT.pv {n : Nat} {w : Nat → Value} {b : Int64} (h : PT n w b) : PV n w := fun i hi => by
  obtain ⟨x, x1, x2, -, -⟩ := h i hi
  exact ⟨x, x1, by omega⟩
theorem PT.pf {n : Nat} {w : Nat → Value} {b : Int64} (h : PT n w b) : PF n w := fun i hi => by
  obtain ⟨x, x1, x2, x3, -⟩ := h i hi
  exact ⟨x, x1, by omega, x3⟩
theorem m_ix {x : Int32} {n : Nat} (h0 : 0 ≤ x) (h : ¬ nI n ≤ x) (hn : n ≤ 100000) : ∃ j : Nat, x = nI j ∧ j < n := by
  have g2 := Int32.le_iff_toInt_le.mp h0
  have g3 := Int32.lt_iff_toInt_lt.mp (Int32.not_le.mp h)
  have e0 : (0 : Int32).toInt = 0 := rfl
  rw [e0] at g2
  rw [nI_toInt (by omega)] at g3
  refine ⟨x.toInt.toNat, Int32.toInt_inj.mp ?_, by omega⟩
  rw [nI_toInt (by omega)]
  omega
theorem m_abv1 {t : Int64} (h : ¬ m_abv t = 0) : 1 ≤ t.toInt := by
  unfold m_abv at h
  split at h
  · exact absurd rfl h
  · rename_i h1
    have := Int64.lt_iff_toInt_lt.mp (Int64.not_le.mp h1)
    have e0 : (0 : Int64).toInt = 0 := rfl
    omega
/-- the one before -/
theorem m_befP {t b : Int64} (h : m_F t b) (ht : 1 ≤ t.toInt) : ¬ t = 0 ∧ ¬ m_div ((2 * -m_floor (-b) t - 1) * t - b) t = 0 ∧ 1 ≤ (m_loB ((2 * -m_floor (-b) t - 1) * t - b) t).toInt := by
  obtain ⟨a1, a2, a3⟩ := h
  have n1 := (m_negB (x := b) (B := 1000000000) (by omega) (by decide)).2
  have f1 := m_floorB n1 (by decide) ht
  have n2 := (m_negB f1 (by decide)).2
  obtain ⟨g1, g2⟩ := m_mulB (x := 2) (y := -m_floor (-b) t) (B := 2) (C := 1000000001) (by decide) n2 (by decide)
  obtain ⟨j1, j2⟩ := m_subB (x := 2 * -m_floor (-b) t) (y := 1) (B := 2 * 1000000001) (C := 1) g2 (by decide) (by decide)
  obtain ⟨k1, k2⟩ := m_mulB (x := 2 * -m_floor (-b) t - 1) (y := t) (B := 2 * 1000000001 + 1) (C := 1000000000) j2 a1 (by decide)
  obtain ⟨l1, l2⟩ := m_subB (x := (2 * -m_floor (-b) t - 1) * t) (y := b) (B := (2 * 1000000001 + 1) * 1000000000) (C := 1000000000) k2 (by omega) (by decide)
  obtain ⟨q1, q2, -, -⟩ := m_loP (t := (2 * -m_floor (-b) t - 1) * t - b) (b := t) (B := (2 * 1000000001 + 1) * 1000000000 + 1000000000) (C := 1000000000) l2 (by decide) ht (by omega)
  exact ⟨m_ne0 ht, q1, q2⟩
theorem m_dgA {x : Int64} {k : Nat} (h : x.toInt.natAbs < 10 ^ (k + 1)) (h2 : -9223372036854775808 < x.toInt) : dgJ (f_absJ x) ≤ k + 1 := by
  have e := m_abs h2
  have h1 := m_ndg 19 k (f_absJ x).toInt.natAbs (by rw [e]; exact h)
  have h0 : ¬ f_absJ x < 0 := fun z => by
    have := Int64.lt_iff_toInt_lt.mp z
    have e0 : (0 : Int64).toInt = 0 := rfl
    omega
  unfold dgJ
  rw [if_neg h0]
  exact h1
theorem m_F01 : m_F (m_loT 0 1) (m_loB 0 1) := ⟨by decide +kernel, by decide +kernel, by decide +kernel⟩
theorem m_D01 : m_D4 (m_loB 0 1) := by
  have e : (m_loB 0 1).toInt.natAbs = 1 := by decide +kernel
  unfold m_D4
  rw [e]
  exact Nat.one_dvd _
theorem m_div01 : ¬ m_div 0 1 = 0 := by decide +kernel
theorem m_powD {kp : Nat} (h : kp ≤ 4) : 1 ≤ (m_pow (nI kp)).toInt ∧ (m_pow (nI kp)).toInt ≤ 10000 ∧ (m_pow (nI kp)).toInt.natAbs ∣ 10000 := by
  have hall : ∀ i : Fin 5, 1 ≤ (m_pow (nI i.val)).toInt ∧ (m_pow (nI i.val)).toInt ≤ 10000 ∧ (m_pow (nI i.val)).toInt.natAbs ∣ 10000 := by decide +kernel
  exact hall ⟨kp, by omega⟩
theorem m_max {a b : Nat} (ha : a ≤ 1000) (hb : b ≤ 1000) : ∃ z : Nat, f_max (nI a) (nI b) = nI z ∧ (z = a ∨ z = b) := by
  unfold f_max
  split
  · exact ⟨_, rfl, by first | exact Or.inl rfl | exact Or.inr rfl⟩
  · exact ⟨_, rfl, by first | exact Or.inl rfl | exact Or.inr rfl⟩
theorem RW.obj {D : va_G} {tk : Nat → ClassId} {sa : Nat → Nat} {P : Nat → Prop} {rl n : Nat} {vs : Nat → Value} {H : Heap} (h : RW D tk sa P rl n vs H) : ∃ (md : Int32) (b : Nat), c1 D rl (.inr (7, [.int md, .ref b, .int (nI n)])) H := by
  rcases h with ⟨h0, md, h1⟩ | ⟨md, b, cap, f, hb, h1, -⟩
  · rw [h0]
    exact ⟨md, _, h1⟩
  · exact ⟨md, b, h1⟩
section LR17
variable {p : Program} {l : Launch} {e : Env} {R : Room} {s : State} {m : MethodId} {args : Array Value} {below : List Frame} {meth : Method} {c : Code} {H : Heap} {locs : List Loc} {cells slots : Nat} {Q : State → Prop}
variable {cc : ByteArray} {pc nL : Nat} {ls : Array Slot} {rest : List Value} {Ts : List Cond} {own : String} {D : va_G} {tk : Nat → ClassId} {N0 : Nat} {sa : Nat → Nat} {A0 : Nat → Prop}
theorem w_ai9 : Cond.arrayClass .int ∈ GW := gw_t 1795 (by decide +kernel) rfl
theorem r_newi {w0 : Cond} (E : CallFix p m c cc nL s args (w0 :: GW) own) (hC : Ctx D tk N0 sa s) (hS : va_S A0 s.heap H locs) {n : Int32} {N : Nat} (hn : ¬ n < 0) (hN : n.toNatClampNeg = N) (hbytes : N * 4 ≤ 536870912) (hcells : cells + 1 ≤ R.cells) (hslots : slots + N ≤ R.slots) (hdg : decode cc pc = .ok (.newarray .int, 2))
    (kk : ∀ (q : Nat) (H1 : Heap), q = H.size → c1 D q (.inl (tk 5, N, .inl (fun _ => 0))) H1 → (∀ x : Nat, x < H.size → H1[x]? = H[x]?) → va_S A0 s.heap H1 locs → W p l e R s m args below meth c H1 locs (cells + 1) (slots + N) Q (F0 m (pc + 2) ls (.ref q :: rest))) : W p l e R s m args below meth c H locs cells slots Q (F0 m pc ls (.int n :: rest)) := by
  refine va_newaK (atype := .int) E.1 E.2.1 (E.2.2.2.2 _ (List.mem_cons_of_mem _ w_ai9)) rfl hdg rfl hn hN hbytes hcells hslots rfl fun H1 cA e1 z1 o1 hAr hNm => ?_
  have hcA : cA = tk 5 := Option.some.inj (hNm.symm.trans (hC.1.2 5 (tk 5, .int) rfl).2)
  subst hcA
  refine kk H.size H1 rfl ?_ o1 ⟨Nat.le_trans hS.1 (by omega), fun x h1 h2 => (o1 x (Nat.lt_of_lt_of_le h1 hS.1)).trans (hS.2.1 x h1 h2), hS.2.2⟩
  show H1[H.size]? = some (vp_cell _ _)
  rw [vp_cell_i]
  exact e1
/-- an array of ints, whatever it holds -/
def IA (D : va_G) (tk : Nat → ClassId) (a n : Nat) (H : Heap) : Prop := ∃ f : Nat → Int32, c1 D a (.inl (tk 5, n, .inl f)) H
theorem r_iald (E : CallFix p m c cc nL s args Ts own) (hC : Ctx D tk N0 sa s) {a n : Nat} {f : Nat → Int32} (h : c1 D a (.inl (tk 5, n, .inl f)) H) {i : Int32} (hin : vp_in i n) (hdg : decode cc pc = .ok (.iaload, 1))
    (kk : W p l e R s m args below meth c H locs cells slots Q (F0 m (pc + 1) ls (.int (f i.toNatClampNeg) :: rest))) : W p l e R s m args below meth c H locs cells slots Q (F0 m pc ls (.int i :: .ref a :: rest)) :=
  va_iald E.1 E.2.1 hC.1 h.P 0 5 rfl rfl hin hdg kk
theorem r_iast (E : CallFix p m c cc nL s args Ts own) (hC : Ctx D tk N0 sa s) {a n : Nat} {f : Nat → Int32} (h : c1 D a (.inl (tk 5, n, .inl f)) H) (hS : va_S A0 s.heap H locs) (hA : A0 a) {i : Int32} {x : Int32} (hin : vp_in i n) (hdg : decode cc pc = .ok (.iastore, 1))
    (kk : ∀ (H1 : Heap) (locs1 : List Loc), c1 D a (.inl (tk 5, n, .inl (va_up f i.toNatClampNeg x))) H1 → (∀ q, q ≠ a → H1[q]? = H[q]?) → H1.size = H.size → va_S A0 s.heap H1 locs1 → W p l e R s m args below meth c H1 locs1 cells slots Q (F0 m (pc + 1) ls rest)) : W p l e R s m args below meth c H locs cells slots Q (F0 m pc ls (.int x :: .int i :: .ref a :: rest)) := by
  have hK := hC.1
  refine W.iast E.1 E.2.1 h ((hK.2 5 (tk 5, .int) rfl).1 n (fun j => .int (f j))) (fun q => by cases q) (by show ¬ (i < 0 ∨ (arrV _ _ _).slots.size ≤ _); rw [arrV_size]; exact hin) rfl rfl hdg fun H1 e z oq => ?_
  refine kk H1 _ ?_ oq z (hS.put z oq hA)
  show H1[a]? = some (vp_cell _ _)
  rw [e]
  rw [vp_cell_i, vp_cell_i, arrV_store]
  congr 2
  funext q
  by_cases hq : q = i.toNatClampNeg
  · subst hq
    simp [updV, va_up]
  · simp [updV, va_up, hq]
end LR17
/-! its ROW, told and folded -/
def m_say (x : Int32) (n : Nat) (r : Int32) (n1 : Nat) (th : Int32) : Prop := (m_isIn x (-99999) 99999 = 0 ∧ r = 0 ∧ n1 = n ∧ th = 1) ∨ (¬ m_isIn x (-99999) 99999 = 0 ∧ n = 16 ∧ r = 0 ∧ n1 = n ∧ th = 2) ∨ (¬ m_isIn x (-99999) 99999 = 0 ∧ n ≠ 16 ∧ r = nI (n + 1) ∧ n1 = n + 1 ∧ th = 0)
def m_uns (x : Int32) (n : Nat) (r : Int32) (n1 : Nat) (th : Int32) : Prop := (m_isIn x 0 16 = 0 ∧ r = 0 ∧ n1 = n ∧ th = 1) ∨ (∃ km : Nat, x = nI km ∧ km ≤ 16 ∧ r = nI n1 ∧ n1 = n - km ∧ th = 0)
theorem m_said {x : Int32} (h : ¬ m_isIn x (-99999) 99999 = 0) : x.toInt.natAbs ≤ 99999 := by
  obtain ⟨h1, h2⟩ := m_inS h
  have e1 : (-99999 : Int32).toInt = -99999 := by decide
  have e2 : (99999 : Int32).toInt = 99999 := by decide
  omega
theorem PI.one {w : Nat → Value} {x : Int32} (h : x.toInt.natAbs ≤ 99999) : PI 1 (va_up w 0 (.int x)) := by
  intro i hi
  have e : i = 0 := by omega
  rw [e]
  exact ⟨x, va_up_self _ _ _, h⟩
theorem PI.add {n : Nat} {w : Nat → Value} {x : Int32} (h : PI n w) (h2 : x.toInt.natAbs ≤ 99999) : PI (n + 1) (va_up w n (.int x)) := by
  intro i hi
  by_cases e : i = n
  · rw [e]
    exact ⟨x, va_up_self _ _ _, h2⟩
  · obtain ⟨x2, g1, g2⟩ := h i (by omega)
    exact ⟨x2, by rw [va_up_ne _ _ e]; exact g1, g2⟩
theorem PI.le {n k : Nat} {w : Nat → Value} (h : PI n w) (hk : k ≤ n) : PI k w := fun i hi => h i (Nat.lt_of_lt_of_le hi hk)
/-- the same numbers, as longs -/
def PQ (n : Nat) (vs w : Nat → Value) : Prop := ∀ i, i < n → ∃ x : Int32, vs i = .int x ∧ w i = .long x.toInt64
theorem PQ.one {vs w : Nat → Value} {x : Int32} {y : Int64} (h : vs 0 = .int x) (hy : y = x.toInt64) : PQ 1 vs (va_up w 0 (.long y)) := by
  intro i hi
  have e : i = 0 := by omega
  rw [e]
  exact ⟨x, h, by rw [va_up_self, hy]⟩
theorem PQ.add {n : Nat} {vs w : Nat → Value} {x : Int32} {y : Int64} (h : PQ n vs w) (h2 : vs n = .int x) (hy : y = x.toInt64) : PQ (n + 1) vs (va_up w n (.long y)) := by
  intro i hi
  by_cases e : i = n
  · rw [e]
    exact ⟨x, h2, by rw [va_up_self, hy]⟩
  · obtain ⟨x2, g1, g2⟩ := h i (by omega)
    exact ⟨x2, g1, by rw [va_up_ne _ _ e]; exact g2⟩
theorem PQ.pv {n : Nat} {vs w : Nat → Value} (h : PQ n vs w) (hp : PI n vs) : PV n w := by
  intro i hi
  obtain ⟨x, x1, x2⟩ := h i hi
  obtain ⟨y, y1, y2⟩ := hp i hi
  have e : x = y := by rw [x1] at y1; exact Value.int.inj y1
  refine ⟨x.toInt64, x2, ?_⟩
  rw [Int32.toInt_toInt64, e]
  omega
theorem PQ.pf {n : Nat} {vs w : Nat → Value} (h : PQ n vs w) (hp : PI n vs) (h1 : ∀ i, 1 ≤ i → i < n → ∃ x : Int32, vs i = .int x ∧ 1 ≤ x.toInt) : PF n w := by
  intro i hi
  obtain ⟨x, x1, x2⟩ := h i hi
  obtain ⟨y, y1, y2⟩ := hp i hi
  have e : x = y := by rw [x1] at y1; exact Value.int.inj y1
  refine ⟨x.toInt64, x2, ?_, fun z => ?_⟩
  · rw [Int32.toInt_toInt64, e]
    omega
  · obtain ⟨u, u1, u2⟩ := h1 i z hi
    have e2 : x = u := by rw [x1] at u1; exact Value.int.inj u1
    rw [Int32.toInt_toInt64, e2]
    exact u2
theorem m_and1 {z : Int32} (h : z = 0 ∨ z = 1) : z &&& 1 = z := by
  rcases h with rfl | rfl <;> decide
theorem m_and0 (z : Int32) : z &&& 0 = 0 := Int32.and_zero
def m_isz (vs : Nat → Value) (k : Nat) (z : Int32) : Prop := (z = 0 ∧ ∃ i, 1 ≤ i ∧ i < k ∧ (m_rw vs i).toInt < 1) ∨ (z = 1 ∧ ∀ i, 1 ≤ i → i < k → ∃ x : Int32, vs i = .int x ∧ 1 ≤ x.toInt)
theorem m_isz.add {vs : Nat → Value} {k : Nat} {z y x : Int32} (h : m_isz vs k z) (hx : vs k = .int x) (h1 : 1 ≤ x) (hy : y = z &&& 1) : m_isz vs (k + 1) y := by
  have h9 : z = 0 ∨ z = 1 := h.elim (fun w => Or.inl w.1) (fun w => Or.inr w.1)
  rw [m_and1 h9] at hy
  rw [hy]
  rcases h with ⟨h0, i, i1, i2, i3⟩ | ⟨h0, h2⟩
  · exact Or.inl ⟨h0, i, i1, by omega, i3⟩
  · refine Or.inr ⟨h0, fun i g1 g2 => ?_⟩
    by_cases e : i = k
    · rw [e]
      have := Int32.le_iff_toInt_le.mp h1
      have e1 : (1 : Int32).toInt = 1 := rfl
      exact ⟨x, hx, by omega⟩
    · exact h2 i g1 (by omega)
theorem m_isz.bad {vs : Nat → Value} {k : Nat} {z y x : Int32} (_ : m_isz vs k z) (hk : 1 ≤ k) (hx : vs k = .int x) (h1 : x < 1) (hy : y = 0) : m_isz vs (k + 1) y := by
  refine Or.inl ⟨hy, k, hk, by omega, ?_⟩
  have := Int32.lt_iff_toInt_lt.mp h1
  have e1 : (1 : Int32).toInt = 1 := rfl
  rw [q_rw hx, Int32.toInt_toInt64]
  omega
theorem m_isz.fo0 {vs : Nat → Value} {n : Nat} {z : Int32} (h : m_isz vs n z) (hz : z = 0) (hn : n ≠ 0) : m_FO n vs none := by
  rcases h with ⟨-, i, i1, i2, i3⟩ | ⟨h0, -⟩
  · exact Or.inr (Or.inl ⟨hn, ⟨i, i1, i2, i3⟩, rfl⟩)
  · rw [hz] at h0
    exact absurd h0 (by decide)
theorem m_isz.fo1 {vs : Nat → Value} {n : Nat} {z : Int32} {o : Option (Int64 × Int64)} (h : m_isz vs n z) (hz : ¬ z = 0) (hn : n ≠ 0) (ho : m_FD (m_rw vs) n = o) : m_FO n vs o := by
  refine Or.inr (Or.inr ⟨hn, fun i i1 i2 => ?_, ho.symm⟩)
  obtain ⟨x, x1, x2⟩ := (h.resolve_left (fun q => hz q.1)).2 i i1 i2
  rw [q_rw x1, Int32.toInt_toInt64]
  exact x2
theorem PQ.rw {n : Nat} {vs w : Nat → Value} (h : PQ n vs w) : ∀ i, i < n → w i = .long (m_rw vs i) := by
  intro i hi
  obtain ⟨x, x1, x2⟩ := h i hi
  rw [x2, q_rw x1]
theorem m_nle0 {j : Nat} (h : j < 2 ^ 31) (h2 : nI j ≤ 0) : j = 0 := by
  have h3 := Int32.le_iff_toInt_le.mp h2
  rw [nI_toInt h] at h3
  have e0 : (0 : Int32).toInt = 0 := rfl
  omega
/-! the TALLY: the bottom of what was rounded goes on dividing 10000 -/
theorem m_dvd4 {N tT u : Int} {o v tp bt g : Nat} (ho : o ∣ 10000) (hv : v ∣ 10000) (hN : N = 10000) (hg : (o : Int) * v = bt * g) (ht : tT * v + u * o = (tp : Int) * g ∨ tT * v + u * o = -((tp : Int) * g)) (hg0 : 0 < g) (hc : Nat.Coprime bt tp) (ho0 : 0 < o) (hv0 : 0 < v) : bt ∣ 10000 := by
  obtain ⟨a, ha⟩ := ho
  obtain ⟨b, hb⟩ := hv
  -- 10000 * top = bottom * something
  have e1 : (10000 : Int) = o * a := by rw [← Int.natCast_mul, ← ha]; rfl
  have e2 : (10000 : Int) = v * b := by rw [← Int.natCast_mul, ← hb]; rfl
  have h1 : (10000 : Int) * (tT * v + u * o) = (o * v) * (tT * a + u * b) := by
    rw [Int.mul_add, Int.mul_add]
    have q1 : (10000 : Int) * (tT * v) = o * v * (tT * a) := by rw [e1]; ac_rfl
    have q2 : (10000 : Int) * (u * o) = o * v * (u * b) := by rw [e2]; ac_rfl
    rw [q1, q2]
  rw [hg] at h1
  have hz : (bt : Int) ∣ 10000 * (tp : Int) := by
    have hgi : (g : Int) ≠ 0 := by omega
    rcases ht with h | h
    · rw [h] at h1
      refine ⟨tT * a + u * b, Int.eq_of_mul_eq_mul_right hgi ?_⟩
      rw [show (10000 : Int) * tp * g = 10000 * (tp * g) by ac_rfl, h1]
      ac_rfl
    · rw [h] at h1
      refine ⟨-(tT * a + u * b), Int.eq_of_mul_eq_mul_right hgi ?_⟩
      have h2 : (10000 : Int) * (tp * g) = -(bt * g * (tT * a + u * b)) := by rw [← h1, Int.mul_neg, Int.neg_neg]
      rw [show (10000 : Int) * tp * g = 10000 * (tp * g) by ac_rfl, h2, Int.mul_neg, Int.neg_mul]
      congr 1
      ac_rfl
  have hn : bt ∣ 10000 * tp := by
    have := Int.natAbs_dvd_natAbs.mpr hz
    simpa [Int.natAbs_mul] using this
  exact Nat.Coprime.dvd_of_dvd_mul_right hc hn
/-- in lowest terms: what it is made of -/
theorem m_loE {t b : Int64} {B : Nat} (ht : t.toInt.natAbs ≤ B) (hB : B < 9223372036854775808) (hb : 1 ≤ b.toInt) : ∃ g : Nat, 0 < g ∧ b.toInt = (m_loB t b).toInt * g ∧ t.toInt = (m_loT t b).toInt * g ∧ Nat.Coprime (m_loB t b).toInt.natAbs (m_loT t b).toInt.natAbs := by
  have h9 := b.toInt_lt
  have hg := m_divI (a := t) (b := b) (by omega) (by omega)
  have hg1 : 0 < Nat.gcd b.toInt.natAbs t.toInt.natAbs := Nat.gcd_pos_of_pos_left _ (by omega)
  obtain ⟨g, hgg⟩ : ∃ g, g = Nat.gcd b.toInt.natAbs t.toInt.natAbs := ⟨_, rfl⟩
  rw [← hgg] at hg hg1
  obtain ⟨d1, d2⟩ := m_tdv (x := b) (y := m_div t b) (by omega) (by omega)
  obtain ⟨e1, e2⟩ := m_tdv (x := t) (y := m_div t b) (by omega) (by omega)
  have h0 : (0 : Int64) ≤ b := Int64.le_iff_toInt_le.mpr (by show (0 : Int) ≤ b.toInt; omega)
  have qB := Nat.div_le_self b.toInt.natAbs (m_div t b).toInt.natAbs
  have qT := Nat.div_le_self t.toInt.natAbs (m_div t b).toInt.natAbs
  have eB : (m_loB t b).toInt = (b / m_div t b).toInt := by
    unfold m_loB
    rw [m_sgI (by omega), if_pos h0]
  have eT : (m_loT t b).toInt = (t / m_div t b).toInt := by
    unfold m_loT
    rw [m_sgI (by omega), if_pos h0]
  have v1 : (g : Int) ∣ b.toInt := Int.ofNat_dvd_left.mpr (by rw [hgg]; exact Nat.gcd_dvd_left _ _)
  have v2 : (g : Int) ∣ t.toInt := Int.ofNat_dvd_left.mpr (by rw [hgg]; exact Nat.gcd_dvd_right _ _)
  refine ⟨g, hg1, ?_, ?_, ?_⟩
  · rw [eB, d1, hg]
    exact (Int.tdiv_mul_cancel v1).symm
  · rw [eT, e1, hg]
    exact (Int.tdiv_mul_cancel v2).symm
  · rw [eB, eT, d2, e2, hg, Int.natAbs_natCast, hgg]
    exact Nat.coprime_div_gcd_div_gcd (by rw [← hgg]; exact hg1)
theorem m_loD {t b : Int64} {B : Nat} (ht : t.toInt.natAbs ≤ B) (hB : B < 9223372036854775808) (hb : 1 ≤ b.toInt) (hd : b.toInt.natAbs ∣ 10000) : m_D4 (m_loB t b) := by
  obtain ⟨g, g1, g2, -, -⟩ := m_loE ht hB hb
  unfold m_D4
  refine Nat.dvd_trans ⟨g, ?_⟩ hd
  rw [g2, Int.natAbs_mul, Int.natAbs_natCast]
/-- what is added to it -/
theorem m_tlP {oT oB t b : Int64} (h : m_F oT oB) (hd : m_D4 oB) (ht : t.toInt.natAbs ≤ 10000000000002) (hb : 1 ≤ b.toInt) (hb2 : b.toInt ≤ 10000) (hd2 : m_D4 b) :
    ¬ m_div (oT * b + (1 : Int32).toInt64 * (t * oB)) (oB * b) = 0 ∧ 1 ≤ (m_loB (oT * b + (1 : Int32).toInt64 * (t * oB)) (oB * b)).toInt ∧ m_D4 (m_loB (oT * b + (1 : Int32).toInt64 * (t * oB)) (oB * b)) := by
  obtain ⟨a1, a2, a3⟩ := h
  have ho : oB.toInt.natAbs ≤ 10000 := Nat.le_of_dvd (by decide) hd
  have hs : (1 : Int32).toInt64 = 1 := by decide
  rw [hs, Int64.one_mul]
  obtain ⟨e1, e2⟩ := m_mulB (x := oT) (y := b) (B := 1000000000) (C := 10000) a1 (by omega) (by decide)
  obtain ⟨g1, g2⟩ := m_mulB (x := t) (y := oB) (B := 10000000000002) (C := 10000) ht ho (by decide)
  obtain ⟨j1, j2⟩ := m_addB (x := oT * b) (y := t * oB) (B := 1000000000 * 10000) (C := 10000000000002 * 10000) e2 g2 (by decide)
  obtain ⟨f1, f2⟩ := m_mulB (x := oB) (y := b) (B := 10000) (C := 10000) ho (by omega) (by decide)
  have h0 : 1 * 1 ≤ oB.toInt * b.toInt := Int.mul_le_mul a2 hb (by decide) (by omega)
  have h3 : 1 ≤ (oB * b).toInt := by rw [f1]; omega
  obtain ⟨q1, q2, -, -⟩ := m_loP (t := oT * b + t * oB) (b := oB * b) (B := 1000000000 * 10000 + 10000000000002 * 10000) (C := 10000 * 10000) j2 (by decide) h3 (by omega)
  refine ⟨q1, q2, ?_⟩
  obtain ⟨g, k1, k2, k3, k4⟩ := m_loE (t := oT * b + t * oB) (b := oB * b) j2 (by decide) h3
  rw [f1] at k2
  rw [j1, e1, g1] at k3
  unfold m_D4
  refine m_dvd4 (N := 10000) (tT := oT.toInt) (u := t.toInt) (o := oB.toInt.natAbs) (v := b.toInt.natAbs) (tp := (m_loT (oT * b + t * oB) (oB * b)).toInt.natAbs) (g := g) hd hd2 rfl ?_ ?_ k1 k4 (by omega) (by omega)
  · rw [show ((oB.toInt.natAbs : Nat) : Int) = oB.toInt by omega, show ((b.toInt.natAbs : Nat) : Int) = b.toInt by omega, k2, show (((m_loB (oT * b + t * oB) (oB * b)).toInt.natAbs : Nat) : Int) = (m_loB (oT * b + t * oB) (oB * b)).toInt by omega]
  · rw [show ((oB.toInt.natAbs : Nat) : Int) = oB.toInt by omega, show ((b.toInt.natAbs : Nat) : Int) = b.toInt by omega, k3]
    rcases Int.natAbs_eq (m_loT (oT * b + t * oB) (oB * b)).toInt with h | h
    · exact Or.inl (by rw [← h])
    · refine Or.inr ?_
      rw [← Int.neg_mul, ← h]
/-! the way's length: at most 3 signs a TERM and 9 -/
theorem m_E9 {E : Nat} {T : Int} (h : ((10 ^ E : Nat) : Int) * T ≤ 1000000000) (hT : 1 ≤ T) : E ≤ 9 := by
  rcases Nat.lt_or_ge 9 E with z | z
  · have h1 : 10 ^ 10 ≤ 10 ^ E := Nat.pow_le_pow_right (by decide) z
    have h2 : 10 ^ 10 = 10000000000 := by decide
    rw [h2] at h1
    generalize 10 ^ E = A at h h1
    have h3 := Int.mul_le_mul_of_nonneg_left hT (show (0 : Int) ≤ (A : Int) by omega)
    omega
  · exact z
theorem m_E0 {t : Int} (h : t ≤ 1000000000) : ((10 ^ 0 : Nat) : Int) * t ≤ 1000000000 := by
  rw [Nat.pow_zero]
  omega
theorem m_ndgL : ∀ (f k : Nat), 1 ≤ k → 10 ^ (ndg f k - 1) ≤ k := by
  intro f
  induction f with
  | zero => intro k h; exact h
  | succ f ih =>
    intro k h
    unfold ndg
    split
    · exact h
    · have h2 := ih (k / 10) (by omega)
      have h3 := ndg_pos f (k / 10)
      rw [Nat.add_sub_cancel]
      have e : ndg f (k / 10) = (ndg f (k / 10) - 1) + 1 := by omega
      rw [e, Nat.pow_succ]
      omega
theorem m_dgL {x : Int64} (h : 1 ≤ x.toInt) : 1 ≤ dgJ x ∧ ((10 ^ (dgJ x - 1) : Nat) : Int) ≤ x.toInt := by
  have h0 : ¬ x < 0 := fun z => by
    have := Int64.lt_iff_toInt_lt.mp z
    have e0 : (0 : Int64).toInt = 0 := rfl
    omega
  have e : dgJ x = ndg 19 x.toInt.natAbs := by
    unfold dgJ
    rw [if_neg h0, Nat.add_zero]
  have h2 := m_ndgL 19 x.toInt.natAbs (by omega)
  rw [e]
  exact ⟨ndg_pos _ _, by omega⟩
theorem m_stE {E d : Nat} {T0 T1 T2 x y : Int} (h : ((10 ^ E : Nat) : Int) * T0 ≤ 1000000000) (hx : x * T1 + T2 = T0) (h1 : 1 ≤ T1) (h2 : 0 ≤ T2) (hd : ((10 ^ d : Nat) : Int) ≤ y) (hy : y ≤ x) : ((10 ^ (E + d) : Nat) : Int) * T1 ≤ 1000000000 := by
  rw [Nat.pow_add, Int.natCast_mul]
  generalize 10 ^ E = A at h
  generalize 10 ^ d = B at hd
  have q1 : (B : Int) * T1 ≤ x * T1 := Int.mul_le_mul_of_nonneg_right (by omega) (by omega)
  have q2 : (A : Int) * (B * T1) ≤ A * T0 := Int.mul_le_mul_of_nonneg_left (by omega) (by omega)
  rw [Int.mul_assoc]
  omega
theorem EU.step {n k : Nat} {w : Nat → Value} {T : Nat → Int} {x : Int64} (u2 : T (n + 1) = 0) (u3 : ∀ i, i < n → ∃ x : Int64, w i = .long x ∧ x.toInt * T (i + 1) + T (i + 2) = T i) (u4 : ∀ i, 1 ≤ i → i ≤ n → 1 ≤ T i ∧ T i ≤ 1000000000) (hk : k < n) (hx : w k = .long x) : x.toInt * T (k + 1) + T (k + 2) = T k ∧ 1 ≤ T (k + 1) ∧ T (k + 1) ≤ 1000000000 ∧ 0 ≤ T (k + 2) := by
  obtain ⟨x1, y1, y2⟩ := u3 k hk
  have ex : x1 = x := by rw [hx] at y1; exact (Value.long.inj y1).symm
  rw [ex] at y2
  have h1 := u4 (k + 1) (by omega) (by omega)
  refine ⟨y2, h1.1, h1.2, ?_⟩
  rcases Nat.lt_or_ge (k + 2) (n + 1) with z | z
  · have := (u4 (k + 2) (by omega) (by omega)).1
    omega
  · have e : k + 2 = n + 1 := by omega
    rw [e, u2]
    exact Int.le_refl _
theorem m_many {x r y : Int64} {b : Int32} (hr : r = x) (hy : y = r - b.toInt64) (hb : b = 0 ∨ b = 1) (hx : x.toInt.natAbs ≤ 1000000010) : y.toInt ≤ x.toInt ∧ x.toInt ≤ y.toInt + 1 ∧ y.toInt.natAbs < 10000000000 := by
  have e0 : (0 : Int32).toInt64.toInt = 0 := by decide
  have e1 : (1 : Int32).toInt64.toInt = 1 := by decide
  have h2 : b.toInt64.toInt.natAbs ≤ 1 := by rcases hb with rfl | rfl <;> decide
  obtain ⟨k1, k2⟩ := m_subB (x := x) (y := b.toInt64) (B := 1000000010) (C := 1) hx h2 (by decide)
  rw [hy, hr]
  rcases hb with rfl | rfl
  · rw [e0] at k1
    omega
  · rw [e1] at k1
    omega
/-- what a way's telling takes -/
def m_wS : Nat → Nat
  | 0 => 0
  | k + 1 => m_wS k + (12 * k + 74)
theorem m_wSB {k : Nat} (h : k ≤ 43) : m_wS k ≤ 14018 := by
  have hall : ∀ i : Fin 44, m_wS i.val ≤ 14018 := by decide +kernel
  exact hall ⟨k, by omega⟩
/-! cuts in bounds -/
theorem m_cut3B {t b : Int64} (h : m_F t b) (md : Int32) : (m_cut t b 3 md).toInt.natAbs ≤ 1000000000002 := by
  have hp : (m_pow 3).toInt = 1000 := by decide +kernel
  obtain ⟨e1, e2⟩ := m_mulB (x := t) (y := m_pow 3) (B := 1000000000) (C := 1000) h.1 (by omega) (by decide)
  exact m_cutB (B := 1000000000000) (by omega) (by decide) h.2.1
theorem m_cut4B {t b : Int64} (h : m_F t b) {pl : Int32} {kp : Nat} (hp : pl = nI kp) (hk : kp ≤ 4) (md : Int32) : (m_cut t b pl md).toInt.natAbs ≤ 10000000000002 := by
  have h1 := m_powD hk
  rw [← hp] at h1
  obtain ⟨e1, e2⟩ := m_mulB (x := t) (y := m_pow pl) (B := 1000000000) (C := 10000) h.1 (by omega) (by decide)
  exact m_cutB (B := 10000000000000) (by omega) (by decide) h.2.1
theorem m_cut9B {t b : Int64} (h : m_F t b) {pl : Int32} {kp : Nat} (hp : pl = nI kp) (hk : kp ≤ 9) (md : Int32) : (m_cut t b pl md).toInt.natAbs ≤ 1000000000000000002 := by
  have h1 := m_powB hk
  rw [← hp] at h1
  obtain ⟨e1, e2⟩ := m_mulB (x := t) (y := m_pow pl) (B := 1000000000) (C := 1000000000) h.1 (by omega) (by decide)
  exact m_cutB (B := 1000000000000000000) (by omega) (by decide) h.2.1
theorem m_dg13 {x : Int64} (h : x.toInt.natAbs ≤ 1000000000002) : dgJ (f_absJ x) ≤ 13 := m_dgA (k := 12) (by omega) (by omega)
theorem m_dg14 {x : Int64} (h : x.toInt.natAbs ≤ 10000000000002) : dgJ (f_absJ x) ≤ 14 := m_dgA (k := 13) (by omega) (by omega)
theorem m_dg20 {x : Int64} (h : x.toInt.natAbs ≤ 1000000000000000002) : dgJ (f_absJ x) ≤ 20 := Nat.le_trans (m_dgA (k := 18) (by omega) (by omega)) (by decide)
/-- what is rounded, told -/
theorem m_rndB {t b u : Int64} {r : Int64} {kp : Nat} (h : m_F t b) (hr : r = m_pow (nI kp)) (hk : kp ≤ 4) (hu : u = t * (r / b)) : dgJ (f_absJ u) ≤ 14 := by
  have h1 := m_powD hk
  rw [← hr] at h1
  obtain ⟨d1, d2⟩ := m_tdv (x := r) (y := b) (by omega) h.2.1
  have q2 : r.toInt.natAbs / b.toInt.natAbs ≤ r.toInt.natAbs := Nat.div_le_self _ _
  obtain ⟨e1, e2⟩ := m_mulB (x := t) (y := r / b) (B := 1000000000) (C := 10000) h.1 (by omega) (by decide)
  exact m_dg14 (by rw [hu]; omega)
/-- what is added to the TALLY, in lowest terms -/
theorem m_addP {x r : Int64} {kp : Nat} (hx : x.toInt.natAbs ≤ 10000000000002) (hr : r = m_pow (nI kp)) (hk : kp ≤ 4) : ¬ m_div x r = 0 ∧ 1 ≤ (m_loB x r).toInt ∧ (m_loB x r).toInt ≤ 10000 ∧ (m_loT x r).toInt.natAbs ≤ 10000000000002 ∧ m_D4 (m_loB x r) := by
  have h1 := m_powD hk
  rw [← hr] at h1
  obtain ⟨q1, q2, q3, q4⟩ := m_loP (t := x) (b := r) (B := 10000000000002) (C := 10000) hx (by decide) h1.1 (by omega)
  exact ⟨q1, q2, q3, q4, m_loD hx (by decide) h1.1 h1.2.2⟩
/-! ===== ratios as whole numbers: lowest terms are one alone ===== -/
def Lw (t b : Int) : Prop := 1 ≤ b ∧ Int.gcd t b = 1
theorem Lw.eq {t b u v : Int} (h1 : Lw t b) (h2 : Lw u v) (h : t * v = u * b) : t = u ∧ b = v := by
  have g1 : Int.gcd b t = 1 := by rw [Int.gcd_comm]; exact h1.2
  have g2 : Int.gcd v u = 1 := by rw [Int.gcd_comm]; exact h2.2
  have d1 : b ∣ v := Int.gcd_eq_natAbs_left_iff_dvd.mp (by
    rw [← Int.gcd_mul_right_right_of_gcd_eq_one g1 (k := v)]
    exact Int.gcd_eq_natAbs_left ⟨u, by rw [h, Int.mul_comm]⟩)
  have d2 : v ∣ b := Int.gcd_eq_natAbs_left_iff_dvd.mp (by
    rw [← Int.gcd_mul_right_right_of_gcd_eq_one g2 (k := b)]
    exact Int.gcd_eq_natAbs_left ⟨t, by rw [← h, Int.mul_comm]⟩)
  have hb := h1.1
  have hv := h2.1
  have e : b = v := Int.dvd_antisymm (by omega) (by omega) d1 d2
  subst e
  exact ⟨Int.eq_of_mul_eq_mul_right (by omega) h, rfl⟩
def L64 (t b : Int64) : Prop := Lw t.toInt b.toInt
theorem L64.eq {t b u v : Int64} (h1 : L64 t b) (h2 : L64 u v) (h : t.toInt * v.toInt = u.toInt * b.toInt) : t = u ∧ b = v := by
  obtain ⟨e1, e2⟩ := Lw.eq h1 h2 h
  exact ⟨Int64.toInt_inj.mp e1, Int64.toInt_inj.mp e2⟩
/-- one number, told twice -/
theorem q_tr {t b u v x y : Int} (hv : v ≠ 0) (h1 : t * v = u * b) (h2 : u * y = x * v) : t * y = x * b := by
  have e : (t * y) * v = (x * b) * v := by
    have a1 : (t * y) * v = (t * v) * y := by rw [Int.mul_assoc, Int.mul_comm y v, ← Int.mul_assoc]
    have a2 : (x * b) * v = (x * v) * b := by rw [Int.mul_assoc, Int.mul_comm b v, ← Int.mul_assoc]
    rw [a1, a2, h1, ← h2, Int.mul_assoc, Int.mul_comm b y, ← Int.mul_assoc]
  exact Int.eq_of_mul_eq_mul_right hv e
theorem q_ne0 {b : Int64} (h : ¬ b = 0) : b.toInt ≠ 0 := fun z => h (Int64.toInt_inj.mp (by rw [z]; rfl))
theorem q_lo {t b : Int64} (ht : -9223372036854775808 < t.toInt) (hb : -9223372036854775808 < b.toInt) (h0 : ¬ b = 0) : L64 (m_loT t b) (m_loB t b) ∧ (m_loT t b).toInt * b.toInt = t.toInt * (m_loB t b).toInt := by
  have hb0 := q_ne0 h0
  have hg := m_divI ht hb
  have hg1 : 0 < Nat.gcd b.toInt.natAbs t.toInt.natAbs := Nat.gcd_pos_of_pos_left _ (by omega)
  have hg0 := Nat.gcd_comm b.toInt.natAbs t.toInt.natAbs
  obtain ⟨G, hG⟩ : ∃ G, G = Nat.gcd b.toInt.natAbs t.toInt.natAbs := ⟨_, rfl⟩
  rw [← hG] at hg hg1 hg0
  have hgd1 : (G : Int) ∣ b.toInt := Int.ofNat_dvd_left.mpr (by rw [hG]; exact Nat.gcd_dvd_left _ _)
  have hgd2 : (G : Int) ∣ t.toInt := Int.ofNat_dvd_left.mpr (by rw [hG]; exact Nat.gcd_dvd_right _ _)
  have hy : 1 ≤ (m_div t b).toInt := by omega
  obtain ⟨d1, d2⟩ := m_tdv hb hy
  obtain ⟨e1, e2⟩ := m_tdv ht hy
  rw [hg] at d1 e1
  obtain ⟨-, p1, p2, p3⟩ := m_lo ht hb h0
  have h8 := t.toInt_lt
  have h9 := b.toInt_lt
  have q1 : (b.toInt.tdiv G).natAbs ≤ b.toInt.natAbs := by rw [Int.natAbs_tdiv]; exact Nat.div_le_self _ _
  have q2 : (t.toInt.tdiv G).natAbs ≤ t.toInt.natAbs := by rw [Int.natAbs_tdiv]; exact Nat.div_le_self _ _
  have r1 : (m_loB t b).toInt = (if 0 ≤ b then (b / m_div t b).toInt else -(b / m_div t b).toInt) := m_sgI (by rw [d1]; omega)
  have r2 : (m_loT t b).toInt = (if 0 ≤ b then (t / m_div t b).toInt else -(t / m_div t b).toInt) := m_sgI (by rw [e1]; omega)
  rw [d1] at r1
  rw [e1] at r2
  have b1 : b.toInt.tdiv G * G = b.toInt := Int.tdiv_mul_cancel hgd1
  have t1 : t.toInt.tdiv G * G = t.toInt := Int.tdiv_mul_cancel hgd2
  obtain ⟨B, hB⟩ : ∃ B, B = b.toInt.tdiv G := ⟨_, rfl⟩
  obtain ⟨T, hT⟩ : ∃ T, T = t.toInt.tdiv G := ⟨_, rfl⟩
  rw [← hB] at r1 b1
  rw [← hT] at r2 t1
  have hgc : Int.gcd T B = 1 := by
    have h2 : Int.gcd (T * G) (B * G) = Int.gcd T B * G := by rw [Int.gcd_mul_right]; rfl
    rw [t1, b1] at h2
    have h3 : Int.gcd t.toInt b.toInt = G := by rw [hg0]; rfl
    rw [h3] at h2
    exact Nat.eq_of_mul_eq_mul_right hg1 (by omega)
  have hx : T * b.toInt = t.toInt * B := by
    rw [← b1, ← t1, Int.mul_assoc, Int.mul_comm (G : Int) B]
  unfold L64 Lw
  rw [r1] at p1 ⊢
  rw [r2]
  by_cases hs : 0 ≤ b
  · rw [if_pos hs] at p1 ⊢
    rw [if_pos hs]
    exact ⟨⟨p1, hgc⟩, hx⟩
  · rw [if_neg hs] at p1 ⊢
    rw [if_neg hs]
    exact ⟨⟨p1, by rw [Int.neg_gcd, Int.gcd_neg]; exact hgc⟩, by rw [Int.neg_mul, hx, Int.mul_neg]⟩
/-- of the same number the lowest terms are the same -/
theorem q_loE {t b u v : Int64} (ht : -9223372036854775808 < t.toInt) (hb : -9223372036854775808 < b.toInt) (h0 : ¬ b = 0) (h1 : L64 u v) (h : t.toInt * v.toInt = u.toInt * b.toInt) : m_loT t b = u ∧ m_loB t b = v := by
  obtain ⟨p1, p2⟩ := q_lo ht hb h0
  exact L64.eq p1 h1 (q_tr (q_ne0 h0) p2 h)
theorem q_loS {t b u v : Int64} (ht : -9223372036854775808 < t.toInt) (hb : -9223372036854775808 < b.toInt) (h0 : ¬ b = 0) (hu : -9223372036854775808 < u.toInt) (hv : -9223372036854775808 < v.toInt) (h1 : ¬ v = 0) (h : t.toInt * v.toInt = u.toInt * b.toInt) : m_loT t b = m_loT u v ∧ m_loB t b = m_loB u v := by
  obtain ⟨p1, p2⟩ := q_lo hu hv h1
  exact q_loE ht hb h0 p1 (q_tr (q_ne0 h1) h p2.symm)
/-- lowest terms of lowest terms -/
theorem q_loL {t b : Int64} (ht : -9223372036854775808 < t.toInt) (h : L64 t b) : m_loT t b = t ∧ m_loB t b = b := by
  have h1 : 1 ≤ b.toInt := h.1
  exact q_loE ht (by omega) (m_ne0 h1) h rfl
/-! ===== the class's own numbers are the reference's ===== -/
theorem q_absL (a : Int64) : absL a = f_absJ a := rfl
/-- two steps halve it: 200 are enough -/
theorem q_gcd : ∀ (k n : Nat) (u v : Int64), 0 ≤ u.toInt → 0 ≤ v.toInt → v.toInt.natAbs < 2 ^ k → 2 * k ≤ n → (gcdL n u v).toInt = ((Nat.gcd v.toInt.natAbs u.toInt.natAbs : Nat) : Int) := by
  intro k
  induction k with
  | zero =>
    intro n u v hu hv h hn
    have h0 : v = 0 := Int64.toInt_inj.mp (by
      have e0 : (0 : Int64).toInt = 0 := rfl
      have : v.toInt.natAbs < 1 := h
      omega)
    rw [gcdL_z h0, h0]
    show u.toInt = ((Nat.gcd 0 u.toInt.natAbs : Nat) : Int)
    rw [Nat.gcd_zero_left]
    omega
  | succ k ih =>
    intro n u v hu hv h hn
    obtain ⟨n, rfl⟩ : ∃ n1, n = n1 + 2 := ⟨n - 2, by omega⟩
    unfold gcdL
    by_cases h0 : v = 0
    · rw [if_pos h0, h0]
      show u.toInt = ((Nat.gcd 0 u.toInt.natAbs : Nat) : Int)
      rw [Nat.gcd_zero_left]
      omega
    · rw [if_neg h0]
      have r1 := m_rem (u := u) h0
      have r2 := m_rem_lt (u := u) h0
      have r3 : 0 ≤ (u - u / v * v).toInt := by rw [r1]; exact Int.tmod_nonneg _ hu
      have r4 : (u - u / v * v).toInt.natAbs = u.toInt.natAbs % v.toInt.natAbs := by rw [r1, Int.natAbs_tmod]
      obtain ⟨r, hr⟩ : ∃ r, r = u - u / v * v := ⟨_, rfl⟩
      rw [← hr] at r1 r2 r3 r4 ⊢
      unfold gcdL
      have hgr : Nat.gcd v.toInt.natAbs u.toInt.natAbs = Nat.gcd r.toInt.natAbs v.toInt.natAbs := by rw [Nat.gcd_rec, r4]
      by_cases h1 : r = 0
      · rw [if_pos h1, hgr, h1]
        show v.toInt = ((Nat.gcd 0 v.toInt.natAbs : Nat) : Int)
        rw [Nat.gcd_zero_left]
        omega
      · rw [if_neg h1]
        have s1 := m_rem (u := v) h1
        have s2 := m_rem_lt (u := v) h1
        have s3 : 0 ≤ (v - v / r * r).toInt := by rw [s1]; exact Int.tmod_nonneg _ hv
        have s4 : (v - v / r * r).toInt.natAbs = v.toInt.natAbs % r.toInt.natAbs := by rw [s1, Int.natAbs_tmod]
        have hr0 : r.toInt ≠ 0 := q_ne0 h1
        have s5 : 2 * (v.toInt.natAbs % r.toInt.natAbs) < v.toInt.natAbs + 1 := by
          have a1 : v.toInt.natAbs % r.toInt.natAbs < r.toInt.natAbs := Nat.mod_lt _ (by omega)
          have a2 := Nat.div_add_mod v.toInt.natAbs r.toInt.natAbs
          have a3 : 1 ≤ v.toInt.natAbs / r.toInt.natAbs := (Nat.one_le_div_iff (by omega)).mpr (by omega)
          have a4 : r.toInt.natAbs * 1 ≤ r.toInt.natAbs * (v.toInt.natAbs / r.toInt.natAbs) := Nat.mul_le_mul_left _ a3
          omega
        have hp : 2 ^ (k + 1) = 2 * 2 ^ k := by rw [Nat.pow_succ, Nat.mul_comm]
        rw [ih n r _ r3 s3 (by omega) (by omega), s4, ← Nat.gcd_rec, hgr]
theorem q_fgcd {a b : Int64} (ha : -9223372036854775808 < a.toInt) (hb : -9223372036854775808 < b.toInt) : f_gcd a b = m_div a b := by
  apply Int64.toInt_inj.mp
  have h9 := b.toInt_lt
  rw [m_divI ha hb]
  unfold f_gcd
  rw [q_absL, q_absL, q_gcd 64 200 _ _ (by rw [m_abs ha]; omega) (by rw [m_abs hb]; omega) (by rw [m_abs hb]; omega) (by decide), m_abs ha, m_abs hb]
  rfl
/-- its FLOOR is exact where nothing is left -/
theorem q_flx {x d : Int64} (hx : -9223372036854775808 < x.toInt) (hd : d.toInt ≠ 0) (h : d.toInt ∣ x.toInt) : f_floorOf x d = x / d := by
  have h9 := x.toInt_lt
  have hd0 : ¬ d = 0 := fun z => hd (by rw [z]; rfl)
  have e1 : x / d * d = x := by
    have hr := m_rem (u := x) hd0
    rw [Int.tmod_eq_zero_of_dvd h] at hr
    have e2 : x - x / d * d = 0 := Int64.toInt_inj.mp (by rw [hr]; rfl)
    have e3 : x - x / d * d + x / d * d = 0 + x / d * d := by rw [e2]
    rw [Int64.sub_add_cancel, Int64.zero_add] at e3
    exact e3.symm
  unfold f_floorOf
  rw [if_neg hd0]
  unfold fdv
  split
  · rfl
  · first | rfl | rw [if_pos e1]
theorem q_bec {t b : Int64} (ht : -9223372036854775808 < t.toInt) (hb : -9223372036854775808 < b.toInt) (h0 : ¬ b = 0) : f_floorOf t (f_dv t b) = m_loT t b ∧ f_floorOf b (f_dv t b) = m_loB t b := by
  have hb0 := q_ne0 h0
  have h8 := t.toInt_lt
  have h9 := b.toInt_lt
  have hg := m_divI ht hb
  have hg1 : 0 < Nat.gcd b.toInt.natAbs t.toInt.natAbs := Nat.gcd_pos_of_pos_left _ (by omega)
  have hg2 : Nat.gcd b.toInt.natAbs t.toInt.natAbs ≤ b.toInt.natAbs := Nat.le_of_dvd (by omega) (Nat.gcd_dvd_left _ _)
  have hgd1 : (m_div t b).toInt ∣ b.toInt := by rw [hg]; exact Int.ofNat_dvd_left.mpr (Nat.gcd_dvd_left _ _)
  have hgd2 : (m_div t b).toInt ∣ t.toInt := by rw [hg]; exact Int.ofNat_dvd_left.mpr (Nat.gcd_dvd_right _ _)
  have hy : 1 ≤ (m_div t b).toInt := by omega
  unfold f_dv m_loT m_loB m_sg
  rw [q_fgcd ht hb]
  by_cases hs : 0 ≤ b
  · rw [if_pos hs, if_pos hs, q_flx ht (by omega) hgd2, q_flx hb (by omega) hgd1, Int64.one_mul, Int64.one_mul]
    exact ⟨rfl, rfl⟩
  · rw [if_neg hs, if_neg hs]
    have en : (-(m_div t b)).toInt = -(m_div t b).toInt := (m_negB (x := m_div t b) (B := 9223372036854775807) (by omega) (by decide)).1
    have k1 : (-(m_div t b)).toInt ∣ t.toInt := by rw [en]; exact Int.neg_dvd.mpr hgd2
    have k2 : (-(m_div t b)).toInt ∣ b.toInt := by rw [en]; exact Int.neg_dvd.mpr hgd1
    rw [q_flx ht (by omega) k1, q_flx hb (by omega) k2]
    have hq : ∀ x : Int64, -9223372036854775808 < x.toInt → x / -(m_div t b) = -1 * (x / m_div t b) := by
      intro x hx
      apply Int64.toInt_inj.mp
      obtain ⟨d1, d2⟩ := m_tdv (x := x) (y := m_div t b) hx hy
      have d3 : (x.toInt.tdiv (m_div t b).toInt).natAbs ≤ x.toInt.natAbs := by rw [Int.natAbs_tdiv]; exact Nat.div_le_self _ _
      have hx9 := x.toInt_lt
      have e1 : (-1 * (x / m_div t b)).toInt = -(x / m_div t b).toInt := by
        have := (m_mulB (x := -1) (y := x / m_div t b) (B := 1) (C := 9223372036854775807) (by decide) (by rw [d1]; omega) (by decide)).1
        rw [this, show (-1 : Int64).toInt = -1 by decide, Int.neg_mul, Int.one_mul]
      rw [e1, d1, Int64.toInt_div, en, Int.tdiv_neg]
      generalize x.toInt.tdiv (m_div t b).toInt = z at *
      simp only [Int.bmod]
      split <;> omega
    exact ⟨hq t ht, hq b hb⟩
/-- the FLOORs, as whole numbers -/
theorem q_ffl {a b : Int64} (ha : a.toInt.natAbs < 4611686018427387904) (hb : 1 ≤ b.toInt) : f_floorOf a b = m_floor a b := by
  have hb0 : ¬ b = 0 := m_ne0 hb
  have hr := m_rem (u := a) hb0
  have hrl := m_rem_lt (u := a) hb0
  obtain ⟨d1, d2⟩ := m_tdv (x := a) (y := b) (by omega) hb
  have hb9 : (0 : Int64) ≤ b := Int64.le_iff_toInt_le.mpr (by show (0 : Int) ≤ b.toInt; omega)
  unfold f_floorOf m_floor
  rw [if_neg hb0]
  unfold fdv
  by_cases hz : a - a / b * b = 0
  · have e3 : a / b * b = a := by
      have e4 : a - a / b * b + a / b * b = 0 + a / b * b := by rw [hz]
      rw [Int64.sub_add_cancel, Int64.zero_add] at e4
      exact e4.symm
    rw [if_pos hz]
    split
    · rfl
    · first | rfl | rw [if_pos e3]
  · rw [if_neg hz, if_pos hb9, if_pos hb9]
    have e3 : ¬ a / b * b = a := fun z => hz (by rw [z, Int64.sub_self])
    rw [if_neg e3]
    have hx : (0 ≤ (a ^^^ b)) ↔ 0 ≤ a := by
      have x1 := Int64.le_iff_toInt_le (x := 0) (y := a ^^^ b)
      have x2 := Int64.le_iff_toInt_le (x := 0) (y := a)
      have e0 : (0 : Int64).toInt = 0 := rfl
      rw [e0] at x1 x2
      rw [x1, x2]
      have b1 : a.toInt = a.toBitVec.toInt := rfl
      have b2 : (a ^^^ b).toInt = (a.toBitVec ^^^ b.toBitVec).toInt := by rw [← Int64.toBitVec_xor]; rfl
      have b3 : b.toInt = b.toBitVec.toInt := rfl
      rw [b2, b1]
      have m1 := BitVec.msb_eq_toInt (x := a.toBitVec)
      have m2 := BitVec.msb_eq_toInt (x := b.toBitVec)
      have m3 := BitVec.msb_eq_toInt (x := a.toBitVec ^^^ b.toBitVec)
      rw [BitVec.msb_xor] at m3
      have m4 : b.toBitVec.msb = false := by rw [m2, ← b3]; exact decide_eq_false (by omega)
      rw [m4, Bool.xor_false, m1] at m3
      have m5 := decide_eq_decide.mp m3
      omega
    have hs : 0 ≤ a → 0 ≤ (a - a / b * b).toInt := by
      intro h
      rw [hr]
      exact Int.tmod_nonneg _ (Int64.le_iff_toInt_le.mp h)
    have hs2 : ¬ 0 ≤ a → (a - a / b * b).toInt ≤ 0 := by
      intro h
      have h1 := Int64.lt_iff_toInt_lt.mp (Int64.not_le.mp h)
      have e0 : (0 : Int64).toInt = 0 := rfl
      rw [hr]
      have h3 : 0 ≤ (-a.toInt).tmod b.toInt := Int.tmod_nonneg _ (by omega)
      rw [Int.neg_tmod] at h3
      omega
    by_cases h : 0 ≤ a
    · rw [if_pos (hx.mpr h), if_pos ((Int64.le_iff_toInt_le (x := 0) (y := a - a / b * b)).mpr (hs h))]
    · rw [if_neg (fun z => h (hx.mp z))]
      have h5 := hs2 h
      have h6 : (a - a / b * b).toInt ≠ 0 := q_ne0 hz
      rw [if_neg (fun z => by
        have := Int64.le_iff_toInt_le.mp z
        have e0 : (0 : Int64).toInt = 0 := rfl
        omega)]
