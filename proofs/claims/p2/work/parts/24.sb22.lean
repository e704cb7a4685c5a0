set_option maxHeartbeats 4000000 in
set_option maxRecDepth 100000 in
/-- java/util/Arrays.copyOfRange([BII)[B -/
theorem c_J7_copyOfRange_39247 (l : Launch) (D : va_G) (tk : Nat → ClassId) (N0 : Nat) (sa : Nat → Nat)  (sz : Nat) (b n i j : Nat) (fr to : Int32) (hfr : fr = nI i) (hto : to = nI j) (hij : i ≤ j) (hj9 : j ≤ 100000000) (hjn : j ≤ n) (hn9 : n ≤ 100000000) : Met l yJ7_copyOfRange_39247 (wsy yJ7_copyOfRange_39247 cJ7_copyOfRange_39247 3 (some (.array .byte))) ({ frames := 2, cells := 1, slots := j - i, locals := 50 } : Room) (cP D tk N0 sa [.ref b, .int fr, .int to] sz (fun H => BA D tk b n H)) (kQr (fun r H => sz ≤ r ∧ BA D tk r (j - i) H) (nwA sz)) (1) (j - i) (nwA sz) := by
  refine mStart RJ7 rfl (by decide +kernel) (Nat.le_of_ble_eq_true rfl) ?_
  intro p e s m args below meth c E hr hlk hnm hsz hC hF ls hl
  subst hsz
  obtain ⟨hx, hb, -⟩ := id E
  have hA : ∀ q, (nwA s.heap.size) q → N0 ≤ q := fun q h => Nat.le_trans hC.2.1 h
  have hn : ∀ q, s.heap.size ≤ q → (nwA s.heap.size) q := fun q h => h
  have hS : va_S (nwA s.heap.size) s.heap s.heap [] := va_S.rf
  have hl : lv_has ls 3 [(0, .ref b), (1, .int fr), (2, .int to)] := hl
  have hB : BA D tk b n s.heap := hF
  refine lv_iload_n (pc := 0) hx hb dJ7_copyOfRange_39247_0 rfl (lv_at hl 1 rfl) ?_
  refine lv_if_ne (pc := 1) (tgt := 10) hx hb dJ7_copyOfRange_39247_1 (by decide) (fun c_1 => ?_) (fun c_1 => ?_)
  · refine lv_aload_n (pc := 10) hx hb dJ7_copyOfRange_39247_10 rfl (lv_at hl 0 rfl) ?_
    refine lv_iload_n (pc := 11) hx hb dJ7_copyOfRange_39247_11 rfl (lv_at hl 1 rfl) ?_
    refine lv_iload_n (pc := 12) hx hb dJ7_copyOfRange_39247_12 rfl (lv_at hl 2 rfl) ?_
    have hZ0_ := hS.1
    have t_hB := hB.lt
    refine k_r (pc := 13) (k_S E hC hS hA hl.1 (c_J7_copyOfRangeByte_39247 l D tk N0 sa s.heap.size b n i j fr to hfr hto hij hj9 hjn hn9) kw_345 kw_346 kw_24 kw_347 (n := 3) (by decide +kernel) rfl ⟨⟨rfl, rfl⟩, ⟨Nat.le_of_ble_eq_true rfl, Nat.le_of_ble_eq_true rfl⟩, (by dsimp only; omega), (by dsimp only; omega)⟩ rfl (Nat.le_of_ble_eq_true rfl) hB.bx dJ7_copyOfRange_39247_13) hS (fun q z w => absurd w (Nat.not_le.mpr z)) hn (fun r_2 H locs hR hz hk hS => ?_)
    have hB := hB.kept (hk _ hB.lt (Nat.not_le.mpr hB.lt))
    obtain ⟨z9_, f3⟩ := hR
    have s_f3 : s.heap.size ≤ r_2 := Nat.le_trans hZ0_ z9_
    have g_f3 := hn _ s_f3
    have l_hB_f3 : b < r_2 := Nat.lt_of_lt_of_le t_hB z9_
    refine r_aret (pc := 16) E hr (Or.inr ⟨_, rfl⟩) hlk hS (by omega) (by omega) ?_ dJ7_copyOfRange_39247_16
    exact ⟨s_f3, f3⟩
  · refine lv_iload_n (pc := 4) hx hb dJ7_copyOfRange_39247_4 rfl (lv_at hl 2 rfl) ?_
    refine lv_aload_n (pc := 5) hx hb dJ7_copyOfRange_39247_5 rfl (lv_at hl 0 rfl) ?_
    obtain ⟨x_4, ex_4⟩ : ∃ z9 : Int32, z9 = nI n := ⟨_, rfl⟩
    refine r_alenB (pc := 6) E hC hB (v := x_4) ex_4.symm dJ7_copyOfRange_39247_6 ?_
    refine lv_icmp_eq (pc := 7) (tgt := 17) hx hb dJ7_copyOfRange_39247_7 (by decide) (fun c_5 => ?_) (fun c_5 => ?_)
    · have i09 : i = 0 := (nI_eq (by omega) (by decide)).mp (hfr.symm.trans (c_1.trans nI_0.symm))
      have jn9 : j = n := (nI_eq (by omega) (by omega)).mp (hto.symm.trans (c_5.trans ex_4))
      refine lv_aload_n (pc := 17) hx hb dJ7_copyOfRange_39247_17 rfl (lv_at hl 0 rfl) ?_
      have hS0_ := hS
      refine r_cloneB (pc := 18) E hC hl.1 hB hS kw_211 (by exact Nat.le_of_ble_eq_true rfl) (by decide) (by exact Nat.le_of_ble_eq_true rfl) (by dsimp only; omega) (by dsimp only; omega) dJ7_copyOfRange_39247_18 (fun qf6 H zq_ n_ ho_ hS => ?_)
      have l_hB_f6 : b < qf6 := zq_ ▸ hB.lt
      have hB := hB.kept (ho_ _ hB.lt)
      have f6 := n_
      have s_f6 : s.heap.size ≤ qf6 := zq_ ▸ hS0_.1
      have g_f6 := hn _ s_f6
      refine r_castB (pc := 21) E hC f6 kw_217 dJ7_copyOfRange_39247_21 ?_
      refine r_aret (pc := 24) E hr (Or.inr ⟨_, rfl⟩) hlk hS (by omega) (by omega) ?_ dJ7_copyOfRange_39247_24
      exact ⟨s_f6, (by rw [show j - i = n by omega]; exact f6)⟩
    · refine lv_aload_n (pc := 10) hx hb dJ7_copyOfRange_39247_10 rfl (lv_at hl 0 rfl) ?_
      refine lv_iload_n (pc := 11) hx hb dJ7_copyOfRange_39247_11 rfl (lv_at hl 1 rfl) ?_
      refine lv_iload_n (pc := 12) hx hb dJ7_copyOfRange_39247_12 rfl (lv_at hl 2 rfl) ?_
      have hZ0_ := hS.1
      have t_hB := hB.lt
      refine k_r (pc := 13) (k_S E hC hS hA hl.1 (c_J7_copyOfRangeByte_39247 l D tk N0 sa s.heap.size b n i j fr to hfr hto hij hj9 hjn hn9) kw_345 kw_346 kw_24 kw_347 (n := 3) (by decide +kernel) rfl ⟨⟨rfl, rfl⟩, ⟨Nat.le_of_ble_eq_true rfl, Nat.le_of_ble_eq_true rfl⟩, (by dsimp only; omega), (by dsimp only; omega)⟩ rfl (Nat.le_of_ble_eq_true rfl) hB.bx dJ7_copyOfRange_39247_13) hS (fun q z w => absurd w (Nat.not_le.mpr z)) hn (fun r_7 H locs hR hz hk hS => ?_)
      have hB := hB.kept (hk _ hB.lt (Nat.not_le.mpr hB.lt))
      obtain ⟨z9_, f8⟩ := hR
      have s_f8 : s.heap.size ≤ r_7 := Nat.le_trans hZ0_ z9_
      have g_f8 := hn _ s_f8
      have l_hB_f8 : b < r_7 := Nat.lt_of_lt_of_le t_hB z9_
      refine r_aret (pc := 16) E hr (Or.inr ⟨_, rfl⟩) hlk hS (by omega) (by omega) ?_ dJ7_copyOfRange_39247_16
      exact ⟨s_f8, f8⟩
