set_option maxHeartbeats 4000000 in
set_option maxRecDepth 100000 in
/-- java/lang/String.substring(II)Ljava/lang/String; -/
theorem c_J0_substring_37a41 (l : Launch) (D : va_G) (tk : Nat → ClassId) (N0 : Nat) (sa : Nat → Nat)  (sz : Nat) (t k i j : Nat) (fr to : Int32) (hfr : fr = nI i) (hto : to = nI j) (hij : i ≤ j) (hjk : j ≤ k) (hk9 : k ≤ 100000000) : Met l yJ0_substring_37a41 (wsy yJ0_substring_37a41 cJ0_substring_37a41 5 (some (.object "java/lang/String"))) ({ frames := 4, cells := 2, slots := 4 + (j - i), locals := 94 } : Room) (cP D tk N0 sa [.ref t, .int fr, .int to] sz (fun H => SX D tk t k H)) (kQr (fun r H => SX D tk r (j - i) H) (nwA sz)) (2) (4 + (j - i)) (nwA sz) := by
  refine mStart RJ0 rfl (by decide +kernel) (Nat.le_of_ble_eq_true rfl) ?_
  intro p e s m args below meth c E hr hlk hnm hsz hC hF ls hl
  subst hsz
  obtain ⟨hx, hb, -⟩ := id E
  have hA : ∀ q, (nwA s.heap.size) q → N0 ≤ q := fun q h => Nat.le_trans hC.2.1 h
  have hn : ∀ q, s.heap.size ≤ q → (nwA s.heap.size) q := fun q h => h
  have hS : va_S (nwA s.heap.size) s.heap s.heap [] := va_S.rf
  have hl : lv_has ls 5 [(0, .ref t), (1, .int fr), (2, .int to)] := hl
  obtain ⟨b0, h0, h1, h2⟩ : SX D tk t k s.heap := hF
  refine lv_aload_n (pc := 0) hx hb dJ0_substring_37a41_0 rfl (lv_at hl 0 rfl) ?_
  refine k_i (pc := 1) (k_V E hC hS hA hl.1 (xf.recv hC h0 rfl) rfl (c_J0_length_8abf5 l D tk N0 sa s.heap.size t k) kw_1717 kw_413 kw_414 kw_20 kw_415 (n := 0) (by decide +kernel) rfl ⟨⟨rfl, rfl⟩, ⟨Nat.le_of_ble_eq_true rfl, Nat.le_of_ble_eq_true rfl⟩, (by dsimp only; omega), (by dsimp only; omega)⟩ rfl (Nat.le_of_ble_eq_true rfl) ⟨_, h0, h1, h2⟩ dJ0_substring_37a41_1) hS (fun q z w => absurd w (Nat.not_le.mpr z)) hn (fun r_1 H locs hR hz hk hS => ?_)
  have h0 := h0.kept (hk _ h0.lt (Nat.not_le.mpr h0.lt))
  have h1 := h1.kept (hk _ h1.lt (Nat.not_le.mpr h1.lt))
  have h2 := h2.kept (hk _ h2.lt (Nat.not_le.mpr h2.lt))
  rw [show r_1 = nI k from hR]
  obtain ⟨x_2, ex_2⟩ : ∃ z9 : Int32, z9 = nI k := ⟨_, rfl⟩
  rw [← ex_2]
  refine lv_istore_n (pc := 4) (lv' := [(3, .int x_2), (0, .ref t), (1, .int fr), (2, .int to)]) hx hb dJ0_substring_37a41_4 rfl hl (by decide) rfl (fun ls hl => ?_)
  refine lv_iload_n (pc := 5) hx hb dJ0_substring_37a41_5 rfl (lv_at hl 2 rfl) ?_
  refine lv_iload_n (pc := 6) hx hb dJ0_substring_37a41_6 rfl (lv_at hl 3 rfl) ?_
  refine lv_iload_n (pc := 7) hx hb dJ0_substring_37a41_7 rfl (lv_at hl 0 rfl) ?_
  refine k_v (pc := 8) (k_S E hC hS hA hl.1 (c_J0_checkBoundsBeginEnd_23922 l D tk N0 sa H.size fr to x_2 i j k hfr hto ex_2 hij hjk hk9) kw_1718 kw_305 kw_20 kw_306 (n := 3) (by decide +kernel) rfl ⟨⟨rfl, rfl⟩, ⟨Nat.le_of_ble_eq_true rfl, Nat.le_of_ble_eq_true rfl⟩, (by dsimp only; omega), (by dsimp only; omega)⟩ rfl (Nat.le_of_ble_eq_true rfl) trivial dJ0_substring_37a41_8) hS (fun q z w => absurd w (Nat.not_le.mpr z)) hn (fun H locs hR hz hk hS => ?_)
  have h0 := h0.kept (hk _ h0.lt (Nat.not_le.mpr h0.lt))
  have h1 := h1.kept (hk _ h1.lt (Nat.not_le.mpr h1.lt))
  have h2 := h2.kept (hk _ h2.lt (Nat.not_le.mpr h2.lt))
  refine lv_iload_n (pc := 11) hx hb dJ0_substring_37a41_11 rfl (lv_at hl 2 rfl) ?_
  refine lv_if_ne (pc := 12) (tgt := 22) hx hb dJ0_substring_37a41_12 (by decide) (fun c_4 => ?_) (fun c_4 => ?_)
  · have hno : i = 0 → i + (j - i) = k → False := fun z9 _ => c_4 (by rw [hfr, z9]; exact nI_0)
    refine lv_iload_n (pc := 22) hx hb dJ0_substring_37a41_22 rfl (lv_at hl 3 rfl) ?_
    refine lv_iload_n (pc := 23) hx hb dJ0_substring_37a41_23 rfl (lv_at hl 2 rfl) ?_
    refine lv_isub (pc := 24) hx hb dJ0_substring_37a41_24 ?_
    obtain ⟨x_5, ex_5⟩ : ∃ z9 : Int32, z9 = to - fr := ⟨_, rfl⟩
    rw [← ex_5]
    refine lv_istore (pc := 25) (lv' := [(4, .int x_5), (3, .int x_2), (0, .ref t), (1, .int fr), (2, .int to)]) hx hb dJ0_substring_37a41_25 hl (by decide) rfl (fun ls hl => ?_)
    refine lv_aload_n (pc := 27) hx hb dJ0_substring_37a41_27 rfl (lv_at hl 2 rfl) ?_
    refine k_i (pc := 28) (k_V E hC hS hA hl.1 (xf.recv hC h0 rfl) rfl (c_J0_isLatin1_aae02 l D tk N0 sa H.size t k) kw_1719 kw_1720 kw_1721 kw_20 kw_1722 (n := 0) (by decide +kernel) rfl ⟨⟨rfl, rfl⟩, ⟨Nat.le_of_ble_eq_true rfl, Nat.le_of_ble_eq_true rfl⟩, (by dsimp only; omega), (by dsimp only; omega)⟩ rfl (Nat.le_of_ble_eq_true rfl) ⟨_, h0, h1, h2⟩ dJ0_substring_37a41_28) hS (fun q z w => absurd w (Nat.not_le.mpr z)) hn (fun r_6 H locs hR hz hk hS => ?_)
    have h0 := h0.kept (hk _ h0.lt (Nat.not_le.mpr h0.lt))
    have h1 := h1.kept (hk _ h1.lt (Nat.not_le.mpr h1.lt))
    have h2 := h2.kept (hk _ h2.lt (Nat.not_le.mpr h2.lt))
    rw [show r_6 = 1 from hR]
    refine lv_if_eq (pc := 31) (tgt := 47) hx hb dJ0_substring_37a41_31 (by decide) (fun c_7 => ?_) (fun c_7 => ?_)
    · exact absurd c_7 (by decide)
    refine lv_aload_n (pc := 34) hx hb dJ0_substring_37a41_34 rfl (lv_at hl 2 rfl) ?_
    refine r_getX (pc := 35) E hC h0 rfl (by decide) uJ0 (List.mem_cons_of_mem _ kw_475) (fun _ h => h) dJ0_substring_37a41_35 ?_
    refine lv_iload_n (pc := 38) hx hb dJ0_substring_37a41_38 rfl (lv_at hl 3 rfl) ?_
    refine lv_iload (pc := 39) hx hb dJ0_substring_37a41_39 (lv_at hl 0 rfl) ?_
    have hZ0_ := hS.1
    have t_h0 := h0.lt
    have t_h1 := h1.lt
    have t_h2 := h2.lt
    refine k_r (pc := 41) (k_S E hC hS hA hl.1 (c_J1_newString_b4f7a l D tk N0 sa H.size b0 k i (j - i) fr x_5 hfr (by rw [ex_5, hfr, hto]; exact pk_sub hij) (by omega) hno hk9) kw_1723 kw_1724 kw_27 kw_1725 (n := 3) (by decide +kernel) rfl ⟨⟨rfl, rfl⟩, ⟨Nat.le_of_ble_eq_true rfl, Nat.le_of_ble_eq_true rfl⟩, (by dsimp only; omega), (by dsimp only; omega)⟩ rfl (Nat.le_of_ble_eq_true rfl) h2 dJ0_substring_37a41_41) hS (fun q z w => absurd w (Nat.not_le.mpr z)) hn (fun r_8 H locs hR hz hk hS => ?_)
    have h0 := h0.kept (hk _ h0.lt (Nat.not_le.mpr h0.lt))
    have h1 := h1.kept (hk _ h1.lt (Nat.not_le.mpr h1.lt))
    have h2 := h2.kept (hk _ h2.lt (Nat.not_le.mpr h2.lt))
    have f9 := hR
    refine lv_goto (pc := 44) (tgt := 57) hx hb dJ0_substring_37a41_44 (by decide) ?_
    refine r_aret (pc := 57) E hr (Or.inl ⟨_, rfl⟩) hlk hS (by omega) (by omega) ?_ dJ0_substring_37a41_57
    exact f9
  · refine lv_iload_n (pc := 15) hx hb dJ0_substring_37a41_15 rfl (lv_at hl 3 rfl) ?_
    refine lv_iload_n (pc := 16) hx hb dJ0_substring_37a41_16 rfl (lv_at hl 0 rfl) ?_
    refine lv_icmp_ne (pc := 17) (tgt := 22) hx hb dJ0_substring_37a41_17 (by decide) (fun c_10 => ?_) (fun c_10 => ?_)
    · have hno : i = 0 → i + (j - i) = k → False := fun _ z9 => c_10 (by rw [hto, ex_2, show j = k by omega])
      refine lv_iload_n (pc := 22) hx hb dJ0_substring_37a41_22 rfl (lv_at hl 3 rfl) ?_
      refine lv_iload_n (pc := 23) hx hb dJ0_substring_37a41_23 rfl (lv_at hl 2 rfl) ?_
      refine lv_isub (pc := 24) hx hb dJ0_substring_37a41_24 ?_
      obtain ⟨x_11, ex_11⟩ : ∃ z9 : Int32, z9 = to - fr := ⟨_, rfl⟩
      rw [← ex_11]
      refine lv_istore (pc := 25) (lv' := [(4, .int x_11), (3, .int x_2), (0, .ref t), (1, .int fr), (2, .int to)]) hx hb dJ0_substring_37a41_25 hl (by decide) rfl (fun ls hl => ?_)
      refine lv_aload_n (pc := 27) hx hb dJ0_substring_37a41_27 rfl (lv_at hl 2 rfl) ?_
      refine k_i (pc := 28) (k_V E hC hS hA hl.1 (xf.recv hC h0 rfl) rfl (c_J0_isLatin1_aae02 l D tk N0 sa H.size t k) kw_1719 kw_1720 kw_1721 kw_20 kw_1722 (n := 0) (by decide +kernel) rfl ⟨⟨rfl, rfl⟩, ⟨Nat.le_of_ble_eq_true rfl, Nat.le_of_ble_eq_true rfl⟩, (by dsimp only; omega), (by dsimp only; omega)⟩ rfl (Nat.le_of_ble_eq_true rfl) ⟨_, h0, h1, h2⟩ dJ0_substring_37a41_28) hS (fun q z w => absurd w (Nat.not_le.mpr z)) hn (fun r_12 H locs hR hz hk hS => ?_)
      have h0 := h0.kept (hk _ h0.lt (Nat.not_le.mpr h0.lt))
      have h1 := h1.kept (hk _ h1.lt (Nat.not_le.mpr h1.lt))
      have h2 := h2.kept (hk _ h2.lt (Nat.not_le.mpr h2.lt))
      rw [show r_12 = 1 from hR]
      refine lv_if_eq (pc := 31) (tgt := 47) hx hb dJ0_substring_37a41_31 (by decide) (fun c_13 => ?_) (fun c_13 => ?_)
      · exact absurd c_13 (by decide)
      refine lv_aload_n (pc := 34) hx hb dJ0_substring_37a41_34 rfl (lv_at hl 2 rfl) ?_
      refine r_getX (pc := 35) E hC h0 rfl (by decide) uJ0 (List.mem_cons_of_mem _ kw_475) (fun _ h => h) dJ0_substring_37a41_35 ?_
      refine lv_iload_n (pc := 38) hx hb dJ0_substring_37a41_38 rfl (lv_at hl 3 rfl) ?_
      refine lv_iload (pc := 39) hx hb dJ0_substring_37a41_39 (lv_at hl 0 rfl) ?_
      have hZ0_ := hS.1
      have t_h0 := h0.lt
      have t_h1 := h1.lt
      have t_h2 := h2.lt
      refine k_r (pc := 41) (k_S E hC hS hA hl.1 (c_J1_newString_b4f7a l D tk N0 sa H.size b0 k i (j - i) fr x_11 hfr (by rw [ex_11, hfr, hto]; exact pk_sub hij) (by omega) hno hk9) kw_1723 kw_1724 kw_27 kw_1725 (n := 3) (by decide +kernel) rfl ⟨⟨rfl, rfl⟩, ⟨Nat.le_of_ble_eq_true rfl, Nat.le_of_ble_eq_true rfl⟩, (by dsimp only; omega), (by dsimp only; omega)⟩ rfl (Nat.le_of_ble_eq_true rfl) h2 dJ0_substring_37a41_41) hS (fun q z w => absurd w (Nat.not_le.mpr z)) hn (fun r_14 H locs hR hz hk hS => ?_)
      have h0 := h0.kept (hk _ h0.lt (Nat.not_le.mpr h0.lt))
      have h1 := h1.kept (hk _ h1.lt (Nat.not_le.mpr h1.lt))
      have h2 := h2.kept (hk _ h2.lt (Nat.not_le.mpr h2.lt))
      have f15 := hR
      refine lv_goto (pc := 44) (tgt := 57) hx hb dJ0_substring_37a41_44 (by decide) ?_
      refine r_aret (pc := 57) E hr (Or.inl ⟨_, rfl⟩) hlk hS (by omega) (by omega) ?_ dJ0_substring_37a41_57
      exact f15
    · refine lv_aload_n (pc := 20) hx hb dJ0_substring_37a41_20 rfl (lv_at hl 1 rfl) ?_
      refine r_aret (pc := 21) E hr (Or.inl ⟨_, rfl⟩) hlk hS (by omega) (by omega) ?_ dJ0_substring_37a41_21
      have i09 : i = 0 := (nI_eq (by omega) (by decide)).mp (hfr.symm.trans (c_4.trans nI_0.symm))
      have jk9 : j = k := (nI_eq (by omega) (by omega)).mp (hto.symm.trans (c_10.trans ex_2))
      exact (by rw [show j - i = k by omega]; exact ⟨_, h0, h1, h2⟩)
