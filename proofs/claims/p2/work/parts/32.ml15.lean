set_option maxHeartbeats 4000000 in
set_option maxRecDepth 100000 in
/-- BestratiosModel.bestOf([JI)[J -/
theorem c_X5_bestOf (l : Launch) (D : va_G) (tk : Nat → ClassId) (N0 : Nat) (sa : Nat → Nat)  (sz : Nat) (pa : Nat) (ta : Int64) (ba : Int64) (nb_ : Int32) (kn : Nat) (hfa : m_F ta ba) (hkn : nb_ = nI kn) (hn1 : 1 ≤ kn) (hn2 : kn ≤ 200) : Met l yX5_bestOf (wsy yX5_bestOf cX5_bestOf 8 (some (.array .long))) ({ frames := 4, cells := 400, slots := 800, locals := 104 } : Room) (cP D tk N0 sa [.ref pa, .int nb_] sz (fun H => L2 D tk pa ta ba H)) (kQr (fun r H => sz ≤ r ∧ ∃ t b, L2 D tk r t b H ∧ (1 ≤ b.toInt ∧ b.toInt ≤ 200 ∧ t.toInt.natAbs ≤ 200000000001) ∧ (t, b) = m_BS ta ba kn) (nwA sz)) (400) (800) (nwA sz) := by
  refine mStart RX5 rfl (by decide +kernel) (Nat.le_of_ble_eq_true rfl) ?_
  intro p e s m args below meth c E hr hlk hnm hsz hC hF ls hl
  subst hsz
  obtain ⟨hx, hb, -⟩ := id E
  have hA : ∀ q, (nwA s.heap.size) q → N0 ≤ q := fun q h => Nat.le_trans hC.2.1 h
  have hn : ∀ q, s.heap.size ≤ q → (nwA s.heap.size) q := fun q h => h
  have hS : va_S (nwA s.heap.size) s.heap s.heap [] := va_S.rf
  have hl : lv_has ls 8 [(0, .ref pa), (1, .int nb_)] := hl
  have fa : L2 D tk pa ta ba s.heap := hF
  refine lv_aload_n (pc := 0) hx hb dX5_bestOf_0 rfl (lv_at hl 0 rfl) ?_
  refine lv_iload_n (pc := 1) hx hb dX5_bestOf_1 rfl (lv_at hl 1 rfl) ?_
  refine lv_iconst (pc := 2) (v := 0) hx hb dX5_bestOf_2 (by decide) ?_
  have hZ0_ := hS.1
  have t_fa := fa.lt
  refine k_r (pc := 3) (k_S E hC hS hA hl.1 (c_X5_neighbour l D tk N0 sa s.heap.size pa ta ba nb_ 0 kn hfa hkn hn1 hn2) kw_1627 kw_1628 kw_5 kw_1629 (n := 3) (by decide +kernel) rfl ⟨⟨rfl, rfl⟩, ⟨Nat.le_of_ble_eq_true rfl, Nat.le_of_ble_eq_true rfl⟩, (by dsimp only; omega), (by dsimp only; omega)⟩ rfl (Nat.le_of_ble_eq_true rfl) fa dX5_bestOf_3) hS (fun q z w => absurd w (Nat.not_le.mpr z)) hn (fun r_1 H locs hR hz hk hS => ?_)
  have fa := fa.kept (hk _ fa.lt (Nat.not_le.mpr fa.lt))
  obtain ⟨z9_, tt_f2, bb_f2, f2, hb_f2, hv_f2⟩ := hR
  have s_f2 : s.heap.size ≤ r_1 := Nat.le_trans hZ0_ z9_
  have g_f2 := hn _ s_f2
  have l_fa_f2 : pa < r_1 := Nat.lt_of_lt_of_le t_fa z9_
  refine lv_astore_n (pc := 6) (lv' := [(2, .ref r_1), (0, .ref pa), (1, .int nb_)]) hx hb dX5_bestOf_6 rfl hl (by decide) rfl (fun ls hl => ?_)
  refine lv_aload_n (pc := 7) hx hb dX5_bestOf_7 rfl (lv_at hl 1 rfl) ?_
  refine lv_iload_n (pc := 8) hx hb dX5_bestOf_8 rfl (lv_at hl 2 rfl) ?_
  refine lv_iconst (pc := 9) (v := 1) hx hb dX5_bestOf_9 (by decide) ?_
  have hZ0_ := hS.1
  have t_fa := fa.lt
  have t_f2 := f2.lt
  refine k_r (pc := 10) (k_S E hC hS hA hl.1 (c_X5_neighbour l D tk N0 sa H.size pa ta ba nb_ 1 kn hfa hkn hn1 hn2) kw_1627 kw_1628 kw_5 kw_1629 (n := 3) (by decide +kernel) rfl ⟨⟨rfl, rfl⟩, ⟨Nat.le_of_ble_eq_true rfl, Nat.le_of_ble_eq_true rfl⟩, (by dsimp only; omega), (by dsimp only; omega)⟩ rfl (Nat.le_of_ble_eq_true rfl) fa dX5_bestOf_10) hS (fun q z w => absurd w (Nat.not_le.mpr z)) hn (fun r_3 H locs hR hz hk hS => ?_)
  have fa := fa.kept (hk _ fa.lt (Nat.not_le.mpr fa.lt))
  have f2 := f2.kept (hk _ f2.lt (Nat.not_le.mpr f2.lt))
  obtain ⟨z9_, tt_f4, bb_f4, f4, hb_f4, hv_f4⟩ := hR
  have s_f4 : s.heap.size ≤ r_3 := Nat.le_trans hZ0_ z9_
  have g_f4 := hn _ s_f4
  have l_fa_f4 : pa < r_3 := Nat.lt_of_lt_of_le t_fa z9_
  have l_f2_f4 : r_1 < r_3 := Nat.lt_of_lt_of_le t_f2 z9_
  refine lv_astore_n (pc := 13) (lv' := [(3, .ref r_3), (2, .ref r_1), (0, .ref pa), (1, .int nb_)]) hx hb dX5_bestOf_13 rfl hl (by decide) rfl (fun ls hl => ?_)
  refine lv_aload_n (pc := 14) hx hb dX5_bestOf_14 rfl (lv_at hl 2 rfl) ?_
  refine lv_iconst (pc := 15) (v := 0) hx hb dX5_bestOf_15 (by decide) ?_
  refine r_l0 (pc := 16) E hC fa dX5_bestOf_16 ?_
  refine lv_aload_n (pc := 17) hx hb dX5_bestOf_17 rfl (lv_at hl 1 rfl) ?_
  refine lv_iconst (pc := 18) (v := 1) hx hb dX5_bestOf_18 (by decide) ?_
  refine r_l1 (pc := 19) E hC f2 dX5_bestOf_19 ?_
  refine lv_lmul (pc := 20) hx hb dX5_bestOf_20 ?_
  refine lv_aload_n (pc := 21) hx hb dX5_bestOf_21 rfl (lv_at hl 1 rfl) ?_
  refine lv_iconst (pc := 22) (v := 0) hx hb dX5_bestOf_22 (by decide) ?_
  refine r_l0 (pc := 23) E hC f2 dX5_bestOf_23 ?_
  refine lv_aload_n (pc := 24) hx hb dX5_bestOf_24 rfl (lv_at hl 2 rfl) ?_
  refine lv_iconst (pc := 25) (v := 1) hx hb dX5_bestOf_25 (by decide) ?_
  refine r_l1 (pc := 26) E hC fa dX5_bestOf_26 ?_
  refine lv_lmul (pc := 27) hx hb dX5_bestOf_27 ?_
  refine lv_lsub (pc := 28) hx hb dX5_bestOf_28 ?_
  refine lv_aload_n (pc := 29) hx hb dX5_bestOf_29 rfl (lv_at hl 0 rfl) ?_
  refine lv_iconst (pc := 30) (v := 1) hx hb dX5_bestOf_30 (by decide) ?_
  refine r_l1 (pc := 31) E hC f4 dX5_bestOf_31 ?_
  refine lv_lmul (pc := 32) hx hb dX5_bestOf_32 ?_
  obtain ⟨x_5, ex_5⟩ : ∃ z9 : Int64, z9 = ((ta * bb_f2) - (tt_f2 * ba)) * bb_f4 := ⟨_, rfl⟩
  rw [← ex_5]
  refine lv_lstore (pc := 33) (lv' := [(4, .long x_5), (3, .ref r_3), (2, .ref r_1), (0, .ref pa), (1, .int nb_)]) hx hb dX5_bestOf_33 hl (by decide) rfl (fun ls hl => ?_)
  refine lv_aload_n (pc := 35) hx hb dX5_bestOf_35 rfl (lv_at hl 1 rfl) ?_
  refine lv_iconst (pc := 36) (v := 0) hx hb dX5_bestOf_36 (by decide) ?_
  refine r_l0 (pc := 37) E hC f4 dX5_bestOf_37 ?_
  refine lv_aload_n (pc := 38) hx hb dX5_bestOf_38 rfl (lv_at hl 3 rfl) ?_
  refine lv_iconst (pc := 39) (v := 1) hx hb dX5_bestOf_39 (by decide) ?_
  refine r_l1 (pc := 40) E hC fa dX5_bestOf_40 ?_
  refine lv_lmul (pc := 41) hx hb dX5_bestOf_41 ?_
  refine lv_aload_n (pc := 42) hx hb dX5_bestOf_42 rfl (lv_at hl 3 rfl) ?_
  refine lv_iconst (pc := 43) (v := 0) hx hb dX5_bestOf_43 (by decide) ?_
  refine r_l0 (pc := 44) E hC fa dX5_bestOf_44 ?_
  refine lv_aload_n (pc := 45) hx hb dX5_bestOf_45 rfl (lv_at hl 1 rfl) ?_
  refine lv_iconst (pc := 46) (v := 1) hx hb dX5_bestOf_46 (by decide) ?_
  refine r_l1 (pc := 47) E hC f4 dX5_bestOf_47 ?_
  refine lv_lmul (pc := 48) hx hb dX5_bestOf_48 ?_
  refine lv_lsub (pc := 49) hx hb dX5_bestOf_49 ?_
  refine lv_aload_n (pc := 50) hx hb dX5_bestOf_50 rfl (lv_at hl 2 rfl) ?_
  refine lv_iconst (pc := 51) (v := 1) hx hb dX5_bestOf_51 (by decide) ?_
  refine r_l1 (pc := 52) E hC f2 dX5_bestOf_52 ?_
  refine lv_lmul (pc := 53) hx hb dX5_bestOf_53 ?_
  obtain ⟨x_6, ex_6⟩ : ∃ z9 : Int64, z9 = ((tt_f4 * ba) - (ta * bb_f4)) * bb_f2 := ⟨_, rfl⟩
  rw [← ex_6]
  refine lv_lstore (pc := 54) (lv' := [(6, .long x_6), (4, .long x_5), (3, .ref r_3), (2, .ref r_1), (0, .ref pa), (1, .int nb_)]) hx hb dX5_bestOf_54 hl (by decide) rfl (fun ls hl => ?_)
  refine lv_lload (pc := 56) hx hb dX5_bestOf_56 (lv_at hl 1 rfl) ?_
  refine lv_lload (pc := 58) hx hb dX5_bestOf_58 (lv_at hl 0 rfl) ?_
  refine r_lclt (pc := 60) (tgt := 82) E dX5_bestOf_60 dX5_bestOf_61 (by decide) (fun c_7 => ?_) (fun c_7 => ?_)
  · refine lv_aload_n (pc := 82) hx hb dX5_bestOf_82 rfl (lv_at hl 3 rfl) ?_
    refine lv_goto (pc := 83) (tgt := 87) hx hb dX5_bestOf_83 (by decide) ?_
    refine r_aret (pc := 87) E hr (Or.inr ⟨_, rfl⟩) hlk hS (by omega) (by omega) ?_ dX5_bestOf_87
    exact ⟨s_f2, _, _, f2, hb_f2, by unfold m_BS m_bsA m_bsB; rw [← hv_f2, ← hv_f4]; dsimp only; rw [← ex_5, ← ex_6, if_pos c_7]⟩
  · refine lv_lload (pc := 64) hx hb dX5_bestOf_64 (lv_at hl 1 rfl) ?_
    refine lv_lload (pc := 66) hx hb dX5_bestOf_66 (lv_at hl 0 rfl) ?_
    refine r_lcne (pc := 68) (tgt := 86) E dX5_bestOf_68 dX5_bestOf_69 (by decide) (fun c_8 => ?_) (fun c_8 => ?_)
    · refine lv_aload_n (pc := 86) hx hb dX5_bestOf_86 rfl (lv_at hl 2 rfl) ?_
      refine r_aret (pc := 87) E hr (Or.inr ⟨_, rfl⟩) hlk hS (by omega) (by omega) ?_ dX5_bestOf_87
      exact ⟨s_f4, _, _, f4, hb_f4, by unfold m_BS m_bsA m_bsB; rw [← hv_f2, ← hv_f4]; dsimp only; rw [← ex_5, ← ex_6, if_neg c_7, if_neg c_8]⟩
    · refine lv_aload_n (pc := 72) hx hb dX5_bestOf_72 rfl (lv_at hl 3 rfl) ?_
      refine lv_iconst (pc := 73) (v := 1) hx hb dX5_bestOf_73 (by decide) ?_
      refine r_l1 (pc := 74) E hC f2 dX5_bestOf_74 ?_
      refine lv_aload_n (pc := 75) hx hb dX5_bestOf_75 rfl (lv_at hl 2 rfl) ?_
      refine lv_iconst (pc := 76) (v := 1) hx hb dX5_bestOf_76 (by decide) ?_
      refine r_l1 (pc := 77) E hC f4 dX5_bestOf_77 ?_
      refine r_lcgt (pc := 78) (tgt := 86) E dX5_bestOf_78 dX5_bestOf_79 (by decide) (fun c_9 => ?_) (fun c_9 => ?_)
      · refine lv_aload_n (pc := 86) hx hb dX5_bestOf_86 rfl (lv_at hl 2 rfl) ?_
        refine r_aret (pc := 87) E hr (Or.inr ⟨_, rfl⟩) hlk hS (by omega) (by omega) ?_ dX5_bestOf_87
        exact ⟨s_f4, _, _, f4, hb_f4, by unfold m_BS m_bsA m_bsB; rw [← hv_f2, ← hv_f4]; dsimp only; rw [← ex_5, ← ex_6, if_neg c_7, if_pos c_8, if_neg (Int64.not_le.mpr c_9)]⟩
      · refine lv_aload_n (pc := 82) hx hb dX5_bestOf_82 rfl (lv_at hl 3 rfl) ?_
        refine lv_goto (pc := 83) (tgt := 87) hx hb dX5_bestOf_83 (by decide) ?_
        refine r_aret (pc := 87) E hr (Or.inr ⟨_, rfl⟩) hlk hS (by omega) (by omega) ?_ dX5_bestOf_87
        exact ⟨s_f2, _, _, f2, hb_f2, by unfold m_BS m_bsA m_bsB; rw [← hv_f2, ← hv_f4]; dsimp only; rw [← ex_5, ← ex_6, if_neg c_7, if_pos c_8, if_pos (Int64.not_lt.mp c_9)]⟩
