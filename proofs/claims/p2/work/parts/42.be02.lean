set_option maxHeartbeats 4000000 in
set_option maxRecDepth 100000 in
/-- BestratiosModel.below([JZ)[J -/
theorem c_X5_below (l : Launch) (D : va_G) (tk : Nat → ClassId) (N0 : Nat) (sa : Nat → Nat)  (sz : Nat) (pa : Nat) (ta : Int64) (ba : Int64) (ir : Int32) (hfa : m_F ta ba) (ht1 : 1 ≤ ta.toInt) : Met l yX5_below (wsy yX5_below cX5_below 6 (some (.array .long))) ({ frames := 9, cells := 104, slots := 410, locals := 209 } : Room) (cP D tk N0 sa [.ref pa, .int ir] sz (fun H => L2 D tk pa ta ba H)) (kQr (fun r H => sz ≤ r ∧ ∃ t b, L2 D tk r t b H ∧ (1 ≤ b.toInt) ∧ ∃ p q : Int64 × Int64, m_WL ta ba 1 = some p ∧ m_W2 ta ba = some q ∧ (t, b) = if (if 0 < m_ord p.1 p.2 q.1 q.2 then (1 : Int32) else 0) = ir then p else q) (nwA sz)) (104) (410) (nwA sz) := by
  refine mStart RX5 rfl (by decide +kernel) (Nat.le_of_ble_eq_true rfl) ?_
  intro p e s m args below meth c E hr hlk hnm hsz hC hF ls hl
  subst hsz
  obtain ⟨hx, hb, -⟩ := id E
  have hA : ∀ q, (nwA s.heap.size) q → N0 ≤ q := fun q h => Nat.le_trans hC.2.1 h
  have hn : ∀ q, s.heap.size ≤ q → (nwA s.heap.size) q := fun q h => h
  have hS : va_S (nwA s.heap.size) s.heap s.heap [] := va_S.rf
  have hl : lv_has ls 6 [(0, .ref pa), (1, .int ir)] := hl
  have fa : L2 D tk pa ta ba s.heap := hF
  refine lv_aload_n (pc := 0) hx hb dX5_below_0 rfl (lv_at hl 0 rfl) ?_
  refine lv_iconst (pc := 1) (v := 1) hx hb dX5_below_1 (by decide) ?_
  have hZ0_ := hS.1
  have t_fa := fa.lt
  refine k_r (pc := 2) (k_S E hC hS hA hl.1 (c_X5_withLast_B l D tk N0 sa s.heap.size pa ta ba 1 hfa rfl ht1) kw_1651 kw_1652 kw_5 kw_1653 (n := 2) (by decide +kernel) rfl ⟨⟨rfl, rfl⟩, ⟨Nat.le_of_ble_eq_true rfl, Nat.le_of_ble_eq_true rfl⟩, (by dsimp only; omega), (by dsimp only; omega)⟩ rfl (Nat.le_of_ble_eq_true rfl) fa dX5_below_2) hS (fun q z w => absurd w (Nat.not_le.mpr z)) hn (fun r_1 H locs hR hz hk hS => ?_)
  have fa := fa.kept (hk _ fa.lt (Nat.not_le.mpr fa.lt))
  obtain ⟨z9_, tt_f2, bb_f2, f2, hb_f2, hv_f2⟩ := hR
  have s_f2 : s.heap.size ≤ r_1 := Nat.le_trans hZ0_ z9_
  have g_f2 := hn _ s_f2
  have l_fa_f2 : pa < r_1 := Nat.lt_of_lt_of_le t_fa z9_
  refine lv_astore_n (pc := 5) (lv' := [(2, .ref r_1), (0, .ref pa), (1, .int ir)]) hx hb dX5_below_5 rfl hl (by decide) rfl (fun ls hl => ?_)
  refine lv_aload_n (pc := 6) hx hb dX5_below_6 rfl (lv_at hl 1 rfl) ?_
  have hZ0_ := hS.1
  have t_fa := fa.lt
  have t_f2 := f2.lt
  refine k_r (pc := 7) (k_S E hC hS hA hl.1 (c_X5_termsOf l D tk N0 sa H.size pa ta ba hfa) kw_1411 kw_1412 kw_5 kw_1413 (n := 1) (by decide +kernel) rfl ⟨⟨rfl, rfl⟩, ⟨Nat.le_of_ble_eq_true rfl, Nat.le_of_ble_eq_true rfl⟩, (by dsimp only; omega), (by dsimp only; omega)⟩ rfl (Nat.le_of_ble_eq_true rfl) fa dX5_below_7) hS (fun q z w => absurd w (Nat.not_le.mpr z)) hn (fun r_3 H locs hR hz hk hS => ?_)
  have fa := fa.kept (hk _ fa.lt (Nat.not_le.mpr fa.lt))
  have f2 := f2.kept (hk _ f2.lt (Nat.not_le.mpr f2.lt))
  obtain ⟨nl4, bb4, cap4, ff4, ww4, md4, zr9_, zb9_, fl4, fR4, el4, hPT4, hln4, hlm4, hlc4, hlp4, ⟨hTL4, hTA4⟩, gg4, hEU4⟩ := hR
  have hcb4 := m_acB hlp4
  have s_fl4 : s.heap.size ≤ r_3 := Nat.le_trans hZ0_ zr9_
  have g_fl4 := hn _ s_fl4
  have l_fa_fl4 : pa < r_3 := Nat.lt_of_lt_of_le t_fa zr9_
  have l_f2_fl4 : r_1 < r_3 := Nat.lt_of_lt_of_le t_f2 zr9_
  have s_fR4 : s.heap.size ≤ bb4 := Nat.le_trans hZ0_ zb9_
  have g_fR4 := hn _ s_fR4
  have l_fa_fR4 : pa < bb4 := Nat.lt_of_lt_of_le t_fa zb9_
  have l_f2_fR4 : r_1 < bb4 := Nat.lt_of_lt_of_le t_f2 zb9_
  refine lv_astore_n (pc := 10) (lv' := [(3, .ref r_3), (2, .ref r_1), (0, .ref pa), (1, .int ir)]) hx hb dX5_below_10 rfl hl (by decide) rfl (fun ls hl => ?_)
  refine lv_aload_n (pc := 11) hx hb dX5_below_11 rfl (lv_at hl 0 rfl) ?_
  obtain ⟨j9, hj9⟩ : ∃ j9, nl4 = j9 + 1 := ⟨nl4 - 1, by omega⟩
  refine k_i (pc := 12) (k_V E hC hS hA hl.1 (c1.recv hC fl4 rfl) rfl (c_Jx4a65c_size_8abf5 l D tk N0 sa H.size r_3 bb4 nl4 md4) kw_1546 kw_1547 kw_1548 kw_8 kw_1549 (n := 0) (by decide +kernel) rfl ⟨⟨rfl, rfl⟩, ⟨Nat.le_of_ble_eq_true rfl, Nat.le_of_ble_eq_true rfl⟩, (by dsimp only; omega), (by dsimp only; omega)⟩ rfl (Nat.le_of_ble_eq_true rfl) fl4 dX5_below_12) hS (fun q z w => absurd w (Nat.not_le.mpr z)) hn (fun r_5 H locs hR hz hk hS => ?_)
  have fa := fa.kept (hk _ fa.lt (Nat.not_le.mpr fa.lt))
  have f2 := f2.kept (hk _ f2.lt (Nat.not_le.mpr f2.lt))
  have fR4 := fR4.kept (hk _ fR4.lt (Nat.not_le.mpr fR4.lt))
  have fl4 := fl4.kept (hk _ fl4.lt (Nat.not_le.mpr fl4.lt))
  have el4 := el4.new hk
  rw [show r_5 = nI nl4 from hR]
  refine lv_iconst (pc := 15) (v := 1) hx hb dX5_below_15 (by decide) ?_
  refine lv_isub (pc := 16) hx hb dX5_below_16 ?_
  obtain ⟨x_6, ex_6⟩ : ∃ z9 : Int32, z9 = (nI nl4) - 1 := ⟨_, rfl⟩
  rw [← ex_6]
  refine lv_istore (pc := 17) (lv' := [(4, .int x_6), (3, .ref r_3), (2, .ref r_1), (0, .ref pa), (1, .int ir)]) hx hb dX5_below_17 hl (by decide) rfl (fun ls hl => ?_)
  refine lv_aload_n (pc := 19) hx hb dX5_below_19 rfl (lv_at hl 1 rfl) ?_
  refine lv_iload (pc := 20) hx hb dX5_below_20 (lv_at hl 0 rfl) ?_
  refine lv_aload_n (pc := 22) hx hb dX5_below_22 rfl (lv_at hl 1 rfl) ?_
  refine lv_iload (pc := 23) hx hb dX5_below_23 (lv_at hl 0 rfl) ?_
  have hix : x_6 = nI j9 := by rw [ex_6, hj9]; exact nI_pred j9
  obtain ⟨qe7, hq7, he7⟩ := el4 j9 (by omega)
  obtain ⟨xe7, ev7, pf7⟩ := hPT4 j9 (by omega)
  rw [ev7] at he7
  refine k_r (pc := 25) (k_V E hC hS hA hl.1 (c1.recv hC fl4 rfl) rfl (c_Jx4a65c_get_915e3 l D tk N0 sa H.size r_3 bb4 nl4 cap4 j9 qe7 md4 x_6 ff4 hix (by omega) (by omega) (by omega) hq7) kw_1550 kw_1551 kw_1552 kw_8 kw_1553 (n := 1) (by decide +kernel) rfl ⟨⟨rfl, rfl⟩, ⟨Nat.le_of_ble_eq_true rfl, Nat.le_of_ble_eq_true rfl⟩, (by dsimp only; omega), (by dsimp only; omega)⟩ rfl (Nat.le_of_ble_eq_true rfl) ⟨fl4, fR4⟩ dX5_below_25) hS (fun q z w => absurd w (Nat.not_le.mpr z)) hn (fun r_8 H locs hR hz hk hS => ?_)
  have fa := fa.kept (hk _ fa.lt (Nat.not_le.mpr fa.lt))
  have f2 := f2.kept (hk _ f2.lt (Nat.not_le.mpr f2.lt))
  have fR4 := fR4.kept (hk _ fR4.lt (Nat.not_le.mpr fR4.lt))
  have fl4 := fl4.kept (hk _ fl4.lt (Nat.not_le.mpr fl4.lt))
  have el4 := el4.new hk
  have he7 := he7.kept (hk _ he7.lt (Nat.not_le.mpr he7.lt))
  rw [show r_8 = qe7 from hR]
  refine r_castO (pc := 28) E hC he7 rfl kw_1532 dX5_below_28 ?_
  refine k_l (pc := 31) (k_V E hC hS hA hl.1 (xf.recv hC he7 rfl) rfl (c_J13_longValue_f9912 l D tk N0 sa H.size qe7 xe7) kw_1533 kw_1534 kw_1535 kw_17 kw_1536 (n := 0) (by decide +kernel) rfl ⟨⟨rfl, rfl⟩, ⟨Nat.le_of_ble_eq_true rfl, Nat.le_of_ble_eq_true rfl⟩, (by dsimp only; omega), (by dsimp only; omega)⟩ rfl (Nat.le_of_ble_eq_true rfl) he7 dX5_below_31) hS (fun q z w => absurd w (Nat.not_le.mpr z)) hn (fun r_9 H locs hR hz hk hS => ?_)
  have fa := fa.kept (hk _ fa.lt (Nat.not_le.mpr fa.lt))
  have f2 := f2.kept (hk _ f2.lt (Nat.not_le.mpr f2.lt))
  have fR4 := fR4.kept (hk _ fR4.lt (Nat.not_le.mpr fR4.lt))
  have fl4 := fl4.kept (hk _ fl4.lt (Nat.not_le.mpr fl4.lt))
  have el4 := el4.new hk
  have he7 := he7.kept (hk _ he7.lt (Nat.not_le.mpr he7.lt))
  have er_9 : r_9 = xe7 := hR
  have hPF := PF.last (mo := -1) (y := r_9 - 1) hPT4 (by omega) ev7 (Or.inr (by decide)) (by rw [er_9]; exact Int64.sub_eq_add_neg _ _)
  have hPF2 := hPF.add (y := 2) (by decide) (by decide)
  have hFU := EU.two (y := r_9 - 1) hEU4 (by omega) ht1 ev7 (m_sub1 er_9 (by omega))
  have hxa : xe7 = m_at ta ba j9 := m_lgI ev7 (hTA4 j9 (by omega))
  have hW2 : m_W2 ta ba = m_FD (va_up (va_up (m_at ta ba) j9 (r_9 - 1)) nl4 2) (j9 + 1 + 1) := by
    unfold m_W2
    rw [← hTL4, hj9, Nat.add_sub_cancel, er_9, hxa, Int64.sub_eq_add_neg]
  have hav9 : ∀ i, i < nl4 + 1 → va_up (va_up ww4 j9 (.long (r_9 - 1))) nl4 (.long 2) i = .long (va_up (va_up (m_at ta ba) j9 (r_9 - 1)) nl4 2 i) := by
    intro i hi
    by_cases e : i = nl4
    · rw [e, va_up_self, va_up_self]
    · rw [va_up_ne _ _ e, va_up_ne _ _ e]
      by_cases e2 : i = j9
      · rw [e2, va_up_self, va_up_self]
      · rw [va_up_ne _ _ e2, va_up_ne _ _ e2]
        exact hTA4 i (by omega)
  refine lv_lconst (pc := 34) (v := 1) hx hb dX5_below_34 (by decide) ?_
  refine lv_lsub (pc := 35) hx hb dX5_below_35 ?_
  have hZ0_ := hS.1
  have t_fa := fa.lt
  have t_f2 := f2.lt
  have t_fR4 := fR4.lt
  have t_fl4 := fl4.lt
  have t_he7 := he7.lt
  refine k_r (pc := 36) (k_S E hC hS hA hl.1 (c_J13_valueOf_928b6 l D tk N0 sa H.size (r_9 - 1)) kw_1414 kw_1415 kw_17 kw_1416 (n := 1) (by decide +kernel) rfl ⟨⟨rfl, rfl⟩, ⟨Nat.le_of_ble_eq_true rfl, Nat.le_of_ble_eq_true rfl⟩, (by dsimp only; omega), (by dsimp only; omega)⟩ rfl (Nat.le_of_ble_eq_true rfl) trivial dX5_below_36) hS (fun q z w => absurd w (Nat.not_le.mpr z)) hn (fun r_10 H locs hR hz hk hS => ?_)
  have fa := fa.kept (hk _ fa.lt (Nat.not_le.mpr fa.lt))
  have f2 := f2.kept (hk _ f2.lt (Nat.not_le.mpr f2.lt))
  have fR4 := fR4.kept (hk _ fR4.lt (Nat.not_le.mpr fR4.lt))
  have fl4 := fl4.kept (hk _ fl4.lt (Nat.not_le.mpr fl4.lt))
  have el4 := el4.new hk
  have he7 := he7.kept (hk _ he7.lt (Nat.not_le.mpr he7.lt))
  have f11 := hR
  refine k_r (pc := 39) (k_V E hC hS hA hl.1 (c1.recv hC fl4 rfl) rfl (c_Jx4a65c_set_bcc79 l D tk N0 sa H.size r_3 bb4 nl4 cap4 j9 qe7 r_10 3 md4 x_6 ff4 ww4 (.long (r_9 - 1)) (hA _ g_fR4) (Or.inl rfl) hix (by omega) (by omega) (by omega) hq7) kw_1654 kw_1655 kw_1656 kw_8 kw_1657 (n := 2) (by decide +kernel) rfl ⟨⟨rfl, rfl⟩, ⟨Nat.le_of_ble_eq_true rfl, Nat.le_of_ble_eq_true rfl⟩, (by dsimp only; omega), (by dsimp only; omega)⟩ rfl (Nat.le_of_ble_eq_true rfl) ⟨fl4, fR4, el4, f11⟩ dX5_below_39) hS (inA1.to g_fR4) hn (fun r_12 H locs hR hz hk hS => ?_)
  have fa := fa.kept (hk _ fa.lt (inA1.not (clA.ne fa.cla fR4.cla (hC.aa 0 4 rfl rfl (by dsimp only; decide))) fa.lt))
  have f2 := f2.kept (hk _ f2.lt (inA1.not (clA.ne f2.cla fR4.cla (hC.aa 0 4 rfl rfl (by dsimp only; decide))) f2.lt))
  have he7 := he7.kept (hk _ he7.lt (inA1.not (clA.ne he7.cl fR4.cla (hC.oa 3 4 rfl rfl)) he7.lt))
  have f11 := f11.kept (hk _ f11.lt (inA1.not (clA.ne f11.cl fR4.cla (hC.oa 3 4 rfl rfl)) f11.lt))
  obtain ⟨fl4, fR4, el4⟩ := hR
  refine lv_pop (pc := 42) hx hb dX5_below_42 rfl ?_
  refine lv_aload_n (pc := 43) hx hb dX5_below_43 rfl (lv_at hl 1 rfl) ?_
  refine lv_ldc2 (pc := 44) (v := 2) hx hb E.2.2.2.1 (E.2.2.2.2 _ (List.mem_cons_of_mem _ kw_1665)) dX5_below_44 ?_
  have hZ0_ := hS.1
  have t_fa := fa.lt
  have t_f2 := f2.lt
  have t_fR4 := fR4.lt
  have t_he7 := he7.lt
  have t_f11 := f11.lt
  have t_fl4 := fl4.lt
  refine k_r (pc := 47) (k_S E hC hS hA hl.1 (c_J13_valueOf_928b6 l D tk N0 sa H.size 2) kw_1414 kw_1415 kw_17 kw_1416 (n := 1) (by decide +kernel) rfl ⟨⟨rfl, rfl⟩, ⟨Nat.le_of_ble_eq_true rfl, Nat.le_of_ble_eq_true rfl⟩, (by dsimp only; omega), (by dsimp only; omega)⟩ rfl (Nat.le_of_ble_eq_true rfl) trivial dX5_below_47) hS (fun q z w => absurd w (Nat.not_le.mpr z)) hn (fun r_13 H locs hR hz hk hS => ?_)
  have fa := fa.kept (hk _ fa.lt (Nat.not_le.mpr fa.lt))
  have f2 := f2.kept (hk _ f2.lt (Nat.not_le.mpr f2.lt))
  have fR4 := fR4.kept (hk _ fR4.lt (Nat.not_le.mpr fR4.lt))
  have he7 := he7.kept (hk _ he7.lt (Nat.not_le.mpr he7.lt))
  have f11 := f11.kept (hk _ f11.lt (Nat.not_le.mpr f11.lt))
  have fl4 := fl4.kept (hk _ fl4.lt (Nat.not_le.mpr fl4.lt))
  have el4 := el4.new hk
  have f14 := hR
  rcases Nat.lt_or_ge nl4 cap4 with hkc | hkc9
  · refine k_i (pc := 50) (k_V E hC hS hA hl.1 (c1.recv hC fl4 rfl) rfl (c_Jx4a65c_add_9ea2d l D tk N0 sa H.size r_3 bb4 nl4 cap4 r_13 3 md4 (.long 2) (va_up ff4 j9 (some r_10)) (va_up ww4 j9 (.long (r_9 - 1))) (hA _ g_fl4) (hA _ g_fR4) (Or.inl rfl) hkc (by omega)) kw_1434 kw_1435 kw_1436 kw_8 kw_1437 (n := 1) (by decide +kernel) rfl ⟨⟨rfl, rfl⟩, ⟨Nat.le_of_ble_eq_true rfl, Nat.le_of_ble_eq_true rfl⟩, (by dsimp only; omega), (by dsimp only; omega)⟩ rfl (Nat.le_of_ble_eq_true rfl) ⟨fl4, fR4, el4, f14⟩ dX5_below_50) hS (inA2.to g_fl4 g_fR4) hn (fun r_15 H locs hR hz hk hS => ?_)
    have fa := fa.kept (hk _ fa.lt (inA2.not (clA.ne fa.cla fl4.cl (hC.ao 7 0 rfl rfl)) (clA.ne fa.cla fR4.cla (hC.aa 0 4 rfl rfl (by dsimp only; decide))) fa.lt))
    have f2 := f2.kept (hk _ f2.lt (inA2.not (clA.ne f2.cla fl4.cl (hC.ao 7 0 rfl rfl)) (clA.ne f2.cla fR4.cla (hC.aa 0 4 rfl rfl (by dsimp only; decide))) f2.lt))
    have he7 := he7.kept (hk _ he7.lt (inA2.not (clA.ne he7.cl fl4.cl (hC.oo 3 7 rfl rfl (by decide))) (clA.ne he7.cl fR4.cla (hC.oa 3 4 rfl rfl)) he7.lt))
    have f11 := f11.kept (hk _ f11.lt (inA2.not (clA.ne f11.cl fl4.cl (hC.oo 3 7 rfl rfl (by decide))) (clA.ne f11.cl fR4.cla (hC.oa 3 4 rfl rfl)) f11.lt))
    have f14 := f14.kept (hk _ f14.lt (inA2.not (clA.ne f14.cl fl4.cl (hC.oo 3 7 rfl rfl (by decide))) (clA.ne f14.cl fR4.cla (hC.oa 3 4 rfl rfl)) f14.lt))
    obtain ⟨hr9, fl4, fR4, el4⟩ := hR
    rw [hr9]
    refine lv_pop (pc := 53) hx hb dX5_below_53 rfl ?_
    refine lv_aload_n (pc := 54) hx hb dX5_below_54 rfl (lv_at hl 1 rfl) ?_
    refine lv_iload (pc := 55) hx hb dX5_below_55 (lv_at hl 0 rfl) ?_
    refine lv_iconst (pc := 57) (v := 2) hx hb dX5_below_57 (by decide) ?_
    refine lv_iadd (pc := 58) hx hb dX5_below_58 ?_
    have hZ0_ := hS.1
    have t_fa := fa.lt
    have t_f2 := f2.lt
    have t_fR4 := fR4.lt
    have t_he7 := he7.lt
    have t_f11 := f11.lt
    have t_fl4 := fl4.lt
    have t_f14 := f14.lt
    refine k_r (pc := 59) (k_S E hC hS hA hl.1 (c_X5_folded_B l D tk N0 sa H.size r_3 bb4 (nl4 + 1) cap4 (md4 + 1) (x_6 + 2) (va_up (va_up ff4 j9 (some r_10)) nl4 (some r_13)) (va_up (va_up ww4 j9 (.long (r_9 - 1))) nl4 (.long 2)) ((j9 + 2)) _ (by omega) (by omega) (by rw [hix]; exact nI_add j9 2) (by omega) (by omega) hPF2 hav9 (by have h9 := hFU; rw [show nl4 + 1 = j9 + 2 by omega] at h9; exact h9)) kw_1566 kw_1567 kw_5 kw_1568 (n := 2) (by decide +kernel) rfl ⟨⟨rfl, rfl⟩, ⟨Nat.le_of_ble_eq_true rfl, Nat.le_of_ble_eq_true rfl⟩, (by dsimp only; omega), (by dsimp only; omega)⟩ rfl (Nat.le_of_ble_eq_true rfl) ⟨fl4, fR4, el4⟩ dX5_below_59) hS (fun q z w => absurd w (Nat.not_le.mpr z)) hn (fun r_16 H locs hR hz hk hS => ?_)
    have fa := fa.kept (hk _ fa.lt (Nat.not_le.mpr fa.lt))
    have f2 := f2.kept (hk _ f2.lt (Nat.not_le.mpr f2.lt))
    have fR4 := fR4.kept (hk _ fR4.lt (Nat.not_le.mpr fR4.lt))
    have he7 := he7.kept (hk _ he7.lt (Nat.not_le.mpr he7.lt))
    have f11 := f11.kept (hk _ f11.lt (Nat.not_le.mpr f11.lt))
    have fl4 := fl4.kept (hk _ fl4.lt (Nat.not_le.mpr fl4.lt))
    have f14 := f14.kept (hk _ f14.lt (Nat.not_le.mpr f14.lt))
    have el4 := el4.new hk
    obtain ⟨z9_, tt_f17, bb_f17, f17, hb_f17, hv_f17⟩ := hR
    have s_f17 : s.heap.size ≤ r_16 := Nat.le_trans hZ0_ z9_
    have g_f17 := hn _ s_f17
    have l_fa_f17 : pa < r_16 := Nat.lt_of_lt_of_le t_fa z9_
    have l_f2_f17 : r_1 < r_16 := Nat.lt_of_lt_of_le t_f2 z9_
    have l_fR4_f17 : bb4 < r_16 := Nat.lt_of_lt_of_le t_fR4 z9_
    have l_he7_f17 : qe7 < r_16 := Nat.lt_of_lt_of_le t_he7 z9_
    have l_f11_f17 : r_10 < r_16 := Nat.lt_of_lt_of_le t_f11 z9_
    have l_fl4_f17 : r_3 < r_16 := Nat.lt_of_lt_of_le t_fl4 z9_
    have l_f14_f17 : r_13 < r_16 := Nat.lt_of_lt_of_le t_f14 z9_
    refine lv_astore (pc := 62) (lv' := [(5, .ref r_16), (4, .int x_6), (3, .ref r_3), (2, .ref r_1), (0, .ref pa), (1, .int ir)]) hx hb dX5_below_62 hl (by decide) rfl (fun ls hl => ?_)
    refine lv_aload_n (pc := 64) hx hb dX5_below_64 rfl (lv_at hl 3 rfl) ?_
    refine lv_aload (pc := 65) hx hb dX5_below_65 (lv_at hl 0 rfl) ?_
    have hZ0_ := hS.1
    have t_fa := fa.lt
    have t_f2 := f2.lt
    have t_fR4 := fR4.lt
    have t_he7 := he7.lt
    have t_f11 := f11.lt
    have t_fl4 := fl4.lt
    have t_f14 := f14.lt
    have t_f17 := f17.lt
    refine k_i (pc := 67) (k_S E hC hS hA hl.1 (c_X5_order l D tk N0 sa H.size r_1 tt_f2 bb_f2 r_16 tt_f17 bb_f17 ) kw_1268 kw_1269 kw_5 kw_1270 (n := 2) (by decide +kernel) rfl ⟨⟨rfl, rfl⟩, ⟨Nat.le_of_ble_eq_true rfl, Nat.le_of_ble_eq_true rfl⟩, (by dsimp only; omega), (by dsimp only; omega)⟩ rfl (Nat.le_of_ble_eq_true rfl) ⟨f2, f17⟩ dX5_below_67) hS (fun q z w => absurd w (Nat.not_le.mpr z)) hn (fun r_18 H locs hR hz hk hS => ?_)
    have fa := fa.kept (hk _ fa.lt (Nat.not_le.mpr fa.lt))
    have f2 := f2.kept (hk _ f2.lt (Nat.not_le.mpr f2.lt))
    have fR4 := fR4.kept (hk _ fR4.lt (Nat.not_le.mpr fR4.lt))
    have he7 := he7.kept (hk _ he7.lt (Nat.not_le.mpr he7.lt))
    have f11 := f11.kept (hk _ f11.lt (Nat.not_le.mpr f11.lt))
    have fl4 := fl4.kept (hk _ fl4.lt (Nat.not_le.mpr fl4.lt))
    have f14 := f14.kept (hk _ f14.lt (Nat.not_le.mpr f14.lt))
    have el4 := el4.new hk
    have f17 := f17.kept (hk _ f17.lt (Nat.not_le.mpr f17.lt))
    have er_18 := hR
    refine lv_if_le (pc := 70) (tgt := 77) hx hb dX5_below_70 (by decide) (fun c_19 => ?_) (fun c_19 => ?_)
    · refine lv_iconst (pc := 77) (v := 0) hx hb dX5_below_77 (by decide) ?_
      refine lv_iload_n (pc := 78) hx hb dX5_below_78 rfl (lv_at hl 5 rfl) ?_
      refine lv_icmp_ne (pc := 79) (tgt := 86) hx hb dX5_below_79 (by decide) (fun c_20 => ?_) (fun c_20 => ?_)
      · refine lv_aload (pc := 86) hx hb dX5_below_86 (lv_at hl 0 rfl) ?_
        refine r_aret (pc := 88) E hr (Or.inr ⟨_, rfl⟩) hlk hS (by omega) (by omega) ?_ dX5_below_88
        have hps : ¬ 0 < m_ord tt_f2 bb_f2 tt_f17 bb_f17 := by rw [← er_18]; exact Int32.not_lt.mpr c_19
        exact ⟨s_f17, _, _, f17, hb_f17, (tt_f2, bb_f2), (tt_f17, bb_f17), hv_f2, hW2.trans hv_f17, by dsimp only; rw [if_neg hps, if_neg c_20]⟩
      · refine lv_aload_n (pc := 82) hx hb dX5_below_82 rfl (lv_at hl 3 rfl) ?_
        refine lv_goto (pc := 83) (tgt := 88) hx hb dX5_below_83 (by decide) ?_
        refine r_aret (pc := 88) E hr (Or.inr ⟨_, rfl⟩) hlk hS (by omega) (by omega) ?_ dX5_below_88
        have hps : ¬ 0 < m_ord tt_f2 bb_f2 tt_f17 bb_f17 := by rw [← er_18]; exact Int32.not_lt.mpr c_19
        exact ⟨s_f2, _, _, f2, hb_f2, (tt_f2, bb_f2), (tt_f17, bb_f17), hv_f2, hW2.trans hv_f17, by dsimp only; rw [if_neg hps, if_pos c_20]⟩
    · refine lv_iconst (pc := 73) (v := 1) hx hb dX5_below_73 (by decide) ?_
      refine lv_goto (pc := 74) (tgt := 78) hx hb dX5_below_74 (by decide) ?_
      refine lv_iload_n (pc := 78) hx hb dX5_below_78 rfl (lv_at hl 5 rfl) ?_
      refine lv_icmp_ne (pc := 79) (tgt := 86) hx hb dX5_below_79 (by decide) (fun c_21 => ?_) (fun c_21 => ?_)
      · refine lv_aload (pc := 86) hx hb dX5_below_86 (lv_at hl 0 rfl) ?_
        refine r_aret (pc := 88) E hr (Or.inr ⟨_, rfl⟩) hlk hS (by omega) (by omega) ?_ dX5_below_88
        have hps : 0 < m_ord tt_f2 bb_f2 tt_f17 bb_f17 := by rw [← er_18]; exact Int32.not_le.mp c_19
        exact ⟨s_f17, _, _, f17, hb_f17, (tt_f2, bb_f2), (tt_f17, bb_f17), hv_f2, hW2.trans hv_f17, by dsimp only; rw [if_pos hps, if_neg c_21]⟩
      · refine lv_aload_n (pc := 82) hx hb dX5_below_82 rfl (lv_at hl 3 rfl) ?_
        refine lv_goto (pc := 83) (tgt := 88) hx hb dX5_below_83 (by decide) ?_
        refine r_aret (pc := 88) E hr (Or.inr ⟨_, rfl⟩) hlk hS (by omega) (by omega) ?_ dX5_below_88
        have hps : 0 < m_ord tt_f2 bb_f2 tt_f17 bb_f17 := by rw [← er_18]; exact Int32.not_le.mp c_19
        exact ⟨s_f2, _, _, f2, hb_f2, (tt_f2, bb_f2), (tt_f17, bb_f17), hv_f2, hW2.trans hv_f17, by dsimp only; rw [if_pos hps, if_pos c_21]⟩
  · have hkc : cap4 = nl4 := by omega
    have fR4 := fR4.ofcap hkc
    have hgr := m_grow (c9 := nl4) (by rw [← hkc]; exact hlp4) (by omega)
    have hgb := m_acB hgr.1
    have hZ0_ := hS.1
    have t_fa := fa.lt
    have t_f2 := f2.lt
    have t_fR4 := fR4.lt
    have t_he7 := he7.lt
    have t_f11 := f11.lt
    have t_fl4 := fl4.lt
    have t_f14 := f14.lt
    refine k_i (pc := 50) (k_V E hC hS hA hl.1 (c1.recv hC fl4 rfl) rfl (c_Jx4a65c_add_9ea2d_G l D tk N0 sa H.size r_3 bb4 nl4 r_13 3 md4 (.long 2) (va_up ff4 j9 (some r_10)) (va_up ww4 j9 (.long (r_9 - 1))) (hA _ g_fl4) (Or.inl rfl) (by omega) (by omega)) kw_1434 kw_1435 kw_1436 kw_8 kw_1437 (n := 1) (by decide +kernel) rfl ⟨⟨rfl, rfl⟩, ⟨Nat.le_of_ble_eq_true rfl, Nat.le_of_ble_eq_true rfl⟩, (by dsimp only; omega), (by dsimp only; omega)⟩ rfl (Nat.le_of_ble_eq_true rfl) ⟨fl4, fR4, el4, f14⟩ dX5_below_50) hS (inA1.to g_fl4) hn (fun r_22 H locs hR hz hk hS => ?_)
    have fa := fa.kept (hk _ fa.lt (inA1.not (clA.ne fa.cla fl4.cl (hC.ao 7 0 rfl rfl)) fa.lt))
    have f2 := f2.kept (hk _ f2.lt (inA1.not (clA.ne f2.cla fl4.cl (hC.ao 7 0 rfl rfl)) f2.lt))
    have fR4 := fR4.kept (hk _ fR4.lt (inA1.not (clA.ne fR4.cla fl4.cl (hC.ao 7 4 rfl rfl)) fR4.lt))
    have he7 := he7.kept (hk _ he7.lt (inA1.not (clA.ne he7.cl fl4.cl (hC.oo 3 7 rfl rfl (by decide))) he7.lt))
    have f11 := f11.kept (hk _ f11.lt (inA1.not (clA.ne f11.cl fl4.cl (hC.oo 3 7 rfl rfl (by decide))) f11.lt))
    have f14 := f14.kept (hk _ f14.lt (inA1.not (clA.ne f14.cl fl4.cl (hC.oo 3 7 rfl rfl (by decide))) f14.lt))
    obtain ⟨hr9, q23, f_23, z9_, fl4, f23, el4⟩ := hR
    have s_f23 : s.heap.size ≤ q23 := Nat.le_trans hZ0_ z9_
    have g_f23 := hn _ s_f23
    have l_fa_f23 : pa < q23 := Nat.lt_of_lt_of_le t_fa z9_
    have l_f2_f23 : r_1 < q23 := Nat.lt_of_lt_of_le t_f2 z9_
    have l_fR4_f23 : bb4 < q23 := Nat.lt_of_lt_of_le t_fR4 z9_
    have l_he7_f23 : qe7 < q23 := Nat.lt_of_lt_of_le t_he7 z9_
    have l_f11_f23 : r_10 < q23 := Nat.lt_of_lt_of_le t_f11 z9_
    have l_fl4_f23 : r_3 < q23 := Nat.lt_of_lt_of_le t_fl4 z9_
    have l_f14_f23 : r_13 < q23 := Nat.lt_of_lt_of_le t_f14 z9_
    rw [hr9]
    refine lv_pop (pc := 53) hx hb dX5_below_53 rfl ?_
    refine lv_aload_n (pc := 54) hx hb dX5_below_54 rfl (lv_at hl 1 rfl) ?_
    refine lv_iload (pc := 55) hx hb dX5_below_55 (lv_at hl 0 rfl) ?_
    refine lv_iconst (pc := 57) (v := 2) hx hb dX5_below_57 (by decide) ?_
    refine lv_iadd (pc := 58) hx hb dX5_below_58 ?_
    have hZ0_ := hS.1
    have t_fa := fa.lt
    have t_f2 := f2.lt
    have t_fR4 := fR4.lt
    have t_he7 := he7.lt
    have t_f11 := f11.lt
    have t_fl4 := fl4.lt
    have t_f14 := f14.lt
    have t_f23 := f23.lt
    refine k_r (pc := 59) (k_S E hC hS hA hl.1 (c_X5_folded_B l D tk N0 sa H.size r_3 q23 (nl4 + 1) (nl4 + nl4 / 2) (md4 + 1) (x_6 + 2) f_23 (va_up (va_up ww4 j9 (.long (r_9 - 1))) nl4 (.long 2)) ((j9 + 2)) _ (by omega) (by omega) (by rw [hix]; exact nI_add j9 2) (by omega) (by omega) hPF2 hav9 (by have h9 := hFU; rw [show nl4 + 1 = j9 + 2 by omega] at h9; exact h9)) kw_1566 kw_1567 kw_5 kw_1568 (n := 2) (by decide +kernel) rfl ⟨⟨rfl, rfl⟩, ⟨Nat.le_of_ble_eq_true rfl, Nat.le_of_ble_eq_true rfl⟩, (by dsimp only; omega), (by dsimp only; omega)⟩ rfl (Nat.le_of_ble_eq_true rfl) ⟨fl4, f23, el4⟩ dX5_below_59) hS (fun q z w => absurd w (Nat.not_le.mpr z)) hn (fun r_24 H locs hR hz hk hS => ?_)
    have fa := fa.kept (hk _ fa.lt (Nat.not_le.mpr fa.lt))
    have f2 := f2.kept (hk _ f2.lt (Nat.not_le.mpr f2.lt))
    have fR4 := fR4.kept (hk _ fR4.lt (Nat.not_le.mpr fR4.lt))
    have he7 := he7.kept (hk _ he7.lt (Nat.not_le.mpr he7.lt))
    have f11 := f11.kept (hk _ f11.lt (Nat.not_le.mpr f11.lt))
    have fl4 := fl4.kept (hk _ fl4.lt (Nat.not_le.mpr fl4.lt))
    have f14 := f14.kept (hk _ f14.lt (Nat.not_le.mpr f14.lt))
    have f23 := f23.kept (hk _ f23.lt (Nat.not_le.mpr f23.lt))
    have el4 := el4.new hk
    obtain ⟨z9_, tt_f25, bb_f25, f25, hb_f25, hv_f25⟩ := hR
    have s_f25 : s.heap.size ≤ r_24 := Nat.le_trans hZ0_ z9_
    have g_f25 := hn _ s_f25
    have l_fa_f25 : pa < r_24 := Nat.lt_of_lt_of_le t_fa z9_
    have l_f2_f25 : r_1 < r_24 := Nat.lt_of_lt_of_le t_f2 z9_
    have l_fR4_f25 : bb4 < r_24 := Nat.lt_of_lt_of_le t_fR4 z9_
    have l_he7_f25 : qe7 < r_24 := Nat.lt_of_lt_of_le t_he7 z9_
    have l_f11_f25 : r_10 < r_24 := Nat.lt_of_lt_of_le t_f11 z9_
    have l_fl4_f25 : r_3 < r_24 := Nat.lt_of_lt_of_le t_fl4 z9_
    have l_f14_f25 : r_13 < r_24 := Nat.lt_of_lt_of_le t_f14 z9_
    have l_f23_f25 : q23 < r_24 := Nat.lt_of_lt_of_le t_f23 z9_
    refine lv_astore (pc := 62) (lv' := [(5, .ref r_24), (4, .int x_6), (3, .ref r_3), (2, .ref r_1), (0, .ref pa), (1, .int ir)]) hx hb dX5_below_62 hl (by decide) rfl (fun ls hl => ?_)
    refine lv_aload_n (pc := 64) hx hb dX5_below_64 rfl (lv_at hl 3 rfl) ?_
    refine lv_aload (pc := 65) hx hb dX5_below_65 (lv_at hl 0 rfl) ?_
    have hZ0_ := hS.1
    have t_fa := fa.lt
    have t_f2 := f2.lt
    have t_fR4 := fR4.lt
    have t_he7 := he7.lt
    have t_f11 := f11.lt
    have t_fl4 := fl4.lt
    have t_f14 := f14.lt
    have t_f23 := f23.lt
    have t_f25 := f25.lt
    refine k_i (pc := 67) (k_S E hC hS hA hl.1 (c_X5_order l D tk N0 sa H.size r_1 tt_f2 bb_f2 r_24 tt_f25 bb_f25 ) kw_1268 kw_1269 kw_5 kw_1270 (n := 2) (by decide +kernel) rfl ⟨⟨rfl, rfl⟩, ⟨Nat.le_of_ble_eq_true rfl, Nat.le_of_ble_eq_true rfl⟩, (by dsimp only; omega), (by dsimp only; omega)⟩ rfl (Nat.le_of_ble_eq_true rfl) ⟨f2, f25⟩ dX5_below_67) hS (fun q z w => absurd w (Nat.not_le.mpr z)) hn (fun r_26 H locs hR hz hk hS => ?_)
    have fa := fa.kept (hk _ fa.lt (Nat.not_le.mpr fa.lt))
    have f2 := f2.kept (hk _ f2.lt (Nat.not_le.mpr f2.lt))
    have fR4 := fR4.kept (hk _ fR4.lt (Nat.not_le.mpr fR4.lt))
    have he7 := he7.kept (hk _ he7.lt (Nat.not_le.mpr he7.lt))
    have f11 := f11.kept (hk _ f11.lt (Nat.not_le.mpr f11.lt))
    have fl4 := fl4.kept (hk _ fl4.lt (Nat.not_le.mpr fl4.lt))
    have f14 := f14.kept (hk _ f14.lt (Nat.not_le.mpr f14.lt))
    have f23 := f23.kept (hk _ f23.lt (Nat.not_le.mpr f23.lt))
    have el4 := el4.new hk
    have f25 := f25.kept (hk _ f25.lt (Nat.not_le.mpr f25.lt))
    have er_26 := hR
    refine lv_if_le (pc := 70) (tgt := 77) hx hb dX5_below_70 (by decide) (fun c_27 => ?_) (fun c_27 => ?_)
    · refine lv_iconst (pc := 77) (v := 0) hx hb dX5_below_77 (by decide) ?_
      refine lv_iload_n (pc := 78) hx hb dX5_below_78 rfl (lv_at hl 5 rfl) ?_
      refine lv_icmp_ne (pc := 79) (tgt := 86) hx hb dX5_below_79 (by decide) (fun c_28 => ?_) (fun c_28 => ?_)
      · refine lv_aload (pc := 86) hx hb dX5_below_86 (lv_at hl 0 rfl) ?_
        refine r_aret (pc := 88) E hr (Or.inr ⟨_, rfl⟩) hlk hS (by omega) (by omega) ?_ dX5_below_88
        have hps : ¬ 0 < m_ord tt_f2 bb_f2 tt_f25 bb_f25 := by rw [← er_26]; exact Int32.not_lt.mpr c_27
        exact ⟨s_f25, _, _, f25, hb_f25, (tt_f2, bb_f2), (tt_f25, bb_f25), hv_f2, hW2.trans hv_f25, by dsimp only; rw [if_neg hps, if_neg c_28]⟩
      · refine lv_aload_n (pc := 82) hx hb dX5_below_82 rfl (lv_at hl 3 rfl) ?_
        refine lv_goto (pc := 83) (tgt := 88) hx hb dX5_below_83 (by decide) ?_
        refine r_aret (pc := 88) E hr (Or.inr ⟨_, rfl⟩) hlk hS (by omega) (by omega) ?_ dX5_below_88
        have hps : ¬ 0 < m_ord tt_f2 bb_f2 tt_f25 bb_f25 := by rw [← er_26]; exact Int32.not_lt.mpr c_27
        exact ⟨s_f2, _, _, f2, hb_f2, (tt_f2, bb_f2), (tt_f25, bb_f25), hv_f2, hW2.trans hv_f25, by dsimp only; rw [if_neg hps, if_pos c_28]⟩
    · refine lv_iconst (pc := 73) (v := 1) hx hb dX5_below_73 (by decide) ?_
      refine lv_goto (pc := 74) (tgt := 78) hx hb dX5_below_74 (by decide) ?_
      refine lv_iload_n (pc := 78) hx hb dX5_below_78 rfl (lv_at hl 5 rfl) ?_
      refine lv_icmp_ne (pc := 79) (tgt := 86) hx hb dX5_below_79 (by decide) (fun c_29 => ?_) (fun c_29 => ?_)
      · refine lv_aload (pc := 86) hx hb dX5_below_86 (lv_at hl 0 rfl) ?_
        refine r_aret (pc := 88) E hr (Or.inr ⟨_, rfl⟩) hlk hS (by omega) (by omega) ?_ dX5_below_88
        have hps : 0 < m_ord tt_f2 bb_f2 tt_f25 bb_f25 := by rw [← er_26]; exact Int32.not_le.mp c_27
        exact ⟨s_f25, _, _, f25, hb_f25, (tt_f2, bb_f2), (tt_f25, bb_f25), hv_f2, hW2.trans hv_f25, by dsimp only; rw [if_pos hps, if_neg c_29]⟩
      · refine lv_aload_n (pc := 82) hx hb dX5_below_82 rfl (lv_at hl 3 rfl) ?_
        refine lv_goto (pc := 83) (tgt := 88) hx hb dX5_below_83 (by decide) ?_
        refine r_aret (pc := 88) E hr (Or.inr ⟨_, rfl⟩) hlk hS (by omega) (by omega) ?_ dX5_below_88
        have hps : 0 < m_ord tt_f2 bb_f2 tt_f25 bb_f25 := by rw [← er_26]; exact Int32.not_le.mp c_27
        exact ⟨s_f2, _, _, f2, hb_f2, (tt_f2, bb_f2), (tt_f25, bb_f25), hv_f2, hW2.trans hv_f25, by dsimp only; rw [if_pos hps, if_pos c_29]⟩
