set_option maxHeartbeats 4000000 in
set_option maxRecDepth 100000 in
/-- BestratiosModel.depthNow(I)I -/
theorem c_X5_depthNow (l : Launch) (D : va_G) (tk : Nat → ClassId) (N0 : Nat) (sa : Nat → Nat)  (sz : Nat) (P : Nat → Prop) (hPN : ∀ q, P q → N0 ≤ q) (mo n9 : Nat) (kn th : Int32) (tt bb : Nat → Int64) (eT eB oT oB : Int64) (pk : Nat) (ca rf : Int32) (vs : Nat → Value) (x : Int32) (k_x : Nat) (hx_x : x = nI k_x) (hk_x : k_x < 6) : Met l yX5_depthNow (wsy yX5_depthNow cX5_depthNow 7 (some .int)) ({ frames := 8, cells := 50, slots := 179, locals := 186 } : Room) (cP D tk N0 sa [.ref mo, .int x] sz (fun H => MI D tk sa P mo tt bb eT eB oT oB pk ca rf vs kn n9 th H)) (kQi (fun r H => r = m_DP (tt k_x) (bb k_x)) (nwA sz)) (50) (179) (nwA sz) := by
  refine mStart RX5 rfl (by decide +kernel) (Nat.le_of_ble_eq_true rfl) ?_
  intro p e s m args below meth c E hr hlk hnm hsz hC hF ls hl
  subst hsz
  obtain ⟨hx, hb, -⟩ := id E
  have hA : ∀ q, (nwA s.heap.size) q → N0 ≤ q := fun q h => Nat.le_trans hC.2.1 h
  have hn : ∀ q, s.heap.size ≤ q → (nwA s.heap.size) q := fun q h => h
  have hS : va_S (nwA s.heap.size) s.heap s.heap [] := va_S.rf
  have hl : lv_has ls 7 [(0, .ref mo), (1, .int x)] := hl
  obtain ⟨Q, hQ⟩ : ∃ Q, Q = MQ below (kQi (fun r H => r = m_DP (tt k_x) (bb k_x)) (nwA s.heap.size)) args s (50) (179) (nwA s.heap.size) := ⟨_, rfl⟩
  rw [← hQ]
  have hM : MI D tk sa P mo tt bb eT eB oT oB pk ca rf vs kn n9 th s.heap := hF
  obtain ⟨ra, rl, ex, ro, rt, fo, fj, fk, fe, fr, fw, ⟨hPm, hPa, hPl, hPe, hPr, hPk⟩, hFk, hFe, hFr, hpk, hn9⟩ := hM
  refine lv_aload_n (pc := 0) hx hb dX5_depthNow_0 rfl (lv_at hl 0 rfl) ?_
  refine r_get (pc := 1) E hC fo 0 (v := .ref ra) rfl rfl (by decide) uX5 (List.mem_cons_of_mem _ kw_1209) (fun _ h => h) dX5_depthNow_1 ?_
  refine lv_iload_n (pc := 4) hx hb dX5_depthNow_4 rfl (lv_at hl 1 rfl) ?_
  refine r_aaldJ (pc := 5) E hC fj k_x hx_x hk_x (by decide) rfl dX5_depthNow_5 ?_
  have fL1 := fk k_x hk_x
  have mF_fL1 := hFk k_x hk_x
  have Pq_fL1 := hPk k_x hk_x
  have hZ0_ := hS.1
  have t_fo := fo.lt
  have t_fj := fj.lt
  have t_fk := fun k (hk9 : k < 6) => (fk k hk9).lt
  have t_fe := fe.lt
  have t_fr := fr.lt
  have t_fL1 := fL1.lt
  refine k_i (pc := 6) (k_S E hC hS hA hl.1 (c_X5_isAbove l D tk N0 sa s.heap.size (rt k_x) (tt k_x) (bb k_x) ) kw_1645 kw_1646 kw_5 kw_1647 (n := 1) (by decide +kernel) rfl ⟨⟨rfl, rfl⟩, ⟨Nat.le_of_ble_eq_true rfl, Nat.le_of_ble_eq_true rfl⟩, (by dsimp only; omega), (by dsimp only; omega)⟩ rfl (Nat.le_of_ble_eq_true rfl) fL1 dX5_depthNow_6) hS (fun q z w => absurd w (Nat.not_le.mpr z)) hn (fun r_2 H locs hR hz hk hS => ?_)
  have fw := fw.new hk
  have fo := fo.kept (hk _ fo.lt (Nat.not_le.mpr fo.lt))
  have fj := fj.kept (hk _ fj.lt (Nat.not_le.mpr fj.lt))
  have fk := fk.new hk
  have fe := fe.kept (hk _ fe.lt (Nat.not_le.mpr fe.lt))
  have fr := fr.kept (hk _ fr.lt (Nat.not_le.mpr fr.lt))
  have fL1 := fL1.kept (hk _ fL1.lt (Nat.not_le.mpr fL1.lt))
  have er_2 := hR
  refine lv_if_ne (pc := 9) (tgt := 15) hx hb dX5_depthNow_9 (by decide) (fun c_3 => ?_) (fun c_3 => ?_)
  · refine lv_ldc2 (pc := 15) (v := (-1)) hx hb E.2.2.2.1 (E.2.2.2.2 _ (List.mem_cons_of_mem _ kw_1208)) dX5_depthNow_15 ?_
    refine lv_lstore_n (pc := 18) (lv' := [(2, .long ((-1))), (0, .ref mo), (1, .int x)]) hx hb dX5_depthNow_18 rfl hl (by decide) rfl (fun ls hl => ?_)
    refine lv_aload_n (pc := 19) hx hb dX5_depthNow_19 rfl (lv_at hl 1 rfl) ?_
    refine r_get (pc := 20) E hC fo 0 (v := .ref ra) rfl rfl (by decide) uX5 (List.mem_cons_of_mem _ kw_1209) (fun _ h => h) dX5_depthNow_20 ?_
    refine lv_iload_n (pc := 23) hx hb dX5_depthNow_23 rfl (lv_at hl 2 rfl) ?_
    refine r_aaldJ (pc := 24) E hC fj k_x hx_x hk_x (by decide) rfl dX5_depthNow_24 ?_
    have fL4 := fk k_x hk_x
    have mF_fL4 := hFk k_x hk_x
    have Pq_fL4 := hPk k_x hk_x
    have hZ0_ := hS.1
    have t_fo := fo.lt
    have t_fj := fj.lt
    have t_fk := fun k (hk9 : k < 6) => (fk k hk9).lt
    have t_fe := fe.lt
    have t_fr := fr.lt
    have t_fL1 := fL1.lt
    have t_fL4 := fL4.lt
    refine k_r (pc := 25) (k_S E hC hS hA hl.1 (c_X5_termsOf l D tk N0 sa H.size (rt k_x) (tt k_x) (bb k_x) mF_fL4) kw_1411 kw_1412 kw_5 kw_1413 (n := 1) (by decide +kernel) rfl ⟨⟨rfl, rfl⟩, ⟨Nat.le_of_ble_eq_true rfl, Nat.le_of_ble_eq_true rfl⟩, (by dsimp only; omega), (by dsimp only; omega)⟩ rfl (Nat.le_of_ble_eq_true rfl) fL4 dX5_depthNow_25) hS (fun q z w => absurd w (Nat.not_le.mpr z)) hn (fun r_5 H locs hR hz hk hS => ?_)
    have fw := fw.new hk
    have fo := fo.kept (hk _ fo.lt (Nat.not_le.mpr fo.lt))
    have fj := fj.kept (hk _ fj.lt (Nat.not_le.mpr fj.lt))
    have fk := fk.new hk
    have fe := fe.kept (hk _ fe.lt (Nat.not_le.mpr fe.lt))
    have fr := fr.kept (hk _ fr.lt (Nat.not_le.mpr fr.lt))
    have fL1 := fL1.kept (hk _ fL1.lt (Nat.not_le.mpr fL1.lt))
    have fL4 := fL4.kept (hk _ fL4.lt (Nat.not_le.mpr fL4.lt))
    obtain ⟨nl6, bb6, cap6, ff6, ww6, md6, zr9_, zb9_, fl6, fR6, el6, hPT6, hln6, hlm6, hlc6, hlp6, ⟨hTL6, hTA6⟩, gg6, hEU6⟩ := hR
    have hcb6 := m_acB hlp6
    have s_fl6 : s.heap.size ≤ r_5 := Nat.le_trans hZ0_ zr9_
    have g_fl6 := hn _ s_fl6
    have l_fo_fl6 : mo < r_5 := Nat.lt_of_lt_of_le t_fo zr9_
    have l_fj_fl6 : ra < r_5 := Nat.lt_of_lt_of_le t_fj zr9_
    have nW_fl6 : ∀ k, k < 6 → rt k ≠ r_5 := fun k hk9 => Nat.ne_of_lt (Nat.lt_of_lt_of_le (t_fk k hk9) zr9_)
    have l_fe_fl6 : ex < r_5 := Nat.lt_of_lt_of_le t_fe zr9_
    have l_fr_fl6 : ro < r_5 := Nat.lt_of_lt_of_le t_fr zr9_
    have l_fL1_fl6 : rt k_x < r_5 := Nat.lt_of_lt_of_le t_fL1 zr9_
    have l_fL4_fl6 : rt k_x < r_5 := Nat.lt_of_lt_of_le t_fL4 zr9_
    have s_fR6 : s.heap.size ≤ bb6 := Nat.le_trans hZ0_ zb9_
    have g_fR6 := hn _ s_fR6
    have l_fo_fR6 : mo < bb6 := Nat.lt_of_lt_of_le t_fo zb9_
    have l_fj_fR6 : ra < bb6 := Nat.lt_of_lt_of_le t_fj zb9_
    have nW_fR6 : ∀ k, k < 6 → rt k ≠ bb6 := fun k hk9 => Nat.ne_of_lt (Nat.lt_of_lt_of_le (t_fk k hk9) zb9_)
    have l_fe_fR6 : ex < bb6 := Nat.lt_of_lt_of_le t_fe zb9_
    have l_fr_fR6 : ro < bb6 := Nat.lt_of_lt_of_le t_fr zb9_
    have l_fL1_fR6 : rt k_x < bb6 := Nat.lt_of_lt_of_le t_fL1 zb9_
    have l_fL4_fR6 : rt k_x < bb6 := Nat.lt_of_lt_of_le t_fL4 zb9_
    have hZ0_ := hS.1
    have t_fl6 := fl6.lt
    have t_fR6 := fR6.lt
    refine k_r (pc := 28) (k_V E hC hS hA hl.1 (c1.recv hC fl6 rfl) rfl (c_Jx4a65c_iterator_32c93 l D tk N0 sa H.size r_5 bb6 nl6 md6) kw_1486 kw_1487 kw_1488 kw_8 kw_1489 (n := 0) (by decide +kernel) rfl ⟨⟨rfl, rfl⟩, ⟨Nat.le_of_ble_eq_true rfl, Nat.le_of_ble_eq_true rfl⟩, (by dsimp only; omega), (by dsimp only; omega)⟩ rfl (Nat.le_of_ble_eq_true rfl) fl6 dX5_depthNow_28) hS (fun q z w => absurd w (Nat.not_le.mpr z)) hn (fun r_7 H locs hR hz hk hS => ?_)
    have fl6 := fl6.kept (hk _ fl6.lt (Nat.not_le.mpr fl6.lt))
    have fR6 := fR6.kept (hk _ fR6.lt (Nat.not_le.mpr fR6.lt))
    have el6 := el6.new hk
    obtain ⟨z9_, f8⟩ := hR
    have s_f8 : s.heap.size ≤ r_7 := Nat.le_trans hZ0_ z9_
    have g_f8 := hn _ s_f8
    have l_fl6_f8 : r_5 < r_7 := Nat.lt_of_lt_of_le t_fl6 z9_
    have l_fR6_f8 : bb6 < r_7 := Nat.lt_of_lt_of_le t_fR6 z9_
    refine lv_astore (pc := 31) (lv' := [(4, .ref r_7), (2, .long ((-1))), (0, .ref mo), (1, .int x)]) hx hb dX5_depthNow_31 hl (by decide) rfl (fun ls hl => ?_)
    have loop_33 : ∀ (n : Nat) (k : Nat) (lr : Int32)(d9 : Int64), 44 - k < n → k ≤ nl6 → m_sm ((m_TE (tt k_x) (bb k_x)).drop k) d9 = m_sm (m_TE (tt k_x) (bb k_x)) (-1) → ∀ (H : Heap) (locs : List Loc) (ls : Array Slot), va_S (nwA s.heap.size) s.heap H locs → c1 D r_5 (.inr (7, [.int md6, .ref bb6, .int (nI nl6)])) H → c1 D bb6 (.inl (tk 4, cap6, .inr (.inr (.inr (.inr (ff6)))))) H → EL D 3 nl6 ff6 ww6 H → c1 D r_7 (.inr (6, [.int (nI k), .int lr, .int md6, .ref r_5])) H → lv_has ls 7 [(0, .ref mo), (1, .int x), (2, .long d9), (4, .ref r_7)] → W p l e ({ frames := 8, cells := 50, slots := 179, locals := 186 } : Room) s m args below meth c H locs (50) (179) Q (F0 m 33 ls []) := by
      intro n
      induction n with
      | zero =>
        intro k lr d9 hf9 hk9 hg9 H locs ls hS fl6 fR6 el6 f8 hl
        omega
      | succ n ih_33 =>
        intro k lr d9 hf9 hk9 hg9 H locs ls hS fl6 fR6 el6 f8 hl
        refine lv_aload (pc := 33) hx hb dX5_depthNow_33 (lv_at hl 3 rfl) ?_
        refine k5_i (pc := 35) (k_F (ci := 6) rfl hC.xt.2.2.2.1 E hC hS hA hl.1 (c1.recv hC f8 rfl) (c_Jx35411_hasNext_aae02 l D tk N0 sa H.size r_7 r_5 bb6 nl6 k md6 lr (by omega) (by omega)) kw_1510 kw_1516 kw_1514 kw_29 kw_1518 (n := 0) (by decide +kernel) rfl ⟨⟨rfl, rfl⟩, ⟨Nat.le_of_ble_eq_true rfl, Nat.le_of_ble_eq_true rfl⟩, (by dsimp only; omega), (by dsimp only; omega)⟩ rfl (Nat.le_of_ble_eq_true rfl) ⟨f8, fl6⟩ dX5_depthNow_35) hS (fun q z w => absurd w (Nat.not_le.mpr z)) hn (fun r_9 H locs hR hz hk hS => ?_)
        have fl6 := fl6.kept (hk _ fl6.lt (Nat.not_le.mpr fl6.lt))
        have fR6 := fR6.kept (hk _ fR6.lt (Nat.not_le.mpr fR6.lt))
        have el6 := el6.new hk
        have f8 := f8.kept (hk _ f8.lt (Nat.not_le.mpr f8.lt))
        have hn_r_9 := hR
        refine lv_if_eq (pc := 40) (tgt := 66) hx hb dX5_depthNow_40 (by decide) (fun c_10 => ?_) (fun c_10 => ?_)
        · refine lv_lload_n (pc := 66) hx hb dX5_depthNow_66 rfl (lv_at hl 2 rfl) ?_
          refine lv_l2i (pc := 67) (v := d9.toInt32) hx hb dX5_depthNow_67 rfl ?_
          try rw [hQ]
          refine r_iret (pc := 68) E hr hlk hS (by omega) (by omega) ?_ dX5_depthNow_68
          have hkz : k = nl6 := hn_r_9.elim (fun z9 => z9.2) (fun z9 => absurd (z9.1.symm.trans c_10) (by decide))
          have hde := m_smE (by rw [← hTL6, hkz]; exact Nat.le_refl _) hg9
          unfold m_DP
          rw [if_neg (fun z9 => c_3 (er_2.trans z9)), ← hde]
        · have hkn : k < nl6 := by
            rcases hn_r_9 with ⟨h9, _⟩ | ⟨_, h9⟩
            · exact absurd h9 c_10
            · omega
          refine lv_aload (pc := 43) hx hb dX5_depthNow_43 (lv_at hl 3 rfl) ?_
          obtain ⟨qe11, hq11, he11⟩ := el6 k hkn
          obtain ⟨xe11, ev11, pv11⟩ := hPT6.pv k hkn
          rw [ev11] at he11
          refine k5_r (pc := 45) (k_F (ci := 6) rfl hC.xt.2.2.2.2 E hC hS hA hl.1 (c1.recv hC f8 rfl) (c_Jx35411_next_0502b l D tk N0 sa H.size r_7 r_5 bb6 nl6 k cap6 qe11 md6 lr ff6 (hA _ g_f8) hkn (by omega) (by omega) hq11) kw_1520 kw_1525 kw_1523 kw_29 kw_1527 (n := 0) (by decide +kernel) rfl ⟨⟨rfl, rfl⟩, ⟨Nat.le_of_ble_eq_true rfl, Nat.le_of_ble_eq_true rfl⟩, (by dsimp only; omega), (by dsimp only; omega)⟩ rfl (Nat.le_of_ble_eq_true rfl) ⟨f8, fl6, fR6⟩ dX5_depthNow_45) hS (inA1.to g_f8) hn (fun r_12 H locs hR hz hk hS => ?_)
          have fl6 := fl6.kept (hk _ fl6.lt (inA1.not (clA.ne fl6.cl f8.cl (hC.oo 7 6 rfl rfl (by decide))) fl6.lt))
          have fR6 := fR6.kept (hk _ fR6.lt (inA1.not (clA.ne fR6.cla f8.cl (hC.ao 6 4 rfl rfl)) fR6.lt))
          have el6 := el6.keep1 hk (fun q9 h9 => clA.ne h9 f8.cl (hC.ceo (Or.inl rfl) 6 rfl (by decide)))
          have he11 := he11.kept (hk _ he11.lt (inA1.not (clA.ne he11.cl f8.cl (hC.oo 3 6 rfl rfl (by decide))) he11.lt))
          obtain ⟨hr9, f8⟩ := hR
          rw [hr9]
          refine r_castO (pc := 50) E hC he11 rfl kw_1532 dX5_depthNow_50 ?_
          refine k_l (pc := 53) (k_V E hC hS hA hl.1 (xf.recv hC he11 rfl) rfl (c_J13_longValue_f9912 l D tk N0 sa H.size qe11 xe11) kw_1533 kw_1534 kw_1535 kw_17 kw_1536 (n := 0) (by decide +kernel) rfl ⟨⟨rfl, rfl⟩, ⟨Nat.le_of_ble_eq_true rfl, Nat.le_of_ble_eq_true rfl⟩, (by dsimp only; omega), (by dsimp only; omega)⟩ rfl (Nat.le_of_ble_eq_true rfl) he11 dX5_depthNow_53) hS (fun q z w => absurd w (Nat.not_le.mpr z)) hn (fun r_13 H locs hR hz hk hS => ?_)
          have fl6 := fl6.kept (hk _ fl6.lt (Nat.not_le.mpr fl6.lt))
          have fR6 := fR6.kept (hk _ fR6.lt (Nat.not_le.mpr fR6.lt))
          have el6 := el6.new hk
          have f8 := f8.kept (hk _ f8.lt (Nat.not_le.mpr f8.lt))
          have he11 := he11.kept (hk _ he11.lt (Nat.not_le.mpr he11.lt))
          have er_13 : r_13 = xe11 := hR
          refine lv_lstore (pc := 56) (lv' := [(5, .long r_13), (0, .ref mo), (1, .int x), (2, .long d9), (4, .ref r_7)]) hx hb dX5_depthNow_56 hl (by decide) rfl (fun ls hl => ?_)
          refine lv_lload_n (pc := 58) hx hb dX5_depthNow_58 rfl (lv_at hl 3 rfl) ?_
          refine lv_lload (pc := 59) hx hb dX5_depthNow_59 (lv_at hl 0 rfl) ?_
          refine lv_ladd (pc := 61) hx hb dX5_depthNow_61 ?_
          obtain ⟨x_14, ex_14⟩ : ∃ z9 : Int64, z9 = d9 + r_13 := ⟨_, rfl⟩
          rw [← ex_14]
          refine lv_lstore_n (pc := 62) (lv' := [(2, .long x_14), (5, .long r_13), (0, .ref mo), (1, .int x), (4, .ref r_7)]) hx hb dX5_depthNow_62 rfl hl (by decide) rfl (fun ls hl => ?_)
          refine lv_goto (pc := 63) (tgt := 33) hx hb dX5_depthNow_63 (by decide) ?_
          refine W.widen (k := 50) (n := 179) (by omega) (by omega) ?_
          exact ih_33  (k + 1) _  x_14 (by omega) (by omega) (m_smS (by rw [← hTL6]; exact hkn) hg9 (by rw [ex_14, er_13, m_lgI ev11 (hTA6 k hkn)])) _ _ _ hS fl6 fR6 el6 f8 (lv_sub hl [2, 3, 0, 4] rfl)
    refine W.widen (k := 50) (n := 179) (by omega) (by omega) ?_
    exact loop_33 45 0 _  ((-1)) (by omega) (by omega) rfl _ _ _ hS fl6 fR6 el6 f8 (lv_sub hl [2, 3, 1, 0] rfl)
  · refine lv_bipush (pc := 12) (v := (-9)) hx hb dX5_depthNow_12 (by decide) ?_
    try rw [hQ]
    refine r_iret (pc := 14) E hr hlk hS (by omega) (by omega) ?_ dX5_depthNow_14
    unfold m_DP
    rw [if_pos (er_2.symm.trans c_3)]
