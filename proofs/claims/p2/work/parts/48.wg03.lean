set_option maxHeartbeats 4000000 in
set_option maxRecDepth 100000 in
/-- BestratiosModel.tally(III)I -/
theorem c_X5_tally (l : Launch) (D : va_G) (tk : Nat → ClassId) (N0 : Nat) (sa : Nat → Nat)  (sz : Nat) (P : Nat → Prop) (hPN : ∀ q, P q → N0 ≤ q) (hPs : ∀ q, sz ≤ q → P q) (mo n9 : Nat) (kn th : Int32) (tt bb : Nat → Int64) (eT eB oT oB : Int64) (pk : Nat) (ca rf : Int32) (vs : Nat → Value) (x1 : Int32) (x2 : Int32) (x3 : Int32) : Met l yX5_tally (wsy yX5_tally cX5_tally 7 (some .int)) ({ frames := 4, cells := 4, slots := 8, locals := 99 } : Room) (cP D tk N0 sa [.ref mo, .int x1, .int x2, .int x3] sz (fun H => MI D tk sa P mo tt bb eT eB oT oB pk ca rf vs kn n9 th H)) (kQi (fun r H => ∃ (th1 : Int32) (eT1 eB1 oT1 oB1 : Int64) (pk1 : Nat) (ca1 rf1 : Int32), MI D tk sa P mo tt bb eT1 eB1 oT1 oB1 pk1 ca1 rf1 vs kn n9 th1 H ∧ TL (m_isNo x1) (m_or (m_not (m_isIn x2 0 4)) (m_not (m_isIn x3 0 4))) eT eB oT oB pk ca rf (tt (nn x1)) (bb (nn x1)) x2 x3 r th1 eT1 eB1 oT1 oB1 pk1 ca1 rf1) (P)) (4) (8) (P) := by
  refine mStart RX5 rfl (by decide +kernel) (Nat.le_of_ble_eq_true rfl) ?_
  intro p e s m args below meth c E hr hlk hnm hsz hC hF ls hl
  subst hsz
  obtain ⟨hx, hb, -⟩ := id E
  have hA : ∀ q, (P) q → N0 ≤ q := hPN
  have hn : ∀ q, s.heap.size ≤ q → (P) q := hPs
  have hS : va_S (P) s.heap s.heap [] := va_S.rf
  have hl : lv_has ls 7 [(0, .ref mo), (1, .int x1), (2, .int x2), (3, .int x3)] := hl
  have hM : MI D tk sa P mo tt bb eT eB oT oB pk ca rf vs kn n9 th s.heap := hF
  obtain ⟨ra, rl, ex, ro, rt, fo, fj, fk, fe, fr, fw, ⟨hPm, hPa, hPl, hPe, hPr, hPk⟩, hFk, hFe, hFr, hpk, hn9⟩ := hM
  have g_fo := hPm
  have g_fj := hPa
  refine lv_aload_n (pc := 0) hx hb dX5_tally_0 rfl (lv_at hl 0 rfl) ?_
  refine lv_iload_n (pc := 1) hx hb dX5_tally_1 rfl (lv_at hl 1 rfl) ?_
  refine k_i (pc := 2) (k_S E hC hS hA hl.1 (c_X5_isNo l D tk N0 sa s.heap.size x1 ) kw_1245 kw_1246 kw_5 kw_1247 (n := 1) (by decide +kernel) rfl ⟨⟨rfl, rfl⟩, ⟨Nat.le_of_ble_eq_true rfl, Nat.le_of_ble_eq_true rfl⟩, (by dsimp only; omega), (by dsimp only; omega)⟩ rfl (Nat.le_of_ble_eq_true rfl) trivial dX5_tally_2) hS (fun q z w => absurd w (Nat.not_le.mpr z)) hn (fun r_1 H locs hR hz hk hS => ?_)
  have er_1 := hR
  have fw := fw.new hk
  have fo := fo.kept (hk _ fo.lt (Nat.not_le.mpr fo.lt))
  have fj := fj.kept (hk _ fj.lt (Nat.not_le.mpr fj.lt))
  have fk := fk.new hk
  have fe := fe.kept (hk _ fe.lt (Nat.not_le.mpr fe.lt))
  have fr := fr.kept (hk _ fr.lt (Nat.not_le.mpr fr.lt))
  refine lv_iload_n (pc := 5) hx hb dX5_tally_5 rfl (lv_at hl 2 rfl) ?_
  refine lv_iconst (pc := 6) (v := 0) hx hb dX5_tally_6 (by decide) ?_
  refine lv_iconst (pc := 7) (v := 4) hx hb dX5_tally_7 (by decide) ?_
  refine k_i (pc := 8) (k_S E hC hS hA hl.1 (c_X5_isIn l D tk N0 sa H.size x2 0 4 ) kw_1248 kw_1249 kw_5 kw_1250 (n := 3) (by decide +kernel) rfl ⟨⟨rfl, rfl⟩, ⟨Nat.le_of_ble_eq_true rfl, Nat.le_of_ble_eq_true rfl⟩, (by dsimp only; omega), (by dsimp only; omega)⟩ rfl (Nat.le_of_ble_eq_true rfl) trivial dX5_tally_8) hS (fun q z w => absurd w (Nat.not_le.mpr z)) hn (fun r_3 H locs hR hz hk hS => ?_)
  have er_3 := hR
  have fw := fw.new hk
  have fo := fo.kept (hk _ fo.lt (Nat.not_le.mpr fo.lt))
  have fj := fj.kept (hk _ fj.lt (Nat.not_le.mpr fj.lt))
  have fk := fk.new hk
  have fe := fe.kept (hk _ fe.lt (Nat.not_le.mpr fe.lt))
  have fr := fr.kept (hk _ fr.lt (Nat.not_le.mpr fr.lt))
  refine lv_if_eq (pc := 11) (tgt := 23) hx hb dX5_tally_11 (by decide) (fun c_5 => ?_) (fun c_5 => ?_)
  · refine lv_iconst (pc := 23) (v := 1) hx hb dX5_tally_23 (by decide) ?_
    refine lv_goto (pc := 24) (tgt := 28) hx hb dX5_tally_24 (by decide) ?_
    have hZ0_ := hS.1
    have t_fo := fo.lt
    have t_fj := fj.lt
    have t_fk := fun k (hk9 : k < 6) => (fk k hk9).lt
    have t_fe := fe.lt
    have t_fr := fr.lt
    refine k_i (pc := 28) (k_V E hC hS hA hl.1 (c1.recv hC fo rfl) rfl (c_X5_fails l D tk N0 sa H.size P hPN (fun q h9 => hPs q (Nat.le_trans hS.1 h9)) mo n9 kn th tt bb eT eB oT oB pk ca rf vs r_1 1 ) kw_1251 kw_1253 kp_20 kw_5 kw_1254 (n := 2) (by decide +kernel) rfl ⟨⟨rfl, rfl⟩, ⟨Nat.le_of_ble_eq_true rfl, Nat.le_of_ble_eq_true rfl⟩, (by dsimp only; omega), (by dsimp only; omega)⟩ rfl (Nat.le_of_ble_eq_true rfl) ⟨_, _, _, _, _, fo, fj, fk, fe, fr, fw, ⟨hPm, hPa, hPl, hPe, hPr, hPk⟩, hFk, hFe, hFr, hpk, hn9⟩ dX5_tally_28) hS (fun q _ h => h) hn (fun r_6 H locs hR hz hk hS => ?_)
    obtain ⟨er_6, hM⟩ := hR
    obtain ⟨ra, rl, ex, ro, rt, fo, fj, fk, fe, fr, fw, ⟨hPm, hPa, hPl, hPe, hPr, hPk⟩, hFk, hFe, hFr, hpk, hn9⟩ := hM
    have g_fo := hPm
    have g_fj := hPa
    have ef_r_6 : r_6 = 1 := er_6.trans (m_fl1 _)
    rw [ef_r_6]
    refine lv_if_eq (pc := 31) (tgt := 36) hx hb dX5_tally_31 (by decide) (fun c_7 => ?_) (fun c_7 => ?_)
    · exact absurd c_7 (by decide)
    refine lv_iconst (pc := 34) (v := 0) hx hb dX5_tally_34 (by decide) ?_
    refine r_iret (pc := 35) E hr hlk hS (by omega) (by omega) ?_ dX5_tally_35
    exact ⟨_, _, _, _, _, _, _, _, ⟨_, _, _, _, _, fo, fj, fk, fe, fr, fw, ⟨hPm, hPa, hPl, hPe, hPr, hPk⟩, hFk, hFe, hFr, hpk, hn9⟩, TL.fail (by subst er_1 er_3; first | rfl | (simp [m_or, m_not, m_is0, m_lt0, m_fl, c_5]; done)) (by subst er_1 er_3; first | rfl | (simp [m_or, m_not, m_is0, m_lt0, m_fl, c_5]; done)) (fun z9 => absurd (ef_r_6.symm.trans (er_6.trans z9)) (by decide))⟩
  · refine lv_iload_n (pc := 14) hx hb dX5_tally_14 rfl (lv_at hl 3 rfl) ?_
    refine lv_iconst (pc := 15) (v := 0) hx hb dX5_tally_15 (by decide) ?_
    refine lv_iconst (pc := 16) (v := 4) hx hb dX5_tally_16 (by decide) ?_
    refine k_i (pc := 17) (k_S E hC hS hA hl.1 (c_X5_isIn l D tk N0 sa H.size x3 0 4 ) kw_1248 kw_1249 kw_5 kw_1250 (n := 3) (by decide +kernel) rfl ⟨⟨rfl, rfl⟩, ⟨Nat.le_of_ble_eq_true rfl, Nat.le_of_ble_eq_true rfl⟩, (by dsimp only; omega), (by dsimp only; omega)⟩ rfl (Nat.le_of_ble_eq_true rfl) trivial dX5_tally_17) hS (fun q z w => absurd w (Nat.not_le.mpr z)) hn (fun r_8 H locs hR hz hk hS => ?_)
    have er_8 := hR
    have fw := fw.new hk
    have fo := fo.kept (hk _ fo.lt (Nat.not_le.mpr fo.lt))
    have fj := fj.kept (hk _ fj.lt (Nat.not_le.mpr fj.lt))
    have fk := fk.new hk
    have fe := fe.kept (hk _ fe.lt (Nat.not_le.mpr fe.lt))
    have fr := fr.kept (hk _ fr.lt (Nat.not_le.mpr fr.lt))
    refine lv_if_ne (pc := 20) (tgt := 27) hx hb dX5_tally_20 (by decide) (fun c_10 => ?_) (fun c_10 => ?_)
    · refine lv_iconst (pc := 27) (v := 0) hx hb dX5_tally_27 (by decide) ?_
      have hZ0_ := hS.1
      have t_fo := fo.lt
      have t_fj := fj.lt
      have t_fk := fun k (hk9 : k < 6) => (fk k hk9).lt
      have t_fe := fe.lt
      have t_fr := fr.lt
      refine k_i (pc := 28) (k_V E hC hS hA hl.1 (c1.recv hC fo rfl) rfl (c_X5_fails l D tk N0 sa H.size P hPN (fun q h9 => hPs q (Nat.le_trans hS.1 h9)) mo n9 kn th tt bb eT eB oT oB pk ca rf vs r_1 0 ) kw_1251 kw_1253 kp_20 kw_5 kw_1254 (n := 2) (by decide +kernel) rfl ⟨⟨rfl, rfl⟩, ⟨Nat.le_of_ble_eq_true rfl, Nat.le_of_ble_eq_true rfl⟩, (by dsimp only; omega), (by dsimp only; omega)⟩ rfl (Nat.le_of_ble_eq_true rfl) ⟨_, _, _, _, _, fo, fj, fk, fe, fr, fw, ⟨hPm, hPa, hPl, hPe, hPr, hPk⟩, hFk, hFe, hFr, hpk, hn9⟩ dX5_tally_28) hS (fun q _ h => h) hn (fun r_11 H locs hR hz hk hS => ?_)
      obtain ⟨er_11, hM⟩ := hR
      obtain ⟨ra, rl, ex, ro, rt, fo, fj, fk, fe, fr, fw, ⟨hPm, hPa, hPl, hPe, hPr, hPk⟩, hFk, hFe, hFr, hpk, hn9⟩ := hM
      have g_fo := hPm
      have g_fj := hPa
      refine lv_if_eq (pc := 31) (tgt := 36) hx hb dX5_tally_31 (by decide) (fun c_12 => ?_) (fun c_12 => ?_)
      · refine lv_aload_n (pc := 36) hx hb dX5_tally_36 rfl (lv_at hl 0 rfl) ?_
        refine r_get (pc := 37) E hC fo 0 (v := .ref ra) rfl rfl (by decide) uX5 (List.mem_cons_of_mem _ kw_1209) (fun _ h => h) dX5_tally_37 ?_
        refine lv_iload_n (pc := 40) hx hb dX5_tally_40 rfl (lv_at hl 1 rfl) ?_
        obtain ⟨hx_13, hk_13⟩ := m_noN (er_1.symm.trans (m_fl0 (er_11.symm.trans c_12)).1)
        refine r_aaldJ (pc := 41) E hC fj (nn x1) hx_13 hk_13 (by decide) rfl dX5_tally_41 ?_
        have fL14 := fk (nn x1) hk_13
        have mF_fL14 := hFk (nn x1) hk_13
        have Pq_fL14 := hPk (nn x1) hk_13
        refine lv_astore (pc := 42) (lv' := [(4, .ref (rt (nn x1))), (0, .ref mo), (1, .int x1), (2, .int x2), (3, .int x3)]) hx hb dX5_tally_42 hl (by decide) rfl (fun ls hl => ?_)
        refine lv_aload_n (pc := 44) hx hb dX5_tally_44 rfl (lv_at hl 1 rfl) ?_
        refine r_get (pc := 45) E hC fo 2 (v := .ref ex) rfl rfl (by decide) uX5 (List.mem_cons_of_mem _ kw_1211) (fun _ h => h) dX5_tally_45 ?_
        refine lv_aload (pc := 48) hx hb dX5_tally_48 (lv_at hl 0 rfl) ?_
        refine lv_iconst (pc := 50) (v := 1) hx hb dX5_tally_50 (by decide) ?_
        have hP1 := m_sumP 1 hFe mF_fL14 (by decide)
        have hZ0_ := hS.1
        have t_fo := fo.lt
        have t_fj := fj.lt
        have t_fk := fun k (hk9 : k < 6) => (fk k hk9).lt
        have t_fe := fe.lt
        have t_fr := fr.lt
        have t_fL14 := fL14.lt
        refine k_r (pc := 51) (k_S E hC hS hA hl.1 (c_X5_sum l D tk N0 sa H.size ex eT eB (rt (nn x1)) (tt (nn x1)) (bb (nn x1)) 1 hP1.1) kw_1297 kw_1298 kw_5 kw_1299 (n := 3) (by decide +kernel) rfl ⟨⟨rfl, rfl⟩, ⟨Nat.le_of_ble_eq_true rfl, Nat.le_of_ble_eq_true rfl⟩, (by dsimp only; omega), (by dsimp only; omega)⟩ rfl (Nat.le_of_ble_eq_true rfl) ⟨fe, fL14⟩ dX5_tally_51) hS (fun q z w => absurd w (Nat.not_le.mpr z)) hn (fun r_15 H locs hR hz hk hS => ?_)
        have fw := fw.new hk
        have fo := fo.kept (hk _ fo.lt (Nat.not_le.mpr fo.lt))
        have fj := fj.kept (hk _ fj.lt (Nat.not_le.mpr fj.lt))
        have fk := fk.new hk
        have fe := fe.kept (hk _ fe.lt (Nat.not_le.mpr fe.lt))
        have fr := fr.kept (hk _ fr.lt (Nat.not_le.mpr fr.lt))
        have fL14 := fL14.kept (hk _ fL14.lt (Nat.not_le.mpr fL14.lt))
        obtain ⟨z9_, f16⟩ := hR
        have s_f16 : s.heap.size ≤ r_15 := Nat.le_trans hZ0_ z9_
        have g_f16 := hn _ s_f16
        have l_fo_f16 : mo < r_15 := Nat.lt_of_lt_of_le t_fo z9_
        have l_fj_f16 : ra < r_15 := Nat.lt_of_lt_of_le t_fj z9_
        have nW_f16 : ∀ k, k < 6 → rt k ≠ r_15 := fun k hk9 => Nat.ne_of_lt (Nat.lt_of_lt_of_le (t_fk k hk9) z9_)
        have l_fe_f16 : ex < r_15 := Nat.lt_of_lt_of_le t_fe z9_
        have l_fr_f16 : ro < r_15 := Nat.lt_of_lt_of_le t_fr z9_
        have l_fL14_f16 : rt (nn x1) < r_15 := Nat.lt_of_lt_of_le t_fL14 z9_
        refine lv_astore (pc := 54) (lv' := [(5, .ref r_15), (4, .ref (rt (nn x1))), (0, .ref mo), (1, .int x1), (2, .int x2), (3, .int x3)]) hx hb dX5_tally_54 hl (by decide) rfl (fun ls hl => ?_)
        refine lv_aload_n (pc := 56) hx hb dX5_tally_56 rfl (lv_at hl 2 rfl) ?_
        refine r_get (pc := 57) E hC fo 3 (v := .ref ro) rfl rfl (by decide) uX5 (List.mem_cons_of_mem _ kw_1212) (fun _ h => h) dX5_tally_57 ?_
        refine lv_aload (pc := 60) hx hb dX5_tally_60 (lv_at hl 1 rfl) ?_
        refine lv_iconst (pc := 62) (v := 0) hx hb dX5_tally_62 (by decide) ?_
        refine r_l0 (pc := 63) E hC fL14 dX5_tally_63 ?_
        refine lv_aload (pc := 64) hx hb dX5_tally_64 (lv_at hl 1 rfl) ?_
        refine lv_iconst (pc := 66) (v := 1) hx hb dX5_tally_66 (by decide) ?_
        refine r_l1 (pc := 67) E hC fL14 dX5_tally_67 ?_
        refine lv_iload_n (pc := 68) hx hb dX5_tally_68 rfl (lv_at hl 4 rfl) ?_
        refine lv_iload_n (pc := 69) hx hb dX5_tally_69 rfl (lv_at hl 5 rfl) ?_
        obtain ⟨kp, hkp1, hkp2⟩ := m_in (x := x2) (hi_ := 4) (by decide) (fun z9 => c_5 (er_3.trans z9))
        refine k_l (pc := 70) (k_S E hC hS hA hl.1 (c_X5_cutOf l D tk N0 sa H.size (tt (nn x1)) (bb (nn x1)) x2 x3 (m_ne0 mF_fL14.2.1)) kw_1704 kw_1705 kw_5 kw_1706 (n := 4) (by decide +kernel) rfl ⟨⟨rfl, rfl⟩, ⟨Nat.le_of_ble_eq_true rfl, Nat.le_of_ble_eq_true rfl⟩, (by dsimp only; omega), (by dsimp only; omega)⟩ rfl (Nat.le_of_ble_eq_true rfl) trivial dX5_tally_70) hS (fun q z w => absurd w (Nat.not_le.mpr z)) hn (fun r_17 H locs hR hz hk hS => ?_)
        have er_17 := hR
        have fw := fw.new hk
        have fo := fo.kept (hk _ fo.lt (Nat.not_le.mpr fo.lt))
        have fj := fj.kept (hk _ fj.lt (Nat.not_le.mpr fj.lt))
        have fk := fk.new hk
        have fe := fe.kept (hk _ fe.lt (Nat.not_le.mpr fe.lt))
        have fr := fr.kept (hk _ fr.lt (Nat.not_le.mpr fr.lt))
        have fL14 := fL14.kept (hk _ fL14.lt (Nat.not_le.mpr fL14.lt))
        have f16 := f16.kept (hk _ f16.lt (Nat.not_le.mpr f16.lt))
        refine lv_iload_n (pc := 73) hx hb dX5_tally_73 rfl (lv_at hl 4 rfl) ?_
        refine k_l (pc := 74) (k_S E hC hS hA hl.1 (c_X5_power l D tk N0 sa H.size x2 ) kw_1278 kw_1279 kw_5 kw_1280 (n := 1) (by decide +kernel) rfl ⟨⟨rfl, rfl⟩, ⟨Nat.le_of_ble_eq_true rfl, Nat.le_of_ble_eq_true rfl⟩, (by dsimp only; omega), (by dsimp only; omega)⟩ rfl (Nat.le_of_ble_eq_true rfl) trivial dX5_tally_74) hS (fun q z w => absurd w (Nat.not_le.mpr z)) hn (fun r_19 H locs hR hz hk hS => ?_)
        have er_19 := hR
        have fw := fw.new hk
        have fo := fo.kept (hk _ fo.lt (Nat.not_le.mpr fo.lt))
        have fj := fj.kept (hk _ fj.lt (Nat.not_le.mpr fj.lt))
        have fk := fk.new hk
        have fe := fe.kept (hk _ fe.lt (Nat.not_le.mpr fe.lt))
        have fr := fr.kept (hk _ fr.lt (Nat.not_le.mpr fr.lt))
        have fL14 := fL14.kept (hk _ fL14.lt (Nat.not_le.mpr fL14.lt))
        have f16 := f16.kept (hk _ f16.lt (Nat.not_le.mpr f16.lt))
        have hcb : r_17.toInt.natAbs ≤ 10000000000002 := by rw [er_17]; exact m_cut4B mF_fL14 hkp1 hkp2 _
        have hP2 := m_addP hcb (show r_19 = m_pow (nI kp) by rw [er_19, hkp1]) hkp2
        have hZ0_ := hS.1
        have t_fo := fo.lt
        have t_fj := fj.lt
        have t_fk := fun k (hk9 : k < 6) => (fk k hk9).lt
        have t_fe := fe.lt
        have t_fr := fr.lt
        have t_fL14 := fL14.lt
        have t_f16 := f16.lt
        refine k_r (pc := 77) (k_S E hC hS hA hl.1 (c_X5_lowest l D tk N0 sa H.size r_17 r_19 hP2.1) kw_1199 kw_1200 kw_5 kw_1201 (n := 2) (by decide +kernel) rfl ⟨⟨rfl, rfl⟩, ⟨Nat.le_of_ble_eq_true rfl, Nat.le_of_ble_eq_true rfl⟩, (by dsimp only; omega), (by dsimp only; omega)⟩ rfl (Nat.le_of_ble_eq_true rfl) trivial dX5_tally_77) hS (fun q z w => absurd w (Nat.not_le.mpr z)) hn (fun r_21 H locs hR hz hk hS => ?_)
        have fw := fw.new hk
        have fo := fo.kept (hk _ fo.lt (Nat.not_le.mpr fo.lt))
        have fj := fj.kept (hk _ fj.lt (Nat.not_le.mpr fj.lt))
        have fk := fk.new hk
        have fe := fe.kept (hk _ fe.lt (Nat.not_le.mpr fe.lt))
        have fr := fr.kept (hk _ fr.lt (Nat.not_le.mpr fr.lt))
        have fL14 := fL14.kept (hk _ fL14.lt (Nat.not_le.mpr fL14.lt))
        have f16 := f16.kept (hk _ f16.lt (Nat.not_le.mpr f16.lt))
        obtain ⟨z9_, f22⟩ := hR
        have s_f22 : s.heap.size ≤ r_21 := Nat.le_trans hZ0_ z9_
        have g_f22 := hn _ s_f22
        have l_fo_f22 : mo < r_21 := Nat.lt_of_lt_of_le t_fo z9_
        have l_fj_f22 : ra < r_21 := Nat.lt_of_lt_of_le t_fj z9_
        have nW_f22 : ∀ k, k < 6 → rt k ≠ r_21 := fun k hk9 => Nat.ne_of_lt (Nat.lt_of_lt_of_le (t_fk k hk9) z9_)
        have l_fe_f22 : ex < r_21 := Nat.lt_of_lt_of_le t_fe z9_
        have l_fr_f22 : ro < r_21 := Nat.lt_of_lt_of_le t_fr z9_
        have l_fL14_f22 : rt (nn x1) < r_21 := Nat.lt_of_lt_of_le t_fL14 z9_
        have l_f16_f22 : r_15 < r_21 := Nat.lt_of_lt_of_le t_f16 z9_
        refine lv_iconst (pc := 80) (v := 1) hx hb dX5_tally_80 (by decide) ?_
        have hP3 := m_tlP hFr.1 hFr.2 hP2.2.2.2.1 hP2.2.1 hP2.2.2.1 hP2.2.2.2.2
        have hZ0_ := hS.1
        have t_fo := fo.lt
        have t_fj := fj.lt
        have t_fk := fun k (hk9 : k < 6) => (fk k hk9).lt
        have t_fe := fe.lt
        have t_fr := fr.lt
        have t_fL14 := fL14.lt
        have t_f16 := f16.lt
        have t_f22 := f22.lt
        refine k_r (pc := 81) (k_S E hC hS hA hl.1 (c_X5_sum l D tk N0 sa H.size ro oT oB r_21 (m_loT r_17 r_19) (m_loB r_17 r_19) 1 hP3.1) kw_1297 kw_1298 kw_5 kw_1299 (n := 3) (by decide +kernel) rfl ⟨⟨rfl, rfl⟩, ⟨Nat.le_of_ble_eq_true rfl, Nat.le_of_ble_eq_true rfl⟩, (by dsimp only; omega), (by dsimp only; omega)⟩ rfl (Nat.le_of_ble_eq_true rfl) ⟨fr, f22⟩ dX5_tally_81) hS (fun q z w => absurd w (Nat.not_le.mpr z)) hn (fun r_23 H locs hR hz hk hS => ?_)
        have fw := fw.new hk
        have fo := fo.kept (hk _ fo.lt (Nat.not_le.mpr fo.lt))
        have fj := fj.kept (hk _ fj.lt (Nat.not_le.mpr fj.lt))
        have fk := fk.new hk
        have fe := fe.kept (hk _ fe.lt (Nat.not_le.mpr fe.lt))
        have fr := fr.kept (hk _ fr.lt (Nat.not_le.mpr fr.lt))
        have fL14 := fL14.kept (hk _ fL14.lt (Nat.not_le.mpr fL14.lt))
        have f16 := f16.kept (hk _ f16.lt (Nat.not_le.mpr f16.lt))
        have f22 := f22.kept (hk _ f22.lt (Nat.not_le.mpr f22.lt))
        obtain ⟨z9_, f24⟩ := hR
        have s_f24 : s.heap.size ≤ r_23 := Nat.le_trans hZ0_ z9_
        have g_f24 := hn _ s_f24
        have l_fo_f24 : mo < r_23 := Nat.lt_of_lt_of_le t_fo z9_
        have l_fj_f24 : ra < r_23 := Nat.lt_of_lt_of_le t_fj z9_
        have nW_f24 : ∀ k, k < 6 → rt k ≠ r_23 := fun k hk9 => Nat.ne_of_lt (Nat.lt_of_lt_of_le (t_fk k hk9) z9_)
        have l_fe_f24 : ex < r_23 := Nat.lt_of_lt_of_le t_fe z9_
        have l_fr_f24 : ro < r_23 := Nat.lt_of_lt_of_le t_fr z9_
        have l_fL14_f24 : rt (nn x1) < r_23 := Nat.lt_of_lt_of_le t_fL14 z9_
        have l_f16_f24 : r_15 < r_23 := Nat.lt_of_lt_of_le t_f16 z9_
        have l_f22_f24 : r_21 < r_23 := Nat.lt_of_lt_of_le t_f22 z9_
        refine lv_astore (pc := 84) (lv' := [(6, .ref r_23), (5, .ref r_15), (4, .ref (rt (nn x1))), (0, .ref mo), (1, .int x1), (2, .int x2), (3, .int x3)]) hx hb dX5_tally_84 hl (by decide) rfl (fun ls hl => ?_)
        refine lv_aload (pc := 86) hx hb dX5_tally_86 (lv_at hl 1 rfl) ?_
        have hZ0_ := hS.1
        have t_fo := fo.lt
        have t_fj := fj.lt
        have t_fk := fun k (hk9 : k < 6) => (fk k hk9).lt
        have t_fe := fe.lt
        have t_fr := fr.lt
        have t_fL14 := fL14.lt
        have t_f16 := f16.lt
        have t_f22 := f22.lt
        have t_f24 := f24.lt
        refine k_i (pc := 88) (k_S E hC hS hA hl.1 (c_X5_isFit l D tk N0 sa H.size r_15 (m_loT (eT * (bb (nn x1)) + ((1 : Int32)).toInt64 * ((tt (nn x1)) * eB)) (eB * (bb (nn x1)))) (m_loB (eT * (bb (nn x1)) + ((1 : Int32)).toInt64 * ((tt (nn x1)) * eB)) (eB * (bb (nn x1)))) ) kw_1259 kw_1260 kw_5 kw_1261 (n := 1) (by decide +kernel) rfl ⟨⟨rfl, rfl⟩, ⟨Nat.le_of_ble_eq_true rfl, Nat.le_of_ble_eq_true rfl⟩, (by dsimp only; omega), (by dsimp only; omega)⟩ rfl (Nat.le_of_ble_eq_true rfl) f16 dX5_tally_88) hS (fun q z w => absurd w (Nat.not_le.mpr z)) hn (fun r_25 H locs hR hz hk hS => ?_)
        have fw := fw.new hk
        have fo := fo.kept (hk _ fo.lt (Nat.not_le.mpr fo.lt))
        have fj := fj.kept (hk _ fj.lt (Nat.not_le.mpr fj.lt))
        have fk := fk.new hk
        have fe := fe.kept (hk _ fe.lt (Nat.not_le.mpr fe.lt))
        have fr := fr.kept (hk _ fr.lt (Nat.not_le.mpr fr.lt))
        have fL14 := fL14.kept (hk _ fL14.lt (Nat.not_le.mpr fL14.lt))
        have f16 := f16.kept (hk _ f16.lt (Nat.not_le.mpr f16.lt))
        have f22 := f22.kept (hk _ f22.lt (Nat.not_le.mpr f22.lt))
        have f24 := f24.kept (hk _ f24.lt (Nat.not_le.mpr f24.lt))
        have er_25 := hR
        refine lv_if_eq (pc := 91) (tgt := 116) hx hb dX5_tally_91 (by decide) (fun c_26 => ?_) (fun c_26 => ?_)
        · refine lv_aload_n (pc := 116) hx hb dX5_tally_116 rfl (lv_at hl 3 rfl) ?_
          have hZ0_ := hS.1
          have t_fo := fo.lt
          have t_fj := fj.lt
          have t_fk := fun k (hk9 : k < 6) => (fk k hk9).lt
          have t_fe := fe.lt
          have t_fr := fr.lt
          have t_fL14 := fL14.lt
          have t_f16 := f16.lt
          have t_f22 := f22.lt
          have t_f24 := f24.lt
          refine k_i (pc := 117) (k_V E hC hS hA hl.1 (c1.recv hC fo rfl) rfl (c_X5_no l D tk N0 sa H.size P hPN (fun q h9 => hPs q (Nat.le_trans hS.1 h9)) mo n9 kn ((m_th r_1 0)) tt bb eT eB oT oB pk ca rf vs  ) kw_1264 kw_1266 kp_22 kw_5 kw_1267 (n := 0) (by decide +kernel) rfl ⟨⟨rfl, rfl⟩, ⟨Nat.le_of_ble_eq_true rfl, Nat.le_of_ble_eq_true rfl⟩, (by dsimp only; omega), (by dsimp only; omega)⟩ rfl (Nat.le_of_ble_eq_true rfl) ⟨_, _, _, _, _, fo, fj, fk, fe, fr, fw, ⟨hPm, hPa, hPl, hPe, hPr, hPk⟩, hFk, hFe, hFr, hpk, hn9⟩ dX5_tally_117) hS (fun q _ h => h) hn (fun r_27 H locs hR hz hk hS => ?_)
          obtain ⟨er_27, hM⟩ := hR
          obtain ⟨ra, rl, ex, ro, rt, fo, fj, fk, fe, fr, fw, ⟨hPm, hPa, hPl, hPe, hPr, hPk⟩, hFk, hFe, hFr, hpk, hn9⟩ := hM
          have g_fo := hPm
          have g_fj := hPa
          refine r_iret (pc := 120) E hr hlk hS (by omega) (by omega) ?_ dX5_tally_120
          have hE9 : (m_loT (eT * (bb (nn x1)) + ((1 : Int32)).toInt64 * ((tt (nn x1)) * eB)) (eB * (bb (nn x1))), m_loB (eT * (bb (nn x1)) + ((1 : Int32)).toInt64 * ((tt (nn x1)) * eB)) (eB * (bb (nn x1)))) = m_TLe eT eB (tt (nn x1)) (bb (nn x1)) := rfl
          have hR9 : (m_loT (oT * (m_loB r_17 r_19) + ((1 : Int32)).toInt64 * ((m_loT r_17 r_19) * oB)) (oB * (m_loB r_17 r_19)), m_loB (oT * (m_loB r_17 r_19) + ((1 : Int32)).toInt64 * ((m_loT r_17 r_19) * oB)) (oB * (m_loB r_17 r_19))) = m_TLo oT oB (tt (nn x1)) (bb (nn x1)) x2 x3 := by rw [er_17, er_19]; rfl
          exact ⟨_, _, _, _, _, _, _, _, ⟨_, _, _, _, _, fo, fj, fk, fe, fr, fw, ⟨hPm, hPa, hPl, hPe, hPr, hPk⟩, hFk, hFe, hFr, hpk, hn9⟩, TL.no (by subst er_1 er_3 er_8 er_11 er_17 er_19 er_25 er_27; first | rfl | (simp [m_or, m_not, m_is0, m_lt0, m_fl, c_5, c_10, c_12, c_26]; done)) (by subst er_1 er_3 er_8 er_11 er_17 er_19 er_25 er_27; first | rfl | (simp [m_or, m_not, m_is0, m_lt0, m_fl, c_5, c_10, c_12, c_26]; done)) (er_11.symm.trans c_12) (fun z9 => z9.1 (by rw [← hE9]; exact (er_25.symm.trans c_26))) er_27⟩
        · refine lv_aload (pc := 94) hx hb dX5_tally_94 (lv_at hl 0 rfl) ?_
          have hZ0_ := hS.1
          have t_fo := fo.lt
          have t_fj := fj.lt
          have t_fk := fun k (hk9 : k < 6) => (fk k hk9).lt
          have t_fe := fe.lt
          have t_fr := fr.lt
          have t_fL14 := fL14.lt
          have t_f16 := f16.lt
          have t_f22 := f22.lt
          have t_f24 := f24.lt
          refine k_i (pc := 96) (k_S E hC hS hA hl.1 (c_X5_isFit l D tk N0 sa H.size r_23 (m_loT (oT * (m_loB r_17 r_19) + ((1 : Int32)).toInt64 * ((m_loT r_17 r_19) * oB)) (oB * (m_loB r_17 r_19))) (m_loB (oT * (m_loB r_17 r_19) + ((1 : Int32)).toInt64 * ((m_loT r_17 r_19) * oB)) (oB * (m_loB r_17 r_19))) ) kw_1259 kw_1260 kw_5 kw_1261 (n := 1) (by decide +kernel) rfl ⟨⟨rfl, rfl⟩, ⟨Nat.le_of_ble_eq_true rfl, Nat.le_of_ble_eq_true rfl⟩, (by dsimp only; omega), (by dsimp only; omega)⟩ rfl (Nat.le_of_ble_eq_true rfl) f24 dX5_tally_96) hS (fun q z w => absurd w (Nat.not_le.mpr z)) hn (fun r_28 H locs hR hz hk hS => ?_)
          have fw := fw.new hk
          have fo := fo.kept (hk _ fo.lt (Nat.not_le.mpr fo.lt))
          have fj := fj.kept (hk _ fj.lt (Nat.not_le.mpr fj.lt))
          have fk := fk.new hk
          have fe := fe.kept (hk _ fe.lt (Nat.not_le.mpr fe.lt))
          have fr := fr.kept (hk _ fr.lt (Nat.not_le.mpr fr.lt))
          have fL14 := fL14.kept (hk _ fL14.lt (Nat.not_le.mpr fL14.lt))
          have f16 := f16.kept (hk _ f16.lt (Nat.not_le.mpr f16.lt))
          have f22 := f22.kept (hk _ f22.lt (Nat.not_le.mpr f22.lt))
          have f24 := f24.kept (hk _ f24.lt (Nat.not_le.mpr f24.lt))
          have er_28 := hR
          refine lv_if_eq (pc := 99) (tgt := 116) hx hb dX5_tally_99 (by decide) (fun c_29 => ?_) (fun c_29 => ?_)
          · refine lv_aload_n (pc := 116) hx hb dX5_tally_116 rfl (lv_at hl 3 rfl) ?_
            have hZ0_ := hS.1
            have t_fo := fo.lt
            have t_fj := fj.lt
            have t_fk := fun k (hk9 : k < 6) => (fk k hk9).lt
            have t_fe := fe.lt
            have t_fr := fr.lt
            have t_fL14 := fL14.lt
            have t_f16 := f16.lt
            have t_f22 := f22.lt
            have t_f24 := f24.lt
            refine k_i (pc := 117) (k_V E hC hS hA hl.1 (c1.recv hC fo rfl) rfl (c_X5_no l D tk N0 sa H.size P hPN (fun q h9 => hPs q (Nat.le_trans hS.1 h9)) mo n9 kn ((m_th r_1 0)) tt bb eT eB oT oB pk ca rf vs  ) kw_1264 kw_1266 kp_22 kw_5 kw_1267 (n := 0) (by decide +kernel) rfl ⟨⟨rfl, rfl⟩, ⟨Nat.le_of_ble_eq_true rfl, Nat.le_of_ble_eq_true rfl⟩, (by dsimp only; omega), (by dsimp only; omega)⟩ rfl (Nat.le_of_ble_eq_true rfl) ⟨_, _, _, _, _, fo, fj, fk, fe, fr, fw, ⟨hPm, hPa, hPl, hPe, hPr, hPk⟩, hFk, hFe, hFr, hpk, hn9⟩ dX5_tally_117) hS (fun q _ h => h) hn (fun r_30 H locs hR hz hk hS => ?_)
            obtain ⟨er_30, hM⟩ := hR
            obtain ⟨ra, rl, ex, ro, rt, fo, fj, fk, fe, fr, fw, ⟨hPm, hPa, hPl, hPe, hPr, hPk⟩, hFk, hFe, hFr, hpk, hn9⟩ := hM
            have g_fo := hPm
            have g_fj := hPa
            refine r_iret (pc := 120) E hr hlk hS (by omega) (by omega) ?_ dX5_tally_120
            have hE9 : (m_loT (eT * (bb (nn x1)) + ((1 : Int32)).toInt64 * ((tt (nn x1)) * eB)) (eB * (bb (nn x1))), m_loB (eT * (bb (nn x1)) + ((1 : Int32)).toInt64 * ((tt (nn x1)) * eB)) (eB * (bb (nn x1)))) = m_TLe eT eB (tt (nn x1)) (bb (nn x1)) := rfl
            have hR9 : (m_loT (oT * (m_loB r_17 r_19) + ((1 : Int32)).toInt64 * ((m_loT r_17 r_19) * oB)) (oB * (m_loB r_17 r_19)), m_loB (oT * (m_loB r_17 r_19) + ((1 : Int32)).toInt64 * ((m_loT r_17 r_19) * oB)) (oB * (m_loB r_17 r_19))) = m_TLo oT oB (tt (nn x1)) (bb (nn x1)) x2 x3 := by rw [er_17, er_19]; rfl
            exact ⟨_, _, _, _, _, _, _, _, ⟨_, _, _, _, _, fo, fj, fk, fe, fr, fw, ⟨hPm, hPa, hPl, hPe, hPr, hPk⟩, hFk, hFe, hFr, hpk, hn9⟩, TL.no (by subst er_1 er_3 er_8 er_11 er_17 er_19 er_25 er_28 er_30; first | rfl | (simp [m_or, m_not, m_is0, m_lt0, m_fl, c_5, c_10, c_12, c_26, c_29]; done)) (by subst er_1 er_3 er_8 er_11 er_17 er_19 er_25 er_28 er_30; first | rfl | (simp [m_or, m_not, m_is0, m_lt0, m_fl, c_5, c_10, c_12, c_26, c_29]; done)) (er_11.symm.trans c_12) (fun z9 => z9.2.1 (by rw [← hR9]; exact (er_28.symm.trans c_29))) er_30⟩
          · refine lv_aload (pc := 102) hx hb dX5_tally_102 (lv_at hl 1 rfl) ?_
            refine lv_aload (pc := 104) hx hb dX5_tally_104 (lv_at hl 0 rfl) ?_
            refine lv_iconst (pc := 106) (v := (-1)) hx hb dX5_tally_106 (by decide) ?_
            have hFE := m_fit1 (by rw [← er_25]; exact c_26) hP1.2.1
            have hFR := m_fit1 (by rw [← er_28]; exact c_29) hP3.2.1
            have hP4 := m_sumP (-1) hFE hFR (by decide)
            have hZ0_ := hS.1
            have t_fo := fo.lt
            have t_fj := fj.lt
            have t_fk := fun k (hk9 : k < 6) => (fk k hk9).lt
            have t_fe := fe.lt
            have t_fr := fr.lt
            have t_fL14 := fL14.lt
            have t_f16 := f16.lt
            have t_f22 := f22.lt
            have t_f24 := f24.lt
            refine k_r (pc := 107) (k_S E hC hS hA hl.1 (c_X5_sum l D tk N0 sa H.size r_15 (m_loT (eT * (bb (nn x1)) + ((1 : Int32)).toInt64 * ((tt (nn x1)) * eB)) (eB * (bb (nn x1)))) (m_loB (eT * (bb (nn x1)) + ((1 : Int32)).toInt64 * ((tt (nn x1)) * eB)) (eB * (bb (nn x1)))) r_23 (m_loT (oT * (m_loB r_17 r_19) + ((1 : Int32)).toInt64 * ((m_loT r_17 r_19) * oB)) (oB * (m_loB r_17 r_19))) (m_loB (oT * (m_loB r_17 r_19) + ((1 : Int32)).toInt64 * ((m_loT r_17 r_19) * oB)) (oB * (m_loB r_17 r_19))) ((-1)) hP4.1) kw_1297 kw_1298 kw_5 kw_1299 (n := 3) (by decide +kernel) rfl ⟨⟨rfl, rfl⟩, ⟨Nat.le_of_ble_eq_true rfl, Nat.le_of_ble_eq_true rfl⟩, (by dsimp only; omega), (by dsimp only; omega)⟩ rfl (Nat.le_of_ble_eq_true rfl) ⟨f16, f24⟩ dX5_tally_107) hS (fun q z w => absurd w (Nat.not_le.mpr z)) hn (fun r_31 H locs hR hz hk hS => ?_)
            have fw := fw.new hk
            have fo := fo.kept (hk _ fo.lt (Nat.not_le.mpr fo.lt))
            have fj := fj.kept (hk _ fj.lt (Nat.not_le.mpr fj.lt))
            have fk := fk.new hk
            have fe := fe.kept (hk _ fe.lt (Nat.not_le.mpr fe.lt))
            have fr := fr.kept (hk _ fr.lt (Nat.not_le.mpr fr.lt))
            have fL14 := fL14.kept (hk _ fL14.lt (Nat.not_le.mpr fL14.lt))
            have f16 := f16.kept (hk _ f16.lt (Nat.not_le.mpr f16.lt))
            have f22 := f22.kept (hk _ f22.lt (Nat.not_le.mpr f22.lt))
            have f24 := f24.kept (hk _ f24.lt (Nat.not_le.mpr f24.lt))
            obtain ⟨z9_, f32⟩ := hR
            have s_f32 : s.heap.size ≤ r_31 := Nat.le_trans hZ0_ z9_
            have g_f32 := hn _ s_f32
            have l_fo_f32 : mo < r_31 := Nat.lt_of_lt_of_le t_fo z9_
            have l_fj_f32 : ra < r_31 := Nat.lt_of_lt_of_le t_fj z9_
            have nW_f32 : ∀ k, k < 6 → rt k ≠ r_31 := fun k hk9 => Nat.ne_of_lt (Nat.lt_of_lt_of_le (t_fk k hk9) z9_)
            have l_fe_f32 : ex < r_31 := Nat.lt_of_lt_of_le t_fe z9_
            have l_fr_f32 : ro < r_31 := Nat.lt_of_lt_of_le t_fr z9_
            have l_fL14_f32 : rt (nn x1) < r_31 := Nat.lt_of_lt_of_le t_fL14 z9_
            have l_f16_f32 : r_15 < r_31 := Nat.lt_of_lt_of_le t_f16 z9_
            have l_f22_f32 : r_21 < r_31 := Nat.lt_of_lt_of_le t_f22 z9_
            have l_f24_f32 : r_23 < r_31 := Nat.lt_of_lt_of_le t_f24 z9_
            have hZ0_ := hS.1
            have t_fo := fo.lt
            have t_fj := fj.lt
            have t_fk := fun k (hk9 : k < 6) => (fk k hk9).lt
            have t_fe := fe.lt
            have t_fr := fr.lt
            have t_fL14 := fL14.lt
            have t_f16 := f16.lt
            have t_f22 := f22.lt
            have t_f24 := f24.lt
            have t_f32 := f32.lt
            refine k_i (pc := 110) (k_S E hC hS hA hl.1 (c_X5_isFit l D tk N0 sa H.size r_31 (m_loT ((m_loT (eT * (bb (nn x1)) + ((1 : Int32)).toInt64 * ((tt (nn x1)) * eB)) (eB * (bb (nn x1)))) * (m_loB (oT * (m_loB r_17 r_19) + ((1 : Int32)).toInt64 * ((m_loT r_17 r_19) * oB)) (oB * (m_loB r_17 r_19))) + (((-1) : Int32)).toInt64 * ((m_loT (oT * (m_loB r_17 r_19) + ((1 : Int32)).toInt64 * ((m_loT r_17 r_19) * oB)) (oB * (m_loB r_17 r_19))) * (m_loB (eT * (bb (nn x1)) + ((1 : Int32)).toInt64 * ((tt (nn x1)) * eB)) (eB * (bb (nn x1)))))) ((m_loB (eT * (bb (nn x1)) + ((1 : Int32)).toInt64 * ((tt (nn x1)) * eB)) (eB * (bb (nn x1)))) * (m_loB (oT * (m_loB r_17 r_19) + ((1 : Int32)).toInt64 * ((m_loT r_17 r_19) * oB)) (oB * (m_loB r_17 r_19))))) (m_loB ((m_loT (eT * (bb (nn x1)) + ((1 : Int32)).toInt64 * ((tt (nn x1)) * eB)) (eB * (bb (nn x1)))) * (m_loB (oT * (m_loB r_17 r_19) + ((1 : Int32)).toInt64 * ((m_loT r_17 r_19) * oB)) (oB * (m_loB r_17 r_19))) + (((-1) : Int32)).toInt64 * ((m_loT (oT * (m_loB r_17 r_19) + ((1 : Int32)).toInt64 * ((m_loT r_17 r_19) * oB)) (oB * (m_loB r_17 r_19))) * (m_loB (eT * (bb (nn x1)) + ((1 : Int32)).toInt64 * ((tt (nn x1)) * eB)) (eB * (bb (nn x1)))))) ((m_loB (eT * (bb (nn x1)) + ((1 : Int32)).toInt64 * ((tt (nn x1)) * eB)) (eB * (bb (nn x1)))) * (m_loB (oT * (m_loB r_17 r_19) + ((1 : Int32)).toInt64 * ((m_loT r_17 r_19) * oB)) (oB * (m_loB r_17 r_19))))) ) kw_1259 kw_1260 kw_5 kw_1261 (n := 1) (by decide +kernel) rfl ⟨⟨rfl, rfl⟩, ⟨Nat.le_of_ble_eq_true rfl, Nat.le_of_ble_eq_true rfl⟩, (by dsimp only; omega), (by dsimp only; omega)⟩ rfl (Nat.le_of_ble_eq_true rfl) f32 dX5_tally_110) hS (fun q z w => absurd w (Nat.not_le.mpr z)) hn (fun r_33 H locs hR hz hk hS => ?_)
            have fw := fw.new hk
            have fo := fo.kept (hk _ fo.lt (Nat.not_le.mpr fo.lt))
            have fj := fj.kept (hk _ fj.lt (Nat.not_le.mpr fj.lt))
            have fk := fk.new hk
            have fe := fe.kept (hk _ fe.lt (Nat.not_le.mpr fe.lt))
            have fr := fr.kept (hk _ fr.lt (Nat.not_le.mpr fr.lt))
            have fL14 := fL14.kept (hk _ fL14.lt (Nat.not_le.mpr fL14.lt))
            have f16 := f16.kept (hk _ f16.lt (Nat.not_le.mpr f16.lt))
            have f22 := f22.kept (hk _ f22.lt (Nat.not_le.mpr f22.lt))
            have f24 := f24.kept (hk _ f24.lt (Nat.not_le.mpr f24.lt))
            have f32 := f32.kept (hk _ f32.lt (Nat.not_le.mpr f32.lt))
            have er_33 := hR
            refine lv_if_ne (pc := 113) (tgt := 121) hx hb dX5_tally_113 (by decide) (fun c_34 => ?_) (fun c_34 => ?_)
            · refine lv_aload_n (pc := 121) hx hb dX5_tally_121 rfl (lv_at hl 3 rfl) ?_
              refine lv_aload (pc := 122) hx hb dX5_tally_122 (lv_at hl 1 rfl) ?_
              refine r_put (pc := 124) E hC fo hS g_fo 2 tyX5 tyX5_ok nmX5 rfl (by decide) (Nat.le_of_ble_eq_true rfl) uX5 (List.mem_cons_of_mem _ kw_1211) (fun _ h => h) rfl rfl rfl dX5_tally_124 (fun H locs n_ ho hz hS => ?_)
              have fw := fw.put ho (fun q9 h9 => clA.ne h9 fo.cl (hC.oo 7 13 rfl rfl (by decide))) (fun q9 h9 => clA.ne h9 fo.cl (hC.ao 13 4 rfl rfl)) (fun q9 h9 => clA.ne h9 fo.cl (hC.ceo (Or.inr rfl) 13 rfl (by decide)))
              have nW_fo : ∀ k, k < 6 → rt k ≠ mo := fun k hk9 => clA.ne (fk k hk9).cla fo.cl (hC.ao 13 0 rfl rfl)
              have fj := fj.kept (ho _ (clA.ne fj.cla fo.cl (hC.ao 13 3 rfl rfl)))
              have fk := fk.kept (fun k hk9 => ho _ (nW_fo k hk9))
              have fe := fe.kept (ho _ (clA.ne fe.cla fo.cl (hC.ao 13 0 rfl rfl)))
              have fr := fr.kept (ho _ (clA.ne fr.cla fo.cl (hC.ao 13 0 rfl rfl)))
              have fL14 := fL14.kept (ho _ (clA.ne fL14.cla fo.cl (hC.ao 13 0 rfl rfl)))
              have f16 := f16.kept (ho _ (clA.ne f16.cla fo.cl (hC.ao 13 0 rfl rfl)))
              have f22 := f22.kept (ho _ (clA.ne f22.cla fo.cl (hC.ao 13 0 rfl rfl)))
              have f24 := f24.kept (ho _ (clA.ne f24.cla fo.cl (hC.ao 13 0 rfl rfl)))
              have f32 := f32.kept (ho _ (clA.ne f32.cla fo.cl (hC.ao 13 0 rfl rfl)))
              have fo : c1 D mo (.inr (13, [.ref ra, .ref rl, .ref r_15, .ref ro, .int (nI pk), .int ca, .int rf, .int kn, .int ((m_th r_1 0))])) H := n_
              refine lv_aload_n (pc := 127) hx hb dX5_tally_127 rfl (lv_at hl 3 rfl) ?_
              refine lv_aload (pc := 128) hx hb dX5_tally_128 (lv_at hl 0 rfl) ?_
              refine r_put (pc := 130) E hC fo hS g_fo 3 tyX5 tyX5_ok nmX5 rfl (by decide) (Nat.le_of_ble_eq_true rfl) uX5 (List.mem_cons_of_mem _ kw_1212) (fun _ h => h) rfl rfl rfl dX5_tally_130 (fun H locs n_ ho hz hS => ?_)
              have fw := fw.put ho (fun q9 h9 => clA.ne h9 fo.cl (hC.oo 7 13 rfl rfl (by decide))) (fun q9 h9 => clA.ne h9 fo.cl (hC.ao 13 4 rfl rfl)) (fun q9 h9 => clA.ne h9 fo.cl (hC.ceo (Or.inr rfl) 13 rfl (by decide)))
              have fj := fj.kept (ho _ (clA.ne fj.cla fo.cl (hC.ao 13 3 rfl rfl)))
              have fk := fk.kept (fun k hk9 => ho _ (nW_fo k hk9))
              have fe := fe.kept (ho _ (clA.ne fe.cla fo.cl (hC.ao 13 0 rfl rfl)))
              have fr := fr.kept (ho _ (clA.ne fr.cla fo.cl (hC.ao 13 0 rfl rfl)))
              have fL14 := fL14.kept (ho _ (clA.ne fL14.cla fo.cl (hC.ao 13 0 rfl rfl)))
              have f16 := f16.kept (ho _ (clA.ne f16.cla fo.cl (hC.ao 13 0 rfl rfl)))
              have f22 := f22.kept (ho _ (clA.ne f22.cla fo.cl (hC.ao 13 0 rfl rfl)))
              have f24 := f24.kept (ho _ (clA.ne f24.cla fo.cl (hC.ao 13 0 rfl rfl)))
              have f32 := f32.kept (ho _ (clA.ne f32.cla fo.cl (hC.ao 13 0 rfl rfl)))
              have fo : c1 D mo (.inr (13, [.ref ra, .ref rl, .ref r_15, .ref r_23, .int (nI pk), .int ca, .int rf, .int kn, .int ((m_th r_1 0))])) H := n_
              refine lv_aload_n (pc := 133) hx hb dX5_tally_133 rfl (lv_at hl 3 rfl) ?_
              refine lv_aload_n (pc := 134) hx hb dX5_tally_134 rfl (lv_at hl 3 rfl) ?_
              refine r_get (pc := 135) E hC fo 4 (v := .int (nI pk)) rfl rfl (by decide) uX5 (List.mem_cons_of_mem _ kw_1213) (fun _ h => h) dX5_tally_135 ?_
              refine lv_iload_n (pc := 138) hx hb dX5_tally_138 rfl (lv_at hl 5 rfl) ?_
              refine k_i (pc := 139) (k_S E hC hS hA hl.1 (c_J9_max_7cf53 l D tk N0 sa H.size (nI pk) x2 ) kw_1758 kw_201 kw_9 kw_202 (n := 2) (by decide +kernel) rfl ⟨⟨rfl, rfl⟩, ⟨Nat.le_of_ble_eq_true rfl, Nat.le_of_ble_eq_true rfl⟩, (by dsimp only; omega), (by dsimp only; omega)⟩ rfl (Nat.le_of_ble_eq_true rfl) trivial dX5_tally_139) hS (fun q z w => absurd w (Nat.not_le.mpr z)) hn (fun r_35 H locs hR hz hk hS => ?_)
              have er_35 := hR
              have fw := fw.new hk
              have fo := fo.kept (hk _ fo.lt (Nat.not_le.mpr fo.lt))
              have fj := fj.kept (hk _ fj.lt (Nat.not_le.mpr fj.lt))
              have fk := fk.new hk
              have fe := fe.kept (hk _ fe.lt (Nat.not_le.mpr fe.lt))
              have fr := fr.kept (hk _ fr.lt (Nat.not_le.mpr fr.lt))
              have fL14 := fL14.kept (hk _ fL14.lt (Nat.not_le.mpr fL14.lt))
              have f16 := f16.kept (hk _ f16.lt (Nat.not_le.mpr f16.lt))
              have f22 := f22.kept (hk _ f22.lt (Nat.not_le.mpr f22.lt))
              have f24 := f24.kept (hk _ f24.lt (Nat.not_le.mpr f24.lt))
              have f32 := f32.kept (hk _ f32.lt (Nat.not_le.mpr f32.lt))
              obtain ⟨zp, hz1, hz2⟩ := m_max (a := pk) (b := kp) (by omega) (by omega)
              rw [show r_35 = nI zp by rw [er_35, hkp1]; exact hz1]
              have hpk9 : f_max (nI pk) x2 = nI zp := by rw [hkp1]; exact hz1
              refine r_put (pc := 142) E hC fo hS g_fo 4 tyX5 tyX5_ok nmX5 rfl (by decide) (Nat.le_of_ble_eq_true rfl) uX5 (List.mem_cons_of_mem _ kw_1213) (fun _ h => h) rfl rfl rfl dX5_tally_142 (fun H locs n_ ho hz hS => ?_)
              have fw := fw.put ho (fun q9 h9 => clA.ne h9 fo.cl (hC.oo 7 13 rfl rfl (by decide))) (fun q9 h9 => clA.ne h9 fo.cl (hC.ao 13 4 rfl rfl)) (fun q9 h9 => clA.ne h9 fo.cl (hC.ceo (Or.inr rfl) 13 rfl (by decide)))
              have fj := fj.kept (ho _ (clA.ne fj.cla fo.cl (hC.ao 13 3 rfl rfl)))
              have fk := fk.kept (fun k hk9 => ho _ (nW_fo k hk9))
              have fe := fe.kept (ho _ (clA.ne fe.cla fo.cl (hC.ao 13 0 rfl rfl)))
              have fr := fr.kept (ho _ (clA.ne fr.cla fo.cl (hC.ao 13 0 rfl rfl)))
              have fL14 := fL14.kept (ho _ (clA.ne fL14.cla fo.cl (hC.ao 13 0 rfl rfl)))
              have f16 := f16.kept (ho _ (clA.ne f16.cla fo.cl (hC.ao 13 0 rfl rfl)))
              have f22 := f22.kept (ho _ (clA.ne f22.cla fo.cl (hC.ao 13 0 rfl rfl)))
              have f24 := f24.kept (ho _ (clA.ne f24.cla fo.cl (hC.ao 13 0 rfl rfl)))
              have f32 := f32.kept (ho _ (clA.ne f32.cla fo.cl (hC.ao 13 0 rfl rfl)))
              have fo : c1 D mo (.inr (13, [.ref ra, .ref rl, .ref r_15, .ref r_23, .int (nI zp), .int ca, .int rf, .int kn, .int ((m_th r_1 0))])) H := n_
              refine lv_aload_n (pc := 145) hx hb dX5_tally_145 rfl (lv_at hl 3 rfl) ?_
              refine lv_dup (pc := 146) hx hb dX5_tally_146 rfl ?_
              refine r_get (pc := 147) E hC fo 5 (v := .int ca) rfl rfl (by decide) uX5 (List.mem_cons_of_mem _ kw_1214) (fun _ h => h) dX5_tally_147 ?_
              refine lv_iconst (pc := 150) (v := 1) hx hb dX5_tally_150 (by decide) ?_
              refine lv_iadd (pc := 151) hx hb dX5_tally_151 ?_
              refine r_put (pc := 152) E hC fo hS g_fo 5 tyX5 tyX5_ok nmX5 rfl (by decide) (Nat.le_of_ble_eq_true rfl) uX5 (List.mem_cons_of_mem _ kw_1214) (fun _ h => h) rfl rfl rfl dX5_tally_152 (fun H locs n_ ho hz hS => ?_)
              have fw := fw.put ho (fun q9 h9 => clA.ne h9 fo.cl (hC.oo 7 13 rfl rfl (by decide))) (fun q9 h9 => clA.ne h9 fo.cl (hC.ao 13 4 rfl rfl)) (fun q9 h9 => clA.ne h9 fo.cl (hC.ceo (Or.inr rfl) 13 rfl (by decide)))
              have fj := fj.kept (ho _ (clA.ne fj.cla fo.cl (hC.ao 13 3 rfl rfl)))
              have fk := fk.kept (fun k hk9 => ho _ (nW_fo k hk9))
              have fe := fe.kept (ho _ (clA.ne fe.cla fo.cl (hC.ao 13 0 rfl rfl)))
              have fr := fr.kept (ho _ (clA.ne fr.cla fo.cl (hC.ao 13 0 rfl rfl)))
              have fL14 := fL14.kept (ho _ (clA.ne fL14.cla fo.cl (hC.ao 13 0 rfl rfl)))
              have f16 := f16.kept (ho _ (clA.ne f16.cla fo.cl (hC.ao 13 0 rfl rfl)))
              have f22 := f22.kept (ho _ (clA.ne f22.cla fo.cl (hC.ao 13 0 rfl rfl)))
              have f24 := f24.kept (ho _ (clA.ne f24.cla fo.cl (hC.ao 13 0 rfl rfl)))
              have f32 := f32.kept (ho _ (clA.ne f32.cla fo.cl (hC.ao 13 0 rfl rfl)))
              have fo : c1 D mo (.inr (13, [.ref ra, .ref rl, .ref r_15, .ref r_23, .int (nI zp), .int (ca + 1), .int rf, .int kn, .int ((m_th r_1 0))])) H := n_
              refine lv_aload_n (pc := 155) hx hb dX5_tally_155 rfl (lv_at hl 3 rfl) ?_
              refine r_get (pc := 156) E hC fo 5 (v := .int (ca + 1)) rfl rfl (by decide) uX5 (List.mem_cons_of_mem _ kw_1214) (fun _ h => h) dX5_tally_156 ?_
              refine r_iret (pc := 159) E hr hlk hS (by omega) (by omega) ?_ dX5_tally_159
              have hE9 : (m_loT (eT * (bb (nn x1)) + ((1 : Int32)).toInt64 * ((tt (nn x1)) * eB)) (eB * (bb (nn x1))), m_loB (eT * (bb (nn x1)) + ((1 : Int32)).toInt64 * ((tt (nn x1)) * eB)) (eB * (bb (nn x1)))) = m_TLe eT eB (tt (nn x1)) (bb (nn x1)) := rfl
              have hR9 : (m_loT (oT * (m_loB r_17 r_19) + ((1 : Int32)).toInt64 * ((m_loT r_17 r_19) * oB)) (oB * (m_loB r_17 r_19)), m_loB (oT * (m_loB r_17 r_19) + ((1 : Int32)).toInt64 * ((m_loT r_17 r_19) * oB)) (oB * (m_loB r_17 r_19))) = m_TLo oT oB (tt (nn x1)) (bb (nn x1)) x2 x3 := by rw [er_17, er_19]; rfl
              exact ⟨_, _, _, _, _, _, _, _, ⟨_, _, _, _, _, fo, fj, fk, f16, f24, fw, ⟨hPm, hPa, hPl, (hPs _ s_f16), (hPs _ s_f24), hPk⟩, hFk, hFE, ⟨hFR, hP3.2.2⟩, (by omega), hn9⟩, TL.ok (by subst er_1 er_3 er_8 er_11 er_17 er_19 er_25 er_28 er_33 er_35; first | rfl | (simp [m_or, m_not, m_is0, m_lt0, m_fl, c_5, c_10, c_12, c_26, c_29, c_34]; done)) (by subst er_1 er_3 er_8 er_11 er_17 er_19 er_25 er_28 er_33 er_35; first | rfl | (simp [m_or, m_not, m_is0, m_lt0, m_fl, c_5, c_10, c_12, c_26, c_29, c_34]; done)) (er_11.symm.trans c_12) ⟨by rw [← hE9]; exact (fun z9 => c_26 (er_25.trans z9)), by rw [← hR9]; exact (fun z9 => c_29 (er_28.trans z9)), by rw [← hE9, ← hR9]; exact (fun z9 => c_34 (er_33.trans z9))⟩ hE9 hR9 hpk9 rfl⟩
            · refine lv_aload_n (pc := 116) hx hb dX5_tally_116 rfl (lv_at hl 3 rfl) ?_
              have hZ0_ := hS.1
              have t_fo := fo.lt
              have t_fj := fj.lt
              have t_fk := fun k (hk9 : k < 6) => (fk k hk9).lt
              have t_fe := fe.lt
              have t_fr := fr.lt
              have t_fL14 := fL14.lt
              have t_f16 := f16.lt
              have t_f22 := f22.lt
              have t_f24 := f24.lt
              have t_f32 := f32.lt
              refine k_i (pc := 117) (k_V E hC hS hA hl.1 (c1.recv hC fo rfl) rfl (c_X5_no l D tk N0 sa H.size P hPN (fun q h9 => hPs q (Nat.le_trans hS.1 h9)) mo n9 kn ((m_th r_1 0)) tt bb eT eB oT oB pk ca rf vs  ) kw_1264 kw_1266 kp_22 kw_5 kw_1267 (n := 0) (by decide +kernel) rfl ⟨⟨rfl, rfl⟩, ⟨Nat.le_of_ble_eq_true rfl, Nat.le_of_ble_eq_true rfl⟩, (by dsimp only; omega), (by dsimp only; omega)⟩ rfl (Nat.le_of_ble_eq_true rfl) ⟨_, _, _, _, _, fo, fj, fk, fe, fr, fw, ⟨hPm, hPa, hPl, hPe, hPr, hPk⟩, hFk, hFe, hFr, hpk, hn9⟩ dX5_tally_117) hS (fun q _ h => h) hn (fun r_37 H locs hR hz hk hS => ?_)
              obtain ⟨er_37, hM⟩ := hR
              obtain ⟨ra, rl, ex, ro, rt, fo, fj, fk, fe, fr, fw, ⟨hPm, hPa, hPl, hPe, hPr, hPk⟩, hFk, hFe, hFr, hpk, hn9⟩ := hM
              have g_fo := hPm
              have g_fj := hPa
              refine r_iret (pc := 120) E hr hlk hS (by omega) (by omega) ?_ dX5_tally_120
              have hE9 : (m_loT (eT * (bb (nn x1)) + ((1 : Int32)).toInt64 * ((tt (nn x1)) * eB)) (eB * (bb (nn x1))), m_loB (eT * (bb (nn x1)) + ((1 : Int32)).toInt64 * ((tt (nn x1)) * eB)) (eB * (bb (nn x1)))) = m_TLe eT eB (tt (nn x1)) (bb (nn x1)) := rfl
              have hR9 : (m_loT (oT * (m_loB r_17 r_19) + ((1 : Int32)).toInt64 * ((m_loT r_17 r_19) * oB)) (oB * (m_loB r_17 r_19)), m_loB (oT * (m_loB r_17 r_19) + ((1 : Int32)).toInt64 * ((m_loT r_17 r_19) * oB)) (oB * (m_loB r_17 r_19))) = m_TLo oT oB (tt (nn x1)) (bb (nn x1)) x2 x3 := by rw [er_17, er_19]; rfl
              exact ⟨_, _, _, _, _, _, _, _, ⟨_, _, _, _, _, fo, fj, fk, fe, fr, fw, ⟨hPm, hPa, hPl, hPe, hPr, hPk⟩, hFk, hFe, hFr, hpk, hn9⟩, TL.no (by subst er_1 er_3 er_8 er_11 er_17 er_19 er_25 er_28 er_33 er_37; first | rfl | (simp [m_or, m_not, m_is0, m_lt0, m_fl, c_5, c_10, c_12, c_26, c_29, c_34]; done)) (by subst er_1 er_3 er_8 er_11 er_17 er_19 er_25 er_28 er_33 er_37; first | rfl | (simp [m_or, m_not, m_is0, m_lt0, m_fl, c_5, c_10, c_12, c_26, c_29, c_34]; done)) (er_11.symm.trans c_12) (fun z9 => z9.2.2 (by rw [← hE9, ← hR9]; exact (er_33.symm.trans c_34))) er_37⟩
      · refine lv_iconst (pc := 34) (v := 0) hx hb dX5_tally_34 (by decide) ?_
        refine r_iret (pc := 35) E hr hlk hS (by omega) (by omega) ?_ dX5_tally_35
        exact ⟨_, _, _, _, _, _, _, _, ⟨_, _, _, _, _, fo, fj, fk, fe, fr, fw, ⟨hPm, hPa, hPl, hPe, hPr, hPk⟩, hFk, hFe, hFr, hpk, hn9⟩, TL.fail (by subst er_1 er_3 er_8 er_11; first | rfl | (simp [m_or, m_not, m_is0, m_lt0, m_fl, c_5, c_10, c_12]; done)) (by subst er_1 er_3 er_8 er_11; first | rfl | (simp [m_or, m_not, m_is0, m_lt0, m_fl, c_5, c_10, c_12]; done)) (fun z9 => c_12 (er_11.trans z9))⟩
    · refine lv_iconst (pc := 23) (v := 1) hx hb dX5_tally_23 (by decide) ?_
      refine lv_goto (pc := 24) (tgt := 28) hx hb dX5_tally_24 (by decide) ?_
      have hZ0_ := hS.1
      have t_fo := fo.lt
      have t_fj := fj.lt
      have t_fk := fun k (hk9 : k < 6) => (fk k hk9).lt
      have t_fe := fe.lt
      have t_fr := fr.lt
      refine k_i (pc := 28) (k_V E hC hS hA hl.1 (c1.recv hC fo rfl) rfl (c_X5_fails l D tk N0 sa H.size P hPN (fun q h9 => hPs q (Nat.le_trans hS.1 h9)) mo n9 kn th tt bb eT eB oT oB pk ca rf vs r_1 1 ) kw_1251 kw_1253 kp_20 kw_5 kw_1254 (n := 2) (by decide +kernel) rfl ⟨⟨rfl, rfl⟩, ⟨Nat.le_of_ble_eq_true rfl, Nat.le_of_ble_eq_true rfl⟩, (by dsimp only; omega), (by dsimp only; omega)⟩ rfl (Nat.le_of_ble_eq_true rfl) ⟨_, _, _, _, _, fo, fj, fk, fe, fr, fw, ⟨hPm, hPa, hPl, hPe, hPr, hPk⟩, hFk, hFe, hFr, hpk, hn9⟩ dX5_tally_28) hS (fun q _ h => h) hn (fun r_38 H locs hR hz hk hS => ?_)
      obtain ⟨er_38, hM⟩ := hR
      obtain ⟨ra, rl, ex, ro, rt, fo, fj, fk, fe, fr, fw, ⟨hPm, hPa, hPl, hPe, hPr, hPk⟩, hFk, hFe, hFr, hpk, hn9⟩ := hM
      have g_fo := hPm
      have g_fj := hPa
      have ef_r_38 : r_38 = 1 := er_38.trans (m_fl1 _)
      rw [ef_r_38]
      refine lv_if_eq (pc := 31) (tgt := 36) hx hb dX5_tally_31 (by decide) (fun c_39 => ?_) (fun c_39 => ?_)
      · exact absurd c_39 (by decide)
      refine lv_iconst (pc := 34) (v := 0) hx hb dX5_tally_34 (by decide) ?_
      refine r_iret (pc := 35) E hr hlk hS (by omega) (by omega) ?_ dX5_tally_35
      exact ⟨_, _, _, _, _, _, _, _, ⟨_, _, _, _, _, fo, fj, fk, fe, fr, fw, ⟨hPm, hPa, hPl, hPe, hPr, hPk⟩, hFk, hFe, hFr, hpk, hn9⟩, TL.fail (by subst er_1 er_3 er_8; first | rfl | (simp [m_or, m_not, m_is0, m_lt0, m_fl, c_5, c_10]; done)) (by subst er_1 er_3 er_8; first | rfl | (simp [m_or, m_not, m_is0, m_lt0, m_fl, c_5, c_10]; done)) (fun z9 => absurd (ef_r_38.symm.trans (er_38.trans z9)) (by decide))⟩
