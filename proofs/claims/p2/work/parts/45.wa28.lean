set_option maxHeartbeats 4000000 in
set_option maxRecDepth 100000 in
/-- BestratiosModel.before(I)I -/
theorem c_X5_before (l : Launch) (D : va_G) (tk : Nat → ClassId) (N0 : Nat) (sa : Nat → Nat)  (sz : Nat) (P : Nat → Prop) (hPN : ∀ q, P q → N0 ≤ q) (hPs : ∀ q, sz ≤ q → P q) (mo n9 : Nat) (kn th : Int32) (tt bb : Nat → Int64) (eT eB oT oB : Int64) (pk : Nat) (ca rf : Int32) (vs : Nat → Value) (x1 : Int32) : Met l yX5_before (wsy yX5_before cX5_before 5 (some .int)) ({ frames := 3, cells := 1, slots := 2, locals := 77 } : Room) (cP D tk N0 sa [.ref mo, .int x1] sz (fun H => MI D tk sa P mo tt bb eT eB oT oB pk ca rf vs kn n9 th H)) (kQi (fun r H => ∃ th1 tt1 bb1 rf1, MI D tk sa P mo tt1 bb1 eT eB oT oB pk ca rf1 vs kn n9 th1 H ∧ AC (m_isNo x1) 0 tt bb rf (nn x1) (m_BF (tt (nn x1)) (bb (nn x1))) r th1 tt1 bb1 rf1) (P)) (1) (2) (P) := by
  refine mStart RX5 rfl (by decide +kernel) (Nat.le_of_ble_eq_true rfl) ?_
  intro p e s m args below meth c E hr hlk hnm hsz hC hF ls hl
  subst hsz
  obtain ⟨hx, hb, -⟩ := id E
  have hA : ∀ q, (P) q → N0 ≤ q := hPN
  have hn : ∀ q, s.heap.size ≤ q → (P) q := hPs
  have hS : va_S (P) s.heap s.heap [] := va_S.rf
  have hl : lv_has ls 5 [(0, .ref mo), (1, .int x1)] := hl
  have hM : MI D tk sa P mo tt bb eT eB oT oB pk ca rf vs kn n9 th s.heap := hF
  obtain ⟨ra, rl, ex, ro, rt, fo, fj, fk, fe, fr, fw, ⟨hPm, hPa, hPl, hPe, hPr, hPk⟩, hFk, hFe, hFr, hpk, hn9⟩ := hM
  have g_fo := hPm
  have g_fj := hPa
  refine lv_aload_n (pc := 0) hx hb dX5_before_0 rfl (lv_at hl 0 rfl) ?_
  refine lv_iload_n (pc := 1) hx hb dX5_before_1 rfl (lv_at hl 1 rfl) ?_
  refine k_i (pc := 2) (k_S E hC hS hA hl.1 (c_X5_isNo l D tk N0 sa s.heap.size x1 ) kw_1245 kw_1246 kw_5 kw_1247 (n := 1) (by decide +kernel) rfl ⟨⟨rfl, rfl⟩, ⟨Nat.le_of_ble_eq_true rfl, Nat.le_of_ble_eq_true rfl⟩, (by dsimp only; omega), (by dsimp only; omega)⟩ rfl (Nat.le_of_ble_eq_true rfl) trivial dX5_before_2) hS (fun q z w => absurd w (Nat.not_le.mpr z)) hn (fun r_1 H locs hR hz hk hS => ?_)
  have er_1 := hR
  have fw := fw.new hk
  have fo := fo.kept (hk _ fo.lt (Nat.not_le.mpr fo.lt))
  have fj := fj.kept (hk _ fj.lt (Nat.not_le.mpr fj.lt))
  have fk := fk.new hk
  have fe := fe.kept (hk _ fe.lt (Nat.not_le.mpr fe.lt))
  have fr := fr.kept (hk _ fr.lt (Nat.not_le.mpr fr.lt))
  refine lv_iconst (pc := 5) (v := 0) hx hb dX5_before_5 (by decide) ?_
  have hZ0_ := hS.1
  have t_fo := fo.lt
  have t_fj := fj.lt
  have t_fk := fun k (hk9 : k < 6) => (fk k hk9).lt
  have t_fe := fe.lt
  have t_fr := fr.lt
  refine k_i (pc := 6) (k_V E hC hS hA hl.1 (c1.recv hC fo rfl) rfl (c_X5_fails l D tk N0 sa H.size P hPN (fun q h9 => hPs q (Nat.le_trans hS.1 h9)) mo n9 kn th tt bb eT eB oT oB pk ca rf vs r_1 0 ) kw_1251 kw_1253 kp_20 kw_5 kw_1254 (n := 2) (by decide +kernel) rfl ⟨⟨rfl, rfl⟩, ⟨Nat.le_of_ble_eq_true rfl, Nat.le_of_ble_eq_true rfl⟩, (by dsimp only; omega), (by dsimp only; omega)⟩ rfl (Nat.le_of_ble_eq_true rfl) ⟨_, _, _, _, _, fo, fj, fk, fe, fr, fw, ⟨hPm, hPa, hPl, hPe, hPr, hPk⟩, hFk, hFe, hFr, hpk, hn9⟩ dX5_before_6) hS (fun q _ h => h) hn (fun r_3 H locs hR hz hk hS => ?_)
  obtain ⟨er_3, hM⟩ := hR
  obtain ⟨ra, rl, ex, ro, rt, fo, fj, fk, fe, fr, fw, ⟨hPm, hPa, hPl, hPe, hPr, hPk⟩, hFk, hFe, hFr, hpk, hn9⟩ := hM
  have g_fo := hPm
  have g_fj := hPa
  refine lv_if_eq (pc := 9) (tgt := 14) hx hb dX5_before_9 (by decide) (fun c_4 => ?_) (fun c_4 => ?_)
  · refine lv_aload_n (pc := 14) hx hb dX5_before_14 rfl (lv_at hl 0 rfl) ?_
    refine r_get (pc := 15) E hC fo 0 (v := .ref ra) rfl rfl (by decide) uX5 (List.mem_cons_of_mem _ kw_1209) (fun _ h => h) dX5_before_15 ?_
    refine lv_iload_n (pc := 18) hx hb dX5_before_18 rfl (lv_at hl 1 rfl) ?_
    obtain ⟨hx_5, hk_5⟩ := m_noN (er_1.symm.trans (m_fl0 (er_3.symm.trans c_4)).1)
    refine r_aaldJ (pc := 19) E hC fj (nn x1) hx_5 hk_5 (by decide) rfl dX5_before_19 ?_
    have fL6 := fk (nn x1) hk_5
    have mF_fL6 := hFk (nn x1) hk_5
    have Pq_fL6 := hPk (nn x1) hk_5
    refine lv_astore_n (pc := 20) (lv' := [(2, .ref (rt (nn x1))), (0, .ref mo), (1, .int x1)]) hx hb dX5_before_20 rfl hl (by decide) rfl (fun ls hl => ?_)
    refine lv_aload_n (pc := 21) hx hb dX5_before_21 rfl (lv_at hl 0 rfl) ?_
    have hZ0_ := hS.1
    have t_fo := fo.lt
    have t_fj := fj.lt
    have t_fk := fun k (hk9 : k < 6) => (fk k hk9).lt
    have t_fe := fe.lt
    have t_fr := fr.lt
    have t_fL6 := fL6.lt
    refine k_i (pc := 22) (k_S E hC hS hA hl.1 (c_X5_isAbove l D tk N0 sa H.size (rt (nn x1)) (tt (nn x1)) (bb (nn x1)) ) kw_1645 kw_1646 kw_5 kw_1647 (n := 1) (by decide +kernel) rfl ⟨⟨rfl, rfl⟩, ⟨Nat.le_of_ble_eq_true rfl, Nat.le_of_ble_eq_true rfl⟩, (by dsimp only; omega), (by dsimp only; omega)⟩ rfl (Nat.le_of_ble_eq_true rfl) fL6 dX5_before_22) hS (fun q z w => absurd w (Nat.not_le.mpr z)) hn (fun r_7 H locs hR hz hk hS => ?_)
    have fw := fw.new hk
    have fo := fo.kept (hk _ fo.lt (Nat.not_le.mpr fo.lt))
    have fj := fj.kept (hk _ fj.lt (Nat.not_le.mpr fj.lt))
    have fk := fk.new hk
    have fe := fe.kept (hk _ fe.lt (Nat.not_le.mpr fe.lt))
    have fr := fr.kept (hk _ fr.lt (Nat.not_le.mpr fr.lt))
    have fL6 := fL6.kept (hk _ fL6.lt (Nat.not_le.mpr fL6.lt))
    have er_7 := hR
    refine lv_if_eq (pc := 25) (tgt := 35) hx hb dX5_before_25 (by decide) (fun c_8 => ?_) (fun c_8 => ?_)
    · refine lv_aload_n (pc := 35) hx hb dX5_before_35 rfl (lv_at hl 1 rfl) ?_
      have hZ0_ := hS.1
      have t_fo := fo.lt
      have t_fj := fj.lt
      have t_fk := fun k (hk9 : k < 6) => (fk k hk9).lt
      have t_fe := fe.lt
      have t_fr := fr.lt
      have t_fL6 := fL6.lt
      refine k_i (pc := 36) (k_V E hC hS hA hl.1 (c1.recv hC fo rfl) rfl (c_X5_no l D tk N0 sa H.size P hPN (fun q h9 => hPs q (Nat.le_trans hS.1 h9)) mo n9 kn ((m_th r_1 0)) tt bb eT eB oT oB pk ca rf vs  ) kw_1264 kw_1266 kp_22 kw_5 kw_1267 (n := 0) (by decide +kernel) rfl ⟨⟨rfl, rfl⟩, ⟨Nat.le_of_ble_eq_true rfl, Nat.le_of_ble_eq_true rfl⟩, (by dsimp only; omega), (by dsimp only; omega)⟩ rfl (Nat.le_of_ble_eq_true rfl) ⟨_, _, _, _, _, fo, fj, fk, fe, fr, fw, ⟨hPm, hPa, hPl, hPe, hPr, hPk⟩, hFk, hFe, hFr, hpk, hn9⟩ dX5_before_36) hS (fun q _ h => h) hn (fun r_9 H locs hR hz hk hS => ?_)
      obtain ⟨er_9, hM⟩ := hR
      obtain ⟨ra, rl, ex, ro, rt, fo, fj, fk, fe, fr, fw, ⟨hPm, hPa, hPl, hPe, hPr, hPk⟩, hFk, hFe, hFr, hpk, hn9⟩ := hM
      have g_fo := hPm
      have g_fj := hPa
      refine r_iret (pc := 39) E hr hlk hS (by omega) (by omega) ?_ dX5_before_39
      exact ⟨_, _, _, _, ⟨_, _, _, _, _, fo, fj, fk, fe, fr, fw, ⟨hPm, hPa, hPl, hPe, hPr, hPk⟩, hFk, hFe, hFr, hpk, hn9⟩, AC.ok (by subst er_1 er_3 er_7 er_9; first | rfl | (simp [m_or, m_not, m_is0, m_lt0, m_fl, c_4, c_8]; done)) (by subst er_1 er_3 er_7 er_9; first | rfl | (simp [m_or, m_not, m_is0, m_lt0, m_fl, c_4, c_8]; done)) (er_3.symm.trans c_4) (BE.cast (o := none) ⟨er_9, rfl, rfl, rfl⟩ (by subst er_1 er_3 er_7 er_9; first | rfl | (simp [m_BF, c_4, c_8]; done)))⟩
    · refine lv_aload_n (pc := 28) hx hb dX5_before_28 rfl (lv_at hl 0 rfl) ?_
      have hZ0_ := hS.1
      have t_fo := fo.lt
      have t_fj := fj.lt
      have t_fk := fun k (hk9 : k < 6) => (fk k hk9).lt
      have t_fe := fe.lt
      have t_fr := fr.lt
      have t_fL6 := fL6.lt
      refine k_i (pc := 29) (k_S E hC hS hA hl.1 (c_X5_isOne l D tk N0 sa H.size (rt (nn x1)) (tt (nn x1)) (bb (nn x1)) ) kw_1648 kw_1649 kw_5 kw_1650 (n := 1) (by decide +kernel) rfl ⟨⟨rfl, rfl⟩, ⟨Nat.le_of_ble_eq_true rfl, Nat.le_of_ble_eq_true rfl⟩, (by dsimp only; omega), (by dsimp only; omega)⟩ rfl (Nat.le_of_ble_eq_true rfl) fL6 dX5_before_29) hS (fun q z w => absurd w (Nat.not_le.mpr z)) hn (fun r_10 H locs hR hz hk hS => ?_)
      have fw := fw.new hk
      have fo := fo.kept (hk _ fo.lt (Nat.not_le.mpr fo.lt))
      have fj := fj.kept (hk _ fj.lt (Nat.not_le.mpr fj.lt))
      have fk := fk.new hk
      have fe := fe.kept (hk _ fe.lt (Nat.not_le.mpr fe.lt))
      have fr := fr.kept (hk _ fr.lt (Nat.not_le.mpr fr.lt))
      have fL6 := fL6.kept (hk _ fL6.lt (Nat.not_le.mpr fL6.lt))
      have er_10 := hR
      refine lv_if_eq (pc := 32) (tgt := 40) hx hb dX5_before_32 (by decide) (fun c_11 => ?_) (fun c_11 => ?_)
      · refine lv_aload_n (pc := 40) hx hb dX5_before_40 rfl (lv_at hl 0 rfl) ?_
        refine lv_iconst (pc := 41) (v := 1) hx hb dX5_before_41 (by decide) ?_
        refine r_l1 (pc := 42) E hC fL6 dX5_before_42 ?_
        refine lv_lneg (pc := 43) hx hb dX5_before_43 ?_
        refine lv_aload_n (pc := 44) hx hb dX5_before_44 rfl (lv_at hl 0 rfl) ?_
        refine lv_iconst (pc := 45) (v := 0) hx hb dX5_before_45 (by decide) ?_
        refine r_l0 (pc := 46) E hC fL6 dX5_before_46 ?_
        have hab := m_abv1 (t := tt (nn x1)) (by rw [← er_7]; exact c_8)
        have hP9 := m_befP mF_fL6 hab
        refine k_l (pc := 47) (k_S E hC hS hA hl.1 (c_X5_floor l D tk N0 sa H.size (-(bb (nn x1))) (tt (nn x1)) hP9.1) kw_1392 kw_1393 kw_5 kw_1394 (n := 2) (by decide +kernel) rfl ⟨⟨rfl, rfl⟩, ⟨Nat.le_of_ble_eq_true rfl, Nat.le_of_ble_eq_true rfl⟩, (by dsimp only; omega), (by dsimp only; omega)⟩ rfl (Nat.le_of_ble_eq_true rfl) trivial dX5_before_47) hS (fun q z w => absurd w (Nat.not_le.mpr z)) hn (fun r_12 H locs hR hz hk hS => ?_)
        have er_12 := hR
        have fw := fw.new hk
        have fo := fo.kept (hk _ fo.lt (Nat.not_le.mpr fo.lt))
        have fj := fj.kept (hk _ fj.lt (Nat.not_le.mpr fj.lt))
        have fk := fk.new hk
        have fe := fe.kept (hk _ fe.lt (Nat.not_le.mpr fe.lt))
        have fr := fr.kept (hk _ fr.lt (Nat.not_le.mpr fr.lt))
        have fL6 := fL6.kept (hk _ fL6.lt (Nat.not_le.mpr fL6.lt))
        refine lv_lneg (pc := 50) hx hb dX5_before_50 ?_
        obtain ⟨x_14, ex_14⟩ : ∃ z9 : Int64, z9 = -r_12 := ⟨_, rfl⟩
        rw [← ex_14]
        refine lv_lstore_n (pc := 51) (lv' := [(3, .long x_14), (2, .ref (rt (nn x1))), (0, .ref mo), (1, .int x1)]) hx hb dX5_before_51 rfl hl (by decide) rfl (fun ls hl => ?_)
        refine lv_aload_n (pc := 52) hx hb dX5_before_52 rfl (lv_at hl 2 rfl) ?_
        refine lv_iload_n (pc := 53) hx hb dX5_before_53 rfl (lv_at hl 3 rfl) ?_
        refine lv_ldc2 (pc := 54) (v := 2) hx hb E.2.2.2.1 (E.2.2.2.2 _ (List.mem_cons_of_mem _ kw_1665)) dX5_before_54 ?_
        refine lv_lload_n (pc := 57) hx hb dX5_before_57 rfl (lv_at hl 0 rfl) ?_
        refine lv_lmul (pc := 58) hx hb dX5_before_58 ?_
        refine lv_lconst (pc := 59) (v := 1) hx hb dX5_before_59 (by decide) ?_
        refine lv_lsub (pc := 60) hx hb dX5_before_60 ?_
        refine lv_aload_n (pc := 61) hx hb dX5_before_61 rfl (lv_at hl 1 rfl) ?_
        refine lv_iconst (pc := 62) (v := 0) hx hb dX5_before_62 (by decide) ?_
        refine r_l0 (pc := 63) E hC fL6 dX5_before_63 ?_
        refine lv_lmul (pc := 64) hx hb dX5_before_64 ?_
        refine lv_aload_n (pc := 65) hx hb dX5_before_65 rfl (lv_at hl 1 rfl) ?_
        refine lv_iconst (pc := 66) (v := 1) hx hb dX5_before_66 (by decide) ?_
        refine r_l1 (pc := 67) E hC fL6 dX5_before_67 ?_
        refine lv_lsub (pc := 68) hx hb dX5_before_68 ?_
        refine lv_aload_n (pc := 69) hx hb dX5_before_69 rfl (lv_at hl 1 rfl) ?_
        refine lv_iconst (pc := 70) (v := 0) hx hb dX5_before_70 (by decide) ?_
        refine r_l0 (pc := 71) E hC fL6 dX5_before_71 ?_
        have hZ0_ := hS.1
        have t_fo := fo.lt
        have t_fj := fj.lt
        have t_fk := fun k (hk9 : k < 6) => (fk k hk9).lt
        have t_fe := fe.lt
        have t_fr := fr.lt
        have t_fL6 := fL6.lt
        refine k_r (pc := 72) (k_S E hC hS hA hl.1 (c_X5_lowest l D tk N0 sa H.size ((((2 * x_14) - 1) * (tt (nn x1))) - (bb (nn x1))) (tt (nn x1)) (by rw [ex_14, er_12]; exact hP9.2.1)) kw_1199 kw_1200 kw_5 kw_1201 (n := 2) (by decide +kernel) rfl ⟨⟨rfl, rfl⟩, ⟨Nat.le_of_ble_eq_true rfl, Nat.le_of_ble_eq_true rfl⟩, (by dsimp only; omega), (by dsimp only; omega)⟩ rfl (Nat.le_of_ble_eq_true rfl) trivial dX5_before_72) hS (fun q z w => absurd w (Nat.not_le.mpr z)) hn (fun r_15 H locs hR hz hk hS => ?_)
        have fw := fw.new hk
        have fo := fo.kept (hk _ fo.lt (Nat.not_le.mpr fo.lt))
        have fj := fj.kept (hk _ fj.lt (Nat.not_le.mpr fj.lt))
        have fk := fk.new hk
        have fe := fe.kept (hk _ fe.lt (Nat.not_le.mpr fe.lt))
        have fr := fr.kept (hk _ fr.lt (Nat.not_le.mpr fr.lt))
        have fL6 := fL6.kept (hk _ fL6.lt (Nat.not_le.mpr fL6.lt))
        obtain ⟨z9_, f16⟩ := hR
        have s_f16 : s.heap.size ≤ r_15 := Nat.le_trans hZ0_ z9_
        have g_f16 := hn _ s_f16
        have l_fo_f16 : mo < r_15 := Nat.lt_of_lt_of_le t_fo z9_
        have l_fj_f16 : ra < r_15 := Nat.lt_of_lt_of_le t_fj z9_
        have nW_f16 : ∀ k, k < 6 → rt k ≠ r_15 := fun k hk9 => Nat.ne_of_lt (Nat.lt_of_lt_of_le (t_fk k hk9) z9_)
        have l_fe_f16 : ex < r_15 := Nat.lt_of_lt_of_le t_fe z9_
        have l_fr_f16 : ro < r_15 := Nat.lt_of_lt_of_le t_fr z9_
        have l_fL6_f16 : rt (nn x1) < r_15 := Nat.lt_of_lt_of_le t_fL6 z9_
        have hZ0_ := hS.1
        have t_fo := fo.lt
        have t_fj := fj.lt
        have t_fk := fun k (hk9 : k < 6) => (fk k hk9).lt
        have t_fe := fe.lt
        have t_fr := fr.lt
        have t_fL6 := fL6.lt
        have t_f16 := f16.lt
        refine k_i (pc := 75) (k_V E hC hS hA hl.1 (c1.recv hC fo rfl) rfl (c_X5_become l D tk N0 sa H.size P hPN (fun q h9 => hPs q (Nat.le_trans hS.1 h9)) mo n9 kn ((m_th r_1 0)) tt bb eT eB oT oB pk ca rf vs x1 (nn x1) hx_5 hk_5 r_15 (m_loT ((((2 * x_14) - 1) * (tt (nn x1))) - (bb (nn x1))) (tt (nn x1))) (m_loB ((((2 * x_14) - 1) * (tt (nn x1))) - (bb (nn x1))) (tt (nn x1))) (hPs _ s_f16) (by rw [ex_14, er_12]; exact hP9.2.2)) kw_1255 kw_1257 kp_21 kw_5 kw_1258 (n := 2) (by decide +kernel) rfl ⟨⟨rfl, rfl⟩, ⟨Nat.le_of_ble_eq_true rfl, Nat.le_of_ble_eq_true rfl⟩, (by dsimp only; omega), (by dsimp only; omega)⟩ rfl (Nat.le_of_ble_eq_true rfl) ⟨⟨_, _, _, _, _, fo, fj, fk, fe, fr, fw, ⟨hPm, hPa, hPl, hPe, hPr, hPk⟩, hFk, hFe, hFr, hpk, hn9⟩, f16⟩ dX5_before_75) hS (fun q _ h => h) hn (fun r_17 H locs hR hz hk hS => ?_)
        obtain ⟨tt_18, bb_18, rf_18, hM, hBE_18⟩ := hR
        obtain ⟨ra, rl, ex, ro, rt, fo, fj, fk, fe, fr, fw, ⟨hPm, hPa, hPl, hPe, hPr, hPk⟩, hFk, hFe, hFr, hpk, hn9⟩ := hM
        have g_fo := hPm
        have g_fj := hPa
        refine r_iret (pc := 78) E hr hlk hS (by omega) (by omega) ?_ dX5_before_78
        exact ⟨_, _, _, _, ⟨_, _, _, _, _, fo, fj, fk, fe, fr, fw, ⟨hPm, hPa, hPl, hPe, hPr, hPk⟩, hFk, hFe, hFr, hpk, hn9⟩, AC.ok (by subst er_1 er_3 er_7 er_10 er_12 ex_14; first | rfl | (simp [m_or, m_not, m_is0, m_lt0, m_fl, c_4, c_8, c_11]; done)) (by subst er_1 er_3 er_7 er_10 er_12 ex_14; first | rfl | (simp [m_or, m_not, m_is0, m_lt0, m_fl, c_4, c_8, c_11]; done)) (er_3.symm.trans c_4) (hBE_18.cast (by unfold m_BF; rw [if_neg (fun z9 => c_8 (er_7.trans z9)), if_pos (er_10.symm.trans c_11), ex_14, er_12]; rfl))⟩
      · refine lv_aload_n (pc := 35) hx hb dX5_before_35 rfl (lv_at hl 1 rfl) ?_
        have hZ0_ := hS.1
        have t_fo := fo.lt
        have t_fj := fj.lt
        have t_fk := fun k (hk9 : k < 6) => (fk k hk9).lt
        have t_fe := fe.lt
        have t_fr := fr.lt
        have t_fL6 := fL6.lt
        refine k_i (pc := 36) (k_V E hC hS hA hl.1 (c1.recv hC fo rfl) rfl (c_X5_no l D tk N0 sa H.size P hPN (fun q h9 => hPs q (Nat.le_trans hS.1 h9)) mo n9 kn ((m_th r_1 0)) tt bb eT eB oT oB pk ca rf vs  ) kw_1264 kw_1266 kp_22 kw_5 kw_1267 (n := 0) (by decide +kernel) rfl ⟨⟨rfl, rfl⟩, ⟨Nat.le_of_ble_eq_true rfl, Nat.le_of_ble_eq_true rfl⟩, (by dsimp only; omega), (by dsimp only; omega)⟩ rfl (Nat.le_of_ble_eq_true rfl) ⟨_, _, _, _, _, fo, fj, fk, fe, fr, fw, ⟨hPm, hPa, hPl, hPe, hPr, hPk⟩, hFk, hFe, hFr, hpk, hn9⟩ dX5_before_36) hS (fun q _ h => h) hn (fun r_19 H locs hR hz hk hS => ?_)
        obtain ⟨er_19, hM⟩ := hR
        obtain ⟨ra, rl, ex, ro, rt, fo, fj, fk, fe, fr, fw, ⟨hPm, hPa, hPl, hPe, hPr, hPk⟩, hFk, hFe, hFr, hpk, hn9⟩ := hM
        have g_fo := hPm
        have g_fj := hPa
        refine r_iret (pc := 39) E hr hlk hS (by omega) (by omega) ?_ dX5_before_39
        exact ⟨_, _, _, _, ⟨_, _, _, _, _, fo, fj, fk, fe, fr, fw, ⟨hPm, hPa, hPl, hPe, hPr, hPk⟩, hFk, hFe, hFr, hpk, hn9⟩, AC.ok (by subst er_1 er_3 er_7 er_10 er_19; first | rfl | (simp [m_or, m_not, m_is0, m_lt0, m_fl, c_4, c_8, c_11]; done)) (by subst er_1 er_3 er_7 er_10 er_19; first | rfl | (simp [m_or, m_not, m_is0, m_lt0, m_fl, c_4, c_8, c_11]; done)) (er_3.symm.trans c_4) (BE.cast (o := none) ⟨er_19, rfl, rfl, rfl⟩ (by subst er_1 er_3 er_7 er_10 er_19; first | rfl | (simp [m_BF, c_4, c_8, c_11]; done)))⟩
  · refine lv_iconst (pc := 12) (v := 0) hx hb dX5_before_12 (by decide) ?_
    refine r_iret (pc := 13) E hr hlk hS (by omega) (by omega) ?_ dX5_before_13
    exact ⟨_, _, _, _, ⟨_, _, _, _, _, fo, fj, fk, fe, fr, fw, ⟨hPm, hPa, hPl, hPe, hPr, hPk⟩, hFk, hFe, hFr, hpk, hn9⟩, AC.fail (by subst er_1 er_3; first | rfl | (simp [m_or, m_not, m_is0, m_lt0, m_fl, c_4]; done)) (by subst er_1 er_3; first | rfl | (simp [m_or, m_not, m_is0, m_lt0, m_fl, c_4]; done)) (fun z9 => c_4 (er_3.trans z9))⟩
