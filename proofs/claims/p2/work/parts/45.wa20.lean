set_option maxHeartbeats 4000000 in
set_option maxRecDepth 100000 in
/-- BestratiosModel.term(II)I -/
theorem c_X5_term (l : Launch) (D : va_G) (tk : Nat → ClassId) (N0 : Nat) (sa : Nat → Nat)  (sz : Nat) (P : Nat → Prop) (hPN : ∀ q, P q → N0 ≤ q) (hPs : ∀ q, sz ≤ q → P q) (mo n9 : Nat) (kn th : Int32) (tt bb : Nat → Int64) (eT eB oT oB : Int64) (pk : Nat) (ca rf : Int32) (vs : Nat → Value) (x1 : Int32) (x2 : Int32) : Met l yX5_term (wsy yX5_term cX5_term 4 (some .int)) ({ frames := 8, cells := 49, slots := 175, locals := 186 } : Room) (cP D tk N0 sa [.ref mo, .int x1, .int x2] sz (fun H => MI D tk sa P mo tt bb eT eB oT oB pk ca rf vs kn n9 th H)) (kQi (fun r H => ∃ th1, MI D tk sa P mo tt bb eT eB oT oB pk ca rf vs kn n9 th1 H ∧ QU (m_isNo x1) (m_lt0 x2) (m_TM (tt (nn x1)) (bb (nn x1)) x2) r th1) (P)) (49) (175) (P) := by
  refine mStart RX5 rfl (by decide +kernel) (Nat.le_of_ble_eq_true rfl) ?_
  intro p e s m args below meth c E hr hlk hnm hsz hC hF ls hl
  subst hsz
  obtain ⟨hx, hb, -⟩ := id E
  have hA : ∀ q, (P) q → N0 ≤ q := hPN
  have hn : ∀ q, s.heap.size ≤ q → (P) q := hPs
  have hS : va_S (P) s.heap s.heap [] := va_S.rf
  have hl : lv_has ls 4 [(0, .ref mo), (1, .int x1), (2, .int x2)] := hl
  have hM : MI D tk sa P mo tt bb eT eB oT oB pk ca rf vs kn n9 th s.heap := hF
  obtain ⟨ra, rl, ex, ro, rt, fo, fj, fk, fe, fr, fw, ⟨hPm, hPa, hPl, hPe, hPr, hPk⟩, hFk, hFe, hFr, hpk, hn9⟩ := hM
  have g_fo := hPm
  have g_fj := hPa
  refine lv_aload_n (pc := 0) hx hb dX5_term_0 rfl (lv_at hl 0 rfl) ?_
  refine lv_iload_n (pc := 1) hx hb dX5_term_1 rfl (lv_at hl 1 rfl) ?_
  refine k_i (pc := 2) (k_S E hC hS hA hl.1 (c_X5_isNo l D tk N0 sa s.heap.size x1 ) kw_1245 kw_1246 kw_5 kw_1247 (n := 1) (by decide +kernel) rfl ⟨⟨rfl, rfl⟩, ⟨Nat.le_of_ble_eq_true rfl, Nat.le_of_ble_eq_true rfl⟩, (by dsimp only; omega), (by dsimp only; omega)⟩ rfl (Nat.le_of_ble_eq_true rfl) trivial dX5_term_2) hS (fun q z w => absurd w (Nat.not_le.mpr z)) hn (fun r_1 H locs hR hz hk hS => ?_)
  have er_1 := hR
  have fw := fw.new hk
  have fo := fo.kept (hk _ fo.lt (Nat.not_le.mpr fo.lt))
  have fj := fj.kept (hk _ fj.lt (Nat.not_le.mpr fj.lt))
  have fk := fk.new hk
  have fe := fe.kept (hk _ fe.lt (Nat.not_le.mpr fe.lt))
  have fr := fr.kept (hk _ fr.lt (Nat.not_le.mpr fr.lt))
  refine lv_iload_n (pc := 5) hx hb dX5_term_5 rfl (lv_at hl 2 rfl) ?_
  refine lv_if_ge (pc := 6) (tgt := 13) hx hb dX5_term_6 (by decide) (fun c_3 => ?_) (fun c_3 => ?_)
  · refine lv_iconst (pc := 13) (v := 0) hx hb dX5_term_13 (by decide) ?_
    have hZ0_ := hS.1
    have t_fo := fo.lt
    have t_fj := fj.lt
    have t_fk := fun k (hk9 : k < 6) => (fk k hk9).lt
    have t_fe := fe.lt
    have t_fr := fr.lt
    refine k_i (pc := 14) (k_V E hC hS hA hl.1 (c1.recv hC fo rfl) rfl (c_X5_fails l D tk N0 sa H.size P hPN (fun q h9 => hPs q (Nat.le_trans hS.1 h9)) mo n9 kn th tt bb eT eB oT oB pk ca rf vs r_1 0 ) kw_1251 kw_1253 kp_20 kw_5 kw_1254 (n := 2) (by decide +kernel) rfl ⟨⟨rfl, rfl⟩, ⟨Nat.le_of_ble_eq_true rfl, Nat.le_of_ble_eq_true rfl⟩, (by dsimp only; omega), (by dsimp only; omega)⟩ rfl (Nat.le_of_ble_eq_true rfl) ⟨_, _, _, _, _, fo, fj, fk, fe, fr, fw, ⟨hPm, hPa, hPl, hPe, hPr, hPk⟩, hFk, hFe, hFr, hpk, hn9⟩ dX5_term_14) hS (fun q _ h => h) hn (fun r_4 H locs hR hz hk hS => ?_)
    obtain ⟨er_4, hM⟩ := hR
    obtain ⟨ra, rl, ex, ro, rt, fo, fj, fk, fe, fr, fw, ⟨hPm, hPa, hPl, hPe, hPr, hPk⟩, hFk, hFe, hFr, hpk, hn9⟩ := hM
    have g_fo := hPm
    have g_fj := hPa
    refine lv_if_eq (pc := 17) (tgt := 22) hx hb dX5_term_17 (by decide) (fun c_5 => ?_) (fun c_5 => ?_)
    · refine lv_aload_n (pc := 22) hx hb dX5_term_22 rfl (lv_at hl 0 rfl) ?_
      refine r_get (pc := 23) E hC fo 0 (v := .ref ra) rfl rfl (by decide) uX5 (List.mem_cons_of_mem _ kw_1209) (fun _ h => h) dX5_term_23 ?_
      refine lv_iload_n (pc := 26) hx hb dX5_term_26 rfl (lv_at hl 1 rfl) ?_
      obtain ⟨hx_6, hk_6⟩ := m_noN (er_1.symm.trans (m_fl0 (er_4.symm.trans c_5)).1)
      refine r_aaldJ (pc := 27) E hC fj (nn x1) hx_6 hk_6 (by decide) rfl dX5_term_27 ?_
      have fL7 := fk (nn x1) hk_6
      have mF_fL7 := hFk (nn x1) hk_6
      have Pq_fL7 := hPk (nn x1) hk_6
      have hZ0_ := hS.1
      have t_fo := fo.lt
      have t_fj := fj.lt
      have t_fk := fun k (hk9 : k < 6) => (fk k hk9).lt
      have t_fe := fe.lt
      have t_fr := fr.lt
      have t_fL7 := fL7.lt
      refine k_r (pc := 28) (k_S E hC hS hA hl.1 (c_X5_termsOf l D tk N0 sa H.size (rt (nn x1)) (tt (nn x1)) (bb (nn x1)) mF_fL7) kw_1411 kw_1412 kw_5 kw_1413 (n := 1) (by decide +kernel) rfl ⟨⟨rfl, rfl⟩, ⟨Nat.le_of_ble_eq_true rfl, Nat.le_of_ble_eq_true rfl⟩, (by dsimp only; omega), (by dsimp only; omega)⟩ rfl (Nat.le_of_ble_eq_true rfl) fL7 dX5_term_28) hS (fun q z w => absurd w (Nat.not_le.mpr z)) hn (fun r_8 H locs hR hz hk hS => ?_)
      have fw := fw.new hk
      have fo := fo.kept (hk _ fo.lt (Nat.not_le.mpr fo.lt))
      have fj := fj.kept (hk _ fj.lt (Nat.not_le.mpr fj.lt))
      have fk := fk.new hk
      have fe := fe.kept (hk _ fe.lt (Nat.not_le.mpr fe.lt))
      have fr := fr.kept (hk _ fr.lt (Nat.not_le.mpr fr.lt))
      have fL7 := fL7.kept (hk _ fL7.lt (Nat.not_le.mpr fL7.lt))
      obtain ⟨nl9, bb9, cap9, ff9, ww9, md9, zr9_, zb9_, fl9, fR9, el9, hPT9, hln9, hlm9, hlc9, hlp9, ⟨hTL9, hTA9⟩, gg9, hEU9⟩ := hR
      have hcb9 := m_acB hlp9
      have s_fl9 : s.heap.size ≤ r_8 := Nat.le_trans hZ0_ zr9_
      have g_fl9 := hn _ s_fl9
      have l_fo_fl9 : mo < r_8 := Nat.lt_of_lt_of_le t_fo zr9_
      have l_fj_fl9 : ra < r_8 := Nat.lt_of_lt_of_le t_fj zr9_
      have nW_fl9 : ∀ k, k < 6 → rt k ≠ r_8 := fun k hk9 => Nat.ne_of_lt (Nat.lt_of_lt_of_le (t_fk k hk9) zr9_)
      have l_fe_fl9 : ex < r_8 := Nat.lt_of_lt_of_le t_fe zr9_
      have l_fr_fl9 : ro < r_8 := Nat.lt_of_lt_of_le t_fr zr9_
      have l_fL7_fl9 : rt (nn x1) < r_8 := Nat.lt_of_lt_of_le t_fL7 zr9_
      have s_fR9 : s.heap.size ≤ bb9 := Nat.le_trans hZ0_ zb9_
      have g_fR9 := hn _ s_fR9
      have l_fo_fR9 : mo < bb9 := Nat.lt_of_lt_of_le t_fo zb9_
      have l_fj_fR9 : ra < bb9 := Nat.lt_of_lt_of_le t_fj zb9_
      have nW_fR9 : ∀ k, k < 6 → rt k ≠ bb9 := fun k hk9 => Nat.ne_of_lt (Nat.lt_of_lt_of_le (t_fk k hk9) zb9_)
      have l_fe_fR9 : ex < bb9 := Nat.lt_of_lt_of_le t_fe zb9_
      have l_fr_fR9 : ro < bb9 := Nat.lt_of_lt_of_le t_fr zb9_
      have l_fL7_fR9 : rt (nn x1) < bb9 := Nat.lt_of_lt_of_le t_fL7 zb9_
      refine lv_astore_n (pc := 31) (lv' := [(3, .ref r_8), (0, .ref mo), (1, .int x1), (2, .int x2)]) hx hb dX5_term_31 rfl hl (by decide) rfl (fun ls hl => ?_)
      refine lv_iload_n (pc := 32) hx hb dX5_term_32 rfl (lv_at hl 3 rfl) ?_
      refine lv_aload_n (pc := 33) hx hb dX5_term_33 rfl (lv_at hl 0 rfl) ?_
      refine k_i (pc := 34) (k_V E hC hS hA hl.1 (c1.recv hC fl9 rfl) rfl (c_Jx4a65c_size_8abf5 l D tk N0 sa H.size r_8 bb9 nl9 md9) kw_1546 kw_1547 kw_1548 kw_8 kw_1549 (n := 0) (by decide +kernel) rfl ⟨⟨rfl, rfl⟩, ⟨Nat.le_of_ble_eq_true rfl, Nat.le_of_ble_eq_true rfl⟩, (by dsimp only; omega), (by dsimp only; omega)⟩ rfl (Nat.le_of_ble_eq_true rfl) fl9 dX5_term_34) hS (fun q z w => absurd w (Nat.not_le.mpr z)) hn (fun r_10 H locs hR hz hk hS => ?_)
      have fw := fw.new hk
      have fo := fo.kept (hk _ fo.lt (Nat.not_le.mpr fo.lt))
      have fj := fj.kept (hk _ fj.lt (Nat.not_le.mpr fj.lt))
      have fk := fk.new hk
      have fe := fe.kept (hk _ fe.lt (Nat.not_le.mpr fe.lt))
      have fr := fr.kept (hk _ fr.lt (Nat.not_le.mpr fr.lt))
      have fL7 := fL7.kept (hk _ fL7.lt (Nat.not_le.mpr fL7.lt))
      have fR9 := fR9.kept (hk _ fR9.lt (Nat.not_le.mpr fR9.lt))
      have fl9 := fl9.kept (hk _ fl9.lt (Nat.not_le.mpr fl9.lt))
      have el9 := el9.new hk
      rw [show r_10 = nI nl9 from hR]
      refine lv_icmp_ge (pc := 37) (tgt := 55) hx hb dX5_term_37 (by decide) (fun c_11 => ?_) (fun c_11 => ?_)
      · refine lv_bipush (pc := 55) (v := (-9)) hx hb dX5_term_55 (by decide) ?_
        refine r_iret (pc := 57) E hr hlk hS (by omega) (by omega) ?_ dX5_term_57
        exact ⟨_, ⟨_, _, _, _, _, fo, fj, fk, fe, fr, fw, ⟨hPm, hPa, hPl, hPe, hPr, hPk⟩, hFk, hFe, hFr, hpk, hn9⟩, QU.ok (by subst er_1 er_4; first | rfl | (simp [m_or, m_not, m_is0, m_lt0, m_fl, c_3, Int32.not_lt.mpr c_3, c_5, c_11, Int32.not_lt.mpr c_11]; done)) (by subst er_1 er_4; first | rfl | (simp [m_or, m_not, m_is0, m_lt0, m_fl, c_3, Int32.not_lt.mpr c_3, c_5, c_11, Int32.not_lt.mpr c_11]; done)) (er_4.symm.trans c_5) (by unfold m_TM; rw [← hTL9, if_pos c_11])⟩
      · refine lv_aload_n (pc := 40) hx hb dX5_term_40 rfl (lv_at hl 0 rfl) ?_
        refine lv_iload_n (pc := 41) hx hb dX5_term_41 rfl (lv_at hl 3 rfl) ?_
        obtain ⟨j9, hj1, hj2⟩ := m_ix c_3 c_11 (by omega)
        obtain ⟨qe12, hq12, he12⟩ := el9 j9 hj2
        obtain ⟨xe12, ev12, pv12⟩ := hPT9.pv j9 hj2
        rw [ev12] at he12
        refine k_r (pc := 42) (k_V E hC hS hA hl.1 (c1.recv hC fl9 rfl) rfl (c_Jx4a65c_get_915e3 l D tk N0 sa H.size r_8 bb9 nl9 cap9 j9 qe12 md9 x2 ff9 hj1 hj2 (by omega) (by omega) hq12) kw_1550 kw_1551 kw_1552 kw_8 kw_1553 (n := 1) (by decide +kernel) rfl ⟨⟨rfl, rfl⟩, ⟨Nat.le_of_ble_eq_true rfl, Nat.le_of_ble_eq_true rfl⟩, (by dsimp only; omega), (by dsimp only; omega)⟩ rfl (Nat.le_of_ble_eq_true rfl) ⟨fl9, fR9⟩ dX5_term_42) hS (fun q z w => absurd w (Nat.not_le.mpr z)) hn (fun r_13 H locs hR hz hk hS => ?_)
        have fw := fw.new hk
        have fo := fo.kept (hk _ fo.lt (Nat.not_le.mpr fo.lt))
        have fj := fj.kept (hk _ fj.lt (Nat.not_le.mpr fj.lt))
        have fk := fk.new hk
        have fe := fe.kept (hk _ fe.lt (Nat.not_le.mpr fe.lt))
        have fr := fr.kept (hk _ fr.lt (Nat.not_le.mpr fr.lt))
        have fL7 := fL7.kept (hk _ fL7.lt (Nat.not_le.mpr fL7.lt))
        have fR9 := fR9.kept (hk _ fR9.lt (Nat.not_le.mpr fR9.lt))
        have fl9 := fl9.kept (hk _ fl9.lt (Nat.not_le.mpr fl9.lt))
        have el9 := el9.new hk
        have he12 := he12.kept (hk _ he12.lt (Nat.not_le.mpr he12.lt))
        rw [show r_13 = qe12 from hR]
        refine r_castO (pc := 45) E hC he12 rfl kw_1532 dX5_term_45 ?_
        refine k_l (pc := 48) (k_V E hC hS hA hl.1 (xf.recv hC he12 rfl) rfl (c_J13_longValue_f9912 l D tk N0 sa H.size qe12 xe12) kw_1533 kw_1534 kw_1535 kw_17 kw_1536 (n := 0) (by decide +kernel) rfl ⟨⟨rfl, rfl⟩, ⟨Nat.le_of_ble_eq_true rfl, Nat.le_of_ble_eq_true rfl⟩, (by dsimp only; omega), (by dsimp only; omega)⟩ rfl (Nat.le_of_ble_eq_true rfl) he12 dX5_term_48) hS (fun q z w => absurd w (Nat.not_le.mpr z)) hn (fun r_14 H locs hR hz hk hS => ?_)
        have fw := fw.new hk
        have fo := fo.kept (hk _ fo.lt (Nat.not_le.mpr fo.lt))
        have fj := fj.kept (hk _ fj.lt (Nat.not_le.mpr fj.lt))
        have fk := fk.new hk
        have fe := fe.kept (hk _ fe.lt (Nat.not_le.mpr fe.lt))
        have fr := fr.kept (hk _ fr.lt (Nat.not_le.mpr fr.lt))
        have fL7 := fL7.kept (hk _ fL7.lt (Nat.not_le.mpr fL7.lt))
        have fR9 := fR9.kept (hk _ fR9.lt (Nat.not_le.mpr fR9.lt))
        have fl9 := fl9.kept (hk _ fl9.lt (Nat.not_le.mpr fl9.lt))
        have el9 := el9.new hk
        have he12 := he12.kept (hk _ he12.lt (Nat.not_le.mpr he12.lt))
        have er_14 : r_14 = xe12 := hR
        refine lv_l2i (pc := 51) (v := r_14.toInt32) hx hb dX5_term_51 rfl ?_
        refine lv_goto (pc := 52) (tgt := 57) hx hb dX5_term_52 (by decide) ?_
        refine r_iret (pc := 57) E hr hlk hS (by omega) (by omega) ?_ dX5_term_57
        exact ⟨_, ⟨_, _, _, _, _, fo, fj, fk, fe, fr, fw, ⟨hPm, hPa, hPl, hPe, hPr, hPk⟩, hFk, hFe, hFr, hpk, hn9⟩, QU.ok (by subst er_1 er_4 er_14; first | rfl | (simp [m_or, m_not, m_is0, m_lt0, m_fl, c_3, Int32.not_lt.mpr c_3, c_5, c_11, Int32.not_le.mp c_11]; done)) (by subst er_1 er_4 er_14; first | rfl | (simp [m_or, m_not, m_is0, m_lt0, m_fl, c_3, Int32.not_lt.mpr c_3, c_5, c_11, Int32.not_le.mp c_11]; done)) (er_4.symm.trans c_5) (by unfold m_TM; rw [← hTL9, if_neg c_11, er_14, m_lgI ev12 (hTA9 j9 hj2), show nn x2 = j9 from by rw [hj1]; exact nI_clamp (by omega)])⟩
    · refine lv_iconst (pc := 20) (v := 0) hx hb dX5_term_20 (by decide) ?_
      refine r_iret (pc := 21) E hr hlk hS (by omega) (by omega) ?_ dX5_term_21
      exact ⟨_, ⟨_, _, _, _, _, fo, fj, fk, fe, fr, fw, ⟨hPm, hPa, hPl, hPe, hPr, hPk⟩, hFk, hFe, hFr, hpk, hn9⟩, QU.fail (by subst er_1 er_4; first | rfl | (simp [m_or, m_not, m_is0, m_lt0, m_fl, c_3, Int32.not_lt.mpr c_3, c_5]; done)) (by subst er_1 er_4; first | rfl | (simp [m_or, m_not, m_is0, m_lt0, m_fl, c_3, Int32.not_lt.mpr c_3, c_5]; done)) (fun z9 => c_5 (er_4.trans z9))⟩
  · refine lv_iconst (pc := 9) (v := 1) hx hb dX5_term_9 (by decide) ?_
    refine lv_goto (pc := 10) (tgt := 14) hx hb dX5_term_10 (by decide) ?_
    have hZ0_ := hS.1
    have t_fo := fo.lt
    have t_fj := fj.lt
    have t_fk := fun k (hk9 : k < 6) => (fk k hk9).lt
    have t_fe := fe.lt
    have t_fr := fr.lt
    refine k_i (pc := 14) (k_V E hC hS hA hl.1 (c1.recv hC fo rfl) rfl (c_X5_fails l D tk N0 sa H.size P hPN (fun q h9 => hPs q (Nat.le_trans hS.1 h9)) mo n9 kn th tt bb eT eB oT oB pk ca rf vs r_1 1 ) kw_1251 kw_1253 kp_20 kw_5 kw_1254 (n := 2) (by decide +kernel) rfl ⟨⟨rfl, rfl⟩, ⟨Nat.le_of_ble_eq_true rfl, Nat.le_of_ble_eq_true rfl⟩, (by dsimp only; omega), (by dsimp only; omega)⟩ rfl (Nat.le_of_ble_eq_true rfl) ⟨_, _, _, _, _, fo, fj, fk, fe, fr, fw, ⟨hPm, hPa, hPl, hPe, hPr, hPk⟩, hFk, hFe, hFr, hpk, hn9⟩ dX5_term_14) hS (fun q _ h => h) hn (fun r_15 H locs hR hz hk hS => ?_)
    obtain ⟨er_15, hM⟩ := hR
    obtain ⟨ra, rl, ex, ro, rt, fo, fj, fk, fe, fr, fw, ⟨hPm, hPa, hPl, hPe, hPr, hPk⟩, hFk, hFe, hFr, hpk, hn9⟩ := hM
    have g_fo := hPm
    have g_fj := hPa
    have ef_r_15 : r_15 = 1 := er_15.trans (m_fl1 _)
    rw [ef_r_15]
    refine lv_if_eq (pc := 17) (tgt := 22) hx hb dX5_term_17 (by decide) (fun c_16 => ?_) (fun c_16 => ?_)
    · exact absurd c_16 (by decide)
    refine lv_iconst (pc := 20) (v := 0) hx hb dX5_term_20 (by decide) ?_
    refine r_iret (pc := 21) E hr hlk hS (by omega) (by omega) ?_ dX5_term_21
    exact ⟨_, ⟨_, _, _, _, _, fo, fj, fk, fe, fr, fw, ⟨hPm, hPa, hPl, hPe, hPr, hPk⟩, hFk, hFe, hFr, hpk, hn9⟩, QU.fail (by subst er_1; first | rfl | (simp [m_or, m_not, m_is0, m_lt0, m_fl, c_3, Int32.not_le.mp c_3]; done)) (by subst er_1; first | rfl | (simp [m_or, m_not, m_is0, m_lt0, m_fl, c_3, Int32.not_le.mp c_3]; done)) (fun z9 => absurd (ef_r_15.symm.trans (er_15.trans z9)) (by decide))⟩
