set_option maxHeartbeats 4000000 in
set_option maxRecDepth 100000 in
/-- BestratiosModel.convergent(III)I -/
theorem c_X5_convergent (l : Launch) (D : va_G) (tk : Nat → ClassId) (N0 : Nat) (sa : Nat → Nat)  (sz : Nat) (P : Nat → Prop) (hPN : ∀ q, P q → N0 ≤ q) (hPs : ∀ q, sz ≤ q → P q) (mo n9 : Nat) (kn th : Int32) (tt bb : Nat → Int64) (eT eB oT oB : Int64) (pk : Nat) (ca rf : Int32) (vs : Nat → Value) (x1 : Int32) (x2 : Int32) (x3 : Int32) : Met l yX5_convergent (wsy yX5_convergent cX5_convergent 5 (some .int)) ({ frames := 8, cells := 50, slots := 177, locals := 186 } : Room) (cP D tk N0 sa [.ref mo, .int x1, .int x2, .int x3] sz (fun H => MI D tk sa P mo tt bb eT eB oT oB pk ca rf vs kn n9 th H)) (kQi (fun r H => ∃ th1 tt1 bb1 rf1, MI D tk sa P mo tt1 bb1 eT eB oT oB pk ca rf1 vs kn n9 th1 H ∧ AC (m_areNo x1 x2) (m_lt0 x3) tt bb rf (nn x1) (m_CV (tt (nn x2)) (bb (nn x2)) x3) r th1 tt1 bb1 rf1) (P)) (50) (177) (P) := by
  refine mStart RX5 rfl (by decide +kernel) (Nat.le_of_ble_eq_true rfl) ?_
  intro p e s m args below meth c E hr hlk hnm hsz hC hF ls hl
  subst hsz
  obtain ⟨hx, hb, -⟩ := id E
  have hA : ∀ q, (P) q → N0 ≤ q := hPN
  have hn : ∀ q, s.heap.size ≤ q → (P) q := hPs
  have hS : va_S (P) s.heap s.heap [] := va_S.rf
  have hl : lv_has ls 5 [(0, .ref mo), (1, .int x1), (2, .int x2), (3, .int x3)] := hl
  have hM : MI D tk sa P mo tt bb eT eB oT oB pk ca rf vs kn n9 th s.heap := hF
  obtain ⟨ra, rl, ex, ro, rt, fo, fj, fk, fe, fr, fw, ⟨hPm, hPa, hPl, hPe, hPr, hPk⟩, hFk, hFe, hFr, hpk, hn9⟩ := hM
  have g_fo := hPm
  have g_fj := hPa
  refine lv_aload_n (pc := 0) hx hb dX5_convergent_0 rfl (lv_at hl 0 rfl) ?_
  refine lv_iload_n (pc := 1) hx hb dX5_convergent_1 rfl (lv_at hl 1 rfl) ?_
  refine lv_iload_n (pc := 2) hx hb dX5_convergent_2 rfl (lv_at hl 2 rfl) ?_
  refine k_i (pc := 3) (k_S E hC hS hA hl.1 (c_X5_areNo l D tk N0 sa s.heap.size x1 x2 ) kw_1286 kw_1287 kw_5 kw_1288 (n := 2) (by decide +kernel) rfl ⟨⟨rfl, rfl⟩, ⟨Nat.le_of_ble_eq_true rfl, Nat.le_of_ble_eq_true rfl⟩, (by dsimp only; omega), (by dsimp only; omega)⟩ rfl (Nat.le_of_ble_eq_true rfl) trivial dX5_convergent_3) hS (fun q z w => absurd w (Nat.not_le.mpr z)) hn (fun r_1 H locs hR hz hk hS => ?_)
  have er_1 := hR
  have fw := fw.new hk
  have fo := fo.kept (hk _ fo.lt (Nat.not_le.mpr fo.lt))
  have fj := fj.kept (hk _ fj.lt (Nat.not_le.mpr fj.lt))
  have fk := fk.new hk
  have fe := fe.kept (hk _ fe.lt (Nat.not_le.mpr fe.lt))
  have fr := fr.kept (hk _ fr.lt (Nat.not_le.mpr fr.lt))
  refine lv_iload_n (pc := 6) hx hb dX5_convergent_6 rfl (lv_at hl 3 rfl) ?_
  refine lv_if_ge (pc := 7) (tgt := 14) hx hb dX5_convergent_7 (by decide) (fun c_3 => ?_) (fun c_3 => ?_)
  · refine lv_iconst (pc := 14) (v := 0) hx hb dX5_convergent_14 (by decide) ?_
    have hZ0_ := hS.1
    have t_fo := fo.lt
    have t_fj := fj.lt
    have t_fk := fun k (hk9 : k < 6) => (fk k hk9).lt
    have t_fe := fe.lt
    have t_fr := fr.lt
    refine k_i (pc := 15) (k_V E hC hS hA hl.1 (c1.recv hC fo rfl) rfl (c_X5_fails l D tk N0 sa H.size P hPN (fun q h9 => hPs q (Nat.le_trans hS.1 h9)) mo n9 kn th tt bb eT eB oT oB pk ca rf vs r_1 0 ) kw_1251 kw_1253 kp_20 kw_5 kw_1254 (n := 2) (by decide +kernel) rfl ⟨⟨rfl, rfl⟩, ⟨Nat.le_of_ble_eq_true rfl, Nat.le_of_ble_eq_true rfl⟩, (by dsimp only; omega), (by dsimp only; omega)⟩ rfl (Nat.le_of_ble_eq_true rfl) ⟨_, _, _, _, _, fo, fj, fk, fe, fr, fw, ⟨hPm, hPa, hPl, hPe, hPr, hPk⟩, hFk, hFe, hFr, hpk, hn9⟩ dX5_convergent_15) hS (fun q _ h => h) hn (fun r_4 H locs hR hz hk hS => ?_)
    obtain ⟨er_4, hM⟩ := hR
    obtain ⟨ra, rl, ex, ro, rt, fo, fj, fk, fe, fr, fw, ⟨hPm, hPa, hPl, hPe, hPr, hPk⟩, hFk, hFe, hFr, hpk, hn9⟩ := hM
    have g_fo := hPm
    have g_fj := hPa
    refine lv_if_eq (pc := 18) (tgt := 23) hx hb dX5_convergent_18 (by decide) (fun c_5 => ?_) (fun c_5 => ?_)
    · refine lv_aload_n (pc := 23) hx hb dX5_convergent_23 rfl (lv_at hl 0 rfl) ?_
      refine r_get (pc := 24) E hC fo 0 (v := .ref ra) rfl rfl (by decide) uX5 (List.mem_cons_of_mem _ kw_1209) (fun _ h => h) dX5_convergent_24 ?_
      refine lv_iload_n (pc := 27) hx hb dX5_convergent_27 rfl (lv_at hl 2 rfl) ?_
      obtain ⟨hx_6, hk_6⟩ := m_noN (m_ano (er_1.symm.trans (m_fl0 (er_4.symm.trans c_5)).1)).2
      refine r_aaldJ (pc := 28) E hC fj (nn x2) hx_6 hk_6 (by decide) rfl dX5_convergent_28 ?_
      have fL7 := fk (nn x2) hk_6
      have mF_fL7 := hFk (nn x2) hk_6
      have Pq_fL7 := hPk (nn x2) hk_6
      have hZ0_ := hS.1
      have t_fo := fo.lt
      have t_fj := fj.lt
      have t_fk := fun k (hk9 : k < 6) => (fk k hk9).lt
      have t_fe := fe.lt
      have t_fr := fr.lt
      have t_fL7 := fL7.lt
      refine k_r (pc := 29) (k_S E hC hS hA hl.1 (c_X5_termsOf l D tk N0 sa H.size (rt (nn x2)) (tt (nn x2)) (bb (nn x2)) mF_fL7) kw_1411 kw_1412 kw_5 kw_1413 (n := 1) (by decide +kernel) rfl ⟨⟨rfl, rfl⟩, ⟨Nat.le_of_ble_eq_true rfl, Nat.le_of_ble_eq_true rfl⟩, (by dsimp only; omega), (by dsimp only; omega)⟩ rfl (Nat.le_of_ble_eq_true rfl) fL7 dX5_convergent_29) hS (fun q z w => absurd w (Nat.not_le.mpr z)) hn (fun r_8 H locs hR hz hk hS => ?_)
      have fw := fw.new hk
      have fo := fo.kept (hk _ fo.lt (Nat.not_le.mpr fo.lt))
      have fj := fj.kept (hk _ fj.lt (Nat.not_le.mpr fj.lt))
      have fk := fk.new hk
      have fe := fe.kept (hk _ fe.lt (Nat.not_le.mpr fe.lt))
      have fr := fr.kept (hk _ fr.lt (Nat.not_le.mpr fr.lt))
      have fL7 := fL7.kept (hk _ fL7.lt (Nat.not_le.mpr fL7.lt))
      obtain ⟨nl9, bb9, cap9, ff9, ww9, md9, zr9_, zb9_, fl9, fR9, el9, hPT9, hln9, hlm9, hlc9, hlp9, ⟨hTL9, hTA9⟩, gg9, hEU9⟩ := hR
      have hcb9 := m_acB hlp9
      have s_fl9 : s.heap.size ≤ r_8 := Nat.le_trans hZ0_ zr9_
      have g_fl9 := hn _ s_fl9
      have l_fo_fl9 : mo < r_8 := Nat.lt_of_lt_of_le t_fo zr9_
      have l_fj_fl9 : ra < r_8 := Nat.lt_of_lt_of_le t_fj zr9_
      have nW_fl9 : ∀ k, k < 6 → rt k ≠ r_8 := fun k hk9 => Nat.ne_of_lt (Nat.lt_of_lt_of_le (t_fk k hk9) zr9_)
      have l_fe_fl9 : ex < r_8 := Nat.lt_of_lt_of_le t_fe zr9_
      have l_fr_fl9 : ro < r_8 := Nat.lt_of_lt_of_le t_fr zr9_
      have l_fL7_fl9 : rt (nn x2) < r_8 := Nat.lt_of_lt_of_le t_fL7 zr9_
      have s_fR9 : s.heap.size ≤ bb9 := Nat.le_trans hZ0_ zb9_
      have g_fR9 := hn _ s_fR9
      have l_fo_fR9 : mo < bb9 := Nat.lt_of_lt_of_le t_fo zb9_
      have l_fj_fR9 : ra < bb9 := Nat.lt_of_lt_of_le t_fj zb9_
      have nW_fR9 : ∀ k, k < 6 → rt k ≠ bb9 := fun k hk9 => Nat.ne_of_lt (Nat.lt_of_lt_of_le (t_fk k hk9) zb9_)
      have l_fe_fR9 : ex < bb9 := Nat.lt_of_lt_of_le t_fe zb9_
      have l_fr_fR9 : ro < bb9 := Nat.lt_of_lt_of_le t_fr zb9_
      have l_fL7_fR9 : rt (nn x2) < bb9 := Nat.lt_of_lt_of_le t_fL7 zb9_
      refine lv_astore (pc := 32) (lv' := [(4, .ref r_8), (0, .ref mo), (1, .int x1), (2, .int x2), (3, .int x3)]) hx hb dX5_convergent_32 hl (by decide) rfl (fun ls hl => ?_)
      refine lv_aload_n (pc := 34) hx hb dX5_convergent_34 rfl (lv_at hl 1 rfl) ?_
      refine lv_iload_n (pc := 35) hx hb dX5_convergent_35 rfl (lv_at hl 2 rfl) ?_
      refine lv_iload_n (pc := 36) hx hb dX5_convergent_36 rfl (lv_at hl 4 rfl) ?_
      refine lv_aload (pc := 37) hx hb dX5_convergent_37 (lv_at hl 0 rfl) ?_
      refine k_i (pc := 39) (k_V E hC hS hA hl.1 (c1.recv hC fl9 rfl) rfl (c_Jx4a65c_size_8abf5 l D tk N0 sa H.size r_8 bb9 nl9 md9) kw_1546 kw_1547 kw_1548 kw_8 kw_1549 (n := 0) (by decide +kernel) rfl ⟨⟨rfl, rfl⟩, ⟨Nat.le_of_ble_eq_true rfl, Nat.le_of_ble_eq_true rfl⟩, (by dsimp only; omega), (by dsimp only; omega)⟩ rfl (Nat.le_of_ble_eq_true rfl) fl9 dX5_convergent_39) hS (fun q z w => absurd w (Nat.not_le.mpr z)) hn (fun r_10 H locs hR hz hk hS => ?_)
      have fw := fw.new hk
      have fo := fo.kept (hk _ fo.lt (Nat.not_le.mpr fo.lt))
      have fj := fj.kept (hk _ fj.lt (Nat.not_le.mpr fj.lt))
      have fk := fk.new hk
      have fe := fe.kept (hk _ fe.lt (Nat.not_le.mpr fe.lt))
      have fr := fr.kept (hk _ fr.lt (Nat.not_le.mpr fr.lt))
      have fL7 := fL7.kept (hk _ fL7.lt (Nat.not_le.mpr fL7.lt))
      have fR9 := fR9.kept (hk _ fR9.lt (Nat.not_le.mpr fR9.lt))
      have fl9 := fl9.kept (hk _ fl9.lt (Nat.not_le.mpr fl9.lt))
      have el9 := el9.new hk
      rw [show r_10 = nI nl9 from hR]
      refine lv_icmp_ge (pc := 42) (tgt := 56) hx hb dX5_convergent_42 (by decide) (fun c_11 => ?_) (fun c_11 => ?_)
      · refine lv_null (pc := 56) hx hb dX5_convergent_56 ?_
        have hZ0_ := hS.1
        have t_fo := fo.lt
        have t_fj := fj.lt
        have t_fk := fun k (hk9 : k < 6) => (fk k hk9).lt
        have t_fe := fe.lt
        have t_fr := fr.lt
        have t_fL7 := fL7.lt
        have t_fR9 := fR9.lt
        have t_fl9 := fl9.lt
        obtain ⟨hx_12, hk_12⟩ := m_noN (m_ano (er_1.symm.trans (m_fl0 (er_4.symm.trans c_5)).1)).1
        refine k_i (pc := 57) (k_V E hC hS hA hl.1 (c1.recv hC fo rfl) rfl (c_X5_become_N l D tk N0 sa H.size P hPN (fun q h9 => hPs q (Nat.le_trans hS.1 h9)) mo n9 kn ((m_th r_1 0)) tt bb eT eB oT oB pk ca rf vs x1 (nn x1) hx_12 hk_12 ) kw_1255 kw_1257 kp_21 kw_5 kw_1258 (n := 2) (by decide +kernel) rfl ⟨⟨rfl, rfl⟩, ⟨Nat.le_of_ble_eq_true rfl, Nat.le_of_ble_eq_true rfl⟩, (by dsimp only; omega), (by dsimp only; omega)⟩ rfl (Nat.le_of_ble_eq_true rfl) ⟨_, _, _, _, _, fo, fj, fk, fe, fr, fw, ⟨hPm, hPa, hPl, hPe, hPr, hPk⟩, hFk, hFe, hFr, hpk, hn9⟩ dX5_convergent_57) hS (fun q _ h => h) hn (fun r_13 H locs hR hz hk hS => ?_)
        obtain ⟨tt_14, bb_14, rf_14, hM, hBE_14⟩ := hR
        obtain ⟨ra, rl, ex, ro, rt, fo, fj, fk, fe, fr, fw, ⟨hPm, hPa, hPl, hPe, hPr, hPk⟩, hFk, hFe, hFr, hpk, hn9⟩ := hM
        have g_fo := hPm
        have g_fj := hPa
        refine r_iret (pc := 60) E hr hlk hS (by omega) (by omega) ?_ dX5_convergent_60
        exact ⟨_, _, _, _, ⟨_, _, _, _, _, fo, fj, fk, fe, fr, fw, ⟨hPm, hPa, hPl, hPe, hPr, hPk⟩, hFk, hFe, hFr, hpk, hn9⟩, AC.ok (by subst er_1 er_4; first | rfl | (simp [m_or, m_not, m_is0, m_lt0, m_fl, c_3, Int32.not_lt.mpr c_3, c_5, c_11, Int32.not_lt.mpr c_11]; done)) (by subst er_1 er_4; first | rfl | (simp [m_or, m_not, m_is0, m_lt0, m_fl, c_3, Int32.not_lt.mpr c_3, c_5, c_11, Int32.not_lt.mpr c_11]; done)) (er_4.symm.trans c_5) (hBE_14.cast (by unfold m_CV; rw [← hTL9, if_pos c_11]))⟩
      · refine lv_aload (pc := 45) hx hb dX5_convergent_45 (lv_at hl 0 rfl) ?_
        refine lv_iload_n (pc := 47) hx hb dX5_convergent_47 rfl (lv_at hl 4 rfl) ?_
        refine lv_iconst (pc := 48) (v := 1) hx hb dX5_convergent_48 (by decide) ?_
        refine lv_iadd (pc := 49) hx hb dX5_convergent_49 ?_
        obtain ⟨j9, hj1, hj2⟩ := m_ix c_3 c_11 (by omega)
        have hZ0_ := hS.1
        have t_fo := fo.lt
        have t_fj := fj.lt
        have t_fk := fun k (hk9 : k < 6) => (fk k hk9).lt
        have t_fe := fe.lt
        have t_fr := fr.lt
        have t_fL7 := fL7.lt
        have t_fR9 := fR9.lt
        have t_fl9 := fl9.lt
        refine k_o (pc := 50) (k_S E hC hS hA hl.1 (c_X5_folded l D tk N0 sa H.size r_8 bb9 nl9 cap9 md9 (x3 + 1) ff9 ww9 ((j9 + 1)) _ (by omega) (by omega) (by rw [hj1]; exact nI_1 j9) (by omega) (by omega) hPT9.pf hTA9) kw_1566 kw_1567 kw_5 kw_1568 (n := 2) (by decide +kernel) rfl ⟨⟨rfl, rfl⟩, ⟨Nat.le_of_ble_eq_true rfl, Nat.le_of_ble_eq_true rfl⟩, (by dsimp only; omega), (by dsimp only; omega)⟩ rfl (Nat.le_of_ble_eq_true rfl) ⟨fl9, fR9, el9⟩ dX5_convergent_50) hS (fun q z w => absurd w (Nat.not_le.mpr z)) hn (fun r_15 H locs hR hz hk hS => ?_)
        have fw := fw.new hk
        have fo := fo.kept (hk _ fo.lt (Nat.not_le.mpr fo.lt))
        have fj := fj.kept (hk _ fj.lt (Nat.not_le.mpr fj.lt))
        have fk := fk.new hk
        have fe := fe.kept (hk _ fe.lt (Nat.not_le.mpr fe.lt))
        have fr := fr.kept (hk _ fr.lt (Nat.not_le.mpr fr.lt))
        have fL7 := fL7.kept (hk _ fL7.lt (Nat.not_le.mpr fL7.lt))
        have fR9 := fR9.kept (hk _ fR9.lt (Nat.not_le.mpr fR9.lt))
        have fl9 := fl9.kept (hk _ fl9.lt (Nat.not_le.mpr fl9.lt))
        have el9 := el9.new hk
        rcases hR with ⟨rfl, hv_f16⟩ | ⟨q_f16, tt_f16, bb_f16, rfl, z9_, f16, hb_f16, hv_f16⟩
        · refine lv_goto (pc := 53) (tgt := 57) hx hb dX5_convergent_53 (by decide) ?_
          have hZ0_ := hS.1
          have t_fo := fo.lt
          have t_fj := fj.lt
          have t_fk := fun k (hk9 : k < 6) => (fk k hk9).lt
          have t_fe := fe.lt
          have t_fr := fr.lt
          have t_fL7 := fL7.lt
          have t_fR9 := fR9.lt
          have t_fl9 := fl9.lt
          obtain ⟨hx_17, hk_17⟩ := m_noN (m_ano (er_1.symm.trans (m_fl0 (er_4.symm.trans c_5)).1)).1
          refine k_i (pc := 57) (k_V E hC hS hA hl.1 (c1.recv hC fo rfl) rfl (c_X5_become_N l D tk N0 sa H.size P hPN (fun q h9 => hPs q (Nat.le_trans hS.1 h9)) mo n9 kn ((m_th r_1 0)) tt bb eT eB oT oB pk ca rf vs x1 (nn x1) hx_17 hk_17 ) kw_1255 kw_1257 kp_21 kw_5 kw_1258 (n := 2) (by decide +kernel) rfl ⟨⟨rfl, rfl⟩, ⟨Nat.le_of_ble_eq_true rfl, Nat.le_of_ble_eq_true rfl⟩, (by dsimp only; omega), (by dsimp only; omega)⟩ rfl (Nat.le_of_ble_eq_true rfl) ⟨_, _, _, _, _, fo, fj, fk, fe, fr, fw, ⟨hPm, hPa, hPl, hPe, hPr, hPk⟩, hFk, hFe, hFr, hpk, hn9⟩ dX5_convergent_57) hS (fun q _ h => h) hn (fun r_18 H locs hR hz hk hS => ?_)
          obtain ⟨tt_19, bb_19, rf_19, hM, hBE_19⟩ := hR
          obtain ⟨ra, rl, ex, ro, rt, fo, fj, fk, fe, fr, fw, ⟨hPm, hPa, hPl, hPe, hPr, hPk⟩, hFk, hFe, hFr, hpk, hn9⟩ := hM
          have g_fo := hPm
          have g_fj := hPa
          refine r_iret (pc := 60) E hr hlk hS (by omega) (by omega) ?_ dX5_convergent_60
          exact ⟨_, _, _, _, ⟨_, _, _, _, _, fo, fj, fk, fe, fr, fw, ⟨hPm, hPa, hPl, hPe, hPr, hPk⟩, hFk, hFe, hFr, hpk, hn9⟩, AC.ok (by subst er_1 er_4; first | rfl | (simp [m_or, m_not, m_is0, m_lt0, m_fl, c_3, Int32.not_lt.mpr c_3, c_5, c_11, Int32.not_le.mp c_11]; done)) (by subst er_1 er_4; first | rfl | (simp [m_or, m_not, m_is0, m_lt0, m_fl, c_3, Int32.not_lt.mpr c_3, c_5, c_11, Int32.not_le.mp c_11]; done)) (er_4.symm.trans c_5) (hBE_19.cast (by unfold m_CV; rw [← hTL9, if_neg c_11, show nn x3 = j9 from by rw [hj1]; exact nI_clamp (by omega)]; exact hv_f16.symm))⟩
        · have s_f16 : s.heap.size ≤ q_f16 := Nat.le_trans hZ0_ z9_
          have g_f16 := hn _ s_f16
          have l_fo_f16 : mo < q_f16 := Nat.lt_of_lt_of_le t_fo z9_
          have l_fj_f16 : ra < q_f16 := Nat.lt_of_lt_of_le t_fj z9_
          have nW_f16 : ∀ k, k < 6 → rt k ≠ q_f16 := fun k hk9 => Nat.ne_of_lt (Nat.lt_of_lt_of_le (t_fk k hk9) z9_)
          have l_fe_f16 : ex < q_f16 := Nat.lt_of_lt_of_le t_fe z9_
          have l_fr_f16 : ro < q_f16 := Nat.lt_of_lt_of_le t_fr z9_
          have l_fL7_f16 : rt (nn x2) < q_f16 := Nat.lt_of_lt_of_le t_fL7 z9_
          have l_fR9_f16 : bb9 < q_f16 := Nat.lt_of_lt_of_le t_fR9 z9_
          have l_fl9_f16 : r_8 < q_f16 := Nat.lt_of_lt_of_le t_fl9 z9_
          refine lv_goto (pc := 53) (tgt := 57) hx hb dX5_convergent_53 (by decide) ?_
          have hZ0_ := hS.1
          have t_fo := fo.lt
          have t_fj := fj.lt
          have t_fk := fun k (hk9 : k < 6) => (fk k hk9).lt
          have t_fe := fe.lt
          have t_fr := fr.lt
          have t_fL7 := fL7.lt
          have t_fR9 := fR9.lt
          have t_fl9 := fl9.lt
          have t_f16 := f16.lt
          obtain ⟨hx_20, hk_20⟩ := m_noN (m_ano (er_1.symm.trans (m_fl0 (er_4.symm.trans c_5)).1)).1
          refine k_i (pc := 57) (k_V E hC hS hA hl.1 (c1.recv hC fo rfl) rfl (c_X5_become l D tk N0 sa H.size P hPN (fun q h9 => hPs q (Nat.le_trans hS.1 h9)) mo n9 kn ((m_th r_1 0)) tt bb eT eB oT oB pk ca rf vs x1 (nn x1) hx_20 hk_20 q_f16 tt_f16 bb_f16 (hPs _ s_f16) hb_f16) kw_1255 kw_1257 kp_21 kw_5 kw_1258 (n := 2) (by decide +kernel) rfl ⟨⟨rfl, rfl⟩, ⟨Nat.le_of_ble_eq_true rfl, Nat.le_of_ble_eq_true rfl⟩, (by dsimp only; omega), (by dsimp only; omega)⟩ rfl (Nat.le_of_ble_eq_true rfl) ⟨⟨_, _, _, _, _, fo, fj, fk, fe, fr, fw, ⟨hPm, hPa, hPl, hPe, hPr, hPk⟩, hFk, hFe, hFr, hpk, hn9⟩, f16⟩ dX5_convergent_57) hS (fun q _ h => h) hn (fun r_21 H locs hR hz hk hS => ?_)
          obtain ⟨tt_22, bb_22, rf_22, hM, hBE_22⟩ := hR
          obtain ⟨ra, rl, ex, ro, rt, fo, fj, fk, fe, fr, fw, ⟨hPm, hPa, hPl, hPe, hPr, hPk⟩, hFk, hFe, hFr, hpk, hn9⟩ := hM
          have g_fo := hPm
          have g_fj := hPa
          refine r_iret (pc := 60) E hr hlk hS (by omega) (by omega) ?_ dX5_convergent_60
          exact ⟨_, _, _, _, ⟨_, _, _, _, _, fo, fj, fk, fe, fr, fw, ⟨hPm, hPa, hPl, hPe, hPr, hPk⟩, hFk, hFe, hFr, hpk, hn9⟩, AC.ok (by subst er_1 er_4; first | rfl | (simp [m_or, m_not, m_is0, m_lt0, m_fl, c_3, Int32.not_lt.mpr c_3, c_5, c_11, Int32.not_le.mp c_11]; done)) (by subst er_1 er_4; first | rfl | (simp [m_or, m_not, m_is0, m_lt0, m_fl, c_3, Int32.not_lt.mpr c_3, c_5, c_11, Int32.not_le.mp c_11]; done)) (er_4.symm.trans c_5) (hBE_22.cast (by unfold m_CV; rw [← hTL9, if_neg c_11, show nn x3 = j9 from by rw [hj1]; exact nI_clamp (by omega)]; exact hv_f16.symm))⟩
    · refine lv_iconst (pc := 21) (v := 0) hx hb dX5_convergent_21 (by decide) ?_
      refine r_iret (pc := 22) E hr hlk hS (by omega) (by omega) ?_ dX5_convergent_22
      exact ⟨_, _, _, _, ⟨_, _, _, _, _, fo, fj, fk, fe, fr, fw, ⟨hPm, hPa, hPl, hPe, hPr, hPk⟩, hFk, hFe, hFr, hpk, hn9⟩, AC.fail (by subst er_1 er_4; first | rfl | (simp [m_or, m_not, m_is0, m_lt0, m_fl, c_3, Int32.not_lt.mpr c_3, c_5]; done)) (by subst er_1 er_4; first | rfl | (simp [m_or, m_not, m_is0, m_lt0, m_fl, c_3, Int32.not_lt.mpr c_3, c_5]; done)) (fun z9 => c_5 (er_4.trans z9))⟩
  · refine lv_iconst (pc := 10) (v := 1) hx hb dX5_convergent_10 (by decide) ?_
    refine lv_goto (pc := 11) (tgt := 15) hx hb dX5_convergent_11 (by decide) ?_
    have hZ0_ := hS.1
    have t_fo := fo.lt
    have t_fj := fj.lt
    have t_fk := fun k (hk9 : k < 6) => (fk k hk9).lt
    have t_fe := fe.lt
    have t_fr := fr.lt
    refine k_i (pc := 15) (k_V E hC hS hA hl.1 (c1.recv hC fo rfl) rfl (c_X5_fails l D tk N0 sa H.size P hPN (fun q h9 => hPs q (Nat.le_trans hS.1 h9)) mo n9 kn th tt bb eT eB oT oB pk ca rf vs r_1 1 ) kw_1251 kw_1253 kp_20 kw_5 kw_1254 (n := 2) (by decide +kernel) rfl ⟨⟨rfl, rfl⟩, ⟨Nat.le_of_ble_eq_true rfl, Nat.le_of_ble_eq_true rfl⟩, (by dsimp only; omega), (by dsimp only; omega)⟩ rfl (Nat.le_of_ble_eq_true rfl) ⟨_, _, _, _, _, fo, fj, fk, fe, fr, fw, ⟨hPm, hPa, hPl, hPe, hPr, hPk⟩, hFk, hFe, hFr, hpk, hn9⟩ dX5_convergent_15) hS (fun q _ h => h) hn (fun r_23 H locs hR hz hk hS => ?_)
    obtain ⟨er_23, hM⟩ := hR
    obtain ⟨ra, rl, ex, ro, rt, fo, fj, fk, fe, fr, fw, ⟨hPm, hPa, hPl, hPe, hPr, hPk⟩, hFk, hFe, hFr, hpk, hn9⟩ := hM
    have g_fo := hPm
    have g_fj := hPa
    have ef_r_23 : r_23 = 1 := er_23.trans (m_fl1 _)
    rw [ef_r_23]
    refine lv_if_eq (pc := 18) (tgt := 23) hx hb dX5_convergent_18 (by decide) (fun c_24 => ?_) (fun c_24 => ?_)
    · exact absurd c_24 (by decide)
    refine lv_iconst (pc := 21) (v := 0) hx hb dX5_convergent_21 (by decide) ?_
    refine r_iret (pc := 22) E hr hlk hS (by omega) (by omega) ?_ dX5_convergent_22
    exact ⟨_, _, _, _, ⟨_, _, _, _, _, fo, fj, fk, fe, fr, fw, ⟨hPm, hPa, hPl, hPe, hPr, hPk⟩, hFk, hFe, hFr, hpk, hn9⟩, AC.fail (by subst er_1; first | rfl | (simp [m_or, m_not, m_is0, m_lt0, m_fl, c_3, Int32.not_le.mp c_3]; done)) (by subst er_1; first | rfl | (simp [m_or, m_not, m_is0, m_lt0, m_fl, c_3, Int32.not_le.mp c_3]; done)) (fun z9 => absurd (ef_r_23.symm.trans (er_23.trans z9)) (by decide))⟩
