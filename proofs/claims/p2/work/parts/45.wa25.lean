set_option maxHeartbeats 4000000 in
set_option maxRecDepth 100000 in
/-- BestratiosModel.up(I)I -/
theorem c_X5_up (l : Launch) (D : va_G) (tk : Nat → ClassId) (N0 : Nat) (sa : Nat → Nat)  (sz : Nat) (P : Nat → Prop) (hPN : ∀ q, P q → N0 ≤ q) (hPs : ∀ q, sz ≤ q → P q) (mo n9 : Nat) (kn th : Int32) (tt bb : Nat → Int64) (eT eB oT oB : Int64) (pk : Nat) (ca rf : Int32) (vs : Nat → Value) (x1 : Int32) : Met l yX5_up (wsy yX5_up cX5_up 3 (some .int)) ({ frames := 9, cells := 51, slots := 178, locals := 209 } : Room) (cP D tk N0 sa [.ref mo, .int x1] sz (fun H => MI D tk sa P mo tt bb eT eB oT oB pk ca rf vs kn n9 th H)) (kQi (fun r H => ∃ th1 tt1 bb1 rf1, MI D tk sa P mo tt1 bb1 eT eB oT oB pk ca rf1 vs kn n9 th1 H ∧ AC (m_isNo x1) 0 tt bb rf (nn x1) (m_UP (tt (nn x1)) (bb (nn x1))) r th1 tt1 bb1 rf1) (P)) (51) (178) (P) := by
  refine mStart RX5 rfl (by decide +kernel) (Nat.le_of_ble_eq_true rfl) ?_
  intro p e s m args below meth c E hr hlk hnm hsz hC hF ls hl
  subst hsz
  obtain ⟨hx, hb, -⟩ := id E
  have hA : ∀ q, (P) q → N0 ≤ q := hPN
  have hn : ∀ q, s.heap.size ≤ q → (P) q := hPs
  have hS : va_S (P) s.heap s.heap [] := va_S.rf
  have hl : lv_has ls 3 [(0, .ref mo), (1, .int x1)] := hl
  have hM : MI D tk sa P mo tt bb eT eB oT oB pk ca rf vs kn n9 th s.heap := hF
  obtain ⟨ra, rl, ex, ro, rt, fo, fj, fk, fe, fr, fw, ⟨hPm, hPa, hPl, hPe, hPr, hPk⟩, hFk, hFe, hFr, hpk, hn9⟩ := hM
  have g_fo := hPm
  have g_fj := hPa
  refine lv_aload_n (pc := 0) hx hb dX5_up_0 rfl (lv_at hl 0 rfl) ?_
  refine lv_iload_n (pc := 1) hx hb dX5_up_1 rfl (lv_at hl 1 rfl) ?_
  refine k_i (pc := 2) (k_S E hC hS hA hl.1 (c_X5_isNo l D tk N0 sa s.heap.size x1 ) kw_1245 kw_1246 kw_5 kw_1247 (n := 1) (by decide +kernel) rfl ⟨⟨rfl, rfl⟩, ⟨Nat.le_of_ble_eq_true rfl, Nat.le_of_ble_eq_true rfl⟩, (by dsimp only; omega), (by dsimp only; omega)⟩ rfl (Nat.le_of_ble_eq_true rfl) trivial dX5_up_2) hS (fun q z w => absurd w (Nat.not_le.mpr z)) hn (fun r_1 H locs hR hz hk hS => ?_)
  have er_1 := hR
  have fw := fw.new hk
  have fo := fo.kept (hk _ fo.lt (Nat.not_le.mpr fo.lt))
  have fj := fj.kept (hk _ fj.lt (Nat.not_le.mpr fj.lt))
  have fk := fk.new hk
  have fe := fe.kept (hk _ fe.lt (Nat.not_le.mpr fe.lt))
  have fr := fr.kept (hk _ fr.lt (Nat.not_le.mpr fr.lt))
  refine lv_iconst (pc := 5) (v := 0) hx hb dX5_up_5 (by decide) ?_
  have hZ0_ := hS.1
  have t_fo := fo.lt
  have t_fj := fj.lt
  have t_fk := fun k (hk9 : k < 6) => (fk k hk9).lt
  have t_fe := fe.lt
  have t_fr := fr.lt
  refine k_i (pc := 6) (k_V E hC hS hA hl.1 (c1.recv hC fo rfl) rfl (c_X5_fails l D tk N0 sa H.size P hPN (fun q h9 => hPs q (Nat.le_trans hS.1 h9)) mo n9 kn th tt bb eT eB oT oB pk ca rf vs r_1 0 ) kw_1251 kw_1253 kp_20 kw_5 kw_1254 (n := 2) (by decide +kernel) rfl ⟨⟨rfl, rfl⟩, ⟨Nat.le_of_ble_eq_true rfl, Nat.le_of_ble_eq_true rfl⟩, (by dsimp only; omega), (by dsimp only; omega)⟩ rfl (Nat.le_of_ble_eq_true rfl) ⟨_, _, _, _, _, fo, fj, fk, fe, fr, fw, ⟨hPm, hPa, hPl, hPe, hPr, hPk⟩, hFk, hFe, hFr, hpk, hn9⟩ dX5_up_6) hS (fun q _ h => h) hn (fun r_3 H locs hR hz hk hS => ?_)
  obtain ⟨er_3, hM⟩ := hR
  obtain ⟨ra, rl, ex, ro, rt, fo, fj, fk, fe, fr, fw, ⟨hPm, hPa, hPl, hPe, hPr, hPk⟩, hFk, hFe, hFr, hpk, hn9⟩ := hM
  have g_fo := hPm
  have g_fj := hPa
  refine lv_if_eq (pc := 9) (tgt := 14) hx hb dX5_up_9 (by decide) (fun c_4 => ?_) (fun c_4 => ?_)
  · refine lv_aload_n (pc := 14) hx hb dX5_up_14 rfl (lv_at hl 0 rfl) ?_
    refine r_get (pc := 15) E hC fo 0 (v := .ref ra) rfl rfl (by decide) uX5 (List.mem_cons_of_mem _ kw_1209) (fun _ h => h) dX5_up_15 ?_
    refine lv_iload_n (pc := 18) hx hb dX5_up_18 rfl (lv_at hl 1 rfl) ?_
    obtain ⟨hx_5, hk_5⟩ := m_noN (er_1.symm.trans (m_fl0 (er_3.symm.trans c_4)).1)
    refine r_aaldJ (pc := 19) E hC fj (nn x1) hx_5 hk_5 (by decide) rfl dX5_up_19 ?_
    have fL6 := fk (nn x1) hk_5
    have mF_fL6 := hFk (nn x1) hk_5
    have Pq_fL6 := hPk (nn x1) hk_5
    refine lv_astore_n (pc := 20) (lv' := [(2, .ref (rt (nn x1))), (0, .ref mo), (1, .int x1)]) hx hb dX5_up_20 rfl hl (by decide) rfl (fun ls hl => ?_)
    refine lv_aload_n (pc := 21) hx hb dX5_up_21 rfl (lv_at hl 1 rfl) ?_
    refine lv_iload_n (pc := 22) hx hb dX5_up_22 rfl (lv_at hl 2 rfl) ?_
    refine lv_aload_n (pc := 23) hx hb dX5_up_23 rfl (lv_at hl 0 rfl) ?_
    have hZ0_ := hS.1
    have t_fo := fo.lt
    have t_fj := fj.lt
    have t_fk := fun k (hk9 : k < 6) => (fk k hk9).lt
    have t_fe := fe.lt
    have t_fr := fr.lt
    have t_fL6 := fL6.lt
    refine k_i (pc := 24) (k_S E hC hS hA hl.1 (c_X5_isAbove l D tk N0 sa H.size (rt (nn x1)) (tt (nn x1)) (bb (nn x1)) ) kw_1645 kw_1646 kw_5 kw_1647 (n := 1) (by decide +kernel) rfl ⟨⟨rfl, rfl⟩, ⟨Nat.le_of_ble_eq_true rfl, Nat.le_of_ble_eq_true rfl⟩, (by dsimp only; omega), (by dsimp only; omega)⟩ rfl (Nat.le_of_ble_eq_true rfl) fL6 dX5_up_24) hS (fun q z w => absurd w (Nat.not_le.mpr z)) hn (fun r_7 H locs hR hz hk hS => ?_)
    have fw := fw.new hk
    have fo := fo.kept (hk _ fo.lt (Nat.not_le.mpr fo.lt))
    have fj := fj.kept (hk _ fj.lt (Nat.not_le.mpr fj.lt))
    have fk := fk.new hk
    have fe := fe.kept (hk _ fe.lt (Nat.not_le.mpr fe.lt))
    have fr := fr.kept (hk _ fr.lt (Nat.not_le.mpr fr.lt))
    have fL6 := fL6.kept (hk _ fL6.lt (Nat.not_le.mpr fL6.lt))
    have er_7 := hR
    refine lv_if_eq (pc := 27) (tgt := 45) hx hb dX5_up_27 (by decide) (fun c_8 => ?_) (fun c_8 => ?_)
    · refine lv_null (pc := 45) hx hb dX5_up_45 ?_
      have hZ0_ := hS.1
      have t_fo := fo.lt
      have t_fj := fj.lt
      have t_fk := fun k (hk9 : k < 6) => (fk k hk9).lt
      have t_fe := fe.lt
      have t_fr := fr.lt
      have t_fL6 := fL6.lt
      refine k_i (pc := 46) (k_V E hC hS hA hl.1 (c1.recv hC fo rfl) rfl (c_X5_become_N l D tk N0 sa H.size P hPN (fun q h9 => hPs q (Nat.le_trans hS.1 h9)) mo n9 kn ((m_th r_1 0)) tt bb eT eB oT oB pk ca rf vs x1 (nn x1) hx_5 hk_5 ) kw_1255 kw_1257 kp_21 kw_5 kw_1258 (n := 2) (by decide +kernel) rfl ⟨⟨rfl, rfl⟩, ⟨Nat.le_of_ble_eq_true rfl, Nat.le_of_ble_eq_true rfl⟩, (by dsimp only; omega), (by dsimp only; omega)⟩ rfl (Nat.le_of_ble_eq_true rfl) ⟨_, _, _, _, _, fo, fj, fk, fe, fr, fw, ⟨hPm, hPa, hPl, hPe, hPr, hPk⟩, hFk, hFe, hFr, hpk, hn9⟩ dX5_up_46) hS (fun q _ h => h) hn (fun r_9 H locs hR hz hk hS => ?_)
      obtain ⟨tt_10, bb_10, rf_10, hM, hBE_10⟩ := hR
      obtain ⟨ra, rl, ex, ro, rt, fo, fj, fk, fe, fr, fw, ⟨hPm, hPa, hPl, hPe, hPr, hPk⟩, hFk, hFe, hFr, hpk, hn9⟩ := hM
      have g_fo := hPm
      have g_fj := hPa
      refine r_iret (pc := 49) E hr hlk hS (by omega) (by omega) ?_ dX5_up_49
      exact ⟨_, _, _, _, ⟨_, _, _, _, _, fo, fj, fk, fe, fr, fw, ⟨hPm, hPa, hPl, hPe, hPr, hPk⟩, hFk, hFe, hFr, hpk, hn9⟩, AC.ok (by subst er_1 er_3 er_7; first | rfl | (simp [m_or, m_not, m_is0, m_lt0, m_fl, c_4, c_8]; done)) (by subst er_1 er_3 er_7; first | rfl | (simp [m_or, m_not, m_is0, m_lt0, m_fl, c_4, c_8]; done)) (er_3.symm.trans c_4) (hBE_10.cast (by subst er_1 er_3 er_7; first | rfl | (simp [m_UP, c_4, c_8]; done)))⟩
    · refine lv_aload_n (pc := 30) hx hb dX5_up_30 rfl (lv_at hl 0 rfl) ?_
      have hZ0_ := hS.1
      have t_fo := fo.lt
      have t_fj := fj.lt
      have t_fk := fun k (hk9 : k < 6) => (fk k hk9).lt
      have t_fe := fe.lt
      have t_fr := fr.lt
      have t_fL6 := fL6.lt
      refine k_i (pc := 31) (k_S E hC hS hA hl.1 (c_X5_isOne l D tk N0 sa H.size (rt (nn x1)) (tt (nn x1)) (bb (nn x1)) ) kw_1648 kw_1649 kw_5 kw_1650 (n := 1) (by decide +kernel) rfl ⟨⟨rfl, rfl⟩, ⟨Nat.le_of_ble_eq_true rfl, Nat.le_of_ble_eq_true rfl⟩, (by dsimp only; omega), (by dsimp only; omega)⟩ rfl (Nat.le_of_ble_eq_true rfl) fL6 dX5_up_31) hS (fun q z w => absurd w (Nat.not_le.mpr z)) hn (fun r_11 H locs hR hz hk hS => ?_)
      have fw := fw.new hk
      have fo := fo.kept (hk _ fo.lt (Nat.not_le.mpr fo.lt))
      have fj := fj.kept (hk _ fj.lt (Nat.not_le.mpr fj.lt))
      have fk := fk.new hk
      have fe := fe.kept (hk _ fe.lt (Nat.not_le.mpr fe.lt))
      have fr := fr.kept (hk _ fr.lt (Nat.not_le.mpr fr.lt))
      have fL6 := fL6.kept (hk _ fL6.lt (Nat.not_le.mpr fL6.lt))
      have er_11 := hR
      refine lv_if_ne (pc := 34) (tgt := 45) hx hb dX5_up_34 (by decide) (fun c_12 => ?_) (fun c_12 => ?_)
      · refine lv_null (pc := 45) hx hb dX5_up_45 ?_
        have hZ0_ := hS.1
        have t_fo := fo.lt
        have t_fj := fj.lt
        have t_fk := fun k (hk9 : k < 6) => (fk k hk9).lt
        have t_fe := fe.lt
        have t_fr := fr.lt
        have t_fL6 := fL6.lt
        refine k_i (pc := 46) (k_V E hC hS hA hl.1 (c1.recv hC fo rfl) rfl (c_X5_become_N l D tk N0 sa H.size P hPN (fun q h9 => hPs q (Nat.le_trans hS.1 h9)) mo n9 kn ((m_th r_1 0)) tt bb eT eB oT oB pk ca rf vs x1 (nn x1) hx_5 hk_5 ) kw_1255 kw_1257 kp_21 kw_5 kw_1258 (n := 2) (by decide +kernel) rfl ⟨⟨rfl, rfl⟩, ⟨Nat.le_of_ble_eq_true rfl, Nat.le_of_ble_eq_true rfl⟩, (by dsimp only; omega), (by dsimp only; omega)⟩ rfl (Nat.le_of_ble_eq_true rfl) ⟨_, _, _, _, _, fo, fj, fk, fe, fr, fw, ⟨hPm, hPa, hPl, hPe, hPr, hPk⟩, hFk, hFe, hFr, hpk, hn9⟩ dX5_up_46) hS (fun q _ h => h) hn (fun r_13 H locs hR hz hk hS => ?_)
        obtain ⟨tt_14, bb_14, rf_14, hM, hBE_14⟩ := hR
        obtain ⟨ra, rl, ex, ro, rt, fo, fj, fk, fe, fr, fw, ⟨hPm, hPa, hPl, hPe, hPr, hPk⟩, hFk, hFe, hFr, hpk, hn9⟩ := hM
        have g_fo := hPm
        have g_fj := hPa
        refine r_iret (pc := 49) E hr hlk hS (by omega) (by omega) ?_ dX5_up_49
        exact ⟨_, _, _, _, ⟨_, _, _, _, _, fo, fj, fk, fe, fr, fw, ⟨hPm, hPa, hPl, hPe, hPr, hPk⟩, hFk, hFe, hFr, hpk, hn9⟩, AC.ok (by subst er_1 er_3 er_7 er_11; first | rfl | (simp [m_or, m_not, m_is0, m_lt0, m_fl, c_4, c_8, c_12]; done)) (by subst er_1 er_3 er_7 er_11; first | rfl | (simp [m_or, m_not, m_is0, m_lt0, m_fl, c_4, c_8, c_12]; done)) (er_3.symm.trans c_4) (hBE_14.cast (by subst er_1 er_3 er_7 er_11; first | rfl | (simp [m_UP, c_4, c_8, c_12]; done)))⟩
      · refine lv_aload_n (pc := 37) hx hb dX5_up_37 rfl (lv_at hl 0 rfl) ?_
        refine lv_iconst (pc := 38) (v := (-1)) hx hb dX5_up_38 (by decide) ?_
        have hZ0_ := hS.1
        have t_fo := fo.lt
        have t_fj := fj.lt
        have t_fk := fun k (hk9 : k < 6) => (fk k hk9).lt
        have t_fe := fe.lt
        have t_fr := fr.lt
        have t_fL6 := fL6.lt
        refine k_o (pc := 39) (k_S E hC hS hA hl.1 (c_X5_withLast l D tk N0 sa H.size (rt (nn x1)) (tt (nn x1)) (bb (nn x1)) ((-1)) mF_fL6 (Or.inr rfl)) kw_1651 kw_1652 kw_5 kw_1653 (n := 2) (by decide +kernel) rfl ⟨⟨rfl, rfl⟩, ⟨Nat.le_of_ble_eq_true rfl, Nat.le_of_ble_eq_true rfl⟩, (by dsimp only; omega), (by dsimp only; omega)⟩ rfl (Nat.le_of_ble_eq_true rfl) fL6 dX5_up_39) hS (fun q z w => absurd w (Nat.not_le.mpr z)) hn (fun r_15 H locs hR hz hk hS => ?_)
        have fw := fw.new hk
        have fo := fo.kept (hk _ fo.lt (Nat.not_le.mpr fo.lt))
        have fj := fj.kept (hk _ fj.lt (Nat.not_le.mpr fj.lt))
        have fk := fk.new hk
        have fe := fe.kept (hk _ fe.lt (Nat.not_le.mpr fe.lt))
        have fr := fr.kept (hk _ fr.lt (Nat.not_le.mpr fr.lt))
        have fL6 := fL6.kept (hk _ fL6.lt (Nat.not_le.mpr fL6.lt))
        rcases hR with ⟨rfl, hv_f16⟩ | ⟨q_f16, tt_f16, bb_f16, rfl, z9_, f16, hb_f16, hv_f16⟩
        · refine lv_goto (pc := 42) (tgt := 46) hx hb dX5_up_42 (by decide) ?_
          have hZ0_ := hS.1
          have t_fo := fo.lt
          have t_fj := fj.lt
          have t_fk := fun k (hk9 : k < 6) => (fk k hk9).lt
          have t_fe := fe.lt
          have t_fr := fr.lt
          have t_fL6 := fL6.lt
          refine k_i (pc := 46) (k_V E hC hS hA hl.1 (c1.recv hC fo rfl) rfl (c_X5_become_N l D tk N0 sa H.size P hPN (fun q h9 => hPs q (Nat.le_trans hS.1 h9)) mo n9 kn ((m_th r_1 0)) tt bb eT eB oT oB pk ca rf vs x1 (nn x1) hx_5 hk_5 ) kw_1255 kw_1257 kp_21 kw_5 kw_1258 (n := 2) (by decide +kernel) rfl ⟨⟨rfl, rfl⟩, ⟨Nat.le_of_ble_eq_true rfl, Nat.le_of_ble_eq_true rfl⟩, (by dsimp only; omega), (by dsimp only; omega)⟩ rfl (Nat.le_of_ble_eq_true rfl) ⟨_, _, _, _, _, fo, fj, fk, fe, fr, fw, ⟨hPm, hPa, hPl, hPe, hPr, hPk⟩, hFk, hFe, hFr, hpk, hn9⟩ dX5_up_46) hS (fun q _ h => h) hn (fun r_17 H locs hR hz hk hS => ?_)
          obtain ⟨tt_18, bb_18, rf_18, hM, hBE_18⟩ := hR
          obtain ⟨ra, rl, ex, ro, rt, fo, fj, fk, fe, fr, fw, ⟨hPm, hPa, hPl, hPe, hPr, hPk⟩, hFk, hFe, hFr, hpk, hn9⟩ := hM
          have g_fo := hPm
          have g_fj := hPa
          refine r_iret (pc := 49) E hr hlk hS (by omega) (by omega) ?_ dX5_up_49
          exact ⟨_, _, _, _, ⟨_, _, _, _, _, fo, fj, fk, fe, fr, fw, ⟨hPm, hPa, hPl, hPe, hPr, hPk⟩, hFk, hFe, hFr, hpk, hn9⟩, AC.ok (by subst er_1 er_3 er_7 er_11; first | rfl | (simp [m_or, m_not, m_is0, m_lt0, m_fl, c_4, c_8, c_12]; done)) (by subst er_1 er_3 er_7 er_11; first | rfl | (simp [m_or, m_not, m_is0, m_lt0, m_fl, c_4, c_8, c_12]; done)) (er_3.symm.trans c_4) (hBE_18.cast (by unfold m_UP; rw [if_neg (fun z9 => c_8 (er_7.trans z9)), if_pos (er_11.symm.trans c_12)]; exact hv_f16.symm))⟩
        · have s_f16 : s.heap.size ≤ q_f16 := Nat.le_trans hZ0_ z9_
          have g_f16 := hn _ s_f16
          have l_fo_f16 : mo < q_f16 := Nat.lt_of_lt_of_le t_fo z9_
          have l_fj_f16 : ra < q_f16 := Nat.lt_of_lt_of_le t_fj z9_
          have nW_f16 : ∀ k, k < 6 → rt k ≠ q_f16 := fun k hk9 => Nat.ne_of_lt (Nat.lt_of_lt_of_le (t_fk k hk9) z9_)
          have l_fe_f16 : ex < q_f16 := Nat.lt_of_lt_of_le t_fe z9_
          have l_fr_f16 : ro < q_f16 := Nat.lt_of_lt_of_le t_fr z9_
          have l_fL6_f16 : rt (nn x1) < q_f16 := Nat.lt_of_lt_of_le t_fL6 z9_
          refine lv_goto (pc := 42) (tgt := 46) hx hb dX5_up_42 (by decide) ?_
          have hZ0_ := hS.1
          have t_fo := fo.lt
          have t_fj := fj.lt
          have t_fk := fun k (hk9 : k < 6) => (fk k hk9).lt
          have t_fe := fe.lt
          have t_fr := fr.lt
          have t_fL6 := fL6.lt
          have t_f16 := f16.lt
          refine k_i (pc := 46) (k_V E hC hS hA hl.1 (c1.recv hC fo rfl) rfl (c_X5_become l D tk N0 sa H.size P hPN (fun q h9 => hPs q (Nat.le_trans hS.1 h9)) mo n9 kn ((m_th r_1 0)) tt bb eT eB oT oB pk ca rf vs x1 (nn x1) hx_5 hk_5 q_f16 tt_f16 bb_f16 (hPs _ s_f16) hb_f16) kw_1255 kw_1257 kp_21 kw_5 kw_1258 (n := 2) (by decide +kernel) rfl ⟨⟨rfl, rfl⟩, ⟨Nat.le_of_ble_eq_true rfl, Nat.le_of_ble_eq_true rfl⟩, (by dsimp only; omega), (by dsimp only; omega)⟩ rfl (Nat.le_of_ble_eq_true rfl) ⟨⟨_, _, _, _, _, fo, fj, fk, fe, fr, fw, ⟨hPm, hPa, hPl, hPe, hPr, hPk⟩, hFk, hFe, hFr, hpk, hn9⟩, f16⟩ dX5_up_46) hS (fun q _ h => h) hn (fun r_19 H locs hR hz hk hS => ?_)
          obtain ⟨tt_20, bb_20, rf_20, hM, hBE_20⟩ := hR
          obtain ⟨ra, rl, ex, ro, rt, fo, fj, fk, fe, fr, fw, ⟨hPm, hPa, hPl, hPe, hPr, hPk⟩, hFk, hFe, hFr, hpk, hn9⟩ := hM
          have g_fo := hPm
          have g_fj := hPa
          refine r_iret (pc := 49) E hr hlk hS (by omega) (by omega) ?_ dX5_up_49
          exact ⟨_, _, _, _, ⟨_, _, _, _, _, fo, fj, fk, fe, fr, fw, ⟨hPm, hPa, hPl, hPe, hPr, hPk⟩, hFk, hFe, hFr, hpk, hn9⟩, AC.ok (by subst er_1 er_3 er_7 er_11; first | rfl | (simp [m_or, m_not, m_is0, m_lt0, m_fl, c_4, c_8, c_12]; done)) (by subst er_1 er_3 er_7 er_11; first | rfl | (simp [m_or, m_not, m_is0, m_lt0, m_fl, c_4, c_8, c_12]; done)) (er_3.symm.trans c_4) (hBE_20.cast (by unfold m_UP; rw [if_neg (fun z9 => c_8 (er_7.trans z9)), if_pos (er_11.symm.trans c_12)]; exact hv_f16.symm))⟩
  · refine lv_iconst (pc := 12) (v := 0) hx hb dX5_up_12 (by decide) ?_
    refine r_iret (pc := 13) E hr hlk hS (by omega) (by omega) ?_ dX5_up_13
    exact ⟨_, _, _, _, ⟨_, _, _, _, _, fo, fj, fk, fe, fr, fw, ⟨hPm, hPa, hPl, hPe, hPr, hPk⟩, hFk, hFe, hFr, hpk, hn9⟩, AC.fail (by subst er_1 er_3; first | rfl | (simp [m_or, m_not, m_is0, m_lt0, m_fl, c_4]; done)) (by subst er_1 er_3; first | rfl | (simp [m_or, m_not, m_is0, m_lt0, m_fl, c_4]; done)) (fun z9 => c_4 (er_3.trans z9))⟩
