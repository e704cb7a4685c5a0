set_option maxHeartbeats 4000000 in
set_option maxRecDepth 100000 in
/-- BestratiosModel.up(I)I -/
theorem c_X5_up (l : Launch) (D : va_G) (tk : Nat → ClassId) (N0 : Nat) (sa : Nat → Nat)  (sz : Nat) (P : Nat → Prop) (hPN : ∀ q, P q → N0 ≤ q) (hPs : ∀ q, sz ≤ q → P q) (mo n9 : Nat) (kn th : Int32) (tt bb : Nat → Int64) (eT eB oT oB : Int64) (pk : Nat) (ca rf : Int32) (vs : Nat → Value) (x1 : Int32) : Met l yX5_up (wsy yX5_up cX5_up 3 (some .int)) ({ frames := 9, cells := 51, slots := 178, locals := 209 } : Room) (cP D tk N0 sa [.ref mo, .int x1] sz (fun H => MI D tk sa P mo tt bb eT eB oT oB pk ca rf vs kn n9 th H)) (kQi (fun r H => ∃ th1 tt1 bb1 rf1, MI D tk sa P mo tt1 bb1 eT eB oT oB pk ca rf1 vs kn n9 th1 H ∧ AC (m_isNo x1) 0 tt bb rf (nn x1) (m_UP (tt (nn x1)) (bb (nn x1))) r th1 tt1 bb1 rf1) (P)) (51) (178) (P) := by
  refine mStart RX5 rfl (by decide +kernel) (Nat.le_of_ble_eq_true rfl) ?_
  intro p e s m args below meth c E hr hlk hnm hsz hC hF ls hl
  subst hsz
  obtain ⟨hx, hb, -⟩ := id E
  have hA : ∀ q, (P) q → N0 ≤ q := hPN
  have hn : ∀ q, s.heap.size ≤ q → (P) q := hPs
  have hS : va_S (P) s.heap s.heap [] := va_S.rf
  have hl : lv_has ls 3 [(0, .ref mo), (1, .int x1)] := hl
  have hM : MI D tk sa P mo tt bb eT eB oT oB pk ca rf vs kn n9 th s.heap := hF
  obtain ⟨ra, rl, ex, ro, rt, fo, fj, fk, fe, fr, fw, ⟨hPm, hPa, hPl, hPe, hPr, hPk⟩, hFk, hFe, hFr, hpk, hn9⟩ := hM
  have g_fo := hPm
  have g_fj := hPa
  refine lv_aload_n (pc := 0) hx hb dX5_up_0 rfl (lv_at hl 0 rfl) ?_
  refine lv_iload_n (pc := 1) hx hb dX5_up_1 rfl (lv_at hl 1 rfl) ?_
  refine k_i (pc := 2) (k_S E hC hS hA hl.1 (c_X5_isNo l D tk N0 sa s.heap.size x1 ) kw_1245 kw_1246 kw_5 kw_1247 (n := 1) (by decide +kernel) rfl ⟨⟨rfl, rfl⟩, ⟨Nat.le_of_ble_eq_true rfl, Nat.le_of_ble_eq_true rfl⟩, (by dsimp only; omega), (by dsimp only; omega)⟩ rfl (Nat.le_of_ble_eq_true rfl) trivial dX5_up_2) hS (fun q z w => absurd w (Nat.not_le.mpr z)) hn (fun r_1 H locs hR hz hk hS => ?_)
  have er_1 := hR
  have fw := fw.new hk
  have fo := fo.kept (hk _ fo.lt (Nat.not_le.mpr fo.lt))
  have fj := fj.kept (hk _ fj.lt (Nat.not_le.mpr fj.lt))
  have fk := fk.new hk
  have fe := fe.kept (hk _ fe.lt (Nat.not_le.mpr fe.lt))
  have fr := fr.kept (hk _ fr.lt (Nat.not_le.mpr fr.lt))
  refine lv_iconst (pc := 5) (v := 0) hx hb dX5_up_5 (by decide) ?_
  have hZ0_ := hS.1
  have t_fo := fo.lt
  have t_fj := fj.lt
  have t_fk := fun k (hk9 : k < 6) => (fk k hk9).lt
  have t_fe := fe.lt
  have t_fr := fr.lt
  refine k_i (pc := 6) (k_V E hC hS hA hl.1 (c1.recv hC fo rfl) rfl (c_X5_fails l D tk N0 sa H.size P hPN (fun q h9 => hPs q (Nat.le_trans hS.1 h9)) mo n9 kn th tt bb eT eB oT oB pk ca rf vs r_1 0 ) kw_1251 kw_1253 kp_20 kw_5 kw_1254 (n := 2) (by decide +kernel) rfl ⟨⟨rfl, rfl⟩, ⟨Nat.le_of_ble_eq_true rfl, Nat.le_of_ble_eq_true rfl⟩, (by dsimp only; omega), (by dsimp only; omega)⟩ rfl (Nat.le_of_ble_eq_true rfl) ⟨_, _, _, _, _, fo, fj, fk, fe, fr, fw, ⟨hPm, hPa, hPl, hPe, hPr, hPk⟩, hFk, hFe, hFr, hpk, hn9⟩ dX5_up_6) hS (fun q _ h => h) hn (fun r_3 H locs hR hz hk hS => ?_)
  obtain ⟨er_3, hM⟩ := hR
  obtain ⟨ra, rl, ex, ro, rt, fo, fj, fk, fe, fr, fw, ⟨hPm, hPa, hPl, hPe, hPr, hPk⟩, hFk, hFe, hFr, hpk, hn9⟩ := hM
  have g_fo := hPm
  have g_fj := hPa
  refine lv_if_eq (pc := 9) (tgt := 14) hx hb dX5_up_9 (by decide) (fun c_4 => ?_) (fun c_4 => ?_)
  · refine lv_aload_n (pc := 14) hx hb dX5_up_14 rfl (lv_at hl 0 rfl) ?_
    refine r_get (pc := 15) E hC fo 0 (v := .ref ra) rfl rfl (by decide) uX5 (List.mem_cons_of_mem _ kw_1209) (fun _ h => h) dX5_up_15 ?_
    refine lv_iload_n (pc := 18) hx hb dX5_up_18 rfl (lv_at hl 1 rfl) ?_
    obtain ⟨hx_5, hk_5⟩ := m_noN (er_1.symm.trans (m_fl0 (er_3.symm.trans c_4)).1)
    refine r_aaldJ (pc := 19) E hC fj (nn x1) hx_5 hk_5 (by decide) rfl dX5_up_19 ?_
    have fL6 := fk (nn x1) hk_5
    have mF_fL6 := hFk (nn x1) hk_5
    have Pq_fL6 := hPk (nn x1) hk_5
    refine lv_astore_n (pc := 20) (lv' := [(2, .ref (rt (nn x1))), (0, .ref mo), (1, .int x1)]) hx hb dX5_up_20 rfl hl (by decide) rfl (fun ls hl => ?_)
    refine lv_aload_n (pc := 21) hx hb dX5_up_21 rfl (lv_at hl 1 rfl) ?_
    refine lv_iload_n (pc := 22) hx hb dX5_up_22 rfl (lv_at hl 2 rfl) ?_
    refine lv_aload_n (pc := 23) hx hb dX5_up_23 rfl (lv_at hl 0 rfl) ?_
    have hZ0_ := hS.1
    have t_fo := fo.lt
    have t_fj := fj.lt
    have t_fk := fun k (hk9 : k < 6) => (fk k hk9).lt
    have t_fe := fe.lt
    have t_fr := fr.lt
    have t_fL6 := fL6.lt
    refine k_i (pc := 24) (k_S E hC hS hA hl.1 (c_X5_isAbove l D tk N0 sa H.size (rt (nn x1)) (tt (nn x1)) (bb (nn x1)) ) kw_1645 kw_1646 kw_5 kw_1647 (n := 1) (by decide +kernel) rfl ⟨⟨rfl, rfl⟩, ⟨Nat.le_of_ble_eq_true rfl, Nat.le_of_ble_eq_true rfl⟩, (by dsimp only; omega), (by dsimp only; omega)⟩ rfl (Nat.le_of_ble_eq_true rfl) fL6 dX5_up_24) hS (fun q z w => absurd w (Nat.not_le.mpr z)) hn (fun r_7 H locs hR hz hk hS => ?_)
    have fw := fw.new hk
    have fo := fo.kept (hk _ fo.lt (Nat.not_le.mpr fo.lt))
    have fj := fj.kept (hk _ fj.lt (Nat.not_le.mpr fj.lt))
    have fk := fk.new hk
    have fe := fe.kept (hk _ fe.lt (Nat.not_le.mpr fe.lt))
    have fr := fr.kept (hk _ fr.lt (Nat.not_le.mpr fr.lt))
    have fL6 := fL6.kept (hk _ fL6.lt (Nat.not_le.mpr fL6.lt))
    have er_7 := hR
    refine lv_if_eq (pc := 27) (tgt := 45) hx hb dX5_up_27 (by decide) (fun c_8 => ?_) (fun c_8 => ?_)
    · refine lv_null (pc := 45) hx hb dX5_up_45 ?_
      have hZ0_ := hS.1
      have t_fo := fo.lt
      have t_fj := fj.lt
      have t_fk := fun k (hk9 : k < 6) => (fk k hk9).lt
      have t_fe := fe.lt
      have t_fr := fr.lt
      have t_fL6 := fL6.lt
      refine k_i (pc := 46) (k_V E hC hS hA hl.1 (c1.recv hC fo rfl) rfl (c_X5_become_N l D tk N0 sa H.size P hPN (fun q h9 => hPs q (Nat.le_trans hS.1 h9)) mo n9 kn ((m_th r_1 0)) tt bb eT eB oT oB pk ca rf vs x1 (nn x1) hx_5 hk_5 ) kw_1255 kw_1257 kp_21 kw_5 kw_1258 (n := 2) (by decide +kernel) rfl ⟨⟨rfl, rfl⟩, ⟨Nat.le_of_ble_eq_true rfl, Nat.le_of_ble_eq_true rfl⟩, (by dsimp only; omega), (by dsimp only; omega)⟩ rfl (Nat.le_of_ble_eq_true rfl) ⟨_, _, _, _, _, fo, fj, fk, fe, fr, fw, ⟨hPm, hPa, hPl, hPe, hPr, hPk⟩, hFk, hFe, hFr, hpk, hn9⟩ dX5_up_46) hS (fun q _ h => h) hn (fun r_9 H locs hR hz hk hS => ?_)
      obtain ⟨tt_10, bb_10, rf_10, hM, hBE_10⟩ := hR
      obtain ⟨ra, rl, ex, ro, rt, fo, fj, fk, fe, fr, fw, ⟨hPm, hPa, hPl, hPe, hPr, hPk⟩, hFk, hFe, hFr, hpk, hn9⟩ := hM
      have g_fo := hPm
      have g_fj := hPa
      refine r_iret (pc := 49) E hr hlk hS (by omega) (by omega) ?_ dX5_up_49
      exact ⟨_, _, _, _, ⟨_, _, _, _, _, fo, fj, fk, fe, fr, fw, ⟨hPm, hPa, hPl, hPe, hPr, hPk⟩, hFk, hFe, hFr, hpk, hn9⟩, AC.ok (by subst er_1 er_3 er_7; first | rfl | (simp [m_or, m_not, m_is0, m_lt0, m_fl, c_4, c_8]; done)) (by subst er_1 er_3 er_7; first | rfl | (simp [m_or, m_not, m_is0, m_lt0, m_fl, c_4, c_8]; done)) (er_3.symm.trans c_4) (hBE_10.cast (by subst er_1 er_3 er_7; first | rfl | (simp [m_UP, c_4, c_8]; done)))⟩
    · refine lv_aload_n (pc := 30) hx hb dX5_up_30 rfl (lv_at hl 0 rfl) ?_
      have hZ0_ := hS.1
      have t_fo := fo.lt
      have t_fj := fj.lt
      have t_fk := fun k (hk9 : k < 6) => (fk k hk9).lt
      have t_fe := fe.lt
      have t_fr := fr.lt
      have t_fL6 := fL6.lt
      refine k_i (pc := 31) (k_S E hC hS hA hl.1 (c_X5_isOne l D tk N0 sa H.size (rt (nn x1)) (tt (nn x1)) (bb (nn x1)) ) kw_1648 kw_1649 kw_5 kw_1650 (n := 1) (by decide +kernel) rfl ⟨⟨rfl, rfl⟩, ⟨Nat.le_of_ble_eq_true rfl, Nat.le_of_ble_eq_true rfl⟩, (by dsimp only; omega), (by dsimp only; omega)⟩ rfl (Nat.le_of_ble_eq_true rfl) fL6 dX5_up_31) hS (fun q z w => absurd w (Nat.not_le.mpr z)) hn (fun r_11 H locs hR hz hk hS => ?_)
      have fw := fw.new hk
      have fo := fo.kept (hk _ fo.lt (Nat.not_le.mpr fo.lt))
      have fj := fj.kept (hk _ fj.lt (Nat.not_le.mpr fj.lt))
      have fk := fk.new hk
      have fe := fe.kept (hk _ fe.lt (Nat.not_le.mpr fe.lt))
      have fr := fr.kept (hk _ fr.lt (Nat.not_le.mpr fr.lt))
      have fL6 := fL6.kept (hk _ fL6.lt (Nat.not_le.mpr fL6.lt))
      have er_11 := hR
      refine lv_if_ne (pc := 34) (tgt := 45) hx hb dX5_up_34 (by decide) (fun c_12 => ?_) (fun c_12 => ?_)
      · refine lv_null (pc := 45) hx hb dX5_up_45 ?_
        have hZ0_ := hS.1
        have t_fo := fo.lt
        have t_fj := fj.lt
        have t_fk := fun k (hk9 : k < 6) => (fk k hk9).lt
        have t_fe := fe.lt
        have t_fr := fr.lt
        have t_fL6 := fL6.lt
        refine k_i (pc := 46) (k_V E hC hS hA hl.1 (c1.recv hC fo rfl) rfl (c_X5_become_N l D tk N0 sa H.size P hPN (fun q h9 => hPs q (Nat.le_trans hS.1 h9)) mo n9 kn ((m_th r_1 0)) tt bb eT eB oT oB pk ca rf vs x1 (nn x1) hx_5 hk_5 ) kw_1255 kw_1257 kp_21 kw_5 kw_1258 (n := 2) (by decide +kernel) rfl ⟨⟨rfl, rfl⟩, ⟨Nat.le_of_ble_eq_true rfl, Nat.le_of_ble_eq_true rfl⟩, (by dsimp only; omega), (by dsimp only; omega)⟩ rfl (Nat.le_of_ble_eq_true rfl) ⟨_, _, _, _, _, fo, fj, fk, fe, fr, fw, ⟨hPm, hPa, hPl, hPe, hPr, hPk⟩, hFk, hFe, hFr, hpk, hn9⟩ dX5_up_46) hS (fun q _ h => h) hn (fun r_13 H locs hR hz hk hS => ?_)
        obtain ⟨tt_14, bb_14, rf_14, hM, hBE_14⟩ := hR
        obtain ⟨ra, rl, ex, ro, rt, fo, fj, fk, fe, fr, fw, ⟨hPm, hPa, hPl, hPe, hPr, hPk⟩, hFk, hFe, hFr, hpk, hn9⟩ := hM
        have g_fo := hPm
        have g_fj := hPa
        refine r_iret (pc := 49) E hr hlk hS (by omega) (by omega) ?_ dX5_up_49
        exact ⟨_, _, _, _, ⟨_, _, _, _, _, fo, fj, fk, fe, fr, fw, ⟨hPm, hPa, hPl, hPe, hPr, hPk⟩, hFk, hFe, hFr, hpk, hn9⟩, AC.ok (by subst er_1 er_3 er_7 er_11; first | rfl | (simp [m_or, m_not, m_is0, m_lt0, m_fl, c_4, c_8, c_12]; done)) (by subst er_1 er_3 er_7 er_11; first | rfl | (simp [m_or, m_not, m_is0, m_lt0, m_fl, c_4, c_8, c_12]; done)) (er_3.symm.trans c_4) (hBE_14.cast (by subst er_1 er_3 er_7 er_11; first | rfl | (simp [m_UP, c_4, c_8, c_12]; done)))⟩
      · refine lv_aload_n (pc := 37) hx hb dX5_up_37 rfl (lv_at hl 0 rfl) ?_
        refine lv_iconst (pc := 38) (v := (-1)) hx hb dX5_up_38 (by decide) ?_
        have hZ0_ := hS.1
        have t_fo := fo.lt
        have t_fj := fj.lt
        have t_fk := fun k (hk9 : k < 6) => (fk k hk9).lt
        have t_fe := fe.lt
        have t_fr := fr.lt
        have t_fL6 := fL6.lt
        refine k_o (pc := 39) (k_S E hC hS hA hl.1 (c_X5_withLast l D tk N0 sa H.size (rt (nn x1)) (tt (nn x1)) (bb (nn x1)) ((-1)) mF_fL6 (Or.inr rfl)) kw_1651 kw_1652 kw_5 kw_1653 (n := 2) (by decide +kernel) rfl ⟨⟨rfl, rfl⟩, ⟨Nat.le_of_ble_eq_true rfl, Nat.le_of_ble_eq_true rfl⟩, (by dsimp only; omega), (by dsimp only; omega)⟩ rfl (Nat.le_of_ble_eq_true rfl) fL6 dX5_up_39) hS (fun q z w => absurd w (Nat.not_le.mpr z)) hn (fun r_15 H locs hR hz hk hS => ?_)
        have fw := fw.new hk
        have fo := fo.kept (hk _ fo.lt (Nat.not_le.mpr fo.lt))
        have fj := fj.kept (hk _ fj.lt (Nat.not_le.mpr fj.lt))
        have fk := fk.new hk
        have fe := fe.kept (hk _ fe.lt (Nat.not_le.mpr fe.lt))
        have fr := fr.kept (hk _ fr.lt (Nat.not_le.mpr fr.lt))
        have fL6 := fL6.kept (hk _ fL6.lt (Nat.not_le.mpr fL6.lt))
        rcases hR with ⟨rfl, hv_f16⟩ | ⟨q_f16, tt_f16, bb_f16, rfl, z9_, f16, hb_f16, hv_f16⟩
        · refine lv_goto (pc := 42) (tgt := 46) hx hb dX5_up_42 (by decide) ?_
          have hZ0_ := hS.1
          have t_fo := fo.lt
          have t_fj := fj.lt
          have t_fk := fun k (hk9 : k < 6) => (fk k hk9).lt
          have t_fe := fe.lt
          have t_fr := fr.lt
          have t_fL6 := fL6.lt
          refine k_i (pc := 46) (k_V E hC hS hA hl.1 (c1.recv hC fo rfl) rfl (c_X5_become_N l D tk N0 sa H.size P hPN (fun q h9 => hPs q (Nat.le_trans hS.1 h9)) mo n9 kn ((m_th r_1 0)) tt bb eT eB oT oB pk ca rf vs x1 (nn x1) hx_5 hk_5 ) kw_1255 kw_1257 kp_21 kw_5 kw_1258 (n := 2) (by decide +kernel) rfl ⟨⟨rfl, rfl⟩, ⟨Nat.le_of_ble_eq_true rfl, Nat.le_of_ble_eq_true rfl⟩, (by dsimp only; omega), (by dsimp only; omega)⟩ rfl (Nat.le_of_ble_eq_true rfl) ⟨_, _, _, _, _, fo, fj, fk, fe, fr, fw, ⟨hPm, hPa, hPl, hPe, hPr, hPk⟩, hFk, hFe, hFr, hpk, hn9⟩ dX5_up_46) hS (fun q _ h => h) hn (fun r_17 H locs hR hz hk hS => ?_)
          obtain ⟨tt_18, bb_18, rf_18, hM, hBE_18⟩ := hR
          obtain ⟨ra, rl, ex, ro, rt, fo, fj, fk, fe, fr, fw, ⟨hPm, hPa, hPl, hPe, hPr, hPk⟩, hFk, hFe, hFr, hpk, hn9⟩ := hM
          have g_fo := hPm
          have g_fj := hPa
          refine r_iret (pc := 49) E hr hlk hS (by omega) (by omega) ?_ dX5_up_49
          exact ⟨_, _, _, _, ⟨_, _, _, _, _, fo, fj, fk, fe, fr, fw, ⟨hPm, hPa, hPl, hPe, hPr, hPk⟩, hFk, hFe, hFr, hpk, hn9⟩, AC.ok (by subst er_1 er_3 er_7 er_11; first | rfl | (simp [m_or, m_not, m_is0, m_lt0, m_fl, c_4, c_8, c_12]; done)) (by subst er_1 er_3 er_7 er_11; first | rfl | (simp [m_or, m_not, m_is0, m_lt0, m_fl, c_4, c_8, c_12]; done)) (er_3.symm.trans c_4) (hBE_18.cast (by unfold m_UP; rw [if_neg (fun z9 => c_8 (er_7.trans z9)), if_pos (er_11.symm.trans c_12)]; exact hv_f16.symm))⟩
        · have s_f16 : s.heap.size ≤ q_f16 := Nat.le_trans hZ0_ z9_
          have g_f16 := hn _ s_f16
          have l_fo_f16 : mo < q_f16 := Nat.lt_of_lt_of_le t_fo z9_
          have l_fj_f16 : ra < q_f16 := Nat.lt_of_lt_of_le t_fj z9_
          have nW_f16 : ∀ k, k < 6 → rt k ≠ q_f16 := fun k hk9 => Nat.ne_of_lt (Nat.lt_of_lt_of_le (t_fk k hk9) z9_)
          have l_fe_f16 : ex < q_f16 := Nat.lt_of_lt_of_le t_fe z9_
          have l_fr_f16 : ro < q_f16 := Nat.lt_of_lt_of_le t_fr z9_
          have l_fL6_f16 : rt (nn x1) < q_f16 := Nat.lt_of_lt_of_le t_fL6 z9_
          refine lv_goto (pc := 42) (tgt := 46) hx hb dX5_up_42 (by decide) ?_
          have hZ0_ := hS.1
          have t_fo := fo.lt
          have t_fj := fj.lt
          have t_fk := fun k (hk9 : k < 6) => (fk k hk9).lt
          have t_fe := fe.lt
          have t_fr := fr.lt
          have t_fL6 := fL6.lt
          have t_f16 := f16.lt
          refine k_i (pc := 46) (k_V E hC hS hA hl.1 (c1.recv hC fo rfl) rfl (c_X5_become l D tk N0 sa H.size P hPN (fun q h9 => hPs q (Nat.le_trans hS.1 h9)) mo n9 kn ((m_th r_1 0)) tt bb eT eB oT oB pk ca rf vs x1 (nn x1) hx_5 hk_5 q_f16 tt_f16 bb_f16 (hPs _ s_f16) hb_f16) kw_1255 kw_1257 kp_21 kw_5 kw_1258 (n := 2) (by decide +kernel) rfl ⟨⟨rfl, rfl⟩, ⟨Nat.le_of_ble_eq_true rfl, Nat.le_of_ble_eq_true rfl⟩, (by dsimp only; omega), (by dsimp only; omega)⟩ rfl (Nat.le_of_ble_eq_true rfl) ⟨⟨_, _, _, _, _, fo, fj, fk, fe, fr, fw, ⟨hPm, hPa, hPl, hPe, hPr, hPk⟩, hFk, hFe, hFr, hpk, hn9⟩, f16⟩ dX5_up_46) hS (fun q _ h => h) hn (fun r_19 H locs hR hz hk hS => ?_)
          obtain ⟨tt_20, bb_20, rf_20, hM, hBE_20⟩ := hR
          obtain ⟨ra, rl, ex, ro, rt, fo, fj, fk, fe, fr, fw, ⟨hPm, hPa, hPl, hPe, hPr, hPk⟩, hFk, hFe, hFr, hpk, hn9⟩ := hM
          have g_fo := hPm
          have g_fj := hPa
          refine r_iret (pc := 49) E hr hlk hS (by omega) (by omega) ?_ dX5_up_49
          exact ⟨_, _, _, _, ⟨_, _, _, _, _, fo, fj, fk, fe, fr, fw, ⟨hPm, hPa, hPl, hPe, hPr, hPk⟩, hFk, hFe, hFr, hpk, hn9⟩, AC.ok (by subst er_1 er_3 er_7 er_11; first | rfl | (simp [m_or, m_not, m_is0, m_lt0, m_fl, c_4, c_8, c_12]; done)) (by subst er_1 er_3 er_7 er_11; first | rfl | (simp [m_or, m_not, m_is0, m_lt0, m_fl, c_4, c_8, c_12]; done)) (er_3.symm.trans c_4) (hBE_20.cast (by unfold m_UP; rw [if_neg (fun z9 => c_8 (er_7.trans z9)), if_pos (er_11.symm.trans c_12)]; exact hv_f16.symm))⟩
  · refine lv_iconst (pc := 12) (v := 0) hx hb dX5_up_12 (by decide) ?_
    refine r_iret (pc := 13) E hr hlk hS (by omega) (by omega) ?_ dX5_up_13
    exact ⟨_, _, _, _, ⟨_, _, _, _, _, fo, fj, fk, fe, fr, fw, ⟨hPm, hPa, hPl, hPe, hPr, hPk⟩, hFk, hFe, hFr, hpk, hn9⟩, AC.fail (by subst er_1 er_3; first | rfl | (simp [m_or, m_not, m_is0, m_lt0, m_fl, c_4]; done)) (by subst er_1 er_3; first | rfl | (simp [m_or, m_not, m_is0, m_lt0, m_fl, c_4]; done)) (fun z9 => c_4 (er_3.trans z9))⟩
set_option maxHeartbeats 4000000 in
set_option maxRecDepth 100000 in
/-- BestratiosModel.down(IZ)I -/
theorem c_X5_down (l : Launch) (D : va_G) (tk : Nat → ClassId) (N0 : Nat) (sa : Nat → Nat)  (sz : Nat) (P : Nat → Prop) (hPN : ∀ q, P q → N0 ≤ q) (hPs : ∀ q, sz ≤ q → P q) (mo n9 : Nat) (kn th : Int32) (tt bb : Nat → Int64) (eT eB oT oB : Int64) (pk : Nat) (ca rf : Int32) (vs : Nat → Value) (x1 : Int32) (x2 : Int32) : Met l yX5_down (wsy yX5_down cX5_down 3 (some .int)) ({ frames := 10, cells := 104, slots := 410, locals := 234 } : Room) (cP D tk N0 sa [.ref mo, .int x1, .int x2] sz (fun H => MI D tk sa P mo tt bb eT eB oT oB pk ca rf vs kn n9 th H)) (kQi (fun r H => ∃ th1 tt1 bb1 rf1, MI D tk sa P mo tt1 bb1 eT eB oT oB pk ca rf1 vs kn n9 th1 H ∧ AC (m_isNo x1) 0 tt bb rf (nn x1) (m_DN (tt (nn x1)) (bb (nn x1)) x2) r th1 tt1 bb1 rf1) (P)) (104) (410) (P) := by
  refine mStart RX5 rfl (by decide +kernel) (Nat.le_of_ble_eq_true rfl) ?_
  intro p e s m args below meth c E hr hlk hnm hsz hC hF ls hl
  subst hsz
  obtain ⟨hx, hb, -⟩ := id E
  have hA : ∀ q, (P) q → N0 ≤ q := hPN
  have hn : ∀ q, s.heap.size ≤ q → (P) q := hPs
  have hS : va_S (P) s.heap s.heap [] := va_S.rf
  have hl : lv_has ls 3 [(0, .ref mo), (1, .int x1), (2, .int x2)] := hl
  have hM : MI D tk sa P mo tt bb eT eB oT oB pk ca rf vs kn n9 th s.heap := hF
  obtain ⟨ra, rl, ex, ro, rt, fo, fj, fk, fe, fr, fw, ⟨hPm, hPa, hPl, hPe, hPr, hPk⟩, hFk, hFe, hFr, hpk, hn9⟩ := hM
  have g_fo := hPm
  have g_fj := hPa
  refine lv_aload_n (pc := 0) hx hb dX5_down_0 rfl (lv_at hl 0 rfl) ?_
  refine lv_iload_n (pc := 1) hx hb dX5_down_1 rfl (lv_at hl 1 rfl) ?_
  refine k_i (pc := 2) (k_S E hC hS hA hl.1 (c_X5_isNo l D tk N0 sa s.heap.size x1 ) kw_1245 kw_1246 kw_5 kw_1247 (n := 1) (by decide +kernel) rfl ⟨⟨rfl, rfl⟩, ⟨Nat.le_of_ble_eq_true rfl, Nat.le_of_ble_eq_true rfl⟩, (by dsimp only; omega), (by dsimp only; omega)⟩ rfl (Nat.le_of_ble_eq_true rfl) trivial dX5_down_2) hS (fun q z w => absurd w (Nat.not_le.mpr z)) hn (fun r_1 H locs hR hz hk hS => ?_)
  have er_1 := hR
  have fw := fw.new hk
  have fo := fo.kept (hk _ fo.lt (Nat.not_le.mpr fo.lt))
  have fj := fj.kept (hk _ fj.lt (Nat.not_le.mpr fj.lt))
  have fk := fk.new hk
  have fe := fe.kept (hk _ fe.lt (Nat.not_le.mpr fe.lt))
  have fr := fr.kept (hk _ fr.lt (Nat.not_le.mpr fr.lt))
  refine lv_iconst (pc := 5) (v := 0) hx hb dX5_down_5 (by decide) ?_
  have hZ0_ := hS.1
  have t_fo := fo.lt
  have t_fj := fj.lt
  have t_fk := fun k (hk9 : k < 6) => (fk k hk9).lt
  have t_fe := fe.lt
  have t_fr := fr.lt
  refine k_i (pc := 6) (k_V E hC hS hA hl.1 (c1.recv hC fo rfl) rfl (c_X5_fails l D tk N0 sa H.size P hPN (fun q h9 => hPs q (Nat.le_trans hS.1 h9)) mo n9 kn th tt bb eT eB oT oB pk ca rf vs r_1 0 ) kw_1251 kw_1253 kp_20 kw_5 kw_1254 (n := 2) (by decide +kernel) rfl ⟨⟨rfl, rfl⟩, ⟨Nat.le_of_ble_eq_true rfl, Nat.le_of_ble_eq_true rfl⟩, (by dsimp only; omega), (by dsimp only; omega)⟩ rfl (Nat.le_of_ble_eq_true rfl) ⟨_, _, _, _, _, fo, fj, fk, fe, fr, fw, ⟨hPm, hPa, hPl, hPe, hPr, hPk⟩, hFk, hFe, hFr, hpk, hn9⟩ dX5_down_6) hS (fun q _ h => h) hn (fun r_3 H locs hR hz hk hS => ?_)
  obtain ⟨er_3, hM⟩ := hR
  obtain ⟨ra, rl, ex, ro, rt, fo, fj, fk, fe, fr, fw, ⟨hPm, hPa, hPl, hPe, hPr, hPk⟩, hFk, hFe, hFr, hpk, hn9⟩ := hM
  have g_fo := hPm
  have g_fj := hPa
  refine lv_if_eq (pc := 9) (tgt := 14) hx hb dX5_down_9 (by decide) (fun c_4 => ?_) (fun c_4 => ?_)
  · refine lv_aload_n (pc := 14) hx hb dX5_down_14 rfl (lv_at hl 0 rfl) ?_
    refine lv_iload_n (pc := 15) hx hb dX5_down_15 rfl (lv_at hl 1 rfl) ?_
    refine lv_aload_n (pc := 16) hx hb dX5_down_16 rfl (lv_at hl 0 rfl) ?_
    refine r_get (pc := 17) E hC fo 0 (v := .ref ra) rfl rfl (by decide) uX5 (List.mem_cons_of_mem _ kw_1209) (fun _ h => h) dX5_down_17 ?_
    refine lv_iload_n (pc := 20) hx hb dX5_down_20 rfl (lv_at hl 1 rfl) ?_
    obtain ⟨hx_5, hk_5⟩ := m_noN (er_1.symm.trans (m_fl0 (er_3.symm.trans c_4)).1)
    refine r_aaldJ (pc := 21) E hC fj (nn x1) hx_5 hk_5 (by decide) rfl dX5_down_21 ?_
    have fL6 := fk (nn x1) hk_5
    have mF_fL6 := hFk (nn x1) hk_5
    have Pq_fL6 := hPk (nn x1) hk_5
    have hZ0_ := hS.1
    have t_fo := fo.lt
    have t_fj := fj.lt
    have t_fk := fun k (hk9 : k < 6) => (fk k hk9).lt
    have t_fe := fe.lt
    have t_fr := fr.lt
    have t_fL6 := fL6.lt
    refine k_i (pc := 22) (k_S E hC hS hA hl.1 (c_X5_isAbove l D tk N0 sa H.size (rt (nn x1)) (tt (nn x1)) (bb (nn x1)) ) kw_1645 kw_1646 kw_5 kw_1647 (n := 1) (by decide +kernel) rfl ⟨⟨rfl, rfl⟩, ⟨Nat.le_of_ble_eq_true rfl, Nat.le_of_ble_eq_true rfl⟩, (by dsimp only; omega), (by dsimp only; omega)⟩ rfl (Nat.le_of_ble_eq_true rfl) fL6 dX5_down_22) hS (fun q z w => absurd w (Nat.not_le.mpr z)) hn (fun r_7 H locs hR hz hk hS => ?_)
    have fw := fw.new hk
    have fo := fo.kept (hk _ fo.lt (Nat.not_le.mpr fo.lt))
    have fj := fj.kept (hk _ fj.lt (Nat.not_le.mpr fj.lt))
    have fk := fk.new hk
    have fe := fe.kept (hk _ fe.lt (Nat.not_le.mpr fe.lt))
    have fr := fr.kept (hk _ fr.lt (Nat.not_le.mpr fr.lt))
    have fL6 := fL6.kept (hk _ fL6.lt (Nat.not_le.mpr fL6.lt))
    have er_7 := hR
    refine lv_if_eq (pc := 25) (tgt := 41) hx hb dX5_down_25 (by decide) (fun c_8 => ?_) (fun c_8 => ?_)
    · refine lv_null (pc := 41) hx hb dX5_down_41 ?_
      have hZ0_ := hS.1
      have t_fo := fo.lt
      have t_fj := fj.lt
      have t_fk := fun k (hk9 : k < 6) => (fk k hk9).lt
      have t_fe := fe.lt
      have t_fr := fr.lt
      have t_fL6 := fL6.lt
      refine k_i (pc := 42) (k_V E hC hS hA hl.1 (c1.recv hC fo rfl) rfl (c_X5_become_N l D tk N0 sa H.size P hPN (fun q h9 => hPs q (Nat.le_trans hS.1 h9)) mo n9 kn ((m_th r_1 0)) tt bb eT eB oT oB pk ca rf vs x1 (nn x1) hx_5 hk_5 ) kw_1255 kw_1257 kp_21 kw_5 kw_1258 (n := 2) (by decide +kernel) rfl ⟨⟨rfl, rfl⟩, ⟨Nat.le_of_ble_eq_true rfl, Nat.le_of_ble_eq_true rfl⟩, (by dsimp only; omega), (by dsimp only; omega)⟩ rfl (Nat.le_of_ble_eq_true rfl) ⟨_, _, _, _, _, fo, fj, fk, fe, fr, fw, ⟨hPm, hPa, hPl, hPe, hPr, hPk⟩, hFk, hFe, hFr, hpk, hn9⟩ dX5_down_42) hS (fun q _ h => h) hn (fun r_9 H locs hR hz hk hS => ?_)
      obtain ⟨tt_10, bb_10, rf_10, hM, hBE_10⟩ := hR
      obtain ⟨ra, rl, ex, ro, rt, fo, fj, fk, fe, fr, fw, ⟨hPm, hPa, hPl, hPe, hPr, hPk⟩, hFk, hFe, hFr, hpk, hn9⟩ := hM
      have g_fo := hPm
      have g_fj := hPa
      refine r_iret (pc := 45) E hr hlk hS (by omega) (by omega) ?_ dX5_down_45
      exact ⟨_, _, _, _, ⟨_, _, _, _, _, fo, fj, fk, fe, fr, fw, ⟨hPm, hPa, hPl, hPe, hPr, hPk⟩, hFk, hFe, hFr, hpk, hn9⟩, AC.ok (by subst er_1 er_3 er_7; first | rfl | (simp [m_or, m_not, m_is0, m_lt0, m_fl, c_4, c_8]; done)) (by subst er_1 er_3 er_7; first | rfl | (simp [m_or, m_not, m_is0, m_lt0, m_fl, c_4, c_8]; done)) (er_3.symm.trans c_4) (hBE_10.cast (by subst er_1 er_3 er_7; first | rfl | (simp [m_DN, c_4, c_8]; done)))⟩
    · refine lv_aload_n (pc := 28) hx hb dX5_down_28 rfl (lv_at hl 0 rfl) ?_
      refine r_get (pc := 29) E hC fo 0 (v := .ref ra) rfl rfl (by decide) uX5 (List.mem_cons_of_mem _ kw_1209) (fun _ h => h) dX5_down_29 ?_
      refine lv_iload_n (pc := 32) hx hb dX5_down_32 rfl (lv_at hl 1 rfl) ?_
      refine r_aaldJ (pc := 33) E hC fj (nn x1) hx_5 hk_5 (by decide) rfl dX5_down_33 ?_
      have fL11 := fk (nn x1) hk_5
      have mF_fL11 := hFk (nn x1) hk_5
      have Pq_fL11 := hPk (nn x1) hk_5
      refine lv_iload_n (pc := 34) hx hb dX5_down_34 rfl (lv_at hl 2 rfl) ?_
      have hab := m_abv1 (t := tt (nn x1)) (by rw [← er_7]; exact c_8)
      have hZ0_ := hS.1
      have t_fo := fo.lt
      have t_fj := fj.lt
      have t_fk := fun k (hk9 : k < 6) => (fk k hk9).lt
      have t_fe := fe.lt
      have t_fr := fr.lt
      have t_fL6 := fL6.lt
      have t_fL11 := fL11.lt
      refine k_r (pc := 35) (k_S E hC hS hA hl.1 (c_X5_below l D tk N0 sa H.size (rt (nn x1)) (tt (nn x1)) (bb (nn x1)) x2 mF_fL11 hab) kw_1662 kw_1663 kw_5 kw_1664 (n := 2) (by decide +kernel) rfl ⟨⟨rfl, rfl⟩, ⟨Nat.le_of_ble_eq_true rfl, Nat.le_of_ble_eq_true rfl⟩, (by dsimp only; omega), (by dsimp only; omega)⟩ rfl (Nat.le_of_ble_eq_true rfl) fL11 dX5_down_35) hS (fun q z w => absurd w (Nat.not_le.mpr z)) hn (fun r_12 H locs hR hz hk hS => ?_)
      have fw := fw.new hk
      have fo := fo.kept (hk _ fo.lt (Nat.not_le.mpr fo.lt))
      have fj := fj.kept (hk _ fj.lt (Nat.not_le.mpr fj.lt))
      have fk := fk.new hk
      have fe := fe.kept (hk _ fe.lt (Nat.not_le.mpr fe.lt))
      have fr := fr.kept (hk _ fr.lt (Nat.not_le.mpr fr.lt))
      have fL6 := fL6.kept (hk _ fL6.lt (Nat.not_le.mpr fL6.lt))
      have fL11 := fL11.kept (hk _ fL11.lt (Nat.not_le.mpr fL11.lt))
      obtain ⟨z9_, tt_f13, bb_f13, f13, hb_f13, hv_f13⟩ := hR
      have s_f13 : s.heap.size ≤ r_12 := Nat.le_trans hZ0_ z9_
      have g_f13 := hn _ s_f13
      have l_fo_f13 : mo < r_12 := Nat.lt_of_lt_of_le t_fo z9_
      have l_fj_f13 : ra < r_12 := Nat.lt_of_lt_of_le t_fj z9_
      have nW_f13 : ∀ k, k < 6 → rt k ≠ r_12 := fun k hk9 => Nat.ne_of_lt (Nat.lt_of_lt_of_le (t_fk k hk9) z9_)
      have l_fe_f13 : ex < r_12 := Nat.lt_of_lt_of_le t_fe z9_
      have l_fr_f13 : ro < r_12 := Nat.lt_of_lt_of_le t_fr z9_
      have l_fL6_f13 : rt (nn x1) < r_12 := Nat.lt_of_lt_of_le t_fL6 z9_
      have l_fL11_f13 : rt (nn x1) < r_12 := Nat.lt_of_lt_of_le t_fL11 z9_
      refine lv_goto (pc := 38) (tgt := 42) hx hb dX5_down_38 (by decide) ?_
      have hZ0_ := hS.1
      have t_fo := fo.lt
      have t_fj := fj.lt
      have t_fk := fun k (hk9 : k < 6) => (fk k hk9).lt
      have t_fe := fe.lt
      have t_fr := fr.lt
      have t_fL6 := fL6.lt
      have t_fL11 := fL11.lt
      have t_f13 := f13.lt
      refine k_i (pc := 42) (k_V E hC hS hA hl.1 (c1.recv hC fo rfl) rfl (c_X5_become l D tk N0 sa H.size P hPN (fun q h9 => hPs q (Nat.le_trans hS.1 h9)) mo n9 kn ((m_th r_1 0)) tt bb eT eB oT oB pk ca rf vs x1 (nn x1) hx_5 hk_5 r_12 tt_f13 bb_f13 (hPs _ s_f13) hb_f13) kw_1255 kw_1257 kp_21 kw_5 kw_1258 (n := 2) (by decide +kernel) rfl ⟨⟨rfl, rfl⟩, ⟨Nat.le_of_ble_eq_true rfl, Nat.le_of_ble_eq_true rfl⟩, (by dsimp only; omega), (by dsimp only; omega)⟩ rfl (Nat.le_of_ble_eq_true rfl) ⟨⟨_, _, _, _, _, fo, fj, fk, fe, fr, fw, ⟨hPm, hPa, hPl, hPe, hPr, hPk⟩, hFk, hFe, hFr, hpk, hn9⟩, f13⟩ dX5_down_42) hS (fun q _ h => h) hn (fun r_14 H locs hR hz hk hS => ?_)
      obtain ⟨tt_15, bb_15, rf_15, hM, hBE_15⟩ := hR
      obtain ⟨ra, rl, ex, ro, rt, fo, fj, fk, fe, fr, fw, ⟨hPm, hPa, hPl, hPe, hPr, hPk⟩, hFk, hFe, hFr, hpk, hn9⟩ := hM
      have g_fo := hPm
      have g_fj := hPa
      refine r_iret (pc := 45) E hr hlk hS (by omega) (by omega) ?_ dX5_down_45
      exact ⟨_, _, _, _, ⟨_, _, _, _, _, fo, fj, fk, fe, fr, fw, ⟨hPm, hPa, hPl, hPe, hPr, hPk⟩, hFk, hFe, hFr, hpk, hn9⟩, AC.ok (by subst er_1 er_3 er_7; first | rfl | (simp [m_or, m_not, m_is0, m_lt0, m_fl, c_4, c_8]; done)) (by subst er_1 er_3 er_7; first | rfl | (simp [m_or, m_not, m_is0, m_lt0, m_fl, c_4, c_8]; done)) (er_3.symm.trans c_4) (hBE_15.cast (q_DN mF_fL11 hab hv_f13))⟩
  · refine lv_iconst (pc := 12) (v := 0) hx hb dX5_down_12 (by decide) ?_
    refine r_iret (pc := 13) E hr hlk hS (by omega) (by omega) ?_ dX5_down_13
    exact ⟨_, _, _, _, ⟨_, _, _, _, _, fo, fj, fk, fe, fr, fw, ⟨hPm, hPa, hPl, hPe, hPr, hPk⟩, hFk, hFe, hFr, hpk, hn9⟩, AC.fail (by subst er_1 er_3; first | rfl | (simp [m_or, m_not, m_is0, m_lt0, m_fl, c_4]; done)) (by subst er_1 er_3; first | rfl | (simp [m_or, m_not, m_is0, m_lt0, m_fl, c_4]; done)) (fun z9 => c_4 (er_3.trans z9))⟩
set_option maxHeartbeats 4000000 in
set_option maxRecDepth 100000 in
/-- BestratiosModel.next(II)I -/
theorem c_X5_next (l : Launch) (D : va_G) (tk : Nat → ClassId) (N0 : Nat) (sa : Nat → Nat)  (sz : Nat) (P : Nat → Prop) (hPN : ∀ q, P q → N0 ≤ q) (hPs : ∀ q, sz ≤ q → P q) (mo n9 : Nat) (kn th : Int32) (tt bb : Nat → Int64) (eT eB oT oB : Int64) (pk : Nat) (ca rf : Int32) (vs : Nat → Value) (x1 : Int32) (x2 : Int32) : Met l yX5_next (wsy yX5_next cX5_next 5 (some .int)) ({ frames := 4, cells := 50, slots := 100, locals := 97 } : Room) (cP D tk N0 sa [.ref mo, .int x1, .int x2] sz (fun H => MI D tk sa P mo tt bb eT eB oT oB pk ca rf vs kn n9 th H)) (kQi (fun r H => ∃ th1 tt1 bb1 rf1, MI D tk sa P mo tt1 bb1 eT eB oT oB pk ca rf1 vs kn n9 th1 H ∧ AN (m_isNo x1) (m_not (m_isIn x2 1 50)) tt bb rf (nn x1) (m_NX (tt (nn x1)) (bb (nn x1)) (nn x2)) r th1 tt1 bb1 rf1) (P)) (50) (100) (P) := by
  refine mStart RX5 rfl (by decide +kernel) (Nat.le_of_ble_eq_true rfl) ?_
  intro p e s m args below meth c E hr hlk hnm hsz hC hF ls hl
  subst hsz
  obtain ⟨hx, hb, -⟩ := id E
  have hA : ∀ q, (P) q → N0 ≤ q := hPN
  have hn : ∀ q, s.heap.size ≤ q → (P) q := hPs
  have hS : va_S (P) s.heap s.heap [] := va_S.rf
  have hl : lv_has ls 5 [(0, .ref mo), (1, .int x1), (2, .int x2)] := hl
  obtain ⟨Q, hQ⟩ : ∃ Q, Q = MQ below (kQi (fun r H => ∃ th1 tt1 bb1 rf1, MI D tk sa P mo tt1 bb1 eT eB oT oB pk ca rf1 vs kn n9 th1 H ∧ AN (m_isNo x1) (m_not (m_isIn x2 1 50)) tt bb rf (nn x1) (m_NX (tt (nn x1)) (bb (nn x1)) (nn x2)) r th1 tt1 bb1 rf1) (P)) args s (50) (100) (P) := ⟨_, rfl⟩
  rw [← hQ]
  have hM : MI D tk sa P mo tt bb eT eB oT oB pk ca rf vs kn n9 th s.heap := hF
  obtain ⟨ra, rl, ex, ro, rt, fo, fj, fk, fe, fr, fw, ⟨hPm, hPa, hPl, hPe, hPr, hPk⟩, hFk, hFe, hFr, hpk, hn9⟩ := hM
  have g_fo := hPm
  have g_fj := hPa
  refine lv_aload_n (pc := 0) hx hb dX5_next_0 rfl (lv_at hl 0 rfl) ?_
  refine lv_iload_n (pc := 1) hx hb dX5_next_1 rfl (lv_at hl 1 rfl) ?_
  refine k_i (pc := 2) (k_S E hC hS hA hl.1 (c_X5_isNo l D tk N0 sa s.heap.size x1 ) kw_1245 kw_1246 kw_5 kw_1247 (n := 1) (by decide +kernel) rfl ⟨⟨rfl, rfl⟩, ⟨Nat.le_of_ble_eq_true rfl, Nat.le_of_ble_eq_true rfl⟩, (by dsimp only; omega), (by dsimp only; omega)⟩ rfl (Nat.le_of_ble_eq_true rfl) trivial dX5_next_2) hS (fun q z w => absurd w (Nat.not_le.mpr z)) hn (fun r_1 H locs hR hz hk hS => ?_)
  have er_1 := hR
  have fw := fw.new hk
  have fo := fo.kept (hk _ fo.lt (Nat.not_le.mpr fo.lt))
  have fj := fj.kept (hk _ fj.lt (Nat.not_le.mpr fj.lt))
  have fk := fk.new hk
  have fe := fe.kept (hk _ fe.lt (Nat.not_le.mpr fe.lt))
  have fr := fr.kept (hk _ fr.lt (Nat.not_le.mpr fr.lt))
  refine lv_iload_n (pc := 5) hx hb dX5_next_5 rfl (lv_at hl 2 rfl) ?_
  refine lv_iconst (pc := 6) (v := 1) hx hb dX5_next_6 (by decide) ?_
  refine lv_bipush (pc := 7) (v := 50) hx hb dX5_next_7 (by decide) ?_
  refine k_i (pc := 9) (k_S E hC hS hA hl.1 (c_X5_isIn l D tk N0 sa H.size x2 1 50 ) kw_1248 kw_1249 kw_5 kw_1250 (n := 3) (by decide +kernel) rfl ⟨⟨rfl, rfl⟩, ⟨Nat.le_of_ble_eq_true rfl, Nat.le_of_ble_eq_true rfl⟩, (by dsimp only; omega), (by dsimp only; omega)⟩ rfl (Nat.le_of_ble_eq_true rfl) trivial dX5_next_9) hS (fun q z w => absurd w (Nat.not_le.mpr z)) hn (fun r_3 H locs hR hz hk hS => ?_)
  have er_3 := hR
  have fw := fw.new hk
  have fo := fo.kept (hk _ fo.lt (Nat.not_le.mpr fo.lt))
  have fj := fj.kept (hk _ fj.lt (Nat.not_le.mpr fj.lt))
  have fk := fk.new hk
  have fe := fe.kept (hk _ fe.lt (Nat.not_le.mpr fe.lt))
  have fr := fr.kept (hk _ fr.lt (Nat.not_le.mpr fr.lt))
  refine lv_if_ne (pc := 12) (tgt := 19) hx hb dX5_next_12 (by decide) (fun c_5 => ?_) (fun c_5 => ?_)
  · refine lv_iconst (pc := 19) (v := 0) hx hb dX5_next_19 (by decide) ?_
    have hZ0_ := hS.1
    have t_fo := fo.lt
    have t_fj := fj.lt
    have t_fk := fun k (hk9 : k < 6) => (fk k hk9).lt
    have t_fe := fe.lt
    have t_fr := fr.lt
    refine k_i (pc := 20) (k_V E hC hS hA hl.1 (c1.recv hC fo rfl) rfl (c_X5_fails l D tk N0 sa H.size P hPN (fun q h9 => hPs q (Nat.le_trans hS.1 h9)) mo n9 kn th tt bb eT eB oT oB pk ca rf vs r_1 0 ) kw_1251 kw_1253 kp_20 kw_5 kw_1254 (n := 2) (by decide +kernel) rfl ⟨⟨rfl, rfl⟩, ⟨Nat.le_of_ble_eq_true rfl, Nat.le_of_ble_eq_true rfl⟩, (by dsimp only; omega), (by dsimp only; omega)⟩ rfl (Nat.le_of_ble_eq_true rfl) ⟨_, _, _, _, _, fo, fj, fk, fe, fr, fw, ⟨hPm, hPa, hPl, hPe, hPr, hPk⟩, hFk, hFe, hFr, hpk, hn9⟩ dX5_next_20) hS (fun q _ h => h) hn (fun r_6 H locs hR hz hk hS => ?_)
    obtain ⟨er_6, hM⟩ := hR
    obtain ⟨ra, rl, ex, ro, rt, fo, fj, fk, fe, fr, fw, ⟨hPm, hPa, hPl, hPe, hPr, hPk⟩, hFk, hFe, hFr, hpk, hn9⟩ := hM
    have g_fo := hPm
    have g_fj := hPa
    refine lv_if_eq (pc := 23) (tgt := 28) hx hb dX5_next_23 (by decide) (fun c_7 => ?_) (fun c_7 => ?_)
    · refine lv_aload_n (pc := 28) hx hb dX5_next_28 rfl (lv_at hl 0 rfl) ?_
      refine r_get (pc := 29) E hC fo 0 (v := .ref ra) rfl rfl (by decide) uX5 (List.mem_cons_of_mem _ kw_1209) (fun _ h => h) dX5_next_29 ?_
      refine lv_iload_n (pc := 32) hx hb dX5_next_32 rfl (lv_at hl 1 rfl) ?_
      obtain ⟨hx_8, hk_8⟩ := m_noN (er_1.symm.trans (m_fl0 (er_6.symm.trans c_7)).1)
      refine r_aaldJ (pc := 33) E hC fj (nn x1) hx_8 hk_8 (by decide) rfl dX5_next_33 ?_
      have fL9 := fk (nn x1) hk_8
      have mF_fL9 := hFk (nn x1) hk_8
      have Pq_fL9 := hPk (nn x1) hk_8
      have hZ0_ := hS.1
      have t_fo := fo.lt
      have t_fj := fj.lt
      have t_fk := fun k (hk9 : k < 6) => (fk k hk9).lt
      have t_fe := fe.lt
      have t_fr := fr.lt
      have t_fL9 := fL9.lt
      refine k_i (pc := 34) (k_S E hC hS hA hl.1 (c_X5_isAbove l D tk N0 sa H.size (rt (nn x1)) (tt (nn x1)) (bb (nn x1)) ) kw_1645 kw_1646 kw_5 kw_1647 (n := 1) (by decide +kernel) rfl ⟨⟨rfl, rfl⟩, ⟨Nat.le_of_ble_eq_true rfl, Nat.le_of_ble_eq_true rfl⟩, (by dsimp only; omega), (by dsimp only; omega)⟩ rfl (Nat.le_of_ble_eq_true rfl) fL9 dX5_next_34) hS (fun q z w => absurd w (Nat.not_le.mpr z)) hn (fun r_10 H locs hR hz hk hS => ?_)
      have fw := fw.new hk
      have fo := fo.kept (hk _ fo.lt (Nat.not_le.mpr fo.lt))
      have fj := fj.kept (hk _ fj.lt (Nat.not_le.mpr fj.lt))
      have fk := fk.new hk
      have fe := fe.kept (hk _ fe.lt (Nat.not_le.mpr fe.lt))
      have fr := fr.kept (hk _ fr.lt (Nat.not_le.mpr fr.lt))
      have fL9 := fL9.kept (hk _ fL9.lt (Nat.not_le.mpr fL9.lt))
      have er_10 := hR
      refine lv_if_eq (pc := 37) (tgt := 49) hx hb dX5_next_37 (by decide) (fun c_11 => ?_) (fun c_11 => ?_)
      · refine lv_null (pc := 49) hx hb dX5_next_49 ?_
        refine lv_astore_nN (pc := 50) (lv' := [(3, .null), (0, .ref mo), (1, .int x1), (2, .int x2)]) hx hb dX5_next_50 rfl hl (by decide) rfl (fun ls hl => ?_)
        obtain ⟨km, hkm1, hkm2, hkm3⟩ := m_in1 (x := x2) (hi_ := 50) (by decide) (fun z9 => c_5 (er_3.trans z9))
        refine lv_iconst (pc := 51) (v := 0) hx hb dX5_next_51 (by decide) ?_
        refine lv_istore (pc := 52) (lv' := [(4, .int 0), (3, .null), (0, .ref mo), (1, .int x1), (2, .int x2)]) hx hb dX5_next_52 hl (by decide) rfl (fun ls hl => ?_)
        refine lv_iload (pc := 54) hx hb dX5_next_54 (lv_at hl 0 rfl) ?_
        refine lv_iload_n (pc := 56) hx hb dX5_next_56 rfl (lv_at hl 4 rfl) ?_
        refine lv_icmp_ge (pc := 57) (tgt := 78) hx hb dX5_next_57 (by decide) (fun c_12 => ?_) (fun c_12 => ?_)
        · refine lv_aload_nN (pc := 78) hx hb dX5_next_78 rfl (lv_at hl 1 rfl) ?_
          have hZ0_ := hS.1
          have t_fo := fo.lt
          have t_fj := fj.lt
          have t_fk := fun k (hk9 : k < 6) => (fk k hk9).lt
          have t_fe := fe.lt
          have t_fr := fr.lt
          have t_fL9 := fL9.lt
          refine k_i (pc := 79) (k_S E hC hS hA hl.1 (c_X5_isFit_N l D tk N0 sa H.size  ) kw_1259 kw_1260 kw_5 kw_1261 (n := 1) (by decide +kernel) rfl ⟨⟨rfl, rfl⟩, ⟨Nat.le_of_ble_eq_true rfl, Nat.le_of_ble_eq_true rfl⟩, (by dsimp only; omega), (by dsimp only; omega)⟩ rfl (Nat.le_of_ble_eq_true rfl) trivial dX5_next_79) hS (fun q z w => absurd w (Nat.not_le.mpr z)) hn (fun r_13 H locs hR hz hk hS => ?_)
          have fw := fw.new hk
          have fo := fo.kept (hk _ fo.lt (Nat.not_le.mpr fo.lt))
          have fj := fj.kept (hk _ fj.lt (Nat.not_le.mpr fj.lt))
          have fk := fk.new hk
          have fe := fe.kept (hk _ fe.lt (Nat.not_le.mpr fe.lt))
          have fr := fr.kept (hk _ fr.lt (Nat.not_le.mpr fr.lt))
          have fL9 := fL9.kept (hk _ fL9.lt (Nat.not_le.mpr fL9.lt))
          rw [show r_13 = 0 from hR]
          refine lv_if_eq (pc := 82) (tgt := 96) hx hb dX5_next_82 (by decide) (fun c_14 => ?_) (fun c_14 => ?_)
          rotate_left
          · exact absurd (by decide) c_14
          refine lv_aload_n (pc := 96) hx hb dX5_next_96 rfl (lv_at hl 2 rfl) ?_
          have hZ0_ := hS.1
          have t_fo := fo.lt
          have t_fj := fj.lt
          have t_fk := fun k (hk9 : k < 6) => (fk k hk9).lt
          have t_fe := fe.lt
          have t_fr := fr.lt
          have t_fL9 := fL9.lt
          refine k_i (pc := 97) (k_V E hC hS hA hl.1 (c1.recv hC fo rfl) rfl (c_X5_no l D tk N0 sa H.size P hPN (fun q h9 => hPs q (Nat.le_trans hS.1 h9)) mo n9 kn ((m_th r_1 0)) tt bb eT eB oT oB pk ca rf vs  ) kw_1264 kw_1266 kp_22 kw_5 kw_1267 (n := 0) (by decide +kernel) rfl ⟨⟨rfl, rfl⟩, ⟨Nat.le_of_ble_eq_true rfl, Nat.le_of_ble_eq_true rfl⟩, (by dsimp only; omega), (by dsimp only; omega)⟩ rfl (Nat.le_of_ble_eq_true rfl) ⟨_, _, _, _, _, fo, fj, fk, fe, fr, fw, ⟨hPm, hPa, hPl, hPe, hPr, hPk⟩, hFk, hFe, hFr, hpk, hn9⟩ dX5_next_97) hS (fun q _ h => h) hn (fun r_15 H locs hR hz hk hS => ?_)
          obtain ⟨er_15, hM⟩ := hR
          obtain ⟨ra, rl, ex, ro, rt, fo, fj, fk, fe, fr, fw, ⟨hPm, hPa, hPl, hPe, hPr, hPk⟩, hFk, hFe, hFr, hpk, hn9⟩ := hM
          have g_fo := hPm
          have g_fj := hPa
          try rw [hQ]
          refine r_iret (pc := 100) E hr hlk hS (by omega) (by omega) ?_ dX5_next_100
          exact ⟨_, _, _, _, ⟨_, _, _, _, _, fo, fj, fk, fe, fr, fw, ⟨hPm, hPa, hPl, hPe, hPr, hPk⟩, hFk, hFe, hFr, hpk, hn9⟩, AN.no (by subst er_1 er_3 er_6 er_10 er_15; first | rfl | (simp [m_or, m_not, m_is0, m_lt0, m_fl, c_5, c_7, c_11, c_12, Int32.not_lt.mpr c_12]; done)) (by subst er_1 er_3 er_6 er_10 er_15; first | rfl | (simp [m_or, m_not, m_is0, m_lt0, m_fl, c_5, c_7, c_11, c_12, Int32.not_lt.mpr c_12]; done)) (er_6.symm.trans c_7) (by unfold m_NX; rw [if_pos (er_10.symm.trans c_11)]) er_15⟩
        · refine lv_aload_nN (pc := 60) hx hb dX5_next_60 rfl (lv_at hl 1 rfl) ?_
          have hZ0_ := hS.1
          have t_fo := fo.lt
          have t_fj := fj.lt
          have t_fk := fun k (hk9 : k < 6) => (fk k hk9).lt
          have t_fe := fe.lt
          have t_fr := fr.lt
          have t_fL9 := fL9.lt
          refine k_i (pc := 61) (k_S E hC hS hA hl.1 (c_X5_isFit_N l D tk N0 sa H.size  ) kw_1259 kw_1260 kw_5 kw_1261 (n := 1) (by decide +kernel) rfl ⟨⟨rfl, rfl⟩, ⟨Nat.le_of_ble_eq_true rfl, Nat.le_of_ble_eq_true rfl⟩, (by dsimp only; omega), (by dsimp only; omega)⟩ rfl (Nat.le_of_ble_eq_true rfl) trivial dX5_next_61) hS (fun q z w => absurd w (Nat.not_le.mpr z)) hn (fun r_16 H locs hR hz hk hS => ?_)
          have fw := fw.new hk
          have fo := fo.kept (hk _ fo.lt (Nat.not_le.mpr fo.lt))
          have fj := fj.kept (hk _ fj.lt (Nat.not_le.mpr fj.lt))
          have fk := fk.new hk
          have fe := fe.kept (hk _ fe.lt (Nat.not_le.mpr fe.lt))
          have fr := fr.kept (hk _ fr.lt (Nat.not_le.mpr fr.lt))
          have fL9 := fL9.kept (hk _ fL9.lt (Nat.not_le.mpr fL9.lt))
          rw [show r_16 = 0 from hR]
          refine lv_if_eq (pc := 64) (tgt := 78) hx hb dX5_next_64 (by decide) (fun c_17 => ?_) (fun c_17 => ?_)
          rotate_left
          · exact absurd (by decide) c_17
          refine lv_aload_nN (pc := 78) hx hb dX5_next_78 rfl (lv_at hl 1 rfl) ?_
          have hZ0_ := hS.1
          have t_fo := fo.lt
          have t_fj := fj.lt
          have t_fk := fun k (hk9 : k < 6) => (fk k hk9).lt
          have t_fe := fe.lt
          have t_fr := fr.lt
          have t_fL9 := fL9.lt
          refine k_i (pc := 79) (k_S E hC hS hA hl.1 (c_X5_isFit_N l D tk N0 sa H.size  ) kw_1259 kw_1260 kw_5 kw_1261 (n := 1) (by decide +kernel) rfl ⟨⟨rfl, rfl⟩, ⟨Nat.le_of_ble_eq_true rfl, Nat.le_of_ble_eq_true rfl⟩, (by dsimp only; omega), (by dsimp only; omega)⟩ rfl (Nat.le_of_ble_eq_true rfl) trivial dX5_next_79) hS (fun q z w => absurd w (Nat.not_le.mpr z)) hn (fun r_18 H locs hR hz hk hS => ?_)
          have fw := fw.new hk
          have fo := fo.kept (hk _ fo.lt (Nat.not_le.mpr fo.lt))
          have fj := fj.kept (hk _ fj.lt (Nat.not_le.mpr fj.lt))
          have fk := fk.new hk
          have fe := fe.kept (hk _ fe.lt (Nat.not_le.mpr fe.lt))
          have fr := fr.kept (hk _ fr.lt (Nat.not_le.mpr fr.lt))
          have fL9 := fL9.kept (hk _ fL9.lt (Nat.not_le.mpr fL9.lt))
          rw [show r_18 = 0 from hR]
          refine lv_if_eq (pc := 82) (tgt := 96) hx hb dX5_next_82 (by decide) (fun c_19 => ?_) (fun c_19 => ?_)
          rotate_left
          · exact absurd (by decide) c_19
          refine lv_aload_n (pc := 96) hx hb dX5_next_96 rfl (lv_at hl 2 rfl) ?_
          have hZ0_ := hS.1
          have t_fo := fo.lt
          have t_fj := fj.lt
          have t_fk := fun k (hk9 : k < 6) => (fk k hk9).lt
          have t_fe := fe.lt
          have t_fr := fr.lt
          have t_fL9 := fL9.lt
          refine k_i (pc := 97) (k_V E hC hS hA hl.1 (c1.recv hC fo rfl) rfl (c_X5_no l D tk N0 sa H.size P hPN (fun q h9 => hPs q (Nat.le_trans hS.1 h9)) mo n9 kn ((m_th r_1 0)) tt bb eT eB oT oB pk ca rf vs  ) kw_1264 kw_1266 kp_22 kw_5 kw_1267 (n := 0) (by decide +kernel) rfl ⟨⟨rfl, rfl⟩, ⟨Nat.le_of_ble_eq_true rfl, Nat.le_of_ble_eq_true rfl⟩, (by dsimp only; omega), (by dsimp only; omega)⟩ rfl (Nat.le_of_ble_eq_true rfl) ⟨_, _, _, _, _, fo, fj, fk, fe, fr, fw, ⟨hPm, hPa, hPl, hPe, hPr, hPk⟩, hFk, hFe, hFr, hpk, hn9⟩ dX5_next_97) hS (fun q _ h => h) hn (fun r_20 H locs hR hz hk hS => ?_)
          obtain ⟨er_20, hM⟩ := hR
          obtain ⟨ra, rl, ex, ro, rt, fo, fj, fk, fe, fr, fw, ⟨hPm, hPa, hPl, hPe, hPr, hPk⟩, hFk, hFe, hFr, hpk, hn9⟩ := hM
          have g_fo := hPm
          have g_fj := hPa
          try rw [hQ]
          refine r_iret (pc := 100) E hr hlk hS (by omega) (by omega) ?_ dX5_next_100
          exact ⟨_, _, _, _, ⟨_, _, _, _, _, fo, fj, fk, fe, fr, fw, ⟨hPm, hPa, hPl, hPe, hPr, hPk⟩, hFk, hFe, hFr, hpk, hn9⟩, AN.no (by subst er_1 er_3 er_6 er_10 er_20; first | rfl | (simp [m_or, m_not, m_is0, m_lt0, m_fl, c_5, c_7, c_11, c_12, Int32.not_le.mp c_12]; done)) (by subst er_1 er_3 er_6 er_10 er_20; first | rfl | (simp [m_or, m_not, m_is0, m_lt0, m_fl, c_5, c_7, c_11, c_12, Int32.not_le.mp c_12]; done)) (er_6.symm.trans c_7) (by unfold m_NX; rw [if_pos (er_10.symm.trans c_11)]) er_20⟩
      · refine lv_aload_n (pc := 40) hx hb dX5_next_40 rfl (lv_at hl 0 rfl) ?_
        refine r_get (pc := 41) E hC fo 0 (v := .ref ra) rfl rfl (by decide) uX5 (List.mem_cons_of_mem _ kw_1209) (fun _ h => h) dX5_next_41 ?_
        refine lv_iload_n (pc := 44) hx hb dX5_next_44 rfl (lv_at hl 1 rfl) ?_
        refine r_aaldJ (pc := 45) E hC fj (nn x1) hx_8 hk_8 (by decide) rfl dX5_next_45 ?_
        have fL21 := fk (nn x1) hk_8
        have mF_fL21 := hFk (nn x1) hk_8
        have Pq_fL21 := hPk (nn x1) hk_8
        refine lv_goto (pc := 46) (tgt := 50) hx hb dX5_next_46 (by decide) ?_
        refine lv_astore_n (pc := 50) (lv' := [(3, .ref (rt (nn x1))), (0, .ref mo), (1, .int x1), (2, .int x2)]) hx hb dX5_next_50 rfl hl (by decide) rfl (fun ls hl => ?_)
        have hab : 1 ≤ (tt (nn x1)).toInt := m_abv1 (by rw [← er_10]; exact c_11)
        obtain ⟨km, hkm1, hkm2, hkm3⟩ := m_in1 (x := x2) (hi_ := 50) (by decide) (fun z9 => c_5 (er_3.trans z9))
        refine lv_iconst (pc := 51) (v := 0) hx hb dX5_next_51 (by decide) ?_
        refine lv_istore (pc := 52) (lv' := [(4, .int 0), (3, .ref (rt (nn x1))), (0, .ref mo), (1, .int x1), (2, .int x2)]) hx hb dX5_next_52 hl (by decide) rfl (fun ls hl => ?_)
        have loop_54 : ∀ (n : Nat) (k : Nat) (t9 : Int64) (b9 : Int64)(q9 : Nat) (y9 : Int32), 51 - k < n → k ≤ 50 → y9 = nI k → 1 ≤ t9.toInt ∧ 1 ≤ b9.toInt → P q9 → m_nxL (km - k) t9 b9 = m_nxL km (tt (nn x1)) (bb (nn x1)) → k ≤ km → ∀ (H : Heap) (locs : List Loc) (ls : Array Slot), va_S (P) s.heap H locs → c1 D mo (.inr (13, [.ref ra, .ref rl, .ref ex, .ref ro, .int (nI pk), .int ca, .int rf, .int kn, .int ((m_th r_1 0))])) H → c1 D ra (.inl (tk 3, 6, .inr (.inr (.inr (.inr (fun k => some (rt k))))))) H → MK D tk rt tt bb H → L2 D tk ex eT eB H → L2 D tk ro oT oB H → RW D tk sa P rl n9 vs H → L2 D tk q9 t9 b9 H → lv_has ls 5 [(0, .ref mo), (1, .int x1), (2, .int x2), (3, .ref q9), (4, .int y9)] → W p l e ({ frames := 4, cells := 50, slots := 100, locals := 97 } : Room) s m args below meth c H locs (k) (2 * k) Q (F0 m 54 ls []) := by
          intro n
          induction n with
          | zero =>
            intro k t9 b9 q9 y9 hf9 hk9 hx9 hb9 hq9 hg9 hkk H locs ls hS fo fj fk fe fr fw fm hl
            omega
          | succ n ih_54 =>
            intro k t9 b9 q9 y9 hf9 hk9 hx9 hb9 hq9 hg9 hkk H locs ls hS fo fj fk fe fr fw fm hl
            refine lv_iload (pc := 54) hx hb dX5_next_54 (lv_at hl 4 rfl) ?_
            refine lv_iload_n (pc := 56) hx hb dX5_next_56 rfl (lv_at hl 2 rfl) ?_
            refine lv_icmp_ge (pc := 57) (tgt := 78) hx hb dX5_next_57 (by decide) (fun c_22 => ?_) (fun c_22 => ?_)
            · have hfin : m_nxL km (tt (nn x1)) (bb (nn x1)) = (t9, b9) := by
                have h8 : km ≤ k := by
                  have h7 := c_22
                  rw [hkm1, hx9] at h7
                  exact (nI_leI (by omega) (by omega)).mp h7
                rw [← hg9, show km - k = 0 by omega]
                rfl
              refine lv_aload_n (pc := 78) hx hb dX5_next_78 rfl (lv_at hl 3 rfl) ?_
              have hZ0_ := hS.1
              have t_fo := fo.lt
              have t_fj := fj.lt
              have t_fk := fun k (hk9 : k < 6) => (fk k hk9).lt
              have t_fe := fe.lt
              have t_fr := fr.lt
              have t_fm := fm.lt
              refine k_i (pc := 79) (k_S E hC hS hA hl.1 (c_X5_isFit l D tk N0 sa H.size q9 t9 b9 ) kw_1259 kw_1260 kw_5 kw_1261 (n := 1) (by decide +kernel) rfl ⟨⟨rfl, rfl⟩, ⟨Nat.le_of_ble_eq_true rfl, Nat.le_of_ble_eq_true rfl⟩, (by dsimp only; omega), (by dsimp only; omega)⟩ rfl (Nat.le_of_ble_eq_true rfl) fm dX5_next_79) hS (fun q z w => absurd w (Nat.not_le.mpr z)) hn (fun r_23 H locs hR hz hk hS => ?_)
              have fw := fw.new hk
              have fo := fo.kept (hk _ fo.lt (Nat.not_le.mpr fo.lt))
              have fj := fj.kept (hk _ fj.lt (Nat.not_le.mpr fj.lt))
              have fk := fk.new hk
              have fe := fe.kept (hk _ fe.lt (Nat.not_le.mpr fe.lt))
              have fr := fr.kept (hk _ fr.lt (Nat.not_le.mpr fr.lt))
              have fm := fm.kept (hk _ fm.lt (Nat.not_le.mpr fm.lt))
              have er_23 := hR
              refine lv_if_eq (pc := 82) (tgt := 96) hx hb dX5_next_82 (by decide) (fun c_24 => ?_) (fun c_24 => ?_)
              · refine lv_aload_n (pc := 96) hx hb dX5_next_96 rfl (lv_at hl 0 rfl) ?_
                have hZ0_ := hS.1
                have t_fo := fo.lt
                have t_fj := fj.lt
                have t_fk := fun k (hk9 : k < 6) => (fk k hk9).lt
                have t_fe := fe.lt
                have t_fr := fr.lt
                have t_fm := fm.lt
                refine k_i (pc := 97) (k_V E hC hS hA hl.1 (c1.recv hC fo rfl) rfl (c_X5_no l D tk N0 sa H.size P hPN (fun q h9 => hPs q (Nat.le_trans hS.1 h9)) mo n9 kn ((m_th r_1 0)) tt bb eT eB oT oB pk ca rf vs  ) kw_1264 kw_1266 kp_22 kw_5 kw_1267 (n := 0) (by decide +kernel) rfl ⟨⟨rfl, rfl⟩, ⟨Nat.le_of_ble_eq_true rfl, Nat.le_of_ble_eq_true rfl⟩, (by dsimp only; omega), (by dsimp only; omega)⟩ rfl (Nat.le_of_ble_eq_true rfl) ⟨_, _, _, _, _, fo, fj, fk, fe, fr, fw, ⟨hPm, hPa, hPl, hPe, hPr, hPk⟩, hFk, hFe, hFr, hpk, hn9⟩ dX5_next_97) hS (fun q _ h => h) hn (fun r_25 H locs hR hz hk hS => ?_)
                obtain ⟨er_25, hM⟩ := hR
                obtain ⟨ra, rl, ex, ro, rt, fo, fj, fk, fe, fr, fw, ⟨hPm, hPa, hPl, hPe, hPr, hPk⟩, hFk, hFe, hFr, hpk, hn9⟩ := hM
                have g_fo := hPm
                have g_fj := hPa
                try rw [hQ]
                refine r_iret (pc := 100) E hr hlk hS (by omega) (by omega) ?_ dX5_next_100
                exact ⟨_, _, _, _, ⟨_, _, _, _, _, fo, fj, fk, fe, fr, fw, ⟨hPm, hPa, hPl, hPe, hPr, hPk⟩, hFk, hFe, hFr, hpk, hn9⟩, AN.no (by subst er_1 er_3 er_6 er_10 er_23 er_25; first | rfl | (simp [m_or, m_not, m_is0, m_lt0, m_fl, c_5, c_7, c_11, c_22, Int32.not_lt.mpr c_22, c_24]; done)) (by subst er_1 er_3 er_6 er_10 er_23 er_25; first | rfl | (simp [m_or, m_not, m_is0, m_lt0, m_fl, c_5, c_7, c_11, c_22, Int32.not_lt.mpr c_22, c_24]; done)) (er_6.symm.trans c_7) (by unfold m_NX; rw [show nn x2 = km from by rw [hkm1]; exact nI_clamp (by omega), hfin, if_neg (fun z9 => (q_abv.mp z9) hab), if_pos (er_23.symm.trans c_24)]) er_25⟩
              · refine lv_aload_n (pc := 85) hx hb dX5_next_85 rfl (lv_at hl 0 rfl) ?_
                refine lv_iload_n (pc := 86) hx hb dX5_next_86 rfl (lv_at hl 1 rfl) ?_
                refine lv_aload_n (pc := 87) hx hb dX5_next_87 rfl (lv_at hl 3 rfl) ?_
                have hZ0_ := hS.1
                have t_fo := fo.lt
                have t_fj := fj.lt
                have t_fk := fun k (hk9 : k < 6) => (fk k hk9).lt
                have t_fe := fe.lt
                have t_fr := fr.lt
                have t_fm := fm.lt
                refine k_i (pc := 88) (k_V E hC hS hA hl.1 (c1.recv hC fo rfl) rfl (c_X5_become l D tk N0 sa H.size P hPN (fun q h9 => hPs q (Nat.le_trans hS.1 h9)) mo n9 kn ((m_th r_1 0)) tt bb eT eB oT oB pk ca rf vs x1 (nn x1) hx_8 hk_8 q9 t9 b9 hq9 hb9.2) kw_1255 kw_1257 kp_21 kw_5 kw_1258 (n := 2) (by decide +kernel) rfl ⟨⟨rfl, rfl⟩, ⟨Nat.le_of_ble_eq_true rfl, Nat.le_of_ble_eq_true rfl⟩, (by dsimp only; omega), (by dsimp only; omega)⟩ rfl (Nat.le_of_ble_eq_true rfl) ⟨⟨_, _, _, _, _, fo, fj, fk, fe, fr, fw, ⟨hPm, hPa, hPl, hPe, hPr, hPk⟩, hFk, hFe, hFr, hpk, hn9⟩, fm⟩ dX5_next_88) hS (fun q _ h => h) hn (fun r_26 H locs hR hz hk hS => ?_)
                obtain ⟨tt_27, bb_27, rf_27, hM, hBE_27⟩ := hR
                obtain ⟨ra, rl, ex, ro, rt, fo, fj, fk, fe, fr, fw, ⟨hPm, hPa, hPl, hPe, hPr, hPk⟩, hFk, hFe, hFr, hpk, hn9⟩ := hM
                have g_fo := hPm
                have g_fj := hPa
                refine lv_iconst (pc := 91) (v := 1) hx hb dX5_next_91 (by decide) ?_
                refine lv_ior (pc := 92) hx hb dX5_next_92 ?_
                refine lv_goto (pc := 93) (tgt := 100) hx hb dX5_next_93 (by decide) ?_
                try rw [hQ]
                refine r_iret (pc := 100) E hr hlk hS (by omega) (by omega) ?_ dX5_next_100
                exact ⟨_, _, _, _, ⟨_, _, _, _, _, fo, fj, fk, fe, fr, fw, ⟨hPm, hPa, hPl, hPe, hPr, hPk⟩, hFk, hFe, hFr, hpk, hn9⟩, AN.ok (by subst er_1 er_3 er_6 er_10 er_23; first | rfl | (simp [m_or, m_not, m_is0, m_lt0, m_fl, c_5, c_7, c_11, c_22, Int32.not_lt.mpr c_22, c_24]; done)) (by subst er_1 er_3 er_6 er_10 er_23; first | rfl | (simp [m_or, m_not, m_is0, m_lt0, m_fl, c_5, c_7, c_11, c_22, Int32.not_lt.mpr c_22, c_24]; done)) (er_6.symm.trans c_7) (hBE_27.cast (by unfold m_NX; rw [show nn x2 = km from by rw [hkm1]; exact nI_clamp (by omega), hfin, if_neg (fun z9 => (q_abv.mp z9) hab), if_neg (fun z9 => c_24 (er_23.trans z9))])) rfl⟩
            · refine lv_aload_n (pc := 60) hx hb dX5_next_60 rfl (lv_at hl 3 rfl) ?_
              have hZ0_ := hS.1
              have t_fo := fo.lt
              have t_fj := fj.lt
              have t_fk := fun k (hk9 : k < 6) => (fk k hk9).lt
              have t_fe := fe.lt
              have t_fr := fr.lt
              have t_fm := fm.lt
              refine k_i (pc := 61) (k_S E hC hS hA hl.1 (c_X5_isFit l D tk N0 sa H.size q9 t9 b9 ) kw_1259 kw_1260 kw_5 kw_1261 (n := 1) (by decide +kernel) rfl ⟨⟨rfl, rfl⟩, ⟨Nat.le_of_ble_eq_true rfl, Nat.le_of_ble_eq_true rfl⟩, (by dsimp only; omega), (by dsimp only; omega)⟩ rfl (Nat.le_of_ble_eq_true rfl) fm dX5_next_61) hS (fun q z w => absurd w (Nat.not_le.mpr z)) hn (fun r_28 H locs hR hz hk hS => ?_)
              have fw := fw.new hk
              have fo := fo.kept (hk _ fo.lt (Nat.not_le.mpr fo.lt))
              have fj := fj.kept (hk _ fj.lt (Nat.not_le.mpr fj.lt))
              have fk := fk.new hk
              have fe := fe.kept (hk _ fe.lt (Nat.not_le.mpr fe.lt))
              have fr := fr.kept (hk _ fr.lt (Nat.not_le.mpr fr.lt))
              have fm := fm.kept (hk _ fm.lt (Nat.not_le.mpr fm.lt))
              have er_28 := hR
              refine lv_if_eq (pc := 64) (tgt := 78) hx hb dX5_next_64 (by decide) (fun c_29 => ?_) (fun c_29 => ?_)
              · have hfin : m_nxL km (tt (nn x1)) (bb (nn x1)) = (t9, b9) := by
                  rw [← hg9]
                  exact m_nxLz (by rw [← er_28]; exact c_29)
                refine lv_aload_n (pc := 78) hx hb dX5_next_78 rfl (lv_at hl 3 rfl) ?_
                have hZ0_ := hS.1
                have t_fo := fo.lt
                have t_fj := fj.lt
                have t_fk := fun k (hk9 : k < 6) => (fk k hk9).lt
                have t_fe := fe.lt
                have t_fr := fr.lt
                have t_fm := fm.lt
                refine k_i (pc := 79) (k_S E hC hS hA hl.1 (c_X5_isFit l D tk N0 sa H.size q9 t9 b9 ) kw_1259 kw_1260 kw_5 kw_1261 (n := 1) (by decide +kernel) rfl ⟨⟨rfl, rfl⟩, ⟨Nat.le_of_ble_eq_true rfl, Nat.le_of_ble_eq_true rfl⟩, (by dsimp only; omega), (by dsimp only; omega)⟩ rfl (Nat.le_of_ble_eq_true rfl) fm dX5_next_79) hS (fun q z w => absurd w (Nat.not_le.mpr z)) hn (fun r_30 H locs hR hz hk hS => ?_)
                have fw := fw.new hk
                have fo := fo.kept (hk _ fo.lt (Nat.not_le.mpr fo.lt))
                have fj := fj.kept (hk _ fj.lt (Nat.not_le.mpr fj.lt))
                have fk := fk.new hk
                have fe := fe.kept (hk _ fe.lt (Nat.not_le.mpr fe.lt))
                have fr := fr.kept (hk _ fr.lt (Nat.not_le.mpr fr.lt))
                have fm := fm.kept (hk _ fm.lt (Nat.not_le.mpr fm.lt))
                have er_30 := hR
                refine lv_if_eq (pc := 82) (tgt := 96) hx hb dX5_next_82 (by decide) (fun c_31 => ?_) (fun c_31 => ?_)
                · refine lv_aload_n (pc := 96) hx hb dX5_next_96 rfl (lv_at hl 0 rfl) ?_
                  have hZ0_ := hS.1
                  have t_fo := fo.lt
                  have t_fj := fj.lt
                  have t_fk := fun k (hk9 : k < 6) => (fk k hk9).lt
                  have t_fe := fe.lt
                  have t_fr := fr.lt
                  have t_fm := fm.lt
                  refine k_i (pc := 97) (k_V E hC hS hA hl.1 (c1.recv hC fo rfl) rfl (c_X5_no l D tk N0 sa H.size P hPN (fun q h9 => hPs q (Nat.le_trans hS.1 h9)) mo n9 kn ((m_th r_1 0)) tt bb eT eB oT oB pk ca rf vs  ) kw_1264 kw_1266 kp_22 kw_5 kw_1267 (n := 0) (by decide +kernel) rfl ⟨⟨rfl, rfl⟩, ⟨Nat.le_of_ble_eq_true rfl, Nat.le_of_ble_eq_true rfl⟩, (by dsimp only; omega), (by dsimp only; omega)⟩ rfl (Nat.le_of_ble_eq_true rfl) ⟨_, _, _, _, _, fo, fj, fk, fe, fr, fw, ⟨hPm, hPa, hPl, hPe, hPr, hPk⟩, hFk, hFe, hFr, hpk, hn9⟩ dX5_next_97) hS (fun q _ h => h) hn (fun r_32 H locs hR hz hk hS => ?_)
                  obtain ⟨er_32, hM⟩ := hR
                  obtain ⟨ra, rl, ex, ro, rt, fo, fj, fk, fe, fr, fw, ⟨hPm, hPa, hPl, hPe, hPr, hPk⟩, hFk, hFe, hFr, hpk, hn9⟩ := hM
                  have g_fo := hPm
                  have g_fj := hPa
                  try rw [hQ]
                  refine r_iret (pc := 100) E hr hlk hS (by omega) (by omega) ?_ dX5_next_100
                  exact ⟨_, _, _, _, ⟨_, _, _, _, _, fo, fj, fk, fe, fr, fw, ⟨hPm, hPa, hPl, hPe, hPr, hPk⟩, hFk, hFe, hFr, hpk, hn9⟩, AN.no (by subst er_1 er_3 er_6 er_10 er_28 er_30 er_32; first | rfl | (simp [m_or, m_not, m_is0, m_lt0, m_fl, c_5, c_7, c_11, c_22, Int32.not_le.mp c_22, c_29, c_31]; done)) (by subst er_1 er_3 er_6 er_10 er_28 er_30 er_32; first | rfl | (simp [m_or, m_not, m_is0, m_lt0, m_fl, c_5, c_7, c_11, c_22, Int32.not_le.mp c_22, c_29, c_31]; done)) (er_6.symm.trans c_7) (by unfold m_NX; rw [show nn x2 = km from by rw [hkm1]; exact nI_clamp (by omega), hfin, if_neg (fun z9 => (q_abv.mp z9) hab), if_pos (er_30.symm.trans c_31)]) er_32⟩
                · refine lv_aload_n (pc := 85) hx hb dX5_next_85 rfl (lv_at hl 0 rfl) ?_
                  refine lv_iload_n (pc := 86) hx hb dX5_next_86 rfl (lv_at hl 1 rfl) ?_
                  refine lv_aload_n (pc := 87) hx hb dX5_next_87 rfl (lv_at hl 3 rfl) ?_
                  have hZ0_ := hS.1
                  have t_fo := fo.lt
                  have t_fj := fj.lt
                  have t_fk := fun k (hk9 : k < 6) => (fk k hk9).lt
                  have t_fe := fe.lt
                  have t_fr := fr.lt
                  have t_fm := fm.lt
                  refine k_i (pc := 88) (k_V E hC hS hA hl.1 (c1.recv hC fo rfl) rfl (c_X5_become l D tk N0 sa H.size P hPN (fun q h9 => hPs q (Nat.le_trans hS.1 h9)) mo n9 kn ((m_th r_1 0)) tt bb eT eB oT oB pk ca rf vs x1 (nn x1) hx_8 hk_8 q9 t9 b9 hq9 hb9.2) kw_1255 kw_1257 kp_21 kw_5 kw_1258 (n := 2) (by decide +kernel) rfl ⟨⟨rfl, rfl⟩, ⟨Nat.le_of_ble_eq_true rfl, Nat.le_of_ble_eq_true rfl⟩, (by dsimp only; omega), (by dsimp only; omega)⟩ rfl (Nat.le_of_ble_eq_true rfl) ⟨⟨_, _, _, _, _, fo, fj, fk, fe, fr, fw, ⟨hPm, hPa, hPl, hPe, hPr, hPk⟩, hFk, hFe, hFr, hpk, hn9⟩, fm⟩ dX5_next_88) hS (fun q _ h => h) hn (fun r_33 H locs hR hz hk hS => ?_)
                  obtain ⟨tt_34, bb_34, rf_34, hM, hBE_34⟩ := hR
                  obtain ⟨ra, rl, ex, ro, rt, fo, fj, fk, fe, fr, fw, ⟨hPm, hPa, hPl, hPe, hPr, hPk⟩, hFk, hFe, hFr, hpk, hn9⟩ := hM
                  have g_fo := hPm
                  have g_fj := hPa
                  refine lv_iconst (pc := 91) (v := 1) hx hb dX5_next_91 (by decide) ?_
                  refine lv_ior (pc := 92) hx hb dX5_next_92 ?_
                  refine lv_goto (pc := 93) (tgt := 100) hx hb dX5_next_93 (by decide) ?_
                  try rw [hQ]
                  refine r_iret (pc := 100) E hr hlk hS (by omega) (by omega) ?_ dX5_next_100
                  exact ⟨_, _, _, _, ⟨_, _, _, _, _, fo, fj, fk, fe, fr, fw, ⟨hPm, hPa, hPl, hPe, hPr, hPk⟩, hFk, hFe, hFr, hpk, hn9⟩, AN.ok (by subst er_1 er_3 er_6 er_10 er_28 er_30; first | rfl | (simp [m_or, m_not, m_is0, m_lt0, m_fl, c_5, c_7, c_11, c_22, Int32.not_le.mp c_22, c_29, c_31]; done)) (by subst er_1 er_3 er_6 er_10 er_28 er_30; first | rfl | (simp [m_or, m_not, m_is0, m_lt0, m_fl, c_5, c_7, c_11, c_22, Int32.not_le.mp c_22, c_29, c_31]; done)) (er_6.symm.trans c_7) (hBE_34.cast (by unfold m_NX; rw [show nn x2 = km from by rw [hkm1]; exact nI_clamp (by omega), hfin, if_neg (fun z9 => (q_abv.mp z9) hab), if_neg (fun z9 => c_31 (er_30.trans z9))])) rfl⟩
              · refine lv_aload_n (pc := 67) hx hb dX5_next_67 rfl (lv_at hl 3 rfl) ?_
                have hnf9 : ¬ m_fit t9 b9 = 0 := by rw [← er_28]; exact c_29
                have hF9 := m_fit1 (t := t9) (b := b9) (by rw [← er_28]; exact c_29) hb9.2
                have hP9 := m_nxtP hF9 hb9.1
                have hlt50 : k < km := Nat.not_le.mp (fun z9 => c_22 (by rw [hkm1, hx9]; exact nI_le z9 (by omega)))
                have hZ0_ := hS.1
                have t_fo := fo.lt
                have t_fj := fj.lt
                have t_fk := fun k (hk9 : k < 6) => (fk k hk9).lt
                have t_fe := fe.lt
                have t_fr := fr.lt
                have t_fm := fm.lt
                refine k_r (pc := 68) (k_S E hC hS hA hl.1 (c_X5_nextOf l D tk N0 sa H.size q9 t9 b9 hP9.1 hP9.2.1) kw_1689 kw_1690 kw_5 kw_1691 (n := 1) (by decide +kernel) rfl ⟨⟨rfl, rfl⟩, ⟨Nat.le_of_ble_eq_true rfl, Nat.le_of_ble_eq_true rfl⟩, (by dsimp only; omega), (by dsimp only; omega)⟩ rfl (Nat.le_of_ble_eq_true rfl) fm dX5_next_68) hS (fun q z w => absurd w (Nat.not_le.mpr z)) hn (fun r_35 H locs hR hz hk hS => ?_)
                have fw := fw.new hk
                have fo := fo.kept (hk _ fo.lt (Nat.not_le.mpr fo.lt))
                have fj := fj.kept (hk _ fj.lt (Nat.not_le.mpr fj.lt))
                have fk := fk.new hk
                have fe := fe.kept (hk _ fe.lt (Nat.not_le.mpr fe.lt))
                have fr := fr.kept (hk _ fr.lt (Nat.not_le.mpr fr.lt))
                have fm := fm.kept (hk _ fm.lt (Nat.not_le.mpr fm.lt))
                obtain ⟨z9_, f36⟩ := hR
                have s_f36 : s.heap.size ≤ r_35 := Nat.le_trans hZ0_ z9_
                have g_f36 := hn _ s_f36
                have l_fo_f36 : mo < r_35 := Nat.lt_of_lt_of_le t_fo z9_
                have l_fj_f36 : ra < r_35 := Nat.lt_of_lt_of_le t_fj z9_
                have nW_f36 : ∀ k, k < 6 → rt k ≠ r_35 := fun k hk9 => Nat.ne_of_lt (Nat.lt_of_lt_of_le (t_fk k hk9) z9_)
                have l_fe_f36 : ex < r_35 := Nat.lt_of_lt_of_le t_fe z9_
                have l_fr_f36 : ro < r_35 := Nat.lt_of_lt_of_le t_fr z9_
                have l_fm_f36 : q9 < r_35 := Nat.lt_of_lt_of_le t_fm z9_
                refine lv_astore_n (pc := 71) (lv' := [(3, .ref r_35), (0, .ref mo), (1, .int x1), (2, .int x2), (4, .int y9)]) hx hb dX5_next_71 rfl hl (by decide) rfl (fun ls hl => ?_)
                obtain ⟨x_37, ex_37⟩ : ∃ z9 : Int32, z9 = y9 + 1 := ⟨_, rfl⟩
                refine lv_iinc (pc := 72) (v := x_37) (lv' := [(4, .int x_37), (3, .ref r_35), (0, .ref mo), (1, .int x1), (2, .int x2)]) hx hb dX5_next_72 hl (k := 4) rfl (by rw [ex_37]; rfl) (by decide) rfl (fun ls hl => ?_)
                refine lv_goto (pc := 75) (tgt := 54) hx hb dX5_next_75 (by decide) ?_
                refine W.widen (k := k + 1) (n := 2 * (k + 1)) (by omega) (by omega) ?_
                exact ih_54  (k + 1) _ _  r_35 x_37 (by omega) (by omega) (i_up hx9 ex_37) ⟨hP9.2.2.2, hP9.2.2.1⟩ (hPs _ s_f36) (m_nxLs hnf9 (show km - k = (km - (k + 1)) + 1 by omega) hg9) (by omega) _ _ _ hS fo fj fk fe fr fw f36 (lv_sub hl [2, 3, 4, 1, 0] rfl)
        refine W.widen (k := 0) (n := 2 * 0) (by omega) (by omega) ?_
        exact loop_54 52 0 _ _  (rt (nn x1)) 0 (by omega) (Nat.zero_le _) nI_0.symm ⟨hab, mF_fL21.2.1⟩ Pq_fL21 rfl (Nat.zero_le _) _ _ _ hS fo fj fk fe fr fw fL21 (lv_sub hl [2, 3, 4, 1, 0] rfl)
    · refine lv_iconst (pc := 26) (v := 0) hx hb dX5_next_26 (by decide) ?_
      try rw [hQ]
      refine r_iret (pc := 27) E hr hlk hS (by omega) (by omega) ?_ dX5_next_27
      exact ⟨_, _, _, _, ⟨_, _, _, _, _, fo, fj, fk, fe, fr, fw, ⟨hPm, hPa, hPl, hPe, hPr, hPk⟩, hFk, hFe, hFr, hpk, hn9⟩, AN.fail (by subst er_1 er_3 er_6; first | rfl | (simp [m_or, m_not, m_is0, m_lt0, m_fl, c_5, c_7]; done)) (by subst er_1 er_3 er_6; first | rfl | (simp [m_or, m_not, m_is0, m_lt0, m_fl, c_5, c_7]; done)) (fun z9 => c_7 (er_6.trans z9))⟩
  · refine lv_iconst (pc := 15) (v := 1) hx hb dX5_next_15 (by decide) ?_
    refine lv_goto (pc := 16) (tgt := 20) hx hb dX5_next_16 (by decide) ?_
    have hZ0_ := hS.1
    have t_fo := fo.lt
    have t_fj := fj.lt
    have t_fk := fun k (hk9 : k < 6) => (fk k hk9).lt
    have t_fe := fe.lt
    have t_fr := fr.lt
    refine k_i (pc := 20) (k_V E hC hS hA hl.1 (c1.recv hC fo rfl) rfl (c_X5_fails l D tk N0 sa H.size P hPN (fun q h9 => hPs q (Nat.le_trans hS.1 h9)) mo n9 kn th tt bb eT eB oT oB pk ca rf vs r_1 1 ) kw_1251 kw_1253 kp_20 kw_5 kw_1254 (n := 2) (by decide +kernel) rfl ⟨⟨rfl, rfl⟩, ⟨Nat.le_of_ble_eq_true rfl, Nat.le_of_ble_eq_true rfl⟩, (by dsimp only; omega), (by dsimp only; omega)⟩ rfl (Nat.le_of_ble_eq_true rfl) ⟨_, _, _, _, _, fo, fj, fk, fe, fr, fw, ⟨hPm, hPa, hPl, hPe, hPr, hPk⟩, hFk, hFe, hFr, hpk, hn9⟩ dX5_next_20) hS (fun q _ h => h) hn (fun r_38 H locs hR hz hk hS => ?_)
    obtain ⟨er_38, hM⟩ := hR
    obtain ⟨ra, rl, ex, ro, rt, fo, fj, fk, fe, fr, fw, ⟨hPm, hPa, hPl, hPe, hPr, hPk⟩, hFk, hFe, hFr, hpk, hn9⟩ := hM
    have g_fo := hPm
    have g_fj := hPa
    have ef_r_38 : r_38 = 1 := er_38.trans (m_fl1 _)
    rw [ef_r_38]
    refine lv_if_eq (pc := 23) (tgt := 28) hx hb dX5_next_23 (by decide) (fun c_39 => ?_) (fun c_39 => ?_)
    · exact absurd c_39 (by decide)
    refine lv_iconst (pc := 26) (v := 0) hx hb dX5_next_26 (by decide) ?_
    try rw [hQ]
    refine r_iret (pc := 27) E hr hlk hS (by omega) (by omega) ?_ dX5_next_27
    exact ⟨_, _, _, _, ⟨_, _, _, _, _, fo, fj, fk, fe, fr, fw, ⟨hPm, hPa, hPl, hPe, hPr, hPk⟩, hFk, hFe, hFr, hpk, hn9⟩, AN.fail (by subst er_1 er_3; first | rfl | (simp [m_or, m_not, m_is0, m_lt0, m_fl, c_5]; done)) (by subst er_1 er_3; first | rfl | (simp [m_or, m_not, m_is0, m_lt0, m_fl, c_5]; done)) (fun z9 => absurd (ef_r_38.symm.trans (er_38.trans z9)) (by decide))⟩
set_option maxHeartbeats 4000000 in
set_option maxRecDepth 100000 in
/-- BestratiosModel.before(I)I -/
theorem c_X5_before (l : Launch) (D : va_G) (tk : Nat → ClassId) (N0 : Nat) (sa : Nat → Nat)  (sz : Nat) (P : Nat → Prop) (hPN : ∀ q, P q → N0 ≤ q) (hPs : ∀ q, sz ≤ q → P q) (mo n9 : Nat) (kn th : Int32) (tt bb : Nat → Int64) (eT eB oT oB : Int64) (pk : Nat) (ca rf : Int32) (vs : Nat → Value) (x1 : Int32) : Met l yX5_before (wsy yX5_before cX5_before 5 (some .int)) ({ frames := 3, cells := 1, slots := 2, locals := 77 } : Room) (cP D tk N0 sa [.ref mo, .int x1] sz (fun H => MI D tk sa P mo tt bb eT eB oT oB pk ca rf vs kn n9 th H)) (kQi (fun r H => ∃ th1 tt1 bb1 rf1, MI D tk sa P mo tt1 bb1 eT eB oT oB pk ca rf1 vs kn n9 th1 H ∧ AC (m_isNo x1) 0 tt bb rf (nn x1) (m_BF (tt (nn x1)) (bb (nn x1))) r th1 tt1 bb1 rf1) (P)) (1) (2) (P) := by
  refine mStart RX5 rfl (by decide +kernel) (Nat.le_of_ble_eq_true rfl) ?_
  intro p e s m args below meth c E hr hlk hnm hsz hC hF ls hl
  subst hsz
  obtain ⟨hx, hb, -⟩ := id E
  have hA : ∀ q, (P) q → N0 ≤ q := hPN
  have hn : ∀ q, s.heap.size ≤ q → (P) q := hPs
  have hS : va_S (P) s.heap s.heap [] := va_S.rf
  have hl : lv_has ls 5 [(0, .ref mo), (1, .int x1)] := hl
  have hM : MI D tk sa P mo tt bb eT eB oT oB pk ca rf vs kn n9 th s.heap := hF
  obtain ⟨ra, rl, ex, ro, rt, fo, fj, fk, fe, fr, fw, ⟨hPm, hPa, hPl, hPe, hPr, hPk⟩, hFk, hFe, hFr, hpk, hn9⟩ := hM
  have g_fo := hPm
  have g_fj := hPa
  refine lv_aload_n (pc := 0) hx hb dX5_before_0 rfl (lv_at hl 0 rfl) ?_
  refine lv_iload_n (pc := 1) hx hb dX5_before_1 rfl (lv_at hl 1 rfl) ?_
  refine k_i (pc := 2) (k_S E hC hS hA hl.1 (c_X5_isNo l D tk N0 sa s.heap.size x1 ) kw_1245 kw_1246 kw_5 kw_1247 (n := 1) (by decide +kernel) rfl ⟨⟨rfl, rfl⟩, ⟨Nat.le_of_ble_eq_true rfl, Nat.le_of_ble_eq_true rfl⟩, (by dsimp only; omega), (by dsimp only; omega)⟩ rfl (Nat.le_of_ble_eq_true rfl) trivial dX5_before_2) hS (fun q z w => absurd w (Nat.not_le.mpr z)) hn (fun r_1 H locs hR hz hk hS => ?_)
  have er_1 := hR
  have fw := fw.new hk
  have fo := fo.kept (hk _ fo.lt (Nat.not_le.mpr fo.lt))
  have fj := fj.kept (hk _ fj.lt (Nat.not_le.mpr fj.lt))
  have fk := fk.new hk
  have fe := fe.kept (hk _ fe.lt (Nat.not_le.mpr fe.lt))
  have fr := fr.kept (hk _ fr.lt (Nat.not_le.mpr fr.lt))
  refine lv_iconst (pc := 5) (v := 0) hx hb dX5_before_5 (by decide) ?_
  have hZ0_ := hS.1
  have t_fo := fo.lt
  have t_fj := fj.lt
  have t_fk := fun k (hk9 : k < 6) => (fk k hk9).lt
  have t_fe := fe.lt
  have t_fr := fr.lt
  refine k_i (pc := 6) (k_V E hC hS hA hl.1 (c1.recv hC fo rfl) rfl (c_X5_fails l D tk N0 sa H.size P hPN (fun q h9 => hPs q (Nat.le_trans hS.1 h9)) mo n9 kn th tt bb eT eB oT oB pk ca rf vs r_1 0 ) kw_1251 kw_1253 kp_20 kw_5 kw_1254 (n := 2) (by decide +kernel) rfl ⟨⟨rfl, rfl⟩, ⟨Nat.le_of_ble_eq_true rfl, Nat.le_of_ble_eq_true rfl⟩, (by dsimp only; omega), (by dsimp only; omega)⟩ rfl (Nat.le_of_ble_eq_true rfl) ⟨_, _, _, _, _, fo, fj, fk, fe, fr, fw, ⟨hPm, hPa, hPl, hPe, hPr, hPk⟩, hFk, hFe, hFr, hpk, hn9⟩ dX5_before_6) hS (fun q _ h => h) hn (fun r_3 H locs hR hz hk hS => ?_)
  obtain ⟨er_3, hM⟩ := hR
  obtain ⟨ra, rl, ex, ro, rt, fo, fj, fk, fe, fr, fw, ⟨hPm, hPa, hPl, hPe, hPr, hPk⟩, hFk, hFe, hFr, hpk, hn9⟩ := hM
  have g_fo := hPm
  have g_fj := hPa
  refine lv_if_eq (pc := 9) (tgt := 14) hx hb dX5_before_9 (by decide) (fun c_4 => ?_) (fun c_4 => ?_)
  · refine lv_aload_n (pc := 14) hx hb dX5_before_14 rfl (lv_at hl 0 rfl) ?_
    refine r_get (pc := 15) E hC fo 0 (v := .ref ra) rfl rfl (by decide) uX5 (List.mem_cons_of_mem _ kw_1209) (fun _ h => h) dX5_before_15 ?_
    refine lv_iload_n (pc := 18) hx hb dX5_before_18 rfl (lv_at hl 1 rfl) ?_
    obtain ⟨hx_5, hk_5⟩ := m_noN (er_1.symm.trans (m_fl0 (er_3.symm.trans c_4)).1)
    refine r_aaldJ (pc := 19) E hC fj (nn x1) hx_5 hk_5 (by decide) rfl dX5_before_19 ?_
    have fL6 := fk (nn x1) hk_5
    have mF_fL6 := hFk (nn x1) hk_5
    have Pq_fL6 := hPk (nn x1) hk_5
    refine lv_astore_n (pc := 20) (lv' := [(2, .ref (rt (nn x1))), (0, .ref mo), (1, .int x1)]) hx hb dX5_before_20 rfl hl (by decide) rfl (fun ls hl => ?_)
    refine lv_aload_n (pc := 21) hx hb dX5_before_21 rfl (lv_at hl 0 rfl) ?_
    have hZ0_ := hS.1
    have t_fo := fo.lt
    have t_fj := fj.lt
    have t_fk := fun k (hk9 : k < 6) => (fk k hk9).lt
    have t_fe := fe.lt
    have t_fr := fr.lt
    have t_fL6 := fL6.lt
    refine k_i (pc := 22) (k_S E hC hS hA hl.1 (c_X5_isAbove l D tk N0 sa H.size (rt (nn x1)) (tt (nn x1)) (bb (nn x1)) ) kw_1645 kw_1646 kw_5 kw_1647 (n := 1) (by decide +kernel) rfl ⟨⟨rfl, rfl⟩, ⟨Nat.le_of_ble_eq_true rfl, Nat.le_of_ble_eq_true rfl⟩, (by dsimp only; omega), (by dsimp only; omega)⟩ rfl (Nat.le_of_ble_eq_true rfl) fL6 dX5_before_22) hS (fun q z w => absurd w (Nat.not_le.mpr z)) hn (fun r_7 H locs hR hz hk hS => ?_)
    have fw := fw.new hk
    have fo := fo.kept (hk _ fo.lt (Nat.not_le.mpr fo.lt))
    have fj := fj.kept (hk _ fj.lt (Nat.not_le.mpr fj.lt))
    have fk := fk.new hk
    have fe := fe.kept (hk _ fe.lt (Nat.not_le.mpr fe.lt))
    have fr := fr.kept (hk _ fr.lt (Nat.not_le.mpr fr.lt))
    have fL6 := fL6.kept (hk _ fL6.lt (Nat.not_le.mpr fL6.lt))
    have er_7 := hR
    refine lv_if_eq (pc := 25) (tgt := 35) hx hb dX5_before_25 (by decide) (fun c_8 => ?_) (fun c_8 => ?_)
    · refine lv_aload_n (pc := 35) hx hb dX5_before_35 rfl (lv_at hl 1 rfl) ?_
      have hZ0_ := hS.1
      have t_fo := fo.lt
      have t_fj := fj.lt
      have t_fk := fun k (hk9 : k < 6) => (fk k hk9).lt
      have t_fe := fe.lt
      have t_fr := fr.lt
      have t_fL6 := fL6.lt
      refine k_i (pc := 36) (k_V E hC hS hA hl.1 (c1.recv hC fo rfl) rfl (c_X5_no l D tk N0 sa H.size P hPN (fun q h9 => hPs q (Nat.le_trans hS.1 h9)) mo n9 kn ((m_th r_1 0)) tt bb eT eB oT oB pk ca rf vs  ) kw_1264 kw_1266 kp_22 kw_5 kw_1267 (n := 0) (by decide +kernel) rfl ⟨⟨rfl, rfl⟩, ⟨Nat.le_of_ble_eq_true rfl, Nat.le_of_ble_eq_true rfl⟩, (by dsimp only; omega), (by dsimp only; omega)⟩ rfl (Nat.le_of_ble_eq_true rfl) ⟨_, _, _, _, _, fo, fj, fk, fe, fr, fw, ⟨hPm, hPa, hPl, hPe, hPr, hPk⟩, hFk, hFe, hFr, hpk, hn9⟩ dX5_before_36) hS (fun q _ h => h) hn (fun r_9 H locs hR hz hk hS => ?_)
      obtain ⟨er_9, hM⟩ := hR
      obtain ⟨ra, rl, ex, ro, rt, fo, fj, fk, fe, fr, fw, ⟨hPm, hPa, hPl, hPe, hPr, hPk⟩, hFk, hFe, hFr, hpk, hn9⟩ := hM
      have g_fo := hPm
      have g_fj := hPa
      refine r_iret (pc := 39) E hr hlk hS (by omega) (by omega) ?_ dX5_before_39
      exact ⟨_, _, _, _, ⟨_, _, _, _, _, fo, fj, fk, fe, fr, fw, ⟨hPm, hPa, hPl, hPe, hPr, hPk⟩, hFk, hFe, hFr, hpk, hn9⟩, AC.ok (by subst er_1 er_3 er_7 er_9; first | rfl | (simp [m_or, m_not, m_is0, m_lt0, m_fl, c_4, c_8]; done)) (by subst er_1 er_3 er_7 er_9; first | rfl | (simp [m_or, m_not, m_is0, m_lt0, m_fl, c_4, c_8]; done)) (er_3.symm.trans c_4) (BE.cast (o := none) ⟨er_9, rfl, rfl, rfl⟩ (by subst er_1 er_3 er_7 er_9; first | rfl | (simp [m_BF, c_4, c_8]; done)))⟩
    · refine lv_aload_n (pc := 28) hx hb dX5_before_28 rfl (lv_at hl 0 rfl) ?_
      have hZ0_ := hS.1
      have t_fo := fo.lt
      have t_fj := fj.lt
      have t_fk := fun k (hk9 : k < 6) => (fk k hk9).lt
      have t_fe := fe.lt
      have t_fr := fr.lt
      have t_fL6 := fL6.lt
      refine k_i (pc := 29) (k_S E hC hS hA hl.1 (c_X5_isOne l D tk N0 sa H.size (rt (nn x1)) (tt (nn x1)) (bb (nn x1)) ) kw_1648 kw_1649 kw_5 kw_1650 (n := 1) (by decide +kernel) rfl ⟨⟨rfl, rfl⟩, ⟨Nat.le_of_ble_eq_true rfl, Nat.le_of_ble_eq_true rfl⟩, (by dsimp only; omega), (by dsimp only; omega)⟩ rfl (Nat.le_of_ble_eq_true rfl) fL6 dX5_before_29) hS (fun q z w => absurd w (Nat.not_le.mpr z)) hn (fun r_10 H locs hR hz hk hS => ?_)
      have fw := fw.new hk
      have fo := fo.kept (hk _ fo.lt (Nat.not_le.mpr fo.lt))
      have fj := fj.kept (hk _ fj.lt (Nat.not_le.mpr fj.lt))
      have fk := fk.new hk
      have fe := fe.kept (hk _ fe.lt (Nat.not_le.mpr fe.lt))
      have fr := fr.kept (hk _ fr.lt (Nat.not_le.mpr fr.lt))
      have fL6 := fL6.kept (hk _ fL6.lt (Nat.not_le.mpr fL6.lt))
      have er_10 := hR
      refine lv_if_eq (pc := 32) (tgt := 40) hx hb dX5_before_32 (by decide) (fun c_11 => ?_) (fun c_11 => ?_)
      · refine lv_aload_n (pc := 40) hx hb dX5_before_40 rfl (lv_at hl 0 rfl) ?_
        refine lv_iconst (pc := 41) (v := 1) hx hb dX5_before_41 (by decide) ?_
        refine r_l1 (pc := 42) E hC fL6 dX5_before_42 ?_
        refine lv_lneg (pc := 43) hx hb dX5_before_43 ?_
        refine lv_aload_n (pc := 44) hx hb dX5_before_44 rfl (lv_at hl 0 rfl) ?_
        refine lv_iconst (pc := 45) (v := 0) hx hb dX5_before_45 (by decide) ?_
        refine r_l0 (pc := 46) E hC fL6 dX5_before_46 ?_
        have hab := m_abv1 (t := tt (nn x1)) (by rw [← er_7]; exact c_8)
        have hP9 := m_befP mF_fL6 hab
        refine k_l (pc := 47) (k_S E hC hS hA hl.1 (c_X5_floor l D tk N0 sa H.size (-(bb (nn x1))) (tt (nn x1)) hP9.1) kw_1392 kw_1393 kw_5 kw_1394 (n := 2) (by decide +kernel) rfl ⟨⟨rfl, rfl⟩, ⟨Nat.le_of_ble_eq_true rfl, Nat.le_of_ble_eq_true rfl⟩, (by dsimp only; omega), (by dsimp only; omega)⟩ rfl (Nat.le_of_ble_eq_true rfl) trivial dX5_before_47) hS (fun q z w => absurd w (Nat.not_le.mpr z)) hn (fun r_12 H locs hR hz hk hS => ?_)
        have er_12 := hR
        have fw := fw.new hk
        have fo := fo.kept (hk _ fo.lt (Nat.not_le.mpr fo.lt))
        have fj := fj.kept (hk _ fj.lt (Nat.not_le.mpr fj.lt))
        have fk := fk.new hk
        have fe := fe.kept (hk _ fe.lt (Nat.not_le.mpr fe.lt))
        have fr := fr.kept (hk _ fr.lt (Nat.not_le.mpr fr.lt))
        have fL6 := fL6.kept (hk _ fL6.lt (Nat.not_le.mpr fL6.lt))
        refine lv_lneg (pc := 50) hx hb dX5_before_50 ?_
        obtain ⟨x_14, ex_14⟩ : ∃ z9 : Int64, z9 = -r_12 := ⟨_, rfl⟩
        rw [← ex_14]
        refine lv_lstore_n (pc := 51) (lv' := [(3, .long x_14), (2, .ref (rt (nn x1))), (0, .ref mo), (1, .int x1)]) hx hb dX5_before_51 rfl hl (by decide) rfl (fun ls hl => ?_)
        refine lv_aload_n (pc := 52) hx hb dX5_before_52 rfl (lv_at hl 2 rfl) ?_
        refine lv_iload_n (pc := 53) hx hb dX5_before_53 rfl (lv_at hl 3 rfl) ?_
        refine lv_ldc2 (pc := 54) (v := 2) hx hb E.2.2.2.1 (E.2.2.2.2 _ (List.mem_cons_of_mem _ kw_1665)) dX5_before_54 ?_
        refine lv_lload_n (pc := 57) hx hb dX5_before_57 rfl (lv_at hl 0 rfl) ?_
        refine lv_lmul (pc := 58) hx hb dX5_before_58 ?_
        refine lv_lconst (pc := 59) (v := 1) hx hb dX5_before_59 (by decide) ?_
        refine lv_lsub (pc := 60) hx hb dX5_before_60 ?_
        refine lv_aload_n (pc := 61) hx hb dX5_before_61 rfl (lv_at hl 1 rfl) ?_
        refine lv_iconst (pc := 62) (v := 0) hx hb dX5_before_62 (by decide) ?_
        refine r_l0 (pc := 63) E hC fL6 dX5_before_63 ?_
        refine lv_lmul (pc := 64) hx hb dX5_before_64 ?_
        refine lv_aload_n (pc := 65) hx hb dX5_before_65 rfl (lv_at hl 1 rfl) ?_
        refine lv_iconst (pc := 66) (v := 1) hx hb dX5_before_66 (by decide) ?_
        refine r_l1 (pc := 67) E hC fL6 dX5_before_67 ?_
        refine lv_lsub (pc := 68) hx hb dX5_before_68 ?_
        refine lv_aload_n (pc := 69) hx hb dX5_before_69 rfl (lv_at hl 1 rfl) ?_
        refine lv_iconst (pc := 70) (v := 0) hx hb dX5_before_70 (by decide) ?_
        refine r_l0 (pc := 71) E hC fL6 dX5_before_71 ?_
        have hZ0_ := hS.1
        have t_fo := fo.lt
        have t_fj := fj.lt
        have t_fk := fun k (hk9 : k < 6) => (fk k hk9).lt
        have t_fe := fe.lt
        have t_fr := fr.lt
        have t_fL6 := fL6.lt
        refine k_r (pc := 72) (k_S E hC hS hA hl.1 (c_X5_lowest l D tk N0 sa H.size ((((2 * x_14) - 1) * (tt (nn x1))) - (bb (nn x1))) (tt (nn x1)) (by rw [ex_14, er_12]; exact hP9.2.1)) kw_1199 kw_1200 kw_5 kw_1201 (n := 2) (by decide +kernel) rfl ⟨⟨rfl, rfl⟩, ⟨Nat.le_of_ble_eq_true rfl, Nat.le_of_ble_eq_true rfl⟩, (by dsimp only; omega), (by dsimp only; omega)⟩ rfl (Nat.le_of_ble_eq_true rfl) trivial dX5_before_72) hS (fun q z w => absurd w (Nat.not_le.mpr z)) hn (fun r_15 H locs hR hz hk hS => ?_)
        have fw := fw.new hk
        have fo := fo.kept (hk _ fo.lt (Nat.not_le.mpr fo.lt))
        have fj := fj.kept (hk _ fj.lt (Nat.not_le.mpr fj.lt))
        have fk := fk.new hk
        have fe := fe.kept (hk _ fe.lt (Nat.not_le.mpr fe.lt))
        have fr := fr.kept (hk _ fr.lt (Nat.not_le.mpr fr.lt))
        have fL6 := fL6.kept (hk _ fL6.lt (Nat.not_le.mpr fL6.lt))
        obtain ⟨z9_, f16⟩ := hR
        have s_f16 : s.heap.size ≤ r_15 := Nat.le_trans hZ0_ z9_
        have g_f16 := hn _ s_f16
        have l_fo_f16 : mo < r_15 := Nat.lt_of_lt_of_le t_fo z9_
        have l_fj_f16 : ra < r_15 := Nat.lt_of_lt_of_le t_fj z9_
        have nW_f16 : ∀ k, k < 6 → rt k ≠ r_15 := fun k hk9 => Nat.ne_of_lt (Nat.lt_of_lt_of_le (t_fk k hk9) z9_)
        have l_fe_f16 : ex < r_15 := Nat.lt_of_lt_of_le t_fe z9_
        have l_fr_f16 : ro < r_15 := Nat.lt_of_lt_of_le t_fr z9_
        have l_fL6_f16 : rt (nn x1) < r_15 := Nat.lt_of_lt_of_le t_fL6 z9_
        have hZ0_ := hS.1
        have t_fo := fo.lt
        have t_fj := fj.lt
        have t_fk := fun k (hk9 : k < 6) => (fk k hk9).lt
        have t_fe := fe.lt
        have t_fr := fr.lt
        have t_fL6 := fL6.lt
        have t_f16 := f16.lt
        refine k_i (pc := 75) (k_V E hC hS hA hl.1 (c1.recv hC fo rfl) rfl (c_X5_become l D tk N0 sa H.size P hPN (fun q h9 => hPs q (Nat.le_trans hS.1 h9)) mo n9 kn ((m_th r_1 0)) tt bb eT eB oT oB pk ca rf vs x1 (nn x1) hx_5 hk_5 r_15 (m_loT ((((2 * x_14) - 1) * (tt (nn x1))) - (bb (nn x1))) (tt (nn x1))) (m_loB ((((2 * x_14) - 1) * (tt (nn x1))) - (bb (nn x1))) (tt (nn x1))) (hPs _ s_f16) (by rw [ex_14, er_12]; exact hP9.2.2)) kw_1255 kw_1257 kp_21 kw_5 kw_1258 (n := 2) (by decide +kernel) rfl ⟨⟨rfl, rfl⟩, ⟨Nat.le_of_ble_eq_true rfl, Nat.le_of_ble_eq_true rfl⟩, (by dsimp only; omega), (by dsimp only; omega)⟩ rfl (Nat.le_of_ble_eq_true rfl) ⟨⟨_, _, _, _, _, fo, fj, fk, fe, fr, fw, ⟨hPm, hPa, hPl, hPe, hPr, hPk⟩, hFk, hFe, hFr, hpk, hn9⟩, f16⟩ dX5_before_75) hS (fun q _ h => h) hn (fun r_17 H locs hR hz hk hS => ?_)
        obtain ⟨tt_18, bb_18, rf_18, hM, hBE_18⟩ := hR
        obtain ⟨ra, rl, ex, ro, rt, fo, fj, fk, fe, fr, fw, ⟨hPm, hPa, hPl, hPe, hPr, hPk⟩, hFk, hFe, hFr, hpk, hn9⟩ := hM
        have g_fo := hPm
        have g_fj := hPa
        refine r_iret (pc := 78) E hr hlk hS (by omega) (by omega) ?_ dX5_before_78
        exact ⟨_, _, _, _, ⟨_, _, _, _, _, fo, fj, fk, fe, fr, fw, ⟨hPm, hPa, hPl, hPe, hPr, hPk⟩, hFk, hFe, hFr, hpk, hn9⟩, AC.ok (by subst er_1 er_3 er_7 er_10 er_12 ex_14; first | rfl | (simp [m_or, m_not, m_is0, m_lt0, m_fl, c_4, c_8, c_11]; done)) (by subst er_1 er_3 er_7 er_10 er_12 ex_14; first | rfl | (simp [m_or, m_not, m_is0, m_lt0, m_fl, c_4, c_8, c_11]; done)) (er_3.symm.trans c_4) (hBE_18.cast (by unfold m_BF; rw [if_neg (fun z9 => c_8 (er_7.trans z9)), if_pos (er_10.symm.trans c_11), ex_14, er_12]; rfl))⟩
      · refine lv_aload_n (pc := 35) hx hb dX5_before_35 rfl (lv_at hl 1 rfl) ?_
        have hZ0_ := hS.1
        have t_fo := fo.lt
        have t_fj := fj.lt
        have t_fk := fun k (hk9 : k < 6) => (fk k hk9).lt
        have t_fe := fe.lt
        have t_fr := fr.lt
        have t_fL6 := fL6.lt
        refine k_i (pc := 36) (k_V E hC hS hA hl.1 (c1.recv hC fo rfl) rfl (c_X5_no l D tk N0 sa H.size P hPN (fun q h9 => hPs q (Nat.le_trans hS.1 h9)) mo n9 kn ((m_th r_1 0)) tt bb eT eB oT oB pk ca rf vs  ) kw_1264 kw_1266 kp_22 kw_5 kw_1267 (n := 0) (by decide +kernel) rfl ⟨⟨rfl, rfl⟩, ⟨Nat.le_of_ble_eq_true rfl, Nat.le_of_ble_eq_true rfl⟩, (by dsimp only; omega), (by dsimp only; omega)⟩ rfl (Nat.le_of_ble_eq_true rfl) ⟨_, _, _, _, _, fo, fj, fk, fe, fr, fw, ⟨hPm, hPa, hPl, hPe, hPr, hPk⟩, hFk, hFe, hFr, hpk, hn9⟩ dX5_before_36) hS (fun q _ h => h) hn (fun r_19 H locs hR hz hk hS => ?_)
        obtain ⟨er_19, hM⟩ := hR
        obtain ⟨ra, rl, ex, ro, rt, fo, fj, fk, fe, fr, fw, ⟨hPm, hPa, hPl, hPe, hPr, hPk⟩, hFk, hFe, hFr, hpk, hn9⟩ := hM
        have g_fo := hPm
        have g_fj := hPa
        refine r_iret (pc := 39) E hr hlk hS (by omega) (by omega) ?_ dX5_before_39
        exact ⟨_, _, _, _, ⟨_, _, _, _, _, fo, fj, fk, fe, fr, fw, ⟨hPm, hPa, hPl, hPe, hPr, hPk⟩, hFk, hFe, hFr, hpk, hn9⟩, AC.ok (by subst er_1 er_3 er_7 er_10 er_19; first | rfl | (simp [m_or, m_not, m_is0, m_lt0, m_fl, c_4, c_8, c_11]; done)) (by subst er_1 er_3 er_7 er_10 er_19; first | rfl | (simp [m_or, m_not, m_is0, m_lt0, m_fl, c_4, c_8, c_11]; done)) (er_3.symm.trans c_4) (BE.cast (o := none) ⟨er_19, rfl, rfl, rfl⟩ (by subst er_1 er_3 er_7 er_10 er_19; first | rfl | (simp [m_BF, c_4, c_8, c_11]; done)))⟩
  · refine lv_iconst (pc := 12) (v := 0) hx hb dX5_before_12 (by decide) ?_
    refine r_iret (pc := 13) E hr hlk hS (by omega) (by omega) ?_ dX5_before_13
    exact ⟨_, _, _, _, ⟨_, _, _, _, _, fo, fj, fk, fe, fr, fw, ⟨hPm, hPa, hPl, hPe, hPr, hPk⟩, hFk, hFe, hFr, hpk, hn9⟩, AC.fail (by subst er_1 er_3; first | rfl | (simp [m_or, m_not, m_is0, m_lt0, m_fl, c_4]; done)) (by subst er_1 er_3; first | rfl | (simp [m_or, m_not, m_is0, m_lt0, m_fl, c_4]; done)) (fun z9 => c_4 (er_3.trans z9))⟩
set_option maxHeartbeats 4000000 in
set_option maxRecDepth 100000 in
/-- BestratiosModel.say(I)I -/
theorem c_X5_say (l : Launch) (D : va_G) (tk : Nat → ClassId) (N0 : Nat) (sa : Nat → Nat)  (sz : Nat) (P : Nat → Prop) (hPN : ∀ q, P q → N0 ≤ q) (hPs : ∀ q, sz ≤ q → P q) (mo n9 : Nat) (kn th : Int32) (tt bb : Nat → Int64) (eT eB oT oB : Int64) (pk : Nat) (ca rf : Int32) (vs : Nat → Value) (x1 : Int32) : Met l yX5_say (wsy yX5_say cX5_say 2 (some .int)) ({ frames := 7, cells := 4, slots := 60, locals := 157 } : Room) (cP D tk N0 sa [.ref mo, .int x1] sz (fun H => MI D tk sa P mo tt bb eT eB oT oB pk ca rf vs kn n9 th H)) (kQi (fun r H => ∃ n1 th1 vs1, MI D tk sa P mo tt bb eT eB oT oB pk ca rf vs1 kn n1 th1 H ∧ m_say x1 n9 r n1 th1 ∧ (th1 = 0 → vs1 = va_up vs n9 (.int x1)) ∧ (¬ th1 = 0 → vs1 = vs)) (P)) (4) (60) (P) := by
  refine mStart RX5 rfl (by decide +kernel) (Nat.le_of_ble_eq_true rfl) ?_
  intro p e s m args below meth c E hr hlk hnm hsz hC hF ls hl
  subst hsz
  obtain ⟨hx, hb, -⟩ := id E
  have hA : ∀ q, (P) q → N0 ≤ q := hPN
  have hn : ∀ q, s.heap.size ≤ q → (P) q := hPs
  have hS : va_S (P) s.heap s.heap [] := va_S.rf
  have hl : lv_has ls 2 [(0, .ref mo), (1, .int x1)] := hl
  have hM : MI D tk sa P mo tt bb eT eB oT oB pk ca rf vs kn n9 th s.heap := hF
  obtain ⟨ra, rl, ex, ro, rt, fo, fj, fk, fe, fr, fw, ⟨hPm, hPa, hPl, hPe, hPr, hPk⟩, hFk, hFe, hFr, hpk, hn9⟩ := hM
  have g_fo := hPm
  have g_fj := hPa
  refine lv_aload_n (pc := 0) hx hb dX5_say_0 rfl (lv_at hl 0 rfl) ?_
  refine lv_iload_n (pc := 1) hx hb dX5_say_1 rfl (lv_at hl 1 rfl) ?_
  refine lv_ldc (pc := 2) (v := (-99999)) hx hb E.2.2.2.1 (E.2.2.2.2 _ (List.mem_cons_of_mem _ kw_1574)) dX5_say_2 ?_
  refine lv_ldc (pc := 4) (v := 99999) hx hb E.2.2.2.1 (E.2.2.2.2 _ (List.mem_cons_of_mem _ kw_1575)) dX5_say_4 ?_
  refine k_i (pc := 6) (k_S E hC hS hA hl.1 (c_X5_isIn l D tk N0 sa s.heap.size x1 ((-99999)) 99999 ) kw_1248 kw_1249 kw_5 kw_1250 (n := 3) (by decide +kernel) rfl ⟨⟨rfl, rfl⟩, ⟨Nat.le_of_ble_eq_true rfl, Nat.le_of_ble_eq_true rfl⟩, (by dsimp only; omega), (by dsimp only; omega)⟩ rfl (Nat.le_of_ble_eq_true rfl) trivial dX5_say_6) hS (fun q z w => absurd w (Nat.not_le.mpr z)) hn (fun r_1 H locs hR hz hk hS => ?_)
  have er_1 := hR
  have fw := fw.new hk
  have fo := fo.kept (hk _ fo.lt (Nat.not_le.mpr fo.lt))
  have fj := fj.kept (hk _ fj.lt (Nat.not_le.mpr fj.lt))
  have fk := fk.new hk
  have fe := fe.kept (hk _ fe.lt (Nat.not_le.mpr fe.lt))
  have fr := fr.kept (hk _ fr.lt (Nat.not_le.mpr fr.lt))
  refine lv_if_ne (pc := 9) (tgt := 16) hx hb dX5_say_9 (by decide) (fun c_3 => ?_) (fun c_3 => ?_)
  · refine lv_iconst (pc := 16) (v := 0) hx hb dX5_say_16 (by decide) ?_
    refine lv_aload_n (pc := 17) hx hb dX5_say_17 rfl (lv_at hl 0 rfl) ?_
    refine r_get (pc := 18) E hC fo 1 (v := .ref rl) rfl rfl (by decide) uX5 (List.mem_cons_of_mem _ kw_1210) (fun _ h => h) dX5_say_18 ?_
    obtain ⟨md_4, b_4, fz4⟩ := fw.obj
    refine k_i (pc := 21) (k_V E hC hS hA hl.1 (c1.recv hC fz4 rfl) rfl (c_Jx4a65c_size_8abf5 l D tk N0 sa H.size rl b_4 n9 md_4) kw_1546 kw_1547 kw_1548 kw_8 kw_1549 (n := 0) (by decide +kernel) rfl ⟨⟨rfl, rfl⟩, ⟨Nat.le_of_ble_eq_true rfl, Nat.le_of_ble_eq_true rfl⟩, (by dsimp only; omega), (by dsimp only; omega)⟩ rfl (Nat.le_of_ble_eq_true rfl) fz4 dX5_say_21) hS (fun q z w => absurd w (Nat.not_le.mpr z)) hn (fun r_5 H locs hR hz hk hS => ?_)
    have fw := fw.new hk
    have fo := fo.kept (hk _ fo.lt (Nat.not_le.mpr fo.lt))
    have fj := fj.kept (hk _ fj.lt (Nat.not_le.mpr fj.lt))
    have fk := fk.new hk
    have fe := fe.kept (hk _ fe.lt (Nat.not_le.mpr fe.lt))
    have fr := fr.kept (hk _ fr.lt (Nat.not_le.mpr fr.lt))
    have fz4 := fz4.kept (hk _ fz4.lt (Nat.not_le.mpr fz4.lt))
    rw [show r_5 = nI n9 from hR]
    refine lv_bipush (pc := 24) (v := 16) hx hb dX5_say_24 (by decide) ?_
    refine lv_icmp_ne (pc := 26) (tgt := 33) hx hb dX5_say_26 (by decide) (fun c_6 => ?_) (fun c_6 => ?_)
    · refine lv_iconst (pc := 33) (v := 0) hx hb dX5_say_33 (by decide) ?_
      have hZ0_ := hS.1
      have t_fo := fo.lt
      have t_fj := fj.lt
      have t_fk := fun k (hk9 : k < 6) => (fk k hk9).lt
      have t_fe := fe.lt
      have t_fr := fr.lt
      have t_fz4 := fz4.lt
      refine k_i (pc := 34) (k_V E hC hS hA hl.1 (c1.recv hC fo rfl) rfl (c_X5_fails l D tk N0 sa H.size P hPN (fun q h9 => hPs q (Nat.le_trans hS.1 h9)) mo n9 kn th tt bb eT eB oT oB pk ca rf vs 0 0 ) kw_1251 kw_1253 kp_20 kw_5 kw_1254 (n := 2) (by decide +kernel) rfl ⟨⟨rfl, rfl⟩, ⟨Nat.le_of_ble_eq_true rfl, Nat.le_of_ble_eq_true rfl⟩, (by dsimp only; omega), (by dsimp only; omega)⟩ rfl (Nat.le_of_ble_eq_true rfl) ⟨_, _, _, _, _, fo, fj, fk, fe, fr, fw, ⟨hPm, hPa, hPl, hPe, hPr, hPk⟩, hFk, hFe, hFr, hpk, hn9⟩ dX5_say_34) hS (fun q _ h => h) hn (fun r_7 H locs hR hz hk hS => ?_)
      obtain ⟨er_7, hM⟩ := hR
      obtain ⟨ra, rl, ex, ro, rt, fo, fj, fk, fe, fr, fw, ⟨hPm, hPa, hPl, hPe, hPr, hPk⟩, hFk, hFe, hFr, hpk, hn9⟩ := hM
      have g_fo := hPm
      have g_fj := hPa
      have ef_r_7 : r_7 = 0 := er_7.trans rfl
      rw [ef_r_7]
      refine lv_if_eq (pc := 37) (tgt := 42) hx hb dX5_say_37 (by decide) (fun c_8 => ?_) (fun c_8 => ?_)
      rotate_left
      · exact absurd (by decide) c_8
      have hsd := m_said (x := x1) (fun z9 => c_3 (er_1.trans z9))
      have h16 : n9 ≠ 16 := fun z9 => c_6 (by rw [z9]; rfl)
      rcases fw with ⟨h0r, mdr, f0w⟩ | ⟨mdr, br, capr, fnr, hPb, f0w, fRw, elw, hPI, hncr, hmcr⟩
      · subst h0r
        have g_f0w := hPl
        have nW_f0w : ∀ k, k < 6 → rt k ≠ rl := fun k hk9 => clA.ne (fk k hk9).cla f0w.cl (hC.ao 7 0 rfl rfl)
        refine lv_aload_n (pc := 42) hx hb dX5_say_42 rfl (lv_at hl 0 rfl) ?_
        refine r_get (pc := 43) E hC fo 1 (v := .ref rl) rfl rfl (by decide) uX5 (List.mem_cons_of_mem _ kw_1210) (fun _ h => h) dX5_say_43 ?_
        refine lv_iload_n (pc := 46) hx hb dX5_say_46 rfl (lv_at hl 1 rfl) ?_
        have hZ0_ := hS.1
        have t_fo := fo.lt
        have t_fj := fj.lt
        have t_fk := fun k (hk9 : k < 6) => (fk k hk9).lt
        have t_fe := fe.lt
        have t_fr := fr.lt
        have t_f0w := f0w.lt
        refine k_r (pc := 47) (k_S E hC hS hA hl.1 (c_J6_valueOf_2dffe l D tk N0 sa H.size x1) kw_1576 kw_1577 kw_22 kw_1578 (n := 1) (by decide +kernel) rfl ⟨⟨rfl, rfl⟩, ⟨Nat.le_of_ble_eq_true rfl, Nat.le_of_ble_eq_true rfl⟩, (by dsimp only; omega), (by dsimp only; omega)⟩ rfl (Nat.le_of_ble_eq_true rfl) trivial dX5_say_47) hS (fun q z w => absurd w (Nat.not_le.mpr z)) hn (fun r_9 H locs hR hz hk hS => ?_)
        have fo := fo.kept (hk _ fo.lt (Nat.not_le.mpr fo.lt))
        have fj := fj.kept (hk _ fj.lt (Nat.not_le.mpr fj.lt))
        have fk := fk.new hk
        have fe := fe.kept (hk _ fe.lt (Nat.not_le.mpr fe.lt))
        have fr := fr.kept (hk _ fr.lt (Nat.not_le.mpr fr.lt))
        have f0w := f0w.kept (hk _ f0w.lt (Nat.not_le.mpr f0w.lt))
        have f10 := hR
        have hZ0_ := hS.1
        have t_fo := fo.lt
        have t_fj := fj.lt
        have t_fk := fun k (hk9 : k < 6) => (fk k hk9).lt
        have t_fe := fe.lt
        have t_fr := fr.lt
        have t_f0w := f0w.lt
        have t_f10 := f10.lt
        refine k_i (pc := 50) (k_V E hC hS hA hl.1 (c1.recv hC f0w rfl) rfl (c_Jx4a65c_add_9ea2d_E l D tk N0 sa H.size rl r_9 2 mdr (.int x1) vs (hA _ g_f0w) (Or.inr rfl)) kw_1434 kw_1435 kw_1436 kw_8 kw_1437 (n := 1) (by decide +kernel) rfl ⟨⟨rfl, rfl⟩, ⟨Nat.le_of_ble_eq_true rfl, Nat.le_of_ble_eq_true rfl⟩, (by dsimp only; omega), (by dsimp only; omega)⟩ rfl (Nat.le_of_ble_eq_true rfl) ⟨f0w, f10⟩ dX5_say_50) hS (inA1.to g_f0w) hn (fun r_11 H locs hR hz hk hS => ?_)
        have fo := fo.kept (hk _ fo.lt (inA1.not (clA.ne fo.cl f0w.cl (hC.oo 13 7 rfl rfl (by decide))) fo.lt))
        have fj := fj.kept (hk _ fj.lt (inA1.not (clA.ne fj.cla f0w.cl (hC.ao 7 3 rfl rfl)) fj.lt))
        have fk := fk.kept (fun k hk9 => hk _ (fk k hk9).lt (inA1.not (nW_f0w k hk9) (fk k hk9).lt))
        have fe := fe.kept (hk _ fe.lt (inA1.not (clA.ne fe.cla f0w.cl (hC.ao 7 0 rfl rfl)) fe.lt))
        have fr := fr.kept (hk _ fr.lt (inA1.not (clA.ne fr.cla f0w.cl (hC.ao 7 0 rfl rfl)) fr.lt))
        have f10 := f10.kept (hk _ f10.lt (inA1.not (clA.ne f10.cl f0w.cl (hC.oo 2 7 rfl rfl (by decide))) f10.lt))
        obtain ⟨hr9, q12, z9_, f0w, f12, e12⟩ := hR
        have s_f12 : s.heap.size ≤ q12 := Nat.le_trans hZ0_ z9_
        have g_f12 := hn _ s_f12
        have l_fo_f12 : mo < q12 := Nat.lt_of_lt_of_le t_fo z9_
        have l_fj_f12 : ra < q12 := Nat.lt_of_lt_of_le t_fj z9_
        have nW_f12 : ∀ k, k < 6 → rt k ≠ q12 := fun k hk9 => Nat.ne_of_lt (Nat.lt_of_lt_of_le (t_fk k hk9) z9_)
        have l_fe_f12 : ex < q12 := Nat.lt_of_lt_of_le t_fe z9_
        have l_fr_f12 : ro < q12 := Nat.lt_of_lt_of_le t_fr z9_
        have l_f0w_f12 : rl < q12 := Nat.lt_of_lt_of_le t_f0w z9_
        have l_f10_f12 : r_9 < q12 := Nat.lt_of_lt_of_le t_f10 z9_
        rw [hr9]
        refine lv_pop (pc := 53) hx hb dX5_say_53 rfl ?_
        refine lv_aload_n (pc := 54) hx hb dX5_say_54 rfl (lv_at hl 0 rfl) ?_
        refine r_get (pc := 55) E hC fo 1 (v := .ref rl) rfl rfl (by decide) uX5 (List.mem_cons_of_mem _ kw_1210) (fun _ h => h) dX5_say_55 ?_
        refine k_i (pc := 58) (k_V E hC hS hA hl.1 (c1.recv hC f0w rfl) rfl (c_Jx4a65c_size_8abf5 l D tk N0 sa H.size rl q12 1 (mdr + 1)) kw_1546 kw_1547 kw_1548 kw_8 kw_1549 (n := 0) (by decide +kernel) rfl ⟨⟨rfl, rfl⟩, ⟨Nat.le_of_ble_eq_true rfl, Nat.le_of_ble_eq_true rfl⟩, (by dsimp only; omega), (by dsimp only; omega)⟩ rfl (Nat.le_of_ble_eq_true rfl) f0w dX5_say_58) hS (fun q z w => absurd w (Nat.not_le.mpr z)) hn (fun r_13 H locs hR hz hk hS => ?_)
        have fo := fo.kept (hk _ fo.lt (Nat.not_le.mpr fo.lt))
        have fj := fj.kept (hk _ fj.lt (Nat.not_le.mpr fj.lt))
        have fk := fk.new hk
        have fe := fe.kept (hk _ fe.lt (Nat.not_le.mpr fe.lt))
        have fr := fr.kept (hk _ fr.lt (Nat.not_le.mpr fr.lt))
        have f0w := f0w.kept (hk _ f0w.lt (Nat.not_le.mpr f0w.lt))
        have f10 := f10.kept (hk _ f10.lt (Nat.not_le.mpr f10.lt))
        have f12 := f12.kept (hk _ f12.lt (Nat.not_le.mpr f12.lt))
        have e12 := e12.new hk
        rw [show r_13 = nI 1 from hR]
        refine r_iret (pc := 61) E hr hlk hS (by omega) (by omega) ?_ dX5_say_61
        exact ⟨_, _, _, ⟨_, _, _, _, _, fo, fj, fk, fe, fr, (Or.inr ⟨_, _, _, _, (hPs _ s_f12), f0w, f12, e12, (PI.one hsd), (by decide), (Or.inl rfl)⟩), ⟨hPm, hPa, hPl, hPe, hPr, hPk⟩, hFk, hFe, hFr, hpk, (by omega)⟩, Or.inr (Or.inr ⟨fun z9 => c_3 (er_1.trans z9), (by decide), rfl, rfl, rfl⟩), fun _ => rfl, fun z9 => absurd rfl z9⟩
      · have g_f0w := hPl
        have nW_f0w : ∀ k, k < 6 → rt k ≠ rl := fun k hk9 => clA.ne (fk k hk9).cla f0w.cl (hC.ao 7 0 rfl rfl)
        have g_fRw := hPb
        have nW_fRw : ∀ k, k < 6 → rt k ≠ br := fun k hk9 => clA.ne (fk k hk9).cla fRw.cla (hC.aa 0 4 rfl rfl (by dsimp only; decide))
        have hcbr := m_acB hmcr
        refine lv_aload_n (pc := 42) hx hb dX5_say_42 rfl (lv_at hl 0 rfl) ?_
        refine r_get (pc := 43) E hC fo 1 (v := .ref rl) rfl rfl (by decide) uX5 (List.mem_cons_of_mem _ kw_1210) (fun _ h => h) dX5_say_43 ?_
        refine lv_iload_n (pc := 46) hx hb dX5_say_46 rfl (lv_at hl 1 rfl) ?_
        have hZ0_ := hS.1
        have t_fo := fo.lt
        have t_fj := fj.lt
        have t_fk := fun k (hk9 : k < 6) => (fk k hk9).lt
        have t_fe := fe.lt
        have t_fr := fr.lt
        have t_f0w := f0w.lt
        have t_fRw := fRw.lt
        refine k_r (pc := 47) (k_S E hC hS hA hl.1 (c_J6_valueOf_2dffe l D tk N0 sa H.size x1) kw_1576 kw_1577 kw_22 kw_1578 (n := 1) (by decide +kernel) rfl ⟨⟨rfl, rfl⟩, ⟨Nat.le_of_ble_eq_true rfl, Nat.le_of_ble_eq_true rfl⟩, (by dsimp only; omega), (by dsimp only; omega)⟩ rfl (Nat.le_of_ble_eq_true rfl) trivial dX5_say_47) hS (fun q z w => absurd w (Nat.not_le.mpr z)) hn (fun r_14 H locs hR hz hk hS => ?_)
        have fo := fo.kept (hk _ fo.lt (Nat.not_le.mpr fo.lt))
        have fj := fj.kept (hk _ fj.lt (Nat.not_le.mpr fj.lt))
        have fk := fk.new hk
        have fe := fe.kept (hk _ fe.lt (Nat.not_le.mpr fe.lt))
        have fr := fr.kept (hk _ fr.lt (Nat.not_le.mpr fr.lt))
        have f0w := f0w.kept (hk _ f0w.lt (Nat.not_le.mpr f0w.lt))
        have fRw := fRw.kept (hk _ fRw.lt (Nat.not_le.mpr fRw.lt))
        have elw := elw.new hk
        have f15 := hR
        rcases Nat.lt_or_ge n9 capr with hkc | hkc9
        · refine k_i (pc := 50) (k_V E hC hS hA hl.1 (c1.recv hC f0w rfl) rfl (c_Jx4a65c_add_9ea2d l D tk N0 sa H.size rl br n9 capr r_14 2 mdr (.int x1) fnr vs (hA _ g_f0w) (hA _ g_fRw) (Or.inr rfl) hkc (by omega)) kw_1434 kw_1435 kw_1436 kw_8 kw_1437 (n := 1) (by decide +kernel) rfl ⟨⟨rfl, rfl⟩, ⟨Nat.le_of_ble_eq_true rfl, Nat.le_of_ble_eq_true rfl⟩, (by dsimp only; omega), (by dsimp only; omega)⟩ rfl (Nat.le_of_ble_eq_true rfl) ⟨f0w, fRw, elw, f15⟩ dX5_say_50) hS (inA2.to g_f0w g_fRw) hn (fun r_16 H locs hR hz hk hS => ?_)
          have fo := fo.kept (hk _ fo.lt (inA2.not (clA.ne fo.cl f0w.cl (hC.oo 13 7 rfl rfl (by decide))) (clA.ne fo.cl fRw.cla (hC.oa 13 4 rfl rfl)) fo.lt))
          have fj := fj.kept (hk _ fj.lt (inA2.not (clA.ne fj.cla f0w.cl (hC.ao 7 3 rfl rfl)) (clA.ne fj.cla fRw.cla (hC.aa 3 4 rfl rfl (by dsimp only; decide))) fj.lt))
          have fk := fk.kept (fun k hk9 => hk _ (fk k hk9).lt (inA2.not (nW_f0w k hk9) (nW_fRw k hk9) (fk k hk9).lt))
          have fe := fe.kept (hk _ fe.lt (inA2.not (clA.ne fe.cla f0w.cl (hC.ao 7 0 rfl rfl)) (clA.ne fe.cla fRw.cla (hC.aa 0 4 rfl rfl (by dsimp only; decide))) fe.lt))
          have fr := fr.kept (hk _ fr.lt (inA2.not (clA.ne fr.cla f0w.cl (hC.ao 7 0 rfl rfl)) (clA.ne fr.cla fRw.cla (hC.aa 0 4 rfl rfl (by dsimp only; decide))) fr.lt))
          have f15 := f15.kept (hk _ f15.lt (inA2.not (clA.ne f15.cl f0w.cl (hC.oo 2 7 rfl rfl (by decide))) (clA.ne f15.cl fRw.cla (hC.oa 2 4 rfl rfl)) f15.lt))
          obtain ⟨hr9, f0w, fRw, elw⟩ := hR
          rw [hr9]
          refine lv_pop (pc := 53) hx hb dX5_say_53 rfl ?_
          refine lv_aload_n (pc := 54) hx hb dX5_say_54 rfl (lv_at hl 0 rfl) ?_
          refine r_get (pc := 55) E hC fo 1 (v := .ref rl) rfl rfl (by decide) uX5 (List.mem_cons_of_mem _ kw_1210) (fun _ h => h) dX5_say_55 ?_
          refine k_i (pc := 58) (k_V E hC hS hA hl.1 (c1.recv hC f0w rfl) rfl (c_Jx4a65c_size_8abf5 l D tk N0 sa H.size rl br (n9 + 1) (mdr + 1)) kw_1546 kw_1547 kw_1548 kw_8 kw_1549 (n := 0) (by decide +kernel) rfl ⟨⟨rfl, rfl⟩, ⟨Nat.le_of_ble_eq_true rfl, Nat.le_of_ble_eq_true rfl⟩, (by dsimp only; omega), (by dsimp only; omega)⟩ rfl (Nat.le_of_ble_eq_true rfl) f0w dX5_say_58) hS (fun q z w => absurd w (Nat.not_le.mpr z)) hn (fun r_17 H locs hR hz hk hS => ?_)
          have fo := fo.kept (hk _ fo.lt (Nat.not_le.mpr fo.lt))
          have fj := fj.kept (hk _ fj.lt (Nat.not_le.mpr fj.lt))
          have fk := fk.new hk
          have fe := fe.kept (hk _ fe.lt (Nat.not_le.mpr fe.lt))
          have fr := fr.kept (hk _ fr.lt (Nat.not_le.mpr fr.lt))
          have f0w := f0w.kept (hk _ f0w.lt (Nat.not_le.mpr f0w.lt))
          have fRw := fRw.kept (hk _ fRw.lt (Nat.not_le.mpr fRw.lt))
          have f15 := f15.kept (hk _ f15.lt (Nat.not_le.mpr f15.lt))
          have elw := elw.new hk
          rw [show r_17 = nI (n9 + 1) from hR]
          refine r_iret (pc := 61) E hr hlk hS (by omega) (by omega) ?_ dX5_say_61
          exact ⟨_, _, _, ⟨_, _, _, _, _, fo, fj, fk, fe, fr, (Or.inr ⟨_, _, _, _, hPb, f0w, fRw, elw, (hPI.add hsd), (by omega), hmcr⟩), ⟨hPm, hPa, hPl, hPe, hPr, hPk⟩, hFk, hFe, hFr, hpk, (by omega)⟩, Or.inr (Or.inr ⟨fun z9 => c_3 (er_1.trans z9), (fun z9 => c_6 (by rw [z9]; rfl)), rfl, rfl, rfl⟩), fun _ => rfl, fun z9 => absurd rfl z9⟩
        · have hkc : capr = n9 := by omega
          have fRw := fRw.ofcap hkc
          have hgr := m_grow (c9 := n9) (by rw [← hkc]; exact hmcr) (by omega)
          have hgb := m_acB hgr.1
          have hZ0_ := hS.1
          have t_fo := fo.lt
          have t_fj := fj.lt
          have t_fk := fun k (hk9 : k < 6) => (fk k hk9).lt
          have t_fe := fe.lt
          have t_fr := fr.lt
          have t_f0w := f0w.lt
          have t_fRw := fRw.lt
          have t_f15 := f15.lt
          refine k_i (pc := 50) (k_V E hC hS hA hl.1 (c1.recv hC f0w rfl) rfl (c_Jx4a65c_add_9ea2d_G l D tk N0 sa H.size rl br n9 r_14 2 mdr (.int x1) fnr vs (hA _ g_f0w) (Or.inr rfl) (by omega) (by omega)) kw_1434 kw_1435 kw_1436 kw_8 kw_1437 (n := 1) (by decide +kernel) rfl ⟨⟨rfl, rfl⟩, ⟨Nat.le_of_ble_eq_true rfl, Nat.le_of_ble_eq_true rfl⟩, (by dsimp only; omega), (by dsimp only; omega)⟩ rfl (Nat.le_of_ble_eq_true rfl) ⟨f0w, fRw, elw, f15⟩ dX5_say_50) hS (inA1.to g_f0w) hn (fun r_18 H locs hR hz hk hS => ?_)
          have fo := fo.kept (hk _ fo.lt (inA1.not (clA.ne fo.cl f0w.cl (hC.oo 13 7 rfl rfl (by decide))) fo.lt))
          have fj := fj.kept (hk _ fj.lt (inA1.not (clA.ne fj.cla f0w.cl (hC.ao 7 3 rfl rfl)) fj.lt))
          have fk := fk.kept (fun k hk9 => hk _ (fk k hk9).lt (inA1.not (nW_f0w k hk9) (fk k hk9).lt))
          have fe := fe.kept (hk _ fe.lt (inA1.not (clA.ne fe.cla f0w.cl (hC.ao 7 0 rfl rfl)) fe.lt))
          have fr := fr.kept (hk _ fr.lt (inA1.not (clA.ne fr.cla f0w.cl (hC.ao 7 0 rfl rfl)) fr.lt))
          have fRw := fRw.kept (hk _ fRw.lt (inA1.not (clA.ne fRw.cla f0w.cl (hC.ao 7 4 rfl rfl)) fRw.lt))
          have f15 := f15.kept (hk _ f15.lt (inA1.not (clA.ne f15.cl f0w.cl (hC.oo 2 7 rfl rfl (by decide))) f15.lt))
          obtain ⟨hr9, q19, f_19, z9_, f0w, f19, elw⟩ := hR
          have s_f19 : s.heap.size ≤ q19 := Nat.le_trans hZ0_ z9_
          have g_f19 := hn _ s_f19
          have l_fo_f19 : mo < q19 := Nat.lt_of_lt_of_le t_fo z9_
          have l_fj_f19 : ra < q19 := Nat.lt_of_lt_of_le t_fj z9_
          have nW_f19 : ∀ k, k < 6 → rt k ≠ q19 := fun k hk9 => Nat.ne_of_lt (Nat.lt_of_lt_of_le (t_fk k hk9) z9_)
          have l_fe_f19 : ex < q19 := Nat.lt_of_lt_of_le t_fe z9_
          have l_fr_f19 : ro < q19 := Nat.lt_of_lt_of_le t_fr z9_
          have l_f0w_f19 : rl < q19 := Nat.lt_of_lt_of_le t_f0w z9_
          have l_fRw_f19 : br < q19 := Nat.lt_of_lt_of_le t_fRw z9_
          have l_f15_f19 : r_14 < q19 := Nat.lt_of_lt_of_le t_f15 z9_
          rw [hr9]
          refine lv_pop (pc := 53) hx hb dX5_say_53 rfl ?_
          refine lv_aload_n (pc := 54) hx hb dX5_say_54 rfl (lv_at hl 0 rfl) ?_
          refine r_get (pc := 55) E hC fo 1 (v := .ref rl) rfl rfl (by decide) uX5 (List.mem_cons_of_mem _ kw_1210) (fun _ h => h) dX5_say_55 ?_
          refine k_i (pc := 58) (k_V E hC hS hA hl.1 (c1.recv hC f0w rfl) rfl (c_Jx4a65c_size_8abf5 l D tk N0 sa H.size rl q19 (n9 + 1) (mdr + 1)) kw_1546 kw_1547 kw_1548 kw_8 kw_1549 (n := 0) (by decide +kernel) rfl ⟨⟨rfl, rfl⟩, ⟨Nat.le_of_ble_eq_true rfl, Nat.le_of_ble_eq_true rfl⟩, (by dsimp only; omega), (by dsimp only; omega)⟩ rfl (Nat.le_of_ble_eq_true rfl) f0w dX5_say_58) hS (fun q z w => absurd w (Nat.not_le.mpr z)) hn (fun r_20 H locs hR hz hk hS => ?_)
          have fo := fo.kept (hk _ fo.lt (Nat.not_le.mpr fo.lt))
          have fj := fj.kept (hk _ fj.lt (Nat.not_le.mpr fj.lt))
          have fk := fk.new hk
          have fe := fe.kept (hk _ fe.lt (Nat.not_le.mpr fe.lt))
          have fr := fr.kept (hk _ fr.lt (Nat.not_le.mpr fr.lt))
          have f0w := f0w.kept (hk _ f0w.lt (Nat.not_le.mpr f0w.lt))
          have fRw := fRw.kept (hk _ fRw.lt (Nat.not_le.mpr fRw.lt))
          have f15 := f15.kept (hk _ f15.lt (Nat.not_le.mpr f15.lt))
          have f19 := f19.kept (hk _ f19.lt (Nat.not_le.mpr f19.lt))
          have elw := elw.new hk
          rw [show r_20 = nI (n9 + 1) from hR]
          refine r_iret (pc := 61) E hr hlk hS (by omega) (by omega) ?_ dX5_say_61
          exact ⟨_, _, _, ⟨_, _, _, _, _, fo, fj, fk, fe, fr, (Or.inr ⟨_, _, _, _, (hPs _ s_f19), f0w, f19, elw, (hPI.add hsd), (by omega), hgr.1⟩), ⟨hPm, hPa, hPl, hPe, hPr, hPk⟩, hFk, hFe, hFr, hpk, (by omega)⟩, Or.inr (Or.inr ⟨fun z9 => c_3 (er_1.trans z9), (fun z9 => c_6 (by rw [z9]; rfl)), rfl, rfl, rfl⟩), fun _ => rfl, fun z9 => absurd rfl z9⟩
    · refine lv_iconst (pc := 29) (v := 1) hx hb dX5_say_29 (by decide) ?_
      refine lv_goto (pc := 30) (tgt := 34) hx hb dX5_say_30 (by decide) ?_
      have hZ0_ := hS.1
      have t_fo := fo.lt
      have t_fj := fj.lt
      have t_fk := fun k (hk9 : k < 6) => (fk k hk9).lt
      have t_fe := fe.lt
      have t_fr := fr.lt
      have t_fz4 := fz4.lt
      refine k_i (pc := 34) (k_V E hC hS hA hl.1 (c1.recv hC fo rfl) rfl (c_X5_fails l D tk N0 sa H.size P hPN (fun q h9 => hPs q (Nat.le_trans hS.1 h9)) mo n9 kn th tt bb eT eB oT oB pk ca rf vs 0 1 ) kw_1251 kw_1253 kp_20 kw_5 kw_1254 (n := 2) (by decide +kernel) rfl ⟨⟨rfl, rfl⟩, ⟨Nat.le_of_ble_eq_true rfl, Nat.le_of_ble_eq_true rfl⟩, (by dsimp only; omega), (by dsimp only; omega)⟩ rfl (Nat.le_of_ble_eq_true rfl) ⟨_, _, _, _, _, fo, fj, fk, fe, fr, fw, ⟨hPm, hPa, hPl, hPe, hPr, hPk⟩, hFk, hFe, hFr, hpk, hn9⟩ dX5_say_34) hS (fun q _ h => h) hn (fun r_21 H locs hR hz hk hS => ?_)
      obtain ⟨er_21, hM⟩ := hR
      obtain ⟨ra, rl, ex, ro, rt, fo, fj, fk, fe, fr, fw, ⟨hPm, hPa, hPl, hPe, hPr, hPk⟩, hFk, hFe, hFr, hpk, hn9⟩ := hM
      have g_fo := hPm
      have g_fj := hPa
      have ef_r_21 : r_21 = 1 := er_21.trans (m_fl1 _)
      rw [ef_r_21]
      refine lv_if_eq (pc := 37) (tgt := 42) hx hb dX5_say_37 (by decide) (fun c_22 => ?_) (fun c_22 => ?_)
      · exact absurd c_22 (by decide)
      refine lv_iconst (pc := 40) (v := 0) hx hb dX5_say_40 (by decide) ?_
      refine r_iret (pc := 41) E hr hlk hS (by omega) (by omega) ?_ dX5_say_41
      exact ⟨_, _, _, ⟨_, _, _, _, _, fo, fj, fk, fe, fr, fw, ⟨hPm, hPa, hPl, hPe, hPr, hPk⟩, hFk, hFe, hFr, hpk, hn9⟩, Or.inr (Or.inl ⟨fun z9 => c_3 (er_1.trans z9), (nI_eq (by omega) (by decide)).mp c_6, rfl, rfl, rfl⟩), fun z9 => absurd z9 (by decide), fun _ => rfl⟩
  · refine lv_iconst (pc := 12) (v := 1) hx hb dX5_say_12 (by decide) ?_
    refine lv_goto (pc := 13) (tgt := 17) hx hb dX5_say_13 (by decide) ?_
    refine lv_aload_n (pc := 17) hx hb dX5_say_17 rfl (lv_at hl 0 rfl) ?_
    refine r_get (pc := 18) E hC fo 1 (v := .ref rl) rfl rfl (by decide) uX5 (List.mem_cons_of_mem _ kw_1210) (fun _ h => h) dX5_say_18 ?_
    obtain ⟨md_23, b_23, fz23⟩ := fw.obj
    refine k_i (pc := 21) (k_V E hC hS hA hl.1 (c1.recv hC fz23 rfl) rfl (c_Jx4a65c_size_8abf5 l D tk N0 sa H.size rl b_23 n9 md_23) kw_1546 kw_1547 kw_1548 kw_8 kw_1549 (n := 0) (by decide +kernel) rfl ⟨⟨rfl, rfl⟩, ⟨Nat.le_of_ble_eq_true rfl, Nat.le_of_ble_eq_true rfl⟩, (by dsimp only; omega), (by dsimp only; omega)⟩ rfl (Nat.le_of_ble_eq_true rfl) fz23 dX5_say_21) hS (fun q z w => absurd w (Nat.not_le.mpr z)) hn (fun r_24 H locs hR hz hk hS => ?_)
    have fw := fw.new hk
    have fo := fo.kept (hk _ fo.lt (Nat.not_le.mpr fo.lt))
    have fj := fj.kept (hk _ fj.lt (Nat.not_le.mpr fj.lt))
    have fk := fk.new hk
    have fe := fe.kept (hk _ fe.lt (Nat.not_le.mpr fe.lt))
    have fr := fr.kept (hk _ fr.lt (Nat.not_le.mpr fr.lt))
    have fz23 := fz23.kept (hk _ fz23.lt (Nat.not_le.mpr fz23.lt))
    rw [show r_24 = nI n9 from hR]
    refine lv_bipush (pc := 24) (v := 16) hx hb dX5_say_24 (by decide) ?_
    refine lv_icmp_ne (pc := 26) (tgt := 33) hx hb dX5_say_26 (by decide) (fun c_25 => ?_) (fun c_25 => ?_)
    · refine lv_iconst (pc := 33) (v := 0) hx hb dX5_say_33 (by decide) ?_
      have hZ0_ := hS.1
      have t_fo := fo.lt
      have t_fj := fj.lt
      have t_fk := fun k (hk9 : k < 6) => (fk k hk9).lt
      have t_fe := fe.lt
      have t_fr := fr.lt
      have t_fz23 := fz23.lt
      refine k_i (pc := 34) (k_V E hC hS hA hl.1 (c1.recv hC fo rfl) rfl (c_X5_fails l D tk N0 sa H.size P hPN (fun q h9 => hPs q (Nat.le_trans hS.1 h9)) mo n9 kn th tt bb eT eB oT oB pk ca rf vs 1 0 ) kw_1251 kw_1253 kp_20 kw_5 kw_1254 (n := 2) (by decide +kernel) rfl ⟨⟨rfl, rfl⟩, ⟨Nat.le_of_ble_eq_true rfl, Nat.le_of_ble_eq_true rfl⟩, (by dsimp only; omega), (by dsimp only; omega)⟩ rfl (Nat.le_of_ble_eq_true rfl) ⟨_, _, _, _, _, fo, fj, fk, fe, fr, fw, ⟨hPm, hPa, hPl, hPe, hPr, hPk⟩, hFk, hFe, hFr, hpk, hn9⟩ dX5_say_34) hS (fun q _ h => h) hn (fun r_26 H locs hR hz hk hS => ?_)
      obtain ⟨er_26, hM⟩ := hR
      obtain ⟨ra, rl, ex, ro, rt, fo, fj, fk, fe, fr, fw, ⟨hPm, hPa, hPl, hPe, hPr, hPk⟩, hFk, hFe, hFr, hpk, hn9⟩ := hM
      have g_fo := hPm
      have g_fj := hPa
      have ef_r_26 : r_26 = 1 := er_26.trans (if_neg (by decide))
      rw [ef_r_26]
      refine lv_if_eq (pc := 37) (tgt := 42) hx hb dX5_say_37 (by decide) (fun c_27 => ?_) (fun c_27 => ?_)
      · exact absurd c_27 (by decide)
      refine lv_iconst (pc := 40) (v := 0) hx hb dX5_say_40 (by decide) ?_
      refine r_iret (pc := 41) E hr hlk hS (by omega) (by omega) ?_ dX5_say_41
      exact ⟨_, _, _, ⟨_, _, _, _, _, fo, fj, fk, fe, fr, fw, ⟨hPm, hPa, hPl, hPe, hPr, hPk⟩, hFk, hFe, hFr, hpk, hn9⟩, Or.inl ⟨er_1.symm.trans c_3, rfl, rfl, rfl⟩, fun z9 => absurd z9 (by decide), fun _ => rfl⟩
    · refine lv_iconst (pc := 29) (v := 1) hx hb dX5_say_29 (by decide) ?_
      refine lv_goto (pc := 30) (tgt := 34) hx hb dX5_say_30 (by decide) ?_
      have hZ0_ := hS.1
      have t_fo := fo.lt
      have t_fj := fj.lt
      have t_fk := fun k (hk9 : k < 6) => (fk k hk9).lt
      have t_fe := fe.lt
      have t_fr := fr.lt
      have t_fz23 := fz23.lt
      refine k_i (pc := 34) (k_V E hC hS hA hl.1 (c1.recv hC fo rfl) rfl (c_X5_fails l D tk N0 sa H.size P hPN (fun q h9 => hPs q (Nat.le_trans hS.1 h9)) mo n9 kn th tt bb eT eB oT oB pk ca rf vs 1 1 ) kw_1251 kw_1253 kp_20 kw_5 kw_1254 (n := 2) (by decide +kernel) rfl ⟨⟨rfl, rfl⟩, ⟨Nat.le_of_ble_eq_true rfl, Nat.le_of_ble_eq_true rfl⟩, (by dsimp only; omega), (by dsimp only; omega)⟩ rfl (Nat.le_of_ble_eq_true rfl) ⟨_, _, _, _, _, fo, fj, fk, fe, fr, fw, ⟨hPm, hPa, hPl, hPe, hPr, hPk⟩, hFk, hFe, hFr, hpk, hn9⟩ dX5_say_34) hS (fun q _ h => h) hn (fun r_28 H locs hR hz hk hS => ?_)
      obtain ⟨er_28, hM⟩ := hR
      obtain ⟨ra, rl, ex, ro, rt, fo, fj, fk, fe, fr, fw, ⟨hPm, hPa, hPl, hPe, hPr, hPk⟩, hFk, hFe, hFr, hpk, hn9⟩ := hM
      have g_fo := hPm
      have g_fj := hPa
      have ef_r_28 : r_28 = 1 := er_28.trans (if_neg (by decide))
      rw [ef_r_28]
      refine lv_if_eq (pc := 37) (tgt := 42) hx hb dX5_say_37 (by decide) (fun c_29 => ?_) (fun c_29 => ?_)
      · exact absurd c_29 (by decide)
      refine lv_iconst (pc := 40) (v := 0) hx hb dX5_say_40 (by decide) ?_
      refine r_iret (pc := 41) E hr hlk hS (by omega) (by omega) ?_ dX5_say_41
      exact ⟨_, _, _, ⟨_, _, _, _, _, fo, fj, fk, fe, fr, fw, ⟨hPm, hPa, hPl, hPe, hPr, hPk⟩, hFk, hFe, hFr, hpk, hn9⟩, Or.inl ⟨er_1.symm.trans c_3, rfl, rfl, rfl⟩, fun z9 => absurd z9 (by decide), fun _ => rfl⟩
set_option maxHeartbeats 4000000 in
set_option maxRecDepth 100000 in
/-- BestratiosModel.unsay(I)I -/
theorem c_X5_unsay (l : Launch) (D : va_G) (tk : Nat → ClassId) (N0 : Nat) (sa : Nat → Nat)  (sz : Nat) (P : Nat → Prop) (hPN : ∀ q, P q → N0 ≤ q) (hPs : ∀ q, sz ≤ q → P q) (mo n9 : Nat) (kn th : Int32) (tt bb : Nat → Int64) (eT eB oT oB : Int64) (pk : Nat) (ca rf : Int32) (vs : Nat → Value) (x1 : Int32) : Met l yX5_unsay (wsy yX5_unsay cX5_unsay 3 (some .int)) ({ frames := 3, cells := 0, slots := 0, locals := 66 } : Room) (cP D tk N0 sa [.ref mo, .int x1] sz (fun H => MI D tk sa P mo tt bb eT eB oT oB pk ca rf vs kn n9 th H)) (kQi (fun r H => ∃ n1 th1, MI D tk sa P mo tt bb eT eB oT oB pk ca rf vs kn n1 th1 H ∧ m_uns x1 n9 r n1 th1) (P)) (0) (0) (P) := by
  refine mStart RX5 rfl (by decide +kernel) (Nat.le_of_ble_eq_true rfl) ?_
  intro p e s m args below meth c E hr hlk hnm hsz hC hF ls hl
  subst hsz
  obtain ⟨hx, hb, -⟩ := id E
  have hA : ∀ q, (P) q → N0 ≤ q := hPN
  have hn : ∀ q, s.heap.size ≤ q → (P) q := hPs
  have hS : va_S (P) s.heap s.heap [] := va_S.rf
  have hl : lv_has ls 3 [(0, .ref mo), (1, .int x1)] := hl
  obtain ⟨Q, hQ⟩ : ∃ Q, Q = MQ below (kQi (fun r H => ∃ n1 th1, MI D tk sa P mo tt bb eT eB oT oB pk ca rf vs kn n1 th1 H ∧ m_uns x1 n9 r n1 th1) (P)) args s (0) (0) (P) := ⟨_, rfl⟩
  rw [← hQ]
  have hM : MI D tk sa P mo tt bb eT eB oT oB pk ca rf vs kn n9 th s.heap := hF
  obtain ⟨ra, rl, ex, ro, rt, fo, fj, fk, fe, fr, fw, ⟨hPm, hPa, hPl, hPe, hPr, hPk⟩, hFk, hFe, hFr, hpk, hn9⟩ := hM
  have g_fo := hPm
  have g_fj := hPa
  refine lv_aload_n (pc := 0) hx hb dX5_unsay_0 rfl (lv_at hl 0 rfl) ?_
  refine lv_iload_n (pc := 1) hx hb dX5_unsay_1 rfl (lv_at hl 1 rfl) ?_
  refine lv_iconst (pc := 2) (v := 0) hx hb dX5_unsay_2 (by decide) ?_
  refine lv_bipush (pc := 3) (v := 16) hx hb dX5_unsay_3 (by decide) ?_
  refine k_i (pc := 5) (k_S E hC hS hA hl.1 (c_X5_isIn l D tk N0 sa s.heap.size x1 0 16 ) kw_1248 kw_1249 kw_5 kw_1250 (n := 3) (by decide +kernel) rfl ⟨⟨rfl, rfl⟩, ⟨Nat.le_of_ble_eq_true rfl, Nat.le_of_ble_eq_true rfl⟩, (by dsimp only; omega), (by dsimp only; omega)⟩ rfl (Nat.le_of_ble_eq_true rfl) trivial dX5_unsay_5) hS (fun q z w => absurd w (Nat.not_le.mpr z)) hn (fun r_1 H locs hR hz hk hS => ?_)
  have er_1 := hR
  have fw := fw.new hk
  have fo := fo.kept (hk _ fo.lt (Nat.not_le.mpr fo.lt))
  have fj := fj.kept (hk _ fj.lt (Nat.not_le.mpr fj.lt))
  have fk := fk.new hk
  have fe := fe.kept (hk _ fe.lt (Nat.not_le.mpr fe.lt))
  have fr := fr.kept (hk _ fr.lt (Nat.not_le.mpr fr.lt))
  refine lv_if_ne (pc := 8) (tgt := 15) hx hb dX5_unsay_8 (by decide) (fun c_3 => ?_) (fun c_3 => ?_)
  · refine lv_iconst (pc := 15) (v := 0) hx hb dX5_unsay_15 (by decide) ?_
    refine lv_iconst (pc := 16) (v := 0) hx hb dX5_unsay_16 (by decide) ?_
    have hZ0_ := hS.1
    have t_fo := fo.lt
    have t_fj := fj.lt
    have t_fk := fun k (hk9 : k < 6) => (fk k hk9).lt
    have t_fe := fe.lt
    have t_fr := fr.lt
    refine k_i (pc := 17) (k_V E hC hS hA hl.1 (c1.recv hC fo rfl) rfl (c_X5_fails l D tk N0 sa H.size P hPN (fun q h9 => hPs q (Nat.le_trans hS.1 h9)) mo n9 kn th tt bb eT eB oT oB pk ca rf vs 0 0 ) kw_1251 kw_1253 kp_20 kw_5 kw_1254 (n := 2) (by decide +kernel) rfl ⟨⟨rfl, rfl⟩, ⟨Nat.le_of_ble_eq_true rfl, Nat.le_of_ble_eq_true rfl⟩, (by dsimp only; omega), (by dsimp only; omega)⟩ rfl (Nat.le_of_ble_eq_true rfl) ⟨_, _, _, _, _, fo, fj, fk, fe, fr, fw, ⟨hPm, hPa, hPl, hPe, hPr, hPk⟩, hFk, hFe, hFr, hpk, hn9⟩ dX5_unsay_17) hS (fun q _ h => h) hn (fun r_4 H locs hR hz hk hS => ?_)
    obtain ⟨er_4, hM⟩ := hR
    obtain ⟨ra, rl, ex, ro, rt, fo, fj, fk, fe, fr, fw, ⟨hPm, hPa, hPl, hPe, hPr, hPk⟩, hFk, hFe, hFr, hpk, hn9⟩ := hM
    have g_fo := hPm
    have g_fj := hPa
    have ef_r_4 : r_4 = 0 := er_4.trans rfl
    rw [ef_r_4]
    refine lv_if_eq (pc := 20) (tgt := 25) hx hb dX5_unsay_20 (by decide) (fun c_5 => ?_) (fun c_5 => ?_)
    rotate_left
    · exact absurd (by decide) c_5
    obtain ⟨km, hkm1, hkm2⟩ := m_in (x := x1) (hi_ := 16) (by decide) (fun z9 => c_3 (er_1.trans z9))
    rcases Nat.eq_zero_or_pos n9 with h0r | h0r
    · subst h0r
      obtain ⟨mdr, br, f0w⟩ := fw.obj
      refine lv_iconst (pc := 25) (v := 0) hx hb dX5_unsay_25 (by decide) ?_
      refine lv_istore_n (pc := 26) (lv' := [(2, .int 0), (0, .ref mo), (1, .int x1)]) hx hb dX5_unsay_26 rfl hl (by decide) rfl (fun ls hl => ?_)
      refine lv_iload_n (pc := 27) hx hb dX5_unsay_27 rfl (lv_at hl 0 rfl) ?_
      refine lv_iload_n (pc := 28) hx hb dX5_unsay_28 rfl (lv_at hl 2 rfl) ?_
      refine lv_icmp_ge (pc := 29) (tgt := 65) hx hb dX5_unsay_29 (by decide) (fun c_6 => ?_) (fun c_6 => ?_)
      · refine lv_aload_n (pc := 65) hx hb dX5_unsay_65 rfl (lv_at hl 1 rfl) ?_
        refine r_get (pc := 66) E hC fo 1 (v := .ref rl) rfl rfl (by decide) uX5 (List.mem_cons_of_mem _ kw_1210) (fun _ h => h) dX5_unsay_66 ?_
        obtain ⟨md_7, b_7, fz7⟩ := fw.obj
        refine k_i (pc := 69) (k_V E hC hS hA hl.1 (c1.recv hC fz7 rfl) rfl (c_Jx4a65c_size_8abf5 l D tk N0 sa H.size rl b_7 0 md_7) kw_1546 kw_1547 kw_1548 kw_8 kw_1549 (n := 0) (by decide +kernel) rfl ⟨⟨rfl, rfl⟩, ⟨Nat.le_of_ble_eq_true rfl, Nat.le_of_ble_eq_true rfl⟩, (by dsimp only; omega), (by dsimp only; omega)⟩ rfl (Nat.le_of_ble_eq_true rfl) (by exact fz7) dX5_unsay_69) hS (fun q z w => absurd w (Nat.not_le.mpr z)) hn (fun r_8 H locs hR hz hk hS => ?_)
        have fw := fw.new hk
        have fo := fo.kept (hk _ fo.lt (Nat.not_le.mpr fo.lt))
        have fj := fj.kept (hk _ fj.lt (Nat.not_le.mpr fj.lt))
        have fk := fk.new hk
        have fe := fe.kept (hk _ fe.lt (Nat.not_le.mpr fe.lt))
        have fr := fr.kept (hk _ fr.lt (Nat.not_le.mpr fr.lt))
        have f0w := f0w.kept (hk _ f0w.lt (Nat.not_le.mpr f0w.lt))
        have fz7 := fz7.kept (hk _ fz7.lt (Nat.not_le.mpr fz7.lt))
        rw [show r_8 = 0 from hR.trans nI_0]
        try rw [hQ]
        refine r_iret (pc := 72) E hr hlk hS (by omega) (by omega) ?_ dX5_unsay_72
        exact ⟨_, _, ⟨_, _, _, _, _, fo, fj, fk, fe, fr, fw, ⟨hPm, hPa, hPl, hPe, hPr, hPk⟩, hFk, hFe, hFr, hpk, hn9⟩, Or.inr ⟨km, hkm1, hkm2, nI_0.symm, by omega, rfl⟩⟩
      · refine lv_aload_n (pc := 32) hx hb dX5_unsay_32 rfl (lv_at hl 1 rfl) ?_
        refine r_get (pc := 33) E hC fo 1 (v := .ref rl) rfl rfl (by decide) uX5 (List.mem_cons_of_mem _ kw_1210) (fun _ h => h) dX5_unsay_33 ?_
        obtain ⟨md_9, b_9, fz9⟩ := fw.obj
        refine k_i (pc := 36) (k_V E hC hS hA hl.1 (c1.recv hC fz9 rfl) rfl (c_Jx4a65c_size_8abf5 l D tk N0 sa H.size rl b_9 0 md_9) kw_1546 kw_1547 kw_1548 kw_8 kw_1549 (n := 0) (by decide +kernel) rfl ⟨⟨rfl, rfl⟩, ⟨Nat.le_of_ble_eq_true rfl, Nat.le_of_ble_eq_true rfl⟩, (by dsimp only; omega), (by dsimp only; omega)⟩ rfl (Nat.le_of_ble_eq_true rfl) (by exact fz9) dX5_unsay_36) hS (fun q z w => absurd w (Nat.not_le.mpr z)) hn (fun r_10 H locs hR hz hk hS => ?_)
        have fw := fw.new hk
        have fo := fo.kept (hk _ fo.lt (Nat.not_le.mpr fo.lt))
        have fj := fj.kept (hk _ fj.lt (Nat.not_le.mpr fj.lt))
        have fk := fk.new hk
        have fe := fe.kept (hk _ fe.lt (Nat.not_le.mpr fe.lt))
        have fr := fr.kept (hk _ fr.lt (Nat.not_le.mpr fr.lt))
        have f0w := f0w.kept (hk _ f0w.lt (Nat.not_le.mpr f0w.lt))
        have fz9 := fz9.kept (hk _ fz9.lt (Nat.not_le.mpr fz9.lt))
        rw [show r_10 = 0 from hR.trans nI_0]
        refine lv_if_le (pc := 39) (tgt := 65) hx hb dX5_unsay_39 (by decide) (fun c_11 => ?_) (fun c_11 => ?_)
        rotate_left
        · exact absurd (by decide) c_11
        refine lv_aload_n (pc := 65) hx hb dX5_unsay_65 rfl (lv_at hl 1 rfl) ?_
        refine r_get (pc := 66) E hC fo 1 (v := .ref rl) rfl rfl (by decide) uX5 (List.mem_cons_of_mem _ kw_1210) (fun _ h => h) dX5_unsay_66 ?_
        obtain ⟨md_12, b_12, fz12⟩ := fw.obj
        refine k_i (pc := 69) (k_V E hC hS hA hl.1 (c1.recv hC fz12 rfl) rfl (c_Jx4a65c_size_8abf5 l D tk N0 sa H.size rl b_12 0 md_12) kw_1546 kw_1547 kw_1548 kw_8 kw_1549 (n := 0) (by decide +kernel) rfl ⟨⟨rfl, rfl⟩, ⟨Nat.le_of_ble_eq_true rfl, Nat.le_of_ble_eq_true rfl⟩, (by dsimp only; omega), (by dsimp only; omega)⟩ rfl (Nat.le_of_ble_eq_true rfl) (by exact fz12) dX5_unsay_69) hS (fun q z w => absurd w (Nat.not_le.mpr z)) hn (fun r_13 H locs hR hz hk hS => ?_)
        have fw := fw.new hk
        have fo := fo.kept (hk _ fo.lt (Nat.not_le.mpr fo.lt))
        have fj := fj.kept (hk _ fj.lt (Nat.not_le.mpr fj.lt))
        have fk := fk.new hk
        have fe := fe.kept (hk _ fe.lt (Nat.not_le.mpr fe.lt))
        have fr := fr.kept (hk _ fr.lt (Nat.not_le.mpr fr.lt))
        have f0w := f0w.kept (hk _ f0w.lt (Nat.not_le.mpr f0w.lt))
        have fz9 := fz9.kept (hk _ fz9.lt (Nat.not_le.mpr fz9.lt))
        have fz12 := fz12.kept (hk _ fz12.lt (Nat.not_le.mpr fz12.lt))
        rw [show r_13 = 0 from hR.trans nI_0]
        try rw [hQ]
        refine r_iret (pc := 72) E hr hlk hS (by omega) (by omega) ?_ dX5_unsay_72
        exact ⟨_, _, ⟨_, _, _, _, _, fo, fj, fk, fe, fr, fw, ⟨hPm, hPa, hPl, hPe, hPr, hPk⟩, hFk, hFe, hFr, hpk, hn9⟩, Or.inr ⟨km, hkm1, hkm2, nI_0.symm, by omega, rfl⟩⟩
    · rcases fw with ⟨h1r, -⟩ | ⟨mdr, br, capr, fnr, hPb, f0w, fRw, elw, hPI, hncr, hmcr⟩
      · exact absurd h1r (by omega)
      have g_f0w := hPl
      have nW_f0w : ∀ k, k < 6 → rt k ≠ rl := fun k hk9 => clA.ne (fk k hk9).cla f0w.cl (hC.ao 7 0 rfl rfl)
      have g_fRw := hPb
      have nW_fRw : ∀ k, k < 6 → rt k ≠ br := fun k hk9 => clA.ne (fk k hk9).cla fRw.cla (hC.aa 0 4 rfl rfl (by dsimp only; decide))
      have hcbr := m_acB hmcr
      refine lv_iconst (pc := 25) (v := 0) hx hb dX5_unsay_25 (by decide) ?_
      refine lv_istore_n (pc := 26) (lv' := [(2, .int 0), (0, .ref mo), (1, .int x1)]) hx hb dX5_unsay_26 rfl hl (by decide) rfl (fun ls hl => ?_)
      have loop_27 : ∀ (n : Nat) (k : Nat) (j : Nat) (mdq : Int32) (fnq : Nat → Option Nat)(y9 : Int32), 17 - k < n → k + j = n9 → y9 = nI k → k ≤ km → ∀ (H : Heap) (locs : List Loc) (ls : Array Slot), va_S (P) s.heap H locs → c1 D mo (.inr (13, [.ref ra, .ref rl, .ref ex, .ref ro, .int (nI pk), .int ca, .int rf, .int kn, .int ((m_th 0 0))])) H → c1 D ra (.inl (tk 3, 6, .inr (.inr (.inr (.inr (fun k => some (rt k))))))) H → MK D tk rt tt bb H → L2 D tk ex eT eB H → L2 D tk ro oT oB H → c1 D rl (.inr (7, [.int mdq, .ref br, .int (nI j)])) H → c1 D br (.inl (tk 4, capr, .inr (.inr (.inr (.inr fnq))))) H → EL D 2 j fnq vs H → lv_has ls 3 [(0, .ref mo), (1, .int x1), (2, .int y9)] → W p l e ({ frames := 3, cells := 0, slots := 0, locals := 66 } : Room) s m args below meth c H locs (0) (0) Q (F0 m 27 ls []) := by
        intro n
        induction n with
        | zero =>
          intro k j mdq fnq y9 hf9 hk9 hx9 hkk H locs ls hS fo fj fk fe fr f0w fRw elw hl
          omega
        | succ n ih_27 =>
          intro k j mdq fnq y9 hf9 hk9 hx9 hkk H locs ls hS fo fj fk fe fr f0w fRw elw hl
          refine lv_iload_n (pc := 27) hx hb dX5_unsay_27 rfl (lv_at hl 2 rfl) ?_
          refine lv_iload_n (pc := 28) hx hb dX5_unsay_28 rfl (lv_at hl 1 rfl) ?_
          refine lv_icmp_ge (pc := 29) (tgt := 65) hx hb dX5_unsay_29 (by decide) (fun c_14 => ?_) (fun c_14 => ?_)
          · refine lv_aload_n (pc := 65) hx hb dX5_unsay_65 rfl (lv_at hl 0 rfl) ?_
            refine r_get (pc := 66) E hC fo 1 (v := .ref rl) rfl rfl (by decide) uX5 (List.mem_cons_of_mem _ kw_1210) (fun _ h => h) dX5_unsay_66 ?_
            refine k_i (pc := 69) (k_V E hC hS hA hl.1 (c1.recv hC f0w rfl) rfl (c_Jx4a65c_size_8abf5 l D tk N0 sa H.size rl br j mdq) kw_1546 kw_1547 kw_1548 kw_8 kw_1549 (n := 0) (by decide +kernel) rfl ⟨⟨rfl, rfl⟩, ⟨Nat.le_of_ble_eq_true rfl, Nat.le_of_ble_eq_true rfl⟩, (by dsimp only; omega), (by dsimp only; omega)⟩ rfl (Nat.le_of_ble_eq_true rfl) f0w dX5_unsay_69) hS (fun q z w => absurd w (Nat.not_le.mpr z)) hn (fun r_15 H locs hR hz hk hS => ?_)
            have fo := fo.kept (hk _ fo.lt (Nat.not_le.mpr fo.lt))
            have fj := fj.kept (hk _ fj.lt (Nat.not_le.mpr fj.lt))
            have fk := fk.new hk
            have fe := fe.kept (hk _ fe.lt (Nat.not_le.mpr fe.lt))
            have fr := fr.kept (hk _ fr.lt (Nat.not_le.mpr fr.lt))
            have f0w := f0w.kept (hk _ f0w.lt (Nat.not_le.mpr f0w.lt))
            have fRw := fRw.kept (hk _ fRw.lt (Nat.not_le.mpr fRw.lt))
            have elw := elw.new hk
            rw [show r_15 = nI j from hR]
            try rw [hQ]
            refine r_iret (pc := 72) E hr hlk hS (by omega) (by omega) ?_ dX5_unsay_72
            exact ⟨_, _, ⟨_, _, _, _, _, fo, fj, fk, fe, fr, (Or.inr ⟨_, _, _, _, hPb, f0w, fRw, elw, hPI.le (by omega), by omega, hmcr⟩), ⟨hPm, hPa, hPl, hPe, hPr, hPk⟩, hFk, hFe, hFr, hpk, (by omega)⟩, Or.inr ⟨km, hkm1, hkm2, rfl, (by have hk0 : km ≤ k := Nat.not_lt.mp (fun z9 => absurd (nI_lt z9 (by omega)) (Int32.not_lt.mpr (by have h9 := c_14; rw [hkm1, hx9] at h9; exact h9))); omega), rfl⟩⟩
          · refine lv_aload_n (pc := 32) hx hb dX5_unsay_32 rfl (lv_at hl 0 rfl) ?_
            refine r_get (pc := 33) E hC fo 1 (v := .ref rl) rfl rfl (by decide) uX5 (List.mem_cons_of_mem _ kw_1210) (fun _ h => h) dX5_unsay_33 ?_
            refine k_i (pc := 36) (k_V E hC hS hA hl.1 (c1.recv hC f0w rfl) rfl (c_Jx4a65c_size_8abf5 l D tk N0 sa H.size rl br j mdq) kw_1546 kw_1547 kw_1548 kw_8 kw_1549 (n := 0) (by decide +kernel) rfl ⟨⟨rfl, rfl⟩, ⟨Nat.le_of_ble_eq_true rfl, Nat.le_of_ble_eq_true rfl⟩, (by dsimp only; omega), (by dsimp only; omega)⟩ rfl (Nat.le_of_ble_eq_true rfl) f0w dX5_unsay_36) hS (fun q z w => absurd w (Nat.not_le.mpr z)) hn (fun r_16 H locs hR hz hk hS => ?_)
            have fo := fo.kept (hk _ fo.lt (Nat.not_le.mpr fo.lt))
            have fj := fj.kept (hk _ fj.lt (Nat.not_le.mpr fj.lt))
            have fk := fk.new hk
            have fe := fe.kept (hk _ fe.lt (Nat.not_le.mpr fe.lt))
            have fr := fr.kept (hk _ fr.lt (Nat.not_le.mpr fr.lt))
            have f0w := f0w.kept (hk _ f0w.lt (Nat.not_le.mpr f0w.lt))
            have fRw := fRw.kept (hk _ fRw.lt (Nat.not_le.mpr fRw.lt))
            have elw := elw.new hk
            rw [show r_16 = nI j from hR]
            refine lv_if_le (pc := 39) (tgt := 65) hx hb dX5_unsay_39 (by decide) (fun c_17 => ?_) (fun c_17 => ?_)
            · refine lv_aload_n (pc := 65) hx hb dX5_unsay_65 rfl (lv_at hl 0 rfl) ?_
              refine r_get (pc := 66) E hC fo 1 (v := .ref rl) rfl rfl (by decide) uX5 (List.mem_cons_of_mem _ kw_1210) (fun _ h => h) dX5_unsay_66 ?_
              refine k_i (pc := 69) (k_V E hC hS hA hl.1 (c1.recv hC f0w rfl) rfl (c_Jx4a65c_size_8abf5 l D tk N0 sa H.size rl br j mdq) kw_1546 kw_1547 kw_1548 kw_8 kw_1549 (n := 0) (by decide +kernel) rfl ⟨⟨rfl, rfl⟩, ⟨Nat.le_of_ble_eq_true rfl, Nat.le_of_ble_eq_true rfl⟩, (by dsimp only; omega), (by dsimp only; omega)⟩ rfl (Nat.le_of_ble_eq_true rfl) f0w dX5_unsay_69) hS (fun q z w => absurd w (Nat.not_le.mpr z)) hn (fun r_18 H locs hR hz hk hS => ?_)
              have fo := fo.kept (hk _ fo.lt (Nat.not_le.mpr fo.lt))
              have fj := fj.kept (hk _ fj.lt (Nat.not_le.mpr fj.lt))
              have fk := fk.new hk
              have fe := fe.kept (hk _ fe.lt (Nat.not_le.mpr fe.lt))
              have fr := fr.kept (hk _ fr.lt (Nat.not_le.mpr fr.lt))
              have f0w := f0w.kept (hk _ f0w.lt (Nat.not_le.mpr f0w.lt))
              have fRw := fRw.kept (hk _ fRw.lt (Nat.not_le.mpr fRw.lt))
              have elw := elw.new hk
              rw [show r_18 = nI j from hR]
              try rw [hQ]
              refine r_iret (pc := 72) E hr hlk hS (by omega) (by omega) ?_ dX5_unsay_72
              exact ⟨_, _, ⟨_, _, _, _, _, fo, fj, fk, fe, fr, (Or.inr ⟨_, _, _, _, hPb, f0w, fRw, elw, hPI.le (by omega), by omega, hmcr⟩), ⟨hPm, hPa, hPl, hPe, hPr, hPk⟩, hFk, hFe, hFr, hpk, (by omega)⟩, Or.inr ⟨km, hkm1, hkm2, rfl, (by have hj0 := m_nle0 (by omega) c_17; omega), rfl⟩⟩
            · obtain ⟨j1, rfl⟩ : ∃ j1, j = j1 + 1 := ⟨j - 1, by have : j ≠ 0 := fun z9 => c_17 (by rw [z9]; decide); omega⟩
              obtain ⟨qe, hqe, fxe⟩ := elw j1 (by omega)
              have hlt : k < km := Nat.not_le.mp (fun z9 => c_14 (by rw [hkm1, hx9]; exact nI_le z9 (by omega)))
              refine lv_aload_n (pc := 42) hx hb dX5_unsay_42 rfl (lv_at hl 0 rfl) ?_
              refine r_get (pc := 43) E hC fo 1 (v := .ref rl) rfl rfl (by decide) uX5 (List.mem_cons_of_mem _ kw_1210) (fun _ h => h) dX5_unsay_43 ?_
              refine lv_aload_n (pc := 46) hx hb dX5_unsay_46 rfl (lv_at hl 0 rfl) ?_
              refine r_get (pc := 47) E hC fo 1 (v := .ref rl) rfl rfl (by decide) uX5 (List.mem_cons_of_mem _ kw_1210) (fun _ h => h) dX5_unsay_47 ?_
              refine k_i (pc := 50) (k_V E hC hS hA hl.1 (c1.recv hC f0w rfl) rfl (c_Jx4a65c_size_8abf5 l D tk N0 sa H.size rl br (j1 + 1) mdq) kw_1546 kw_1547 kw_1548 kw_8 kw_1549 (n := 0) (by decide +kernel) rfl ⟨⟨rfl, rfl⟩, ⟨Nat.le_of_ble_eq_true rfl, Nat.le_of_ble_eq_true rfl⟩, (by dsimp only; omega), (by dsimp only; omega)⟩ rfl (Nat.le_of_ble_eq_true rfl) f0w dX5_unsay_50) hS (fun q z w => absurd w (Nat.not_le.mpr z)) hn (fun r_19 H locs hR hz hk hS => ?_)
              have fo := fo.kept (hk _ fo.lt (Nat.not_le.mpr fo.lt))
              have fj := fj.kept (hk _ fj.lt (Nat.not_le.mpr fj.lt))
              have fk := fk.new hk
              have fe := fe.kept (hk _ fe.lt (Nat.not_le.mpr fe.lt))
              have fr := fr.kept (hk _ fr.lt (Nat.not_le.mpr fr.lt))
              have f0w := f0w.kept (hk _ f0w.lt (Nat.not_le.mpr f0w.lt))
              have fRw := fRw.kept (hk _ fRw.lt (Nat.not_le.mpr fRw.lt))
              have elw := elw.new hk
              rw [show r_19 = nI (j1 + 1) from hR]
              refine lv_iconst (pc := 53) (v := 1) hx hb dX5_unsay_53 (by decide) ?_
              refine lv_isub (pc := 54) hx hb dX5_unsay_54 ?_
              refine k_r (pc := 55) (k_V E hC hS hA hl.1 (c1.recv hC f0w rfl) rfl (c_Jx4a65c_remove_915e3 l D tk N0 sa H.size rl br j1 capr 2 qe mdq ((nI (j1 + 1)) - 1) fnq vs (hA _ g_f0w) (hA _ g_fRw) (Or.inr rfl) (nI_pred j1) (by omega) (by omega) hqe) kw_1597 kw_1598 kw_1599 kw_8 kw_1600 (n := 1) (by decide +kernel) rfl ⟨⟨rfl, rfl⟩, ⟨Nat.le_of_ble_eq_true rfl, Nat.le_of_ble_eq_true rfl⟩, (by dsimp only; omega), (by dsimp only; omega)⟩ rfl (Nat.le_of_ble_eq_true rfl) ⟨f0w, fRw, elw⟩ dX5_unsay_55) hS (inA2.to g_f0w g_fRw) hn (fun r_20 H locs hR hz hk hS => ?_)
              have fo := fo.kept (hk _ fo.lt (inA2.not (clA.ne fo.cl f0w.cl (hC.oo 13 7 rfl rfl (by decide))) (clA.ne fo.cl fRw.cla (hC.oa 13 4 rfl rfl)) fo.lt))
              have fj := fj.kept (hk _ fj.lt (inA2.not (clA.ne fj.cla f0w.cl (hC.ao 7 3 rfl rfl)) (clA.ne fj.cla fRw.cla (hC.aa 3 4 rfl rfl (by dsimp only; decide))) fj.lt))
              have fk := fk.kept (fun k hk9 => hk _ (fk k hk9).lt (inA2.not (nW_f0w k hk9) (nW_fRw k hk9) (fk k hk9).lt))
              have fe := fe.kept (hk _ fe.lt (inA2.not (clA.ne fe.cla f0w.cl (hC.ao 7 0 rfl rfl)) (clA.ne fe.cla fRw.cla (hC.aa 0 4 rfl rfl (by dsimp only; decide))) fe.lt))
              have fr := fr.kept (hk _ fr.lt (inA2.not (clA.ne fr.cla f0w.cl (hC.ao 7 0 rfl rfl)) (clA.ne fr.cla fRw.cla (hC.aa 0 4 rfl rfl (by dsimp only; decide))) fr.lt))
              obtain ⟨hr9, f0w, fRw, elw⟩ := hR
              rw [hr9]
              refine lv_pop (pc := 58) hx hb dX5_unsay_58 rfl ?_
              obtain ⟨x_21, ex_21⟩ : ∃ z9 : Int32, z9 = y9 + 1 := ⟨_, rfl⟩
              refine lv_iinc (pc := 59) (v := x_21) (lv' := [(2, .int x_21), (0, .ref mo), (1, .int x1)]) hx hb dX5_unsay_59 hl (k := 2) rfl (by rw [ex_21]; rfl) (by decide) rfl (fun ls hl => ?_)
              refine lv_goto (pc := 62) (tgt := 27) hx hb dX5_unsay_62 (by decide) ?_
              refine W.widen (k := 0) (n := 0) (by omega) (by omega) ?_
              exact ih_27  (k + 1) j1 _ _  x_21 (by omega) (by omega) (i_up hx9 ex_21) (by omega) _ _ _ hS fo fj fk fe fr f0w fRw elw (lv_sub hl [1, 2, 0] rfl)
      refine W.widen (k := 0) (n := 0) (by omega) (by omega) ?_
      exact loop_27 18 0 n9 _ _  0 (by omega) (by omega) nI_0.symm (Nat.zero_le _) _ _ _ hS fo fj fk fe fr f0w fRw elw (lv_sub hl [1, 2, 0] rfl)
  · refine lv_iconst (pc := 11) (v := 1) hx hb dX5_unsay_11 (by decide) ?_
    refine lv_goto (pc := 12) (tgt := 16) hx hb dX5_unsay_12 (by decide) ?_
    refine lv_iconst (pc := 16) (v := 0) hx hb dX5_unsay_16 (by decide) ?_
    have hZ0_ := hS.1
    have t_fo := fo.lt
    have t_fj := fj.lt
    have t_fk := fun k (hk9 : k < 6) => (fk k hk9).lt
    have t_fe := fe.lt
    have t_fr := fr.lt
    refine k_i (pc := 17) (k_V E hC hS hA hl.1 (c1.recv hC fo rfl) rfl (c_X5_fails l D tk N0 sa H.size P hPN (fun q h9 => hPs q (Nat.le_trans hS.1 h9)) mo n9 kn th tt bb eT eB oT oB pk ca rf vs 1 0 ) kw_1251 kw_1253 kp_20 kw_5 kw_1254 (n := 2) (by decide +kernel) rfl ⟨⟨rfl, rfl⟩, ⟨Nat.le_of_ble_eq_true rfl, Nat.le_of_ble_eq_true rfl⟩, (by dsimp only; omega), (by dsimp only; omega)⟩ rfl (Nat.le_of_ble_eq_true rfl) ⟨_, _, _, _, _, fo, fj, fk, fe, fr, fw, ⟨hPm, hPa, hPl, hPe, hPr, hPk⟩, hFk, hFe, hFr, hpk, hn9⟩ dX5_unsay_17) hS (fun q _ h => h) hn (fun r_22 H locs hR hz hk hS => ?_)
    obtain ⟨er_22, hM⟩ := hR
    obtain ⟨ra, rl, ex, ro, rt, fo, fj, fk, fe, fr, fw, ⟨hPm, hPa, hPl, hPe, hPr, hPk⟩, hFk, hFe, hFr, hpk, hn9⟩ := hM
    have g_fo := hPm
    have g_fj := hPa
    have ef_r_22 : r_22 = 1 := er_22.trans (if_neg (by decide))
    rw [ef_r_22]
    refine lv_if_eq (pc := 20) (tgt := 25) hx hb dX5_unsay_20 (by decide) (fun c_23 => ?_) (fun c_23 => ?_)
    · exact absurd c_23 (by decide)
    refine lv_iconst (pc := 23) (v := 0) hx hb dX5_unsay_23 (by decide) ?_
    try rw [hQ]
    refine r_iret (pc := 24) E hr hlk hS (by omega) (by omega) ?_ dX5_unsay_24
    exact ⟨_, _, ⟨_, _, _, _, _, fo, fj, fk, fe, fr, fw, ⟨hPm, hPa, hPl, hPe, hPr, hPk⟩, hFk, hFe, hFr, hpk, hn9⟩, Or.inl ⟨er_1.symm.trans c_3, rfl, rfl, rfl⟩⟩
set_option maxHeartbeats 4000000 in
set_option maxRecDepth 100000 in
/-- BestratiosModel.rowNow()Ljava/util/ArrayList; -/
theorem c_X5_rowNow_E (l : Launch) (D : va_G) (tk : Nat → ClassId) (N0 : Nat) (sa : Nat → Nat)  (sz : Nat) (mo ra rl ex ro pk br : Nat) (ca rf kn th mdr : Int32) : Met l yX5_rowNow (wsy yX5_rowNow cX5_rowNow 4 (some (.object "java/util/ArrayList"))) ({ frames := 4, cells := 2, slots := 7, locals := 80 } : Room) (cP D tk N0 sa [.ref mo] sz (fun H => c1 D mo (.inr (13, [.ref ra, .ref rl, .ref ex, .ref ro, .int (nI pk), .int ca, .int rf, .int kn, .int th])) H ∧ c1 D rl (.inr (7, [.int mdr, .ref br, .int (nI 0)])) H)) (kQr (fun r H => sz ≤ r ∧ c1 D r (.inr (7, [.int 0, .ref (sa 1), .int 0])) H) (nwA sz)) (2) (7) (nwA sz) := by
  refine mStart RX5 rfl (by decide +kernel) (Nat.le_of_ble_eq_true rfl) ?_
  intro p e s m args below meth c E hr hlk hnm hsz hC hF ls hl
  subst hsz
  obtain ⟨hx, hb, -⟩ := id E
  have hA : ∀ q, (nwA s.heap.size) q → N0 ≤ q := fun q h => Nat.le_trans hC.2.1 h
  have hn : ∀ q, s.heap.size ≤ q → (nwA s.heap.size) q := fun q h => h
  have hS : va_S (nwA s.heap.size) s.heap s.heap [] := va_S.rf
  have hl : lv_has ls 4 [(0, .ref mo)] := hl
  obtain ⟨fo, f0w⟩ : c1 D mo (.inr (13, [.ref ra, .ref rl, .ref ex, .ref ro, .int (nI pk), .int ca, .int rf, .int kn, .int th])) s.heap ∧ c1 D rl (.inr (7, [.int mdr, .ref br, .int (nI 0)])) s.heap := hF
  have hS0_ := hS
  refine r_new (pc := 0) E hC hS tyJx4a65c_ok uJx4a65c (List.mem_cons_of_mem _ kw_1170) (List.mem_cons_of_mem _ kw_1171) (List.mem_cons_of_mem _ kw_8) (ci := 7) rfl (fs := [.int 0, .null, .int 0]) (by decide) (by dsimp only; omega) (by dsimp only; omega) dX5_rowNow_0 (fun qf1 H zq_ n_ ho_ hS => ?_)
  have l_fo_f1 : mo < qf1 := zq_ ▸ fo.lt
  have fo := fo.kept (ho_ _ fo.lt)
  have l_f0w_f1 : rl < qf1 := zq_ ▸ f0w.lt
  have f0w := f0w.kept (ho_ _ f0w.lt)
  have f1 := n_
  have s_f1 : s.heap.size ≤ qf1 := zq_ ▸ hS0_.1
  have g_f1 := hn _ s_f1
  refine lv_dup (pc := 3) hx hb dX5_rowNow_3 rfl ?_
  refine k_v (pc := 4) (k_I E hC hS hA hl.1 (c_Jx4a65c_init_da8c8 l D tk N0 sa H.size qf1 (hA _ g_f1)) kw_1172 kw_1173 kw_8 kw_1174 rfl (n := 0) (by decide +kernel) rfl ⟨⟨rfl, rfl⟩, ⟨Nat.le_of_ble_eq_true rfl, Nat.le_of_ble_eq_true rfl⟩, (by dsimp only; omega), (by dsimp only; omega)⟩ rfl (Nat.le_of_ble_eq_true rfl) f1 dX5_rowNow_4) hS (inA1.to g_f1) hn (fun H locs hR hz hk hS => ?_)
  have fo := fo.kept (hk _ fo.lt (inA1.not (clA.ne fo.cl f1.cl (hC.oo 13 7 rfl rfl (by decide))) fo.lt))
  have f0w := f0w.kept (hk _ f0w.lt (inA1.not (Nat.ne_of_lt l_f0w_f1) f0w.lt))
  have f1 := hR
  refine lv_astore_n (pc := 7) (lv' := [(1, .ref qf1), (0, .ref mo)]) hx hb dX5_rowNow_7 rfl hl (by decide) rfl (fun ls hl => ?_)
  refine lv_aload_n (pc := 8) hx hb dX5_rowNow_8 rfl (lv_at hl 1 rfl) ?_
  refine r_get (pc := 9) E hC fo 1 (v := .ref rl) rfl rfl (by decide) uX5 (List.mem_cons_of_mem _ kw_1210) (fun _ h => h) dX5_rowNow_9 ?_
  have hZ0_ := hS.1
  have t_fo := fo.lt
  have t_f0w := f0w.lt
  have t_f1 := f1.lt
  refine k_r (pc := 12) (k_V E hC hS hA hl.1 (c1.recv hC f0w rfl) rfl (c_Jx4a65c_iterator_32c93 l D tk N0 sa H.size rl br 0 mdr) kw_1486 kw_1487 kw_1488 kw_8 kw_1489 (n := 0) (by decide +kernel) rfl ⟨⟨rfl, rfl⟩, ⟨Nat.le_of_ble_eq_true rfl, Nat.le_of_ble_eq_true rfl⟩, (by dsimp only; omega), (by dsimp only; omega)⟩ rfl (Nat.le_of_ble_eq_true rfl) (by exact f0w) dX5_rowNow_12) hS (fun q z w => absurd w (Nat.not_le.mpr z)) hn (fun r_3 H locs hR hz hk hS => ?_)
  have fo := fo.kept (hk _ fo.lt (Nat.not_le.mpr fo.lt))
  have f0w := f0w.kept (hk _ f0w.lt (Nat.not_le.mpr f0w.lt))
  have f1 := f1.kept (hk _ f1.lt (Nat.not_le.mpr f1.lt))
  obtain ⟨z9_, f4⟩ := hR
  have s_f4 : s.heap.size ≤ r_3 := Nat.le_trans hZ0_ z9_
  have g_f4 := hn _ s_f4
  have l_fo_f4 : mo < r_3 := Nat.lt_of_lt_of_le t_fo z9_
  have l_f0w_f4 : rl < r_3 := Nat.lt_of_lt_of_le t_f0w z9_
  have l_f1_f4 : qf1 < r_3 := Nat.lt_of_lt_of_le t_f1 z9_
  refine lv_astore_n (pc := 15) (lv' := [(2, .ref r_3), (1, .ref qf1), (0, .ref mo)]) hx hb dX5_rowNow_15 rfl hl (by decide) rfl (fun ls hl => ?_)
  refine lv_aload_n (pc := 16) hx hb dX5_rowNow_16 rfl (lv_at hl 0 rfl) ?_
  refine k5_i (pc := 17) (k_F (ci := 6) rfl hC.xt.2.2.2.1 E hC hS hA hl.1 (c1.recv hC f4 rfl) (c_Jx35411_hasNext_aae02 l D tk N0 sa H.size r_3 rl br 0 0 mdr ((-1)) (by omega) (by omega)) kw_1510 kw_1516 kw_1514 kw_29 kw_1518 (n := 0) (by decide +kernel) rfl ⟨⟨rfl, rfl⟩, ⟨Nat.le_of_ble_eq_true rfl, Nat.le_of_ble_eq_true rfl⟩, (by dsimp only; omega), (by dsimp only; omega)⟩ rfl (Nat.le_of_ble_eq_true rfl) ⟨f4, f0w⟩ dX5_rowNow_17) hS (fun q z w => absurd w (Nat.not_le.mpr z)) hn (fun r_5 H locs hR hz hk hS => ?_)
  have fo := fo.kept (hk _ fo.lt (Nat.not_le.mpr fo.lt))
  have f0w := f0w.kept (hk _ f0w.lt (Nat.not_le.mpr f0w.lt))
  have f1 := f1.kept (hk _ f1.lt (Nat.not_le.mpr f1.lt))
  have f4 := f4.kept (hk _ f4.lt (Nat.not_le.mpr f4.lt))
  have hn_r_5 := hR
  refine lv_if_eq (pc := 22) (tgt := 51) hx hb dX5_rowNow_22 (by decide) (fun c_6 => ?_) (fun c_6 => ?_)
  rotate_left
  · exact absurd (hn_r_5.elim (fun z9 => z9.1) (fun z9 => absurd rfl z9.2)) c_6
  refine lv_aload_n (pc := 51) hx hb dX5_rowNow_51 rfl (lv_at hl 1 rfl) ?_
  refine r_aret (pc := 52) E hr (Or.inl ⟨_, rfl⟩) hlk hS (by omega) (by omega) ?_ dX5_rowNow_52
  exact ⟨s_f1, f1⟩
