set_option maxHeartbeats 4000000 in
set_option maxRecDepth 100000 in
/-- BestratiosModel.next(II)I -/
theorem c_X5_next (l : Launch) (D : va_G) (tk : Nat → ClassId) (N0 : Nat) (sa : Nat → Nat)  (sz : Nat) (P : Nat → Prop) (hPN : ∀ q, P q → N0 ≤ q) (hPs : ∀ q, sz ≤ q → P q) (mo n9 : Nat) (kn th : Int32) (tt bb : Nat → Int64) (eT eB oT oB : Int64) (pk : Nat) (ca rf : Int32) (vs : Nat → Value) (x1 : Int32) (x2 : Int32) : Met l yX5_next (wsy yX5_next cX5_next 5 (some .int)) ({ frames := 4, cells := 50, slots := 100, locals := 97 } : Room) (cP D tk N0 sa [.ref mo, .int x1, .int x2] sz (fun H => MI D tk sa P mo tt bb eT eB oT oB pk ca rf vs kn n9 th H)) (kQi (fun r H => ∃ th1 tt1 bb1 rf1, MI D tk sa P mo tt1 bb1 eT eB oT oB pk ca rf1 vs kn n9 th1 H ∧ AN (m_isNo x1) (m_not (m_isIn x2 1 50)) tt bb rf (nn x1) (m_NX (tt (nn x1)) (bb (nn x1)) (nn x2)) r th1 tt1 bb1 rf1) (P)) (50) (100) (P) := by
  refine mStart RX5 rfl (by decide +kernel) (Nat.le_of_ble_eq_true rfl) ?_
  intro p e s m args below meth c E hr hlk hnm hsz hC hF ls hl
  subst hsz
  obtain ⟨hx, hb, -⟩ := id E
  have hA : ∀ q, (P) q → N0 ≤ q := hPN
  have hn : ∀ q, s.heap.size ≤ q → (P) q := hPs
  have hS : va_S (P) s.heap s.heap [] := va_S.rf
  have hl : lv_has ls 5 [(0, .ref mo), (1, .int x1), (2, .int x2)] := hl
  obtain ⟨Q, hQ⟩ : ∃ Q, Q = MQ below (kQi (fun r H => ∃ th1 tt1 bb1 rf1, MI D tk sa P mo tt1 bb1 eT eB oT oB pk ca rf1 vs kn n9 th1 H ∧ AN (m_isNo x1) (m_not (m_isIn x2 1 50)) tt bb rf (nn x1) (m_NX (tt (nn x1)) (bb (nn x1)) (nn x2)) r th1 tt1 bb1 rf1) (P)) args s (50) (100) (P) := ⟨_, rfl⟩
  rw [← hQ]
  have hM : MI D tk sa P mo tt bb eT eB oT oB pk ca rf vs kn n9 th s.heap := hF
  obtain ⟨ra, rl, ex, ro, rt, fo, fj, fk, fe, fr, fw, ⟨hPm, hPa, hPl, hPe, hPr, hPk⟩, hFk, hFe, hFr, hpk, hn9⟩ := hM
  have g_fo := hPm
  have g_fj := hPa
  refine lv_aload_n (pc := 0) hx hb dX5_next_0 rfl (lv_at hl 0 rfl) ?_
  refine lv_iload_n (pc := 1) hx hb dX5_next_1 rfl (lv_at hl 1 rfl) ?_
  refine k_i (pc := 2) (k_S E hC hS hA hl.1 (c_X5_isNo l D tk N0 sa s.heap.size x1 ) kw_1245 kw_1246 kw_5 kw_1247 (n := 1) (by decide +kernel) rfl ⟨⟨rfl, rfl⟩, ⟨Nat.le_of_ble_eq_true rfl, Nat.le_of_ble_eq_true rfl⟩, (by dsimp only; omega), (by dsimp only; omega)⟩ rfl (Nat.le_of_ble_eq_true rfl) trivial dX5_next_2) hS (fun q z w => absurd w (Nat.not_le.mpr z)) hn (fun r_1 H locs hR hz hk hS => ?_)
  have er_1 := hR
  have fw := fw.new hk
  have fo := fo.kept (hk _ fo.lt (Nat.not_le.mpr fo.lt))
  have fj := fj.kept (hk _ fj.lt (Nat.not_le.mpr fj.lt))
  have fk := fk.new hk
  have fe := fe.kept (hk _ fe.lt (Nat.not_le.mpr fe.lt))
  have fr := fr.kept (hk _ fr.lt (Nat.not_le.mpr fr.lt))
  refine lv_iload_n (pc := 5) hx hb dX5_next_5 rfl (lv_at hl 2 rfl) ?_
  refine lv_iconst (pc := 6) (v := 1) hx hb dX5_next_6 (by decide) ?_
  refine lv_bipush (pc := 7) (v := 50) hx hb dX5_next_7 (by decide) ?_
  refine k_i (pc := 9) (k_S E hC hS hA hl.1 (c_X5_isIn l D tk N0 sa H.size x2 1 50 ) kw_1248 kw_1249 kw_5 kw_1250 (n := 3) (by decide +kernel) rfl ⟨⟨rfl, rfl⟩, ⟨Nat.le_of_ble_eq_true rfl, Nat.le_of_ble_eq_true rfl⟩, (by dsimp only; omega), (by dsimp only; omega)⟩ rfl (Nat.le_of_ble_eq_true rfl) trivial dX5_next_9) hS (fun q z w => absurd w (Nat.not_le.mpr z)) hn (fun r_3 H locs hR hz hk hS => ?_)
  have er_3 := hR
  have fw := fw.new hk
  have fo := fo.kept (hk _ fo.lt (Nat.not_le.mpr fo.lt))
  have fj := fj.kept (hk _ fj.lt (Nat.not_le.mpr fj.lt))
  have fk := fk.new hk
  have fe := fe.kept (hk _ fe.lt (Nat.not_le.mpr fe.lt))
  have fr := fr.kept (hk _ fr.lt (Nat.not_le.mpr fr.lt))
  refine lv_if_ne (pc := 12) (tgt := 19) hx hb dX5_next_12 (by decide) (fun c_5 => ?_) (fun c_5 => ?_)
  · refine lv_iconst (pc := 19) (v := 0) hx hb dX5_next_19 (by decide) ?_
    have hZ0_ := hS.1
    have t_fo := fo.lt
    have t_fj := fj.lt
    have t_fk := fun k (hk9 : k < 6) => (fk k hk9).lt
    have t_fe := fe.lt
    have t_fr := fr.lt
    refine k_i (pc := 20) (k_V E hC hS hA hl.1 (c1.recv hC fo rfl) rfl (c_X5_fails l D tk N0 sa H.size P hPN (fun q h9 => hPs q (Nat.le_trans hS.1 h9)) mo n9 kn th tt bb eT eB oT oB pk ca rf vs r_1 0 ) kw_1251 kw_1253 kp_20 kw_5 kw_1254 (n := 2) (by decide +kernel) rfl ⟨⟨rfl, rfl⟩, ⟨Nat.le_of_ble_eq_true rfl, Nat.le_of_ble_eq_true rfl⟩, (by dsimp only; omega), (by dsimp only; omega)⟩ rfl (Nat.le_of_ble_eq_true rfl) ⟨_, _, _, _, _, fo, fj, fk, fe, fr, fw, ⟨hPm, hPa, hPl, hPe, hPr, hPk⟩, hFk, hFe, hFr, hpk, hn9⟩ dX5_next_20) hS (fun q _ h => h) hn (fun r_6 H locs hR hz hk hS => ?_)
    obtain ⟨er_6, hM⟩ := hR
    obtain ⟨ra, rl, ex, ro, rt, fo, fj, fk, fe, fr, fw, ⟨hPm, hPa, hPl, hPe, hPr, hPk⟩, hFk, hFe, hFr, hpk, hn9⟩ := hM
    have g_fo := hPm
    have g_fj := hPa
    refine lv_if_eq (pc := 23) (tgt := 28) hx hb dX5_next_23 (by decide) (fun c_7 => ?_) (fun c_7 => ?_)
    · refine lv_aload_n (pc := 28) hx hb dX5_next_28 rfl (lv_at hl 0 rfl) ?_
      refine r_get (pc := 29) E hC fo 0 (v := .ref ra) rfl rfl (by decide) uX5 (List.mem_cons_of_mem _ kw_1209) (fun _ h => h) dX5_next_29 ?_
      refine lv_iload_n (pc := 32) hx hb dX5_next_32 rfl (lv_at hl 1 rfl) ?_
      obtain ⟨hx_8, hk_8⟩ := m_noN (er_1.symm.trans (m_fl0 (er_6.symm.trans c_7)).1)
      refine r_aaldJ (pc := 33) E hC fj (nn x1) hx_8 hk_8 (by decide) rfl dX5_next_33 ?_
      have fL9 := fk (nn x1) hk_8
      have mF_fL9 := hFk (nn x1) hk_8
      have Pq_fL9 := hPk (nn x1) hk_8
      have hZ0_ := hS.1
      have t_fo := fo.lt
      have t_fj := fj.lt
      have t_fk := fun k (hk9 : k < 6) => (fk k hk9).lt
      have t_fe := fe.lt
      have t_fr := fr.lt
      have t_fL9 := fL9.lt
      refine k_i (pc := 34) (k_S E hC hS hA hl.1 (c_X5_isAbove l D tk N0 sa H.size (rt (nn x1)) (tt (nn x1)) (bb (nn x1)) ) kw_1645 kw_1646 kw_5 kw_1647 (n := 1) (by decide +kernel) rfl ⟨⟨rfl, rfl⟩, ⟨Nat.le_of_ble_eq_true rfl, Nat.le_of_ble_eq_true rfl⟩, (by dsimp only; omega), (by dsimp only; omega)⟩ rfl (Nat.le_of_ble_eq_true rfl) fL9 dX5_next_34) hS (fun q z w => absurd w (Nat.not_le.mpr z)) hn (fun r_10 H locs hR hz hk hS => ?_)
      have fw := fw.new hk
      have fo := fo.kept (hk _ fo.lt (Nat.not_le.mpr fo.lt))
      have fj := fj.kept (hk _ fj.lt (Nat.not_le.mpr fj.lt))
      have fk := fk.new hk
      have fe := fe.kept (hk _ fe.lt (Nat.not_le.mpr fe.lt))
      have fr := fr.kept (hk _ fr.lt (Nat.not_le.mpr fr.lt))
      have fL9 := fL9.kept (hk _ fL9.lt (Nat.not_le.mpr fL9.lt))
      have er_10 := hR
      refine lv_if_eq (pc := 37) (tgt := 49) hx hb dX5_next_37 (by decide) (fun c_11 => ?_) (fun c_11 => ?_)
      · refine lv_null (pc := 49) hx hb dX5_next_49 ?_
        refine lv_astore_nN (pc := 50) (lv' := [(3, .null), (0, .ref mo), (1, .int x1), (2, .int x2)]) hx hb dX5_next_50 rfl hl (by decide) rfl (fun ls hl => ?_)
        obtain ⟨km, hkm1, hkm2, hkm3⟩ := m_in1 (x := x2) (hi_ := 50) (by decide) (fun z9 => c_5 (er_3.trans z9))
        refine lv_iconst (pc := 51) (v := 0) hx hb dX5_next_51 (by decide) ?_
        refine lv_istore (pc := 52) (lv' := [(4, .int 0), (3, .null), (0, .ref mo), (1, .int x1), (2, .int x2)]) hx hb dX5_next_52 hl (by decide) rfl (fun ls hl => ?_)
        refine lv_iload (pc := 54) hx hb dX5_next_54 (lv_at hl 0 rfl) ?_
        refine lv_iload_n (pc := 56) hx hb dX5_next_56 rfl (lv_at hl 4 rfl) ?_
        refine lv_icmp_ge (pc := 57) (tgt := 78) hx hb dX5_next_57 (by decide) (fun c_12 => ?_) (fun c_12 => ?_)
        · refine lv_aload_nN (pc := 78) hx hb dX5_next_78 rfl (lv_at hl 1 rfl) ?_
          have hZ0_ := hS.1
          have t_fo := fo.lt
          have t_fj := fj.lt
          have t_fk := fun k (hk9 : k < 6) => (fk k hk9).lt
          have t_fe := fe.lt
          have t_fr := fr.lt
          have t_fL9 := fL9.lt
          refine k_i (pc := 79) (k_S E hC hS hA hl.1 (c_X5_isFit_N l D tk N0 sa H.size  ) kw_1259 kw_1260 kw_5 kw_1261 (n := 1) (by decide +kernel) rfl ⟨⟨rfl, rfl⟩, ⟨Nat.le_of_ble_eq_true rfl, Nat.le_of_ble_eq_true rfl⟩, (by dsimp only; omega), (by dsimp only; omega)⟩ rfl (Nat.le_of_ble_eq_true rfl) trivial dX5_next_79) hS (fun q z w => absurd w (Nat.not_le.mpr z)) hn (fun r_13 H locs hR hz hk hS => ?_)
          have fw := fw.new hk
          have fo := fo.kept (hk _ fo.lt (Nat.not_le.mpr fo.lt))
          have fj := fj.kept (hk _ fj.lt (Nat.not_le.mpr fj.lt))
          have fk := fk.new hk
          have fe := fe.kept (hk _ fe.lt (Nat.not_le.mpr fe.lt))
          have fr := fr.kept (hk _ fr.lt (Nat.not_le.mpr fr.lt))
          have fL9 := fL9.kept (hk _ fL9.lt (Nat.not_le.mpr fL9.lt))
          rw [show r_13 = 0 from hR]
          refine lv_if_eq (pc := 82) (tgt := 96) hx hb dX5_next_82 (by decide) (fun c_14 => ?_) (fun c_14 => ?_)
          rotate_left
          · exact absurd (by decide) c_14
          refine lv_aload_n (pc := 96) hx hb dX5_next_96 rfl (lv_at hl 2 rfl) ?_
          have hZ0_ := hS.1
          have t_fo := fo.lt
          have t_fj := fj.lt
          have t_fk := fun k (hk9 : k < 6) => (fk k hk9).lt
          have t_fe := fe.lt
          have t_fr := fr.lt
          have t_fL9 := fL9.lt
          refine k_i (pc := 97) (k_V E hC hS hA hl.1 (c1.recv hC fo rfl) rfl (c_X5_no l D tk N0 sa H.size P hPN (fun q h9 => hPs q (Nat.le_trans hS.1 h9)) mo n9 kn ((m_th r_1 0)) tt bb eT eB oT oB pk ca rf vs  ) kw_1264 kw_1266 kp_22 kw_5 kw_1267 (n := 0) (by decide +kernel) rfl ⟨⟨rfl, rfl⟩, ⟨Nat.le_of_ble_eq_true rfl, Nat.le_of_ble_eq_true rfl⟩, (by dsimp only; omega), (by dsimp only; omega)⟩ rfl (Nat.le_of_ble_eq_true rfl) ⟨_, _, _, _, _, fo, fj, fk, fe, fr, fw, ⟨hPm, hPa, hPl, hPe, hPr, hPk⟩, hFk, hFe, hFr, hpk, hn9⟩ dX5_next_97) hS (fun q _ h => h) hn (fun r_15 H locs hR hz hk hS => ?_)
          obtain ⟨er_15, hM⟩ := hR
          obtain ⟨ra, rl, ex, ro, rt, fo, fj, fk, fe, fr, fw, ⟨hPm, hPa, hPl, hPe, hPr, hPk⟩, hFk, hFe, hFr, hpk, hn9⟩ := hM
          have g_fo := hPm
          have g_fj := hPa
          try rw [hQ]
          refine r_iret (pc := 100) E hr hlk hS (by omega) (by omega) ?_ dX5_next_100
          exact ⟨_, _, _, _, ⟨_, _, _, _, _, fo, fj, fk, fe, fr, fw, ⟨hPm, hPa, hPl, hPe, hPr, hPk⟩, hFk, hFe, hFr, hpk, hn9⟩, AN.no (by subst er_1 er_3 er_6 er_10 er_15; first | rfl | (simp [m_or, m_not, m_is0, m_lt0, m_fl, c_5, c_7, c_11, c_12, Int32.not_lt.mpr c_12]; done)) (by subst er_1 er_3 er_6 er_10 er_15; first | rfl | (simp [m_or, m_not, m_is0, m_lt0, m_fl, c_5, c_7, c_11, c_12, Int32.not_lt.mpr c_12]; done)) (er_6.symm.trans c_7) (by unfold m_NX; rw [if_pos (er_10.symm.trans c_11)]) er_15⟩
        · refine lv_aload_nN (pc := 60) hx hb dX5_next_60 rfl (lv_at hl 1 rfl) ?_
          have hZ0_ := hS.1
          have t_fo := fo.lt
          have t_fj := fj.lt
          have t_fk := fun k (hk9 : k < 6) => (fk k hk9).lt
          have t_fe := fe.lt
          have t_fr := fr.lt
          have t_fL9 := fL9.lt
          refine k_i (pc := 61) (k_S E hC hS hA hl.1 (c_X5_isFit_N l D tk N0 sa H.size  ) kw_1259 kw_1260 kw_5 kw_1261 (n := 1) (by decide +kernel) rfl ⟨⟨rfl, rfl⟩, ⟨Nat.le_of_ble_eq_true rfl, Nat.le_of_ble_eq_true rfl⟩, (by dsimp only; omega), (by dsimp only; omega)⟩ rfl (Nat.le_of_ble_eq_true rfl) trivial dX5_next_61) hS (fun q z w => absurd w (Nat.not_le.mpr z)) hn (fun r_16 H locs hR hz hk hS => ?_)
          have fw := fw.new hk
          have fo := fo.kept (hk _ fo.lt (Nat.not_le.mpr fo.lt))
          have fj := fj.kept (hk _ fj.lt (Nat.not_le.mpr fj.lt))
          have fk := fk.new hk
          have fe := fe.kept (hk _ fe.lt (Nat.not_le.mpr fe.lt))
          have fr := fr.kept (hk _ fr.lt (Nat.not_le.mpr fr.lt))
          have fL9 := fL9.kept (hk _ fL9.lt (Nat.not_le.mpr fL9.lt))
          rw [show r_16 = 0 from hR]
          refine lv_if_eq (pc := 64) (tgt := 78) hx hb dX5_next_64 (by decide) (fun c_17 => ?_) (fun c_17 => ?_)
          rotate_left
          · exact absurd (by decide) c_17
          refine lv_aload_nN (pc := 78) hx hb dX5_next_78 rfl (lv_at hl 1 rfl) ?_
          have hZ0_ := hS.1
          have t_fo := fo.lt
          have t_fj := fj.lt
          have t_fk := fun k (hk9 : k < 6) => (fk k hk9).lt
          have t_fe := fe.lt
          have t_fr := fr.lt
          have t_fL9 := fL9.lt
          refine k_i (pc := 79) (k_S E hC hS hA hl.1 (c_X5_isFit_N l D tk N0 sa H.size  ) kw_1259 kw_1260 kw_5 kw_1261 (n := 1) (by decide +kernel) rfl ⟨⟨rfl, rfl⟩, ⟨Nat.le_of_ble_eq_true rfl, Nat.le_of_ble_eq_true rfl⟩, (by dsimp only; omega), (by dsimp only; omega)⟩ rfl (Nat.le_of_ble_eq_true rfl) trivial dX5_next_79) hS (fun q z w => absurd w (Nat.not_le.mpr z)) hn (fun r_18 H locs hR hz hk hS => ?_)
          have fw := fw.new hk
          have fo := fo.kept (hk _ fo.lt (Nat.not_le.mpr fo.lt))
          have fj := fj.kept (hk _ fj.lt (Nat.not_le.mpr fj.lt))
          have fk := fk.new hk
          have fe := fe.kept (hk _ fe.lt (Nat.not_le.mpr fe.lt))
          have fr := fr.kept (hk _ fr.lt (Nat.not_le.mpr fr.lt))
          have fL9 := fL9.kept (hk _ fL9.lt (Nat.not_le.mpr fL9.lt))
          rw [show r_18 = 0 from hR]
          refine lv_if_eq (pc := 82) (tgt := 96) hx hb dX5_next_82 (by decide) (fun c_19 => ?_) (fun c_19 => ?_)
          rotate_left
          · exact absurd (by decide) c_19
          refine lv_aload_n (pc := 96) hx hb dX5_next_96 rfl (lv_at hl 2 rfl) ?_
          have hZ0_ := hS.1
          have t_fo := fo.lt
          have t_fj := fj.lt
          have t_fk := fun k (hk9 : k < 6) => (fk k hk9).lt
          have t_fe := fe.lt
          have t_fr := fr.lt
          have t_fL9 := fL9.lt
          refine k_i (pc := 97) (k_V E hC hS hA hl.1 (c1.recv hC fo rfl) rfl (c_X5_no l D tk N0 sa H.size P hPN (fun q h9 => hPs q (Nat.le_trans hS.1 h9)) mo n9 kn ((m_th r_1 0)) tt bb eT eB oT oB pk ca rf vs  ) kw_1264 kw_1266 kp_22 kw_5 kw_1267 (n := 0) (by decide +kernel) rfl ⟨⟨rfl, rfl⟩, ⟨Nat.le_of_ble_eq_true rfl, Nat.le_of_ble_eq_true rfl⟩, (by dsimp only; omega), (by dsimp only; omega)⟩ rfl (Nat.le_of_ble_eq_true rfl) ⟨_, _, _, _, _, fo, fj, fk, fe, fr, fw, ⟨hPm, hPa, hPl, hPe, hPr, hPk⟩, hFk, hFe, hFr, hpk, hn9⟩ dX5_next_97) hS (fun q _ h => h) hn (fun r_20 H locs hR hz hk hS => ?_)
          obtain ⟨er_20, hM⟩ := hR
          obtain ⟨ra, rl, ex, ro, rt, fo, fj, fk, fe, fr, fw, ⟨hPm, hPa, hPl, hPe, hPr, hPk⟩, hFk, hFe, hFr, hpk, hn9⟩ := hM
          have g_fo := hPm
          have g_fj := hPa
          try rw [hQ]
          refine r_iret (pc := 100) E hr hlk hS (by omega) (by omega) ?_ dX5_next_100
          exact ⟨_, _, _, _, ⟨_, _, _, _, _, fo, fj, fk, fe, fr, fw, ⟨hPm, hPa, hPl, hPe, hPr, hPk⟩, hFk, hFe, hFr, hpk, hn9⟩, AN.no (by subst er_1 er_3 er_6 er_10 er_20; first | rfl | (simp [m_or, m_not, m_is0, m_lt0, m_fl, c_5, c_7, c_11, c_12, Int32.not_le.mp c_12]; done)) (by subst er_1 er_3 er_6 er_10 er_20; first | rfl | (simp [m_or, m_not, m_is0, m_lt0, m_fl, c_5, c_7, c_11, c_12, Int32.not_le.mp c_12]; done)) (er_6.symm.trans c_7) (by unfold m_NX; rw [if_pos (er_10.symm.trans c_11)]) er_20⟩
      · refine lv_aload_n (pc := 40) hx hb dX5_next_40 rfl (lv_at hl 0 rfl) ?_
        refine r_get (pc := 41) E hC fo 0 (v := .ref ra) rfl rfl (by decide) uX5 (List.mem_cons_of_mem _ kw_1209) (fun _ h => h) dX5_next_41 ?_
        refine lv_iload_n (pc := 44) hx hb dX5_next_44 rfl (lv_at hl 1 rfl) ?_
        refine r_aaldJ (pc := 45) E hC fj (nn x1) hx_8 hk_8 (by decide) rfl dX5_next_45 ?_
        have fL21 := fk (nn x1) hk_8
        have mF_fL21 := hFk (nn x1) hk_8
        have Pq_fL21 := hPk (nn x1) hk_8
        refine lv_goto (pc := 46) (tgt := 50) hx hb dX5_next_46 (by decide) ?_
        refine lv_astore_n (pc := 50) (lv' := [(3, .ref (rt (nn x1))), (0, .ref mo), (1, .int x1), (2, .int x2)]) hx hb dX5_next_50 rfl hl (by decide) rfl (fun ls hl => ?_)
        have hab : 1 ≤ (tt (nn x1)).toInt := m_abv1 (by rw [← er_10]; exact c_11)
        obtain ⟨km, hkm1, hkm2, hkm3⟩ := m_in1 (x := x2) (hi_ := 50) (by decide) (fun z9 => c_5 (er_3.trans z9))
        refine lv_iconst (pc := 51) (v := 0) hx hb dX5_next_51 (by decide) ?_
        refine lv_istore (pc := 52) (lv' := [(4, .int 0), (3, .ref (rt (nn x1))), (0, .ref mo), (1, .int x1), (2, .int x2)]) hx hb dX5_next_52 hl (by decide) rfl (fun ls hl => ?_)
        have loop_54 : ∀ (n : Nat) (k : Nat) (t9 : Int64) (b9 : Int64)(q9 : Nat) (y9 : Int32), 51 - k < n → k ≤ 50 → y9 = nI k → 1 ≤ t9.toInt ∧ 1 ≤ b9.toInt → P q9 → m_nxL (km - k) t9 b9 = m_nxL km (tt (nn x1)) (bb (nn x1)) → k ≤ km → ∀ (H : Heap) (locs : List Loc) (ls : Array Slot), va_S (P) s.heap H locs → c1 D mo (.inr (13, [.ref ra, .ref rl, .ref ex, .ref ro, .int (nI pk), .int ca, .int rf, .int kn, .int ((m_th r_1 0))])) H → c1 D ra (.inl (tk 3, 6, .inr (.inr (.inr (.inr (fun k => some (rt k))))))) H → MK D tk rt tt bb H → L2 D tk ex eT eB H → L2 D tk ro oT oB H → RW D tk sa P rl n9 vs H → L2 D tk q9 t9 b9 H → lv_has ls 5 [(0, .ref mo), (1, .int x1), (2, .int x2), (3, .ref q9), (4, .int y9)] → W p l e ({ frames := 4, cells := 50, slots := 100, locals := 97 } : Room) s m args below meth c H locs (k) (2 * k) Q (F0 m 54 ls []) := by
          intro n
          induction n with
          | zero =>
            intro k t9 b9 q9 y9 hf9 hk9 hx9 hb9 hq9 hg9 hkk H locs ls hS fo fj fk fe fr fw fm hl
            omega
          | succ n ih_54 =>
            intro k t9 b9 q9 y9 hf9 hk9 hx9 hb9 hq9 hg9 hkk H locs ls hS fo fj fk fe fr fw fm hl
            refine lv_iload (pc := 54) hx hb dX5_next_54 (lv_at hl 4 rfl) ?_
            refine lv_iload_n (pc := 56) hx hb dX5_next_56 rfl (lv_at hl 2 rfl) ?_
            refine lv_icmp_ge (pc := 57) (tgt := 78) hx hb dX5_next_57 (by decide) (fun c_22 => ?_) (fun c_22 => ?_)
            · have hfin : m_nxL km (tt (nn x1)) (bb (nn x1)) = (t9, b9) := by
                have h8 : km ≤ k := by
                  have h7 := c_22
                  rw [hkm1, hx9] at h7
                  exact (nI_leI (by omega) (by omega)).mp h7
                rw [← hg9, show km - k = 0 by omega]
                rfl
              refine lv_aload_n (pc := 78) hx hb dX5_next_78 rfl (lv_at hl 3 rfl) ?_
              have hZ0_ := hS.1
              have t_fo := fo.lt
              have t_fj := fj.lt
              have t_fk := fun k (hk9 : k < 6) => (fk k hk9).lt
              have t_fe := fe.lt
              have t_fr := fr.lt
              have t_fm := fm.lt
              refine k_i (pc := 79) (k_S E hC hS hA hl.1 (c_X5_isFit l D tk N0 sa H.size q9 t9 b9 ) kw_1259 kw_1260 kw_5 kw_1261 (n := 1) (by decide +kernel) rfl ⟨⟨rfl, rfl⟩, ⟨Nat.le_of_ble_eq_true rfl, Nat.le_of_ble_eq_true rfl⟩, (by dsimp only; omega), (by dsimp only; omega)⟩ rfl (Nat.le_of_ble_eq_true rfl) fm dX5_next_79) hS (fun q z w => absurd w (Nat.not_le.mpr z)) hn (fun r_23 H locs hR hz hk hS => ?_)
              have fw := fw.new hk
              have fo := fo.kept (hk _ fo.lt (Nat.not_le.mpr fo.lt))
              have fj := fj.kept (hk _ fj.lt (Nat.not_le.mpr fj.lt))
              have fk := fk.new hk
              have fe := fe.kept (hk _ fe.lt (Nat.not_le.mpr fe.lt))
              have fr := fr.kept (hk _ fr.lt (Nat.not_le.mpr fr.lt))
              have fm := fm.kept (hk _ fm.lt (Nat.not_le.mpr fm.lt))
              have er_23 := hR
              refine lv_if_eq (pc := 82) (tgt := 96) hx hb dX5_next_82 (by decide) (fun c_24 => ?_) (fun c_24 => ?_)
              · refine lv_aload_n (pc := 96) hx hb dX5_next_96 rfl (lv_at hl 0 rfl) ?_
                have hZ0_ := hS.1
                have t_fo := fo.lt
                have t_fj := fj.lt
                have t_fk := fun k (hk9 : k < 6) => (fk k hk9).lt
                have t_fe := fe.lt
                have t_fr := fr.lt
                have t_fm := fm.lt
                refine k_i (pc := 97) (k_V E hC hS hA hl.1 (c1.recv hC fo rfl) rfl (c_X5_no l D tk N0 sa H.size P hPN (fun q h9 => hPs q (Nat.le_trans hS.1 h9)) mo n9 kn ((m_th r_1 0)) tt bb eT eB oT oB pk ca rf vs  ) kw_1264 kw_1266 kp_22 kw_5 kw_1267 (n := 0) (by decide +kernel) rfl ⟨⟨rfl, rfl⟩, ⟨Nat.le_of_ble_eq_true rfl, Nat.le_of_ble_eq_true rfl⟩, (by dsimp only; omega), (by dsimp only; omega)⟩ rfl (Nat.le_of_ble_eq_true rfl) ⟨_, _, _, _, _, fo, fj, fk, fe, fr, fw, ⟨hPm, hPa, hPl, hPe, hPr, hPk⟩, hFk, hFe, hFr, hpk, hn9⟩ dX5_next_97) hS (fun q _ h => h) hn (fun r_25 H locs hR hz hk hS => ?_)
                obtain ⟨er_25, hM⟩ := hR
                obtain ⟨ra, rl, ex, ro, rt, fo, fj, fk, fe, fr, fw, ⟨hPm, hPa, hPl, hPe, hPr, hPk⟩, hFk, hFe, hFr, hpk, hn9⟩ := hM
                have g_fo := hPm
                have g_fj := hPa
                try rw [hQ]
                refine r_iret (pc := 100) E hr hlk hS (by omega) (by omega) ?_ dX5_next_100
                exact ⟨_, _, _, _, ⟨_, _, _, _, _, fo, fj, fk, fe, fr, fw, ⟨hPm, hPa, hPl, hPe, hPr, hPk⟩, hFk, hFe, hFr, hpk, hn9⟩, AN.no (by subst er_1 er_3 er_6 er_10 er_23 er_25; first | rfl | (simp [m_or, m_not, m_is0, m_lt0, m_fl, c_5, c_7, c_11, c_22, Int32.not_lt.mpr c_22, c_24]; done)) (by subst er_1 er_3 er_6 er_10 er_23 er_25; first | rfl | (simp [m_or, m_not, m_is0, m_lt0, m_fl, c_5, c_7, c_11, c_22, Int32.not_lt.mpr c_22, c_24]; done)) (er_6.symm.trans c_7) (by unfold m_NX; rw [show nn x2 = km from by rw [hkm1]; exact nI_clamp (by omega), hfin, if_neg (fun z9 => (q_abv.mp z9) hab), if_pos (er_23.symm.trans c_24)]) er_25⟩
              · refine lv_aload_n (pc := 85) hx hb dX5_next_85 rfl (lv_at hl 0 rfl) ?_
                refine lv_iload_n (pc := 86) hx hb dX5_next_86 rfl (lv_at hl 1 rfl) ?_
                refine lv_aload_n (pc := 87) hx hb dX5_next_87 rfl (lv_at hl 3 rfl) ?_
                have hZ0_ := hS.1
                have t_fo := fo.lt
                have t_fj := fj.lt
                have t_fk := fun k (hk9 : k < 6) => (fk k hk9).lt
                have t_fe := fe.lt
                have t_fr := fr.lt
                have t_fm := fm.lt
                refine k_i (pc := 88) (k_V E hC hS hA hl.1 (c1.recv hC fo rfl) rfl (c_X5_become l D tk N0 sa H.size P hPN (fun q h9 => hPs q (Nat.le_trans hS.1 h9)) mo n9 kn ((m_th r_1 0)) tt bb eT eB oT oB pk ca rf vs x1 (nn x1) hx_8 hk_8 q9 t9 b9 hq9 hb9.2) kw_1255 kw_1257 kp_21 kw_5 kw_1258 (n := 2) (by decide +kernel) rfl ⟨⟨rfl, rfl⟩, ⟨Nat.le_of_ble_eq_true rfl, Nat.le_of_ble_eq_true rfl⟩, (by dsimp only; omega), (by dsimp only; omega)⟩ rfl (Nat.le_of_ble_eq_true rfl) ⟨⟨_, _, _, _, _, fo, fj, fk, fe, fr, fw, ⟨hPm, hPa, hPl, hPe, hPr, hPk⟩, hFk, hFe, hFr, hpk, hn9⟩, fm⟩ dX5_next_88) hS (fun q _ h => h) hn (fun r_26 H locs hR hz hk hS => ?_)
                obtain ⟨tt_27, bb_27, rf_27, hM, hBE_27⟩ := hR
                obtain ⟨ra, rl, ex, ro, rt, fo, fj, fk, fe, fr, fw, ⟨hPm, hPa, hPl, hPe, hPr, hPk⟩, hFk, hFe, hFr, hpk, hn9⟩ := hM
                have g_fo := hPm
                have g_fj := hPa
                refine lv_iconst (pc := 91) (v := 1) hx hb dX5_next_91 (by decide) ?_
                refine lv_ior (pc := 92) hx hb dX5_next_92 ?_
                refine lv_goto (pc := 93) (tgt := 100) hx hb dX5_next_93 (by decide) ?_
                try rw [hQ]
                refine r_iret (pc := 100) E hr hlk hS (by omega) (by omega) ?_ dX5_next_100
                exact ⟨_, _, _, _, ⟨_, _, _, _, _, fo, fj, fk, fe, fr, fw, ⟨hPm, hPa, hPl, hPe, hPr, hPk⟩, hFk, hFe, hFr, hpk, hn9⟩, AN.ok (by subst er_1 er_3 er_6 er_10 er_23; first | rfl | (simp [m_or, m_not, m_is0, m_lt0, m_fl, c_5, c_7, c_11, c_22, Int32.not_lt.mpr c_22, c_24]; done)) (by subst er_1 er_3 er_6 er_10 er_23; first | rfl | (simp [m_or, m_not, m_is0, m_lt0, m_fl, c_5, c_7, c_11, c_22, Int32.not_lt.mpr c_22, c_24]; done)) (er_6.symm.trans c_7) (hBE_27.cast (by unfold m_NX; rw [show nn x2 = km from by rw [hkm1]; exact nI_clamp (by omega), hfin, if_neg (fun z9 => (q_abv.mp z9) hab), if_neg (fun z9 => c_24 (er_23.trans z9))])) rfl⟩
            · refine lv_aload_n (pc := 60) hx hb dX5_next_60 rfl (lv_at hl 3 rfl) ?_
              have hZ0_ := hS.1
              have t_fo := fo.lt
              have t_fj := fj.lt
              have t_fk := fun k (hk9 : k < 6) => (fk k hk9).lt
              have t_fe := fe.lt
              have t_fr := fr.lt
              have t_fm := fm.lt
              refine k_i (pc := 61) (k_S E hC hS hA hl.1 (c_X5_isFit l D tk N0 sa H.size q9 t9 b9 ) kw_1259 kw_1260 kw_5 kw_1261 (n := 1) (by decide +kernel) rfl ⟨⟨rfl, rfl⟩, ⟨Nat.le_of_ble_eq_true rfl, Nat.le_of_ble_eq_true rfl⟩, (by dsimp only; omega), (by dsimp only; omega)⟩ rfl (Nat.le_of_ble_eq_true rfl) fm dX5_next_61) hS (fun q z w => absurd w (Nat.not_le.mpr z)) hn (fun r_28 H locs hR hz hk hS => ?_)
              have fw := fw.new hk
              have fo := fo.kept (hk _ fo.lt (Nat.not_le.mpr fo.lt))
              have fj := fj.kept (hk _ fj.lt (Nat.not_le.mpr fj.lt))
              have fk := fk.new hk
              have fe := fe.kept (hk _ fe.lt (Nat.not_le.mpr fe.lt))
              have fr := fr.kept (hk _ fr.lt (Nat.not_le.mpr fr.lt))
              have fm := fm.kept (hk _ fm.lt (Nat.not_le.mpr fm.lt))
              have er_28 := hR
              refine lv_if_eq (pc := 64) (tgt := 78) hx hb dX5_next_64 (by decide) (fun c_29 => ?_) (fun c_29 => ?_)
              · have hfin : m_nxL km (tt (nn x1)) (bb (nn x1)) = (t9, b9) := by
                  rw [← hg9]
                  exact m_nxLz (by rw [← er_28]; exact c_29)
                refine lv_aload_n (pc := 78) hx hb dX5_next_78 rfl (lv_at hl 3 rfl) ?_
                have hZ0_ := hS.1
                have t_fo := fo.lt
                have t_fj := fj.lt
                have t_fk := fun k (hk9 : k < 6) => (fk k hk9).lt
                have t_fe := fe.lt
                have t_fr := fr.lt
                have t_fm := fm.lt
                refine k_i (pc := 79) (k_S E hC hS hA hl.1 (c_X5_isFit l D tk N0 sa H.size q9 t9 b9 ) kw_1259 kw_1260 kw_5 kw_1261 (n := 1) (by decide +kernel) rfl ⟨⟨rfl, rfl⟩, ⟨Nat.le_of_ble_eq_true rfl, Nat.le_of_ble_eq_true rfl⟩, (by dsimp only; omega), (by dsimp only; omega)⟩ rfl (Nat.le_of_ble_eq_true rfl) fm dX5_next_79) hS (fun q z w => absurd w (Nat.not_le.mpr z)) hn (fun r_30 H locs hR hz hk hS => ?_)
                have fw := fw.new hk
                have fo := fo.kept (hk _ fo.lt (Nat.not_le.mpr fo.lt))
                have fj := fj.kept (hk _ fj.lt (Nat.not_le.mpr fj.lt))
                have fk := fk.new hk
                have fe := fe.kept (hk _ fe.lt (Nat.not_le.mpr fe.lt))
                have fr := fr.kept (hk _ fr.lt (Nat.not_le.mpr fr.lt))
                have fm := fm.kept (hk _ fm.lt (Nat.not_le.mpr fm.lt))
                have er_30 := hR
                refine lv_if_eq (pc := 82) (tgt := 96) hx hb dX5_next_82 (by decide) (fun c_31 => ?_) (fun c_31 => ?_)
                · refine lv_aload_n (pc := 96) hx hb dX5_next_96 rfl (lv_at hl 0 rfl) ?_
                  have hZ0_ := hS.1
                  have t_fo := fo.lt
                  have t_fj := fj.lt
                  have t_fk := fun k (hk9 : k < 6) => (fk k hk9).lt
                  have t_fe := fe.lt
                  have t_fr := fr.lt
                  have t_fm := fm.lt
                  refine k_i (pc := 97) (k_V E hC hS hA hl.1 (c1.recv hC fo rfl) rfl (c_X5_no l D tk N0 sa H.size P hPN (fun q h9 => hPs q (Nat.le_trans hS.1 h9)) mo n9 kn ((m_th r_1 0)) tt bb eT eB oT oB pk ca rf vs  ) kw_1264 kw_1266 kp_22 kw_5 kw_1267 (n := 0) (by decide +kernel) rfl ⟨⟨rfl, rfl⟩, ⟨Nat.le_of_ble_eq_true rfl, Nat.le_of_ble_eq_true rfl⟩, (by dsimp only; omega), (by dsimp only; omega)⟩ rfl (Nat.le_of_ble_eq_true rfl) ⟨_, _, _, _, _, fo, fj, fk, fe, fr, fw, ⟨hPm, hPa, hPl, hPe, hPr, hPk⟩, hFk, hFe, hFr, hpk, hn9⟩ dX5_next_97) hS (fun q _ h => h) hn (fun r_32 H locs hR hz hk hS => ?_)
                  obtain ⟨er_32, hM⟩ := hR
                  obtain ⟨ra, rl, ex, ro, rt, fo, fj, fk, fe, fr, fw, ⟨hPm, hPa, hPl, hPe, hPr, hPk⟩, hFk, hFe, hFr, hpk, hn9⟩ := hM
                  have g_fo := hPm
                  have g_fj := hPa
                  try rw [hQ]
                  refine r_iret (pc := 100) E hr hlk hS (by omega) (by omega) ?_ dX5_next_100
                  exact ⟨_, _, _, _, ⟨_, _, _, _, _, fo, fj, fk, fe, fr, fw, ⟨hPm, hPa, hPl, hPe, hPr, hPk⟩, hFk, hFe, hFr, hpk, hn9⟩, AN.no (by subst er_1 er_3 er_6 er_10 er_28 er_30 er_32; first | rfl | (simp [m_or, m_not, m_is0, m_lt0, m_fl, c_5, c_7, c_11, c_22, Int32.not_le.mp c_22, c_29, c_31]; done)) (by subst er_1 er_3 er_6 er_10 er_28 er_30 er_32; first | rfl | (simp [m_or, m_not, m_is0, m_lt0, m_fl, c_5, c_7, c_11, c_22, Int32.not_le.mp c_22, c_29, c_31]; done)) (er_6.symm.trans c_7) (by unfold m_NX; rw [show nn x2 = km from by rw [hkm1]; exact nI_clamp (by omega), hfin, if_neg (fun z9 => (q_abv.mp z9) hab), if_pos (er_30.symm.trans c_31)]) er_32⟩
                · refine lv_aload_n (pc := 85) hx hb dX5_next_85 rfl (lv_at hl 0 rfl) ?_
                  refine lv_iload_n (pc := 86) hx hb dX5_next_86 rfl (lv_at hl 1 rfl) ?_
                  refine lv_aload_n (pc := 87) hx hb dX5_next_87 rfl (lv_at hl 3 rfl) ?_
                  have hZ0_ := hS.1
                  have t_fo := fo.lt
                  have t_fj := fj.lt
                  have t_fk := fun k (hk9 : k < 6) => (fk k hk9).lt
                  have t_fe := fe.lt
                  have t_fr := fr.lt
                  have t_fm := fm.lt
                  refine k_i (pc := 88) (k_V E hC hS hA hl.1 (c1.recv hC fo rfl) rfl (c_X5_become l D tk N0 sa H.size P hPN (fun q h9 => hPs q (Nat.le_trans hS.1 h9)) mo n9 kn ((m_th r_1 0)) tt bb eT eB oT oB pk ca rf vs x1 (nn x1) hx_8 hk_8 q9 t9 b9 hq9 hb9.2) kw_1255 kw_1257 kp_21 kw_5 kw_1258 (n := 2) (by decide +kernel) rfl ⟨⟨rfl, rfl⟩, ⟨Nat.le_of_ble_eq_true rfl, Nat.le_of_ble_eq_true rfl⟩, (by dsimp only; omega), (by dsimp only; omega)⟩ rfl (Nat.le_of_ble_eq_true rfl) ⟨⟨_, _, _, _, _, fo, fj, fk, fe, fr, fw, ⟨hPm, hPa, hPl, hPe, hPr, hPk⟩, hFk, hFe, hFr, hpk, hn9⟩, fm⟩ dX5_next_88) hS (fun q _ h => h) hn (fun r_33 H locs hR hz hk hS => ?_)
                  obtain ⟨tt_34, bb_34, rf_34, hM, hBE_34⟩ := hR
                  obtain ⟨ra, rl, ex, ro, rt, fo, fj, fk, fe, fr, fw, ⟨hPm, hPa, hPl, hPe, hPr, hPk⟩, hFk, hFe, hFr, hpk, hn9⟩ := hM
                  have g_fo := hPm
                  have g_fj := hPa
                  refine lv_iconst (pc := 91) (v := 1) hx hb dX5_next_91 (by decide) ?_
                  refine lv_ior (pc := 92) hx hb dX5_next_92 ?_
                  refine lv_goto (pc := 93) (tgt := 100) hx hb dX5_next_93 (by decide) ?_
                  try rw [hQ]
                  refine r_iret (pc := 100) E hr hlk hS (by omega) (by omega) ?_ dX5_next_100
                  exact ⟨_, _, _, _, ⟨_, _, _, _, _, fo, fj, fk, fe, fr, fw, ⟨hPm, hPa, hPl, hPe, hPr, hPk⟩, hFk, hFe, hFr, hpk, hn9⟩, AN.ok (by subst er_1 er_3 er_6 er_10 er_28 er_30; first | rfl | (simp [m_or, m_not, m_is0, m_lt0, m_fl, c_5, c_7, c_11, c_22, Int32.not_le.mp c_22, c_29, c_31]; done)) (by subst er_1 er_3 er_6 er_10 er_28 er_30; first | rfl | (simp [m_or, m_not, m_is0, m_lt0, m_fl, c_5, c_7, c_11, c_22, Int32.not_le.mp c_22, c_29, c_31]; done)) (er_6.symm.trans c_7) (hBE_34.cast (by unfold m_NX; rw [show nn x2 = km from by rw [hkm1]; exact nI_clamp (by omega), hfin, if_neg (fun z9 => (q_abv.mp z9) hab), if_neg (fun z9 => c_31 (er_30.trans z9))])) rfl⟩
              · refine lv_aload_n (pc := 67) hx hb dX5_next_67 rfl (lv_at hl 3 rfl) ?_
                have hnf9 : ¬ m_fit t9 b9 = 0 := by rw [← er_28]; exact c_29
                have hF9 := m_fit1 (t := t9) (b := b9) (by rw [← er_28]; exact c_29) hb9.2
                have hP9 := m_nxtP hF9 hb9.1
                have hlt50 : k < km := Nat.not_le.mp (fun z9 => c_22 (by rw [hkm1, hx9]; exact nI_le z9 (by omega)))
                have hZ0_ := hS.1
                have t_fo := fo.lt
                have t_fj := fj.lt
                have t_fk := fun k (hk9 : k < 6) => (fk k hk9).lt
                have t_fe := fe.lt
                have t_fr := fr.lt
                have t_fm := fm.lt
                refine k_r (pc := 68) (k_S E hC hS hA hl.1 (c_X5_nextOf l D tk N0 sa H.size q9 t9 b9 hP9.1 hP9.2.1) kw_1689 kw_1690 kw_5 kw_1691 (n := 1) (by decide +kernel) rfl ⟨⟨rfl, rfl⟩, ⟨Nat.le_of_ble_eq_true rfl, Nat.le_of_ble_eq_true rfl⟩, (by dsimp only; omega), (by dsimp only; omega)⟩ rfl (Nat.le_of_ble_eq_true rfl) fm dX5_next_68) hS (fun q z w => absurd w (Nat.not_le.mpr z)) hn (fun r_35 H locs hR hz hk hS => ?_)
                have fw := fw.new hk
                have fo := fo.kept (hk _ fo.lt (Nat.not_le.mpr fo.lt))
                have fj := fj.kept (hk _ fj.lt (Nat.not_le.mpr fj.lt))
                have fk := fk.new hk
                have fe := fe.kept (hk _ fe.lt (Nat.not_le.mpr fe.lt))
                have fr := fr.kept (hk _ fr.lt (Nat.not_le.mpr fr.lt))
                have fm := fm.kept (hk _ fm.lt (Nat.not_le.mpr fm.lt))
                obtain ⟨z9_, f36⟩ := hR
                have s_f36 : s.heap.size ≤ r_35 := Nat.le_trans hZ0_ z9_
                have g_f36 := hn _ s_f36
                have l_fo_f36 : mo < r_35 := Nat.lt_of_lt_of_le t_fo z9_
                have l_fj_f36 : ra < r_35 := Nat.lt_of_lt_of_le t_fj z9_
                have nW_f36 : ∀ k, k < 6 → rt k ≠ r_35 := fun k hk9 => Nat.ne_of_lt (Nat.lt_of_lt_of_le (t_fk k hk9) z9_)
                have l_fe_f36 : ex < r_35 := Nat.lt_of_lt_of_le t_fe z9_
                have l_fr_f36 : ro < r_35 := Nat.lt_of_lt_of_le t_fr z9_
                have l_fm_f36 : q9 < r_35 := Nat.lt_of_lt_of_le t_fm z9_
                refine lv_astore_n (pc := 71) (lv' := [(3, .ref r_35), (0, .ref mo), (1, .int x1), (2, .int x2), (4, .int y9)]) hx hb dX5_next_71 rfl hl (by decide) rfl (fun ls hl => ?_)
                obtain ⟨x_37, ex_37⟩ : ∃ z9 : Int32, z9 = y9 + 1 := ⟨_, rfl⟩
                refine lv_iinc (pc := 72) (v := x_37) (lv' := [(4, .int x_37), (3, .ref r_35), (0, .ref mo), (1, .int x1), (2, .int x2)]) hx hb dX5_next_72 hl (k := 4) rfl (by rw [ex_37]; rfl) (by decide) rfl (fun ls hl => ?_)
                refine lv_goto (pc := 75) (tgt := 54) hx hb dX5_next_75 (by decide) ?_
                refine W.widen (k := k + 1) (n := 2 * (k + 1)) (by omega) (by omega) ?_
                exact ih_54  (k + 1) _ _  r_35 x_37 (by omega) (by omega) (i_up hx9 ex_37) ⟨hP9.2.2.2, hP9.2.2.1⟩ (hPs _ s_f36) (m_nxLs hnf9 (show km - k = (km - (k + 1)) + 1 by omega) hg9) (by omega) _ _ _ hS fo fj fk fe fr fw f36 (lv_sub hl [2, 3, 4, 1, 0] rfl)
        refine W.widen (k := 0) (n := 2 * 0) (by omega) (by omega) ?_
        exact loop_54 52 0 _ _  (rt (nn x1)) 0 (by omega) (Nat.zero_le _) nI_0.symm ⟨hab, mF_fL21.2.1⟩ Pq_fL21 rfl (Nat.zero_le _) _ _ _ hS fo fj fk fe fr fw fL21 (lv_sub hl [2, 3, 4, 1, 0] rfl)
    · refine lv_iconst (pc := 26) (v := 0) hx hb dX5_next_26 (by decide) ?_
      try rw [hQ]
      refine r_iret (pc := 27) E hr hlk hS (by omega) (by omega) ?_ dX5_next_27
      exact ⟨_, _, _, _, ⟨_, _, _, _, _, fo, fj, fk, fe, fr, fw, ⟨hPm, hPa, hPl, hPe, hPr, hPk⟩, hFk, hFe, hFr, hpk, hn9⟩, AN.fail (by subst er_1 er_3 er_6; first | rfl | (simp [m_or, m_not, m_is0, m_lt0, m_fl, c_5, c_7]; done)) (by subst er_1 er_3 er_6; first | rfl | (simp [m_or, m_not, m_is0, m_lt0, m_fl, c_5, c_7]; done)) (fun z9 => c_7 (er_6.trans z9))⟩
  · refine lv_iconst (pc := 15) (v := 1) hx hb dX5_next_15 (by decide) ?_
    refine lv_goto (pc := 16) (tgt := 20) hx hb dX5_next_16 (by decide) ?_
    have hZ0_ := hS.1
    have t_fo := fo.lt
    have t_fj := fj.lt
    have t_fk := fun k (hk9 : k < 6) => (fk k hk9).lt
    have t_fe := fe.lt
    have t_fr := fr.lt
    refine k_i (pc := 20) (k_V E hC hS hA hl.1 (c1.recv hC fo rfl) rfl (c_X5_fails l D tk N0 sa H.size P hPN (fun q h9 => hPs q (Nat.le_trans hS.1 h9)) mo n9 kn th tt bb eT eB oT oB pk ca rf vs r_1 1 ) kw_1251 kw_1253 kp_20 kw_5 kw_1254 (n := 2) (by decide +kernel) rfl ⟨⟨rfl, rfl⟩, ⟨Nat.le_of_ble_eq_true rfl, Nat.le_of_ble_eq_true rfl⟩, (by dsimp only; omega), (by dsimp only; omega)⟩ rfl (Nat.le_of_ble_eq_true rfl) ⟨_, _, _, _, _, fo, fj, fk, fe, fr, fw, ⟨hPm, hPa, hPl, hPe, hPr, hPk⟩, hFk, hFe, hFr, hpk, hn9⟩ dX5_next_20) hS (fun q _ h => h) hn (fun r_38 H locs hR hz hk hS => ?_)
    obtain ⟨er_38, hM⟩ := hR
    obtain ⟨ra, rl, ex, ro, rt, fo, fj, fk, fe, fr, fw, ⟨hPm, hPa, hPl, hPe, hPr, hPk⟩, hFk, hFe, hFr, hpk, hn9⟩ := hM
    have g_fo := hPm
    have g_fj := hPa
    have ef_r_38 : r_38 = 1 := er_38.trans (m_fl1 _)
    rw [ef_r_38]
    refine lv_if_eq (pc := 23) (tgt := 28) hx hb dX5_next_23 (by decide) (fun c_39 => ?_) (fun c_39 => ?_)
    · exact absurd c_39 (by decide)
    refine lv_iconst (pc := 26) (v := 0) hx hb dX5_next_26 (by decide) ?_
    try rw [hQ]
    refine r_iret (pc := 27) E hr hlk hS (by omega) (by omega) ?_ dX5_next_27
    exact ⟨_, _, _, _, ⟨_, _, _, _, _, fo, fj, fk, fe, fr, fw, ⟨hPm, hPa, hPl, hPe, hPr, hPk⟩, hFk, hFe, hFr, hpk, hn9⟩, AN.fail (by subst er_1 er_3; first | rfl | (simp [m_or, m_not, m_is0, m_lt0, m_fl, c_5]; done)) (by subst er_1 er_3; first | rfl | (simp [m_or, m_not, m_is0, m_lt0, m_fl, c_5]; done)) (fun z9 => absurd (ef_r_38.symm.trans (er_38.trans z9)) (by decide))⟩
