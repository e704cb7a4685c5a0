set_option maxHeartbeats 4000000 in
set_option maxRecDepth 100000 in
/-- BestratiosModel.fold(I)I -/
theorem c_X5_fold (l : Launch) (D : va_G) (tk : Nat → ClassId) (N0 : Nat) (sa : Nat → Nat)  (sz : Nat) (P : Nat → Prop) (hPN : ∀ q, P q → N0 ≤ q) (hPs : ∀ q, sz ≤ q → P q) (mo n9 : Nat) (kn th : Int32) (tt bb : Nat → Int64) (eT eB oT oB : Int64) (pk : Nat) (ca rf : Int32) (vs : Nat → Value) (x1 : Int32) : Met l yX5_fold (wsy yX5_fold cX5_fold 4 (some .int)) ({ frames := 8, cells := 24, slots := 162, locals := 180 } : Room) (cP D tk N0 sa [.ref mo, .int x1] sz (fun H => MI D tk sa P mo tt bb eT eB oT oB pk ca rf vs kn n9 th H)) (kQi (fun r H => ∃ th1 tt1 bb1 rf1 o, MI D tk sa P mo tt1 bb1 eT eB oT oB pk ca rf1 vs kn n9 th1 H ∧ AC (m_isNo x1) 0 tt bb rf (nn x1) o r th1 tt1 bb1 rf1 ∧ (m_fl (m_isNo x1) 0 = 0 → m_FO n9 vs o)) (P)) (24) (162) (P) := by
  refine mStart RX5 rfl (by decide +kernel) (Nat.le_of_ble_eq_true rfl) ?_
  intro p e s m args below meth c E hr hlk hnm hsz hC hF ls hl
  subst hsz
  obtain ⟨hx, hb, -⟩ := id E
  have hA : ∀ q, (P) q → N0 ≤ q := hPN
  have hn : ∀ q, s.heap.size ≤ q → (P) q := hPs
  have hS : va_S (P) s.heap s.heap [] := va_S.rf
  have hl : lv_has ls 4 [(0, .ref mo), (1, .int x1)] := hl
  obtain ⟨Q, hQ⟩ : ∃ Q, Q = MQ below (kQi (fun r H => ∃ th1 tt1 bb1 rf1 o, MI D tk sa P mo tt1 bb1 eT eB oT oB pk ca rf1 vs kn n9 th1 H ∧ AC (m_isNo x1) 0 tt bb rf (nn x1) o r th1 tt1 bb1 rf1 ∧ (m_fl (m_isNo x1) 0 = 0 → m_FO n9 vs o)) (P)) args s (24) (162) (P) := ⟨_, rfl⟩
  rw [← hQ]
  have hM : MI D tk sa P mo tt bb eT eB oT oB pk ca rf vs kn n9 th s.heap := hF
  obtain ⟨ra, rl, ex, ro, rt, fo, fj, fk, fe, fr, fw, ⟨hPm, hPa, hPl, hPe, hPr, hPk⟩, hFk, hFe, hFr, hpk, hn9⟩ := hM
  have g_fo := hPm
  have g_fj := hPa
  refine lv_aload_n (pc := 0) hx hb dX5_fold_0 rfl (lv_at hl 0 rfl) ?_
  refine lv_iload_n (pc := 1) hx hb dX5_fold_1 rfl (lv_at hl 1 rfl) ?_
  refine k_i (pc := 2) (k_S E hC hS hA hl.1 (c_X5_isNo l D tk N0 sa s.heap.size x1 ) kw_1245 kw_1246 kw_5 kw_1247 (n := 1) (by decide +kernel) rfl ⟨⟨rfl, rfl⟩, ⟨Nat.le_of_ble_eq_true rfl, Nat.le_of_ble_eq_true rfl⟩, (by dsimp only; omega), (by dsimp only; omega)⟩ rfl (Nat.le_of_ble_eq_true rfl) trivial dX5_fold_2) hS (fun q z w => absurd w (Nat.not_le.mpr z)) hn (fun r_1 H locs hR hz hk hS => ?_)
  have er_1 := hR
  have fw := fw.new hk
  have fo := fo.kept (hk _ fo.lt (Nat.not_le.mpr fo.lt))
  have fj := fj.kept (hk _ fj.lt (Nat.not_le.mpr fj.lt))
  have fk := fk.new hk
  have fe := fe.kept (hk _ fe.lt (Nat.not_le.mpr fe.lt))
  have fr := fr.kept (hk _ fr.lt (Nat.not_le.mpr fr.lt))
  refine lv_iconst (pc := 5) (v := 0) hx hb dX5_fold_5 (by decide) ?_
  have hZ0_ := hS.1
  have t_fo := fo.lt
  have t_fj := fj.lt
  have t_fk := fun k (hk9 : k < 6) => (fk k hk9).lt
  have t_fe := fe.lt
  have t_fr := fr.lt
  refine k_i (pc := 6) (k_V E hC hS hA hl.1 (c1.recv hC fo rfl) rfl (c_X5_fails l D tk N0 sa H.size P hPN (fun q h9 => hPs q (Nat.le_trans hS.1 h9)) mo n9 kn th tt bb eT eB oT oB pk ca rf vs r_1 0 ) kw_1251 kw_1253 kp_20 kw_5 kw_1254 (n := 2) (by decide +kernel) rfl ⟨⟨rfl, rfl⟩, ⟨Nat.le_of_ble_eq_true rfl, Nat.le_of_ble_eq_true rfl⟩, (by dsimp only; omega), (by dsimp only; omega)⟩ rfl (Nat.le_of_ble_eq_true rfl) ⟨_, _, _, _, _, fo, fj, fk, fe, fr, fw, ⟨hPm, hPa, hPl, hPe, hPr, hPk⟩, hFk, hFe, hFr, hpk, hn9⟩ dX5_fold_6) hS (fun q _ h => h) hn (fun r_3 H locs hR hz hk hS => ?_)
  obtain ⟨er_3, hM⟩ := hR
  obtain ⟨ra, rl, ex, ro, rt, fo, fj, fk, fe, fr, fw, ⟨hPm, hPa, hPl, hPe, hPr, hPk⟩, hFk, hFe, hFr, hpk, hn9⟩ := hM
  have g_fo := hPm
  have g_fj := hPa
  refine lv_if_eq (pc := 9) (tgt := 14) hx hb dX5_fold_9 (by decide) (fun c_4 => ?_) (fun c_4 => ?_)
  · rcases Nat.eq_zero_or_pos n9 with h0r | h0r
    · subst h0r
      obtain ⟨mdr, br, f0w⟩ := fw.obj
      refine lv_aload_n (pc := 14) hx hb dX5_fold_14 rfl (lv_at hl 0 rfl) ?_
      refine r_get (pc := 15) E hC fo 1 (v := .ref rl) rfl rfl (by decide) uX5 (List.mem_cons_of_mem _ kw_1210) (fun _ h => h) dX5_fold_15 ?_
      obtain ⟨md_5, b_5, fz5⟩ := fw.obj
      refine k_i (pc := 18) (k_V E hC hS hA hl.1 (c1.recv hC fz5 rfl) rfl (c_Jx4a65c_size_8abf5 l D tk N0 sa H.size rl b_5 0 md_5) kw_1546 kw_1547 kw_1548 kw_8 kw_1549 (n := 0) (by decide +kernel) rfl ⟨⟨rfl, rfl⟩, ⟨Nat.le_of_ble_eq_true rfl, Nat.le_of_ble_eq_true rfl⟩, (by dsimp only; omega), (by dsimp only; omega)⟩ rfl (Nat.le_of_ble_eq_true rfl) (by exact fz5) dX5_fold_18) hS (fun q z w => absurd w (Nat.not_le.mpr z)) hn (fun r_6 H locs hR hz hk hS => ?_)
      have fw := fw.new hk
      have fo := fo.kept (hk _ fo.lt (Nat.not_le.mpr fo.lt))
      have fj := fj.kept (hk _ fj.lt (Nat.not_le.mpr fj.lt))
      have fk := fk.new hk
      have fe := fe.kept (hk _ fe.lt (Nat.not_le.mpr fe.lt))
      have fr := fr.kept (hk _ fr.lt (Nat.not_le.mpr fr.lt))
      have f0w := f0w.kept (hk _ f0w.lt (Nat.not_le.mpr f0w.lt))
      have fz5 := fz5.kept (hk _ fz5.lt (Nat.not_le.mpr fz5.lt))
      rw [show r_6 = 0 from hR.trans nI_0]
      refine lv_if_le (pc := 21) (tgt := 28) hx hb dX5_fold_21 (by decide) (fun c_7 => ?_) (fun c_7 => ?_)
      rotate_left
      · exact absurd (by decide) c_7
      refine lv_iconst (pc := 28) (v := 0) hx hb dX5_fold_28 (by decide) ?_
      refine lv_istore_n (pc := 29) (lv' := [(2, .int 0), (0, .ref mo), (1, .int x1)]) hx hb dX5_fold_29 rfl hl (by decide) rfl (fun ls hl => ?_)
      refine lv_iconst (pc := 30) (v := 1) hx hb dX5_fold_30 (by decide) ?_
      refine lv_istore_n (pc := 31) (lv' := [(3, .int 1), (2, .int 0), (0, .ref mo), (1, .int x1)]) hx hb dX5_fold_31 rfl hl (by decide) rfl (fun ls hl => ?_)
      refine lv_iload_n (pc := 32) hx hb dX5_fold_32 rfl (lv_at hl 0 rfl) ?_
      refine lv_aload_n (pc := 33) hx hb dX5_fold_33 rfl (lv_at hl 2 rfl) ?_
      refine r_get (pc := 34) E hC fo 1 (v := .ref rl) rfl rfl (by decide) uX5 (List.mem_cons_of_mem _ kw_1210) (fun _ h => h) dX5_fold_34 ?_
      obtain ⟨md_8, b_8, fz8⟩ := fw.obj
      refine k_i (pc := 37) (k_V E hC hS hA hl.1 (c1.recv hC fz8 rfl) rfl (c_Jx4a65c_size_8abf5 l D tk N0 sa H.size rl b_8 0 md_8) kw_1546 kw_1547 kw_1548 kw_8 kw_1549 (n := 0) (by decide +kernel) rfl ⟨⟨rfl, rfl⟩, ⟨Nat.le_of_ble_eq_true rfl, Nat.le_of_ble_eq_true rfl⟩, (by dsimp only; omega), (by dsimp only; omega)⟩ rfl (Nat.le_of_ble_eq_true rfl) (by exact fz8) dX5_fold_37) hS (fun q z w => absurd w (Nat.not_le.mpr z)) hn (fun r_9 H locs hR hz hk hS => ?_)
      have fw := fw.new hk
      have fo := fo.kept (hk _ fo.lt (Nat.not_le.mpr fo.lt))
      have fj := fj.kept (hk _ fj.lt (Nat.not_le.mpr fj.lt))
      have fk := fk.new hk
      have fe := fe.kept (hk _ fe.lt (Nat.not_le.mpr fe.lt))
      have fr := fr.kept (hk _ fr.lt (Nat.not_le.mpr fr.lt))
      have f0w := f0w.kept (hk _ f0w.lt (Nat.not_le.mpr f0w.lt))
      have fz5 := fz5.kept (hk _ fz5.lt (Nat.not_le.mpr fz5.lt))
      have fz8 := fz8.kept (hk _ fz8.lt (Nat.not_le.mpr fz8.lt))
      rw [show r_9 = 0 from hR.trans nI_0]
      refine lv_icmp_ge (pc := 40) (tgt := 75) hx hb dX5_fold_40 (by decide) (fun c_10 => ?_) (fun c_10 => ?_)
      rotate_left
      · exact absurd (by decide) c_10
      refine lv_aload_n (pc := 75) hx hb dX5_fold_75 rfl (lv_at hl 2 rfl) ?_
      refine lv_iload_n (pc := 76) hx hb dX5_fold_76 rfl (lv_at hl 3 rfl) ?_
      refine lv_iload_n (pc := 77) hx hb dX5_fold_77 rfl (lv_at hl 1 rfl) ?_
      refine lv_if_eq (pc := 78) (tgt := 98) hx hb dX5_fold_78 (by decide) (fun c_11 => ?_) (fun c_11 => ?_)
      rotate_left
      · exact absurd (by decide) c_11
      refine lv_null (pc := 98) hx hb dX5_fold_98 ?_
      have hZ0_ := hS.1
      have t_fo := fo.lt
      have t_fj := fj.lt
      have t_fk := fun k (hk9 : k < 6) => (fk k hk9).lt
      have t_fe := fe.lt
      have t_fr := fr.lt
      have t_f0w := f0w.lt
      have t_fz5 := fz5.lt
      have t_fz8 := fz8.lt
      obtain ⟨hx_12, hk_12⟩ := m_noN (er_1.symm.trans (m_fl0 (er_3.symm.trans c_4)).1)
      refine k_i (pc := 99) (k_V E hC hS hA hl.1 (c1.recv hC fo rfl) rfl (c_X5_become_N l D tk N0 sa H.size P hPN (fun q h9 => hPs q (Nat.le_trans hS.1 h9)) mo 0 kn ((m_th r_1 0)) tt bb eT eB oT oB pk ca rf vs x1 (nn x1) hx_12 hk_12 ) kw_1255 kw_1257 kp_21 kw_5 kw_1258 (n := 2) (by decide +kernel) rfl ⟨⟨rfl, rfl⟩, ⟨Nat.le_of_ble_eq_true rfl, Nat.le_of_ble_eq_true rfl⟩, (by dsimp only; omega), (by dsimp only; omega)⟩ rfl (Nat.le_of_ble_eq_true rfl) ⟨_, _, _, _, _, fo, fj, fk, fe, fr, fw, ⟨hPm, hPa, hPl, hPe, hPr, hPk⟩, hFk, hFe, hFr, hpk, hn9⟩ dX5_fold_99) hS (fun q _ h => h) hn (fun r_13 H locs hR hz hk hS => ?_)
      obtain ⟨tt_14, bb_14, rf_14, hM, hBE_14⟩ := hR
      obtain ⟨ra, rl, ex, ro, rt, fo, fj, fk, fe, fr, fw, ⟨hPm, hPa, hPl, hPe, hPr, hPk⟩, hFk, hFe, hFr, hpk, hn9⟩ := hM
      have g_fo := hPm
      have g_fj := hPa
      try rw [hQ]
      refine r_iret (pc := 102) E hr hlk hS (by omega) (by omega) ?_ dX5_fold_102
      exact ⟨_, _, _, _, _, ⟨_, _, _, _, _, fo, fj, fk, fe, fr, fw, ⟨hPm, hPa, hPl, hPe, hPr, hPk⟩, hFk, hFe, hFr, hpk, hn9⟩, AC.ok (by subst er_1 er_3; first | rfl | (simp [m_or, m_not, m_is0, m_lt0, m_fl, c_4]; done)) (by subst er_1 er_3; first | rfl | (simp [m_or, m_not, m_is0, m_lt0, m_fl, c_4]; done)) (er_3.symm.trans c_4) hBE_14, fun _ => Or.inl ⟨rfl, rfl⟩⟩
    · rcases fw with ⟨h1r, -⟩ | ⟨mdr, br, capr, fnr, hPb, f0w, fRw, elw, hPI, hncr, hmcr⟩
      · exact absurd h1r (by omega)
      have g_f0w := hPl
      have nW_f0w : ∀ k, k < 6 → rt k ≠ rl := fun k hk9 => clA.ne (fk k hk9).cla f0w.cl (hC.ao 7 0 rfl rfl)
      have g_fRw := hPb
      have nW_fRw : ∀ k, k < 6 → rt k ≠ br := fun k hk9 => clA.ne (fk k hk9).cla fRw.cla (hC.aa 0 4 rfl rfl (by dsimp only; decide))
      have hcbr := m_acB hmcr
      refine lv_aload_n (pc := 14) hx hb dX5_fold_14 rfl (lv_at hl 0 rfl) ?_
      refine r_get (pc := 15) E hC fo 1 (v := .ref rl) rfl rfl (by decide) uX5 (List.mem_cons_of_mem _ kw_1210) (fun _ h => h) dX5_fold_15 ?_
      refine k_i (pc := 18) (k_V E hC hS hA hl.1 (c1.recv hC f0w rfl) rfl (c_Jx4a65c_size_8abf5 l D tk N0 sa H.size rl br n9 mdr) kw_1546 kw_1547 kw_1548 kw_8 kw_1549 (n := 0) (by decide +kernel) rfl ⟨⟨rfl, rfl⟩, ⟨Nat.le_of_ble_eq_true rfl, Nat.le_of_ble_eq_true rfl⟩, (by dsimp only; omega), (by dsimp only; omega)⟩ rfl (Nat.le_of_ble_eq_true rfl) f0w dX5_fold_18) hS (fun q z w => absurd w (Nat.not_le.mpr z)) hn (fun r_15 H locs hR hz hk hS => ?_)
      have fo := fo.kept (hk _ fo.lt (Nat.not_le.mpr fo.lt))
      have fj := fj.kept (hk _ fj.lt (Nat.not_le.mpr fj.lt))
      have fk := fk.new hk
      have fe := fe.kept (hk _ fe.lt (Nat.not_le.mpr fe.lt))
      have fr := fr.kept (hk _ fr.lt (Nat.not_le.mpr fr.lt))
      have f0w := f0w.kept (hk _ f0w.lt (Nat.not_le.mpr f0w.lt))
      have fRw := fRw.kept (hk _ fRw.lt (Nat.not_le.mpr fRw.lt))
      have elw := elw.new hk
      rw [show r_15 = nI n9 from hR]
      refine lv_if_le (pc := 21) (tgt := 28) hx hb dX5_fold_21 (by decide) (fun c_16 => ?_) (fun c_16 => ?_)
      · exact absurd (m_nle0 (by omega) c_16) (by omega)
      refine lv_iconst (pc := 24) (v := 1) hx hb dX5_fold_24 (by decide) ?_
      refine lv_goto (pc := 25) (tgt := 29) hx hb dX5_fold_25 (by decide) ?_
      refine lv_istore_n (pc := 29) (lv' := [(2, .int 1), (0, .ref mo), (1, .int x1)]) hx hb dX5_fold_29 rfl hl (by decide) rfl (fun ls hl => ?_)
      refine lv_iconst (pc := 30) (v := 1) hx hb dX5_fold_30 (by decide) ?_
      refine lv_istore_n (pc := 31) (lv' := [(3, .int 1), (2, .int 1), (0, .ref mo), (1, .int x1)]) hx hb dX5_fold_31 rfl hl (by decide) rfl (fun ls hl => ?_)
      have loop_32 : ∀ (n : Nat) (k : Nat)(u9 : Int32) (y9 : Int32), 17 - k < n → 1 ≤ k ∧ k ≤ n9 → y9 = nI k → m_isz vs k u9 → ∀ (H : Heap) (locs : List Loc) (ls : Array Slot), va_S (P) s.heap H locs → c1 D mo (.inr (13, [.ref ra, .ref rl, .ref ex, .ref ro, .int (nI pk), .int ca, .int rf, .int kn, .int ((m_th r_1 0))])) H → c1 D ra (.inl (tk 3, 6, .inr (.inr (.inr (.inr (fun k => some (rt k))))))) H → MK D tk rt tt bb H → L2 D tk ex eT eB H → L2 D tk ro oT oB H → c1 D rl (.inr (7, [.int mdr, .ref br, .int (nI n9)])) H → c1 D br (.inl (tk 4, capr, .inr (.inr (.inr (.inr (fnr)))))) H → EL D 2 n9 fnr vs H → lv_has ls 4 [(0, .ref mo), (1, .int x1), (2, .int u9), (3, .int y9)] → W p l e ({ frames := 8, cells := 24, slots := 162, locals := 180 } : Room) s m args below meth c H locs (0) (0) Q (F0 m 32 ls []) := by
        intro n
        induction n with
        | zero =>
          intro k u9 y9 hf9 hk9 hx9 hz9 H locs ls hS fo fj fk fe fr f0w fRw elw hl
          omega
        | succ n ih_32 =>
          intro k u9 y9 hf9 hk9 hx9 hz9 H locs ls hS fo fj fk fe fr f0w fRw elw hl
          refine lv_iload_n (pc := 32) hx hb dX5_fold_32 rfl (lv_at hl 3 rfl) ?_
          refine lv_aload_n (pc := 33) hx hb dX5_fold_33 rfl (lv_at hl 0 rfl) ?_
          refine r_get (pc := 34) E hC fo 1 (v := .ref rl) rfl rfl (by decide) uX5 (List.mem_cons_of_mem _ kw_1210) (fun _ h => h) dX5_fold_34 ?_
          refine k_i (pc := 37) (k_V E hC hS hA hl.1 (c1.recv hC f0w rfl) rfl (c_Jx4a65c_size_8abf5 l D tk N0 sa H.size rl br n9 mdr) kw_1546 kw_1547 kw_1548 kw_8 kw_1549 (n := 0) (by decide +kernel) rfl ⟨⟨rfl, rfl⟩, ⟨Nat.le_of_ble_eq_true rfl, Nat.le_of_ble_eq_true rfl⟩, (by dsimp only; omega), (by dsimp only; omega)⟩ rfl (Nat.le_of_ble_eq_true rfl) f0w dX5_fold_37) hS (fun q z w => absurd w (Nat.not_le.mpr z)) hn (fun r_17 H locs hR hz hk hS => ?_)
          have fo := fo.kept (hk _ fo.lt (Nat.not_le.mpr fo.lt))
          have fj := fj.kept (hk _ fj.lt (Nat.not_le.mpr fj.lt))
          have fk := fk.new hk
          have fe := fe.kept (hk _ fe.lt (Nat.not_le.mpr fe.lt))
          have fr := fr.kept (hk _ fr.lt (Nat.not_le.mpr fr.lt))
          have f0w := f0w.kept (hk _ f0w.lt (Nat.not_le.mpr f0w.lt))
          have fRw := fRw.kept (hk _ fRw.lt (Nat.not_le.mpr fRw.lt))
          have elw := elw.new hk
          rw [show r_17 = nI n9 from hR]
          refine lv_icmp_ge (pc := 40) (tgt := 75) hx hb dX5_fold_40 (by decide) (fun c_18 => ?_) (fun c_18 => ?_)
          · refine lv_aload_n (pc := 75) hx hb dX5_fold_75 rfl (lv_at hl 0 rfl) ?_
            refine lv_iload_n (pc := 76) hx hb dX5_fold_76 rfl (lv_at hl 1 rfl) ?_
            refine lv_iload_n (pc := 77) hx hb dX5_fold_77 rfl (lv_at hl 2 rfl) ?_
            refine lv_if_eq (pc := 78) (tgt := 98) hx hb dX5_fold_78 (by decide) (fun c_19 => ?_) (fun c_19 => ?_)
            · have hkn9 : n9 ≤ k := Nat.not_lt.mp (fun z9 => absurd (nI_lt z9 (by omega)) (Int32.not_lt.mpr (by have h9 := c_18; rw [hx9] at h9; exact h9)))
              refine lv_null (pc := 98) hx hb dX5_fold_98 ?_
              have hZ0_ := hS.1
              have t_fo := fo.lt
              have t_fj := fj.lt
              have t_fk := fun k (hk9 : k < 6) => (fk k hk9).lt
              have t_fe := fe.lt
              have t_fr := fr.lt
              have t_f0w := f0w.lt
              have t_fRw := fRw.lt
              obtain ⟨hx_20, hk_20⟩ := m_noN (er_1.symm.trans (m_fl0 (er_3.symm.trans c_4)).1)
              refine k_i (pc := 99) (k_V E hC hS hA hl.1 (c1.recv hC fo rfl) rfl (c_X5_become_N l D tk N0 sa H.size P hPN (fun q h9 => hPs q (Nat.le_trans hS.1 h9)) mo n9 kn ((m_th r_1 0)) tt bb eT eB oT oB pk ca rf vs x1 (nn x1) hx_20 hk_20 ) kw_1255 kw_1257 kp_21 kw_5 kw_1258 (n := 2) (by decide +kernel) rfl ⟨⟨rfl, rfl⟩, ⟨Nat.le_of_ble_eq_true rfl, Nat.le_of_ble_eq_true rfl⟩, (by dsimp only; omega), (by dsimp only; omega)⟩ rfl (Nat.le_of_ble_eq_true rfl) ⟨_, _, _, _, _, fo, fj, fk, fe, fr, (Or.inr ⟨_, _, _, _, hPb, f0w, fRw, elw, hPI, hncr, hmcr⟩), ⟨hPm, hPa, hPl, hPe, hPr, hPk⟩, hFk, hFe, hFr, hpk, hn9⟩ dX5_fold_99) hS (fun q _ h => h) hn (fun r_21 H locs hR hz hk hS => ?_)
              obtain ⟨tt_22, bb_22, rf_22, hM, hBE_22⟩ := hR
              obtain ⟨ra, rl, ex, ro, rt, fo, fj, fk, fe, fr, fw, ⟨hPm, hPa, hPl, hPe, hPr, hPk⟩, hFk, hFe, hFr, hpk, hn9⟩ := hM
              have g_fo := hPm
              have g_fj := hPa
              try rw [hQ]
              refine r_iret (pc := 102) E hr hlk hS (by omega) (by omega) ?_ dX5_fold_102
              exact ⟨_, _, _, _, _, ⟨_, _, _, _, _, fo, fj, fk, fe, fr, fw, ⟨hPm, hPa, hPl, hPe, hPr, hPk⟩, hFk, hFe, hFr, hpk, hn9⟩, AC.ok (by subst er_1 er_3; first | rfl | (simp [m_or, m_not, m_is0, m_lt0, m_fl, c_4, c_18, Int32.not_lt.mpr c_18, c_19]; done)) (by subst er_1 er_3; first | rfl | (simp [m_or, m_not, m_is0, m_lt0, m_fl, c_4, c_18, Int32.not_lt.mpr c_18, c_19]; done)) (er_3.symm.trans c_4) hBE_22, fun _ => m_isz.fo0 (by rw [show n9 = k by omega]; exact hz9) c_19 (by omega)⟩
            · refine lv_aload_n (pc := 81) hx hb dX5_fold_81 rfl (lv_at hl 0 rfl) ?_
              have hkn9 : n9 ≤ k := Nat.not_lt.mp (fun z9 => absurd (nI_lt z9 (by omega)) (Int32.not_lt.mpr (by have h9 := c_18; rw [hx9] at h9; exact h9)))
              have hZ0_ := hS.1
              have t_fo := fo.lt
              have t_fj := fj.lt
              have t_fk := fun k (hk9 : k < 6) => (fk k hk9).lt
              have t_fe := fe.lt
              have t_fr := fr.lt
              have t_f0w := f0w.lt
              have t_fRw := fRw.lt
              refine k_r (pc := 82) (k_V E hC hS hA hl.1 (c1.recv hC fo rfl) rfl (c_X5_rowNow_A l D tk N0 sa H.size mo ra rl ex ro pk br ca rf kn ((m_th r_1 0)) mdr n9 capr fnr vs h0r hn9 hncr (by omega) hPI) kw_1610 kw_1612 kp_29 kw_5 kw_1613 (n := 0) (by decide +kernel) rfl ⟨⟨rfl, rfl⟩, ⟨Nat.le_of_ble_eq_true rfl, Nat.le_of_ble_eq_true rfl⟩, (by dsimp only; omega), (by dsimp only; omega)⟩ rfl (Nat.le_of_ble_eq_true rfl) ⟨fo, f0w, fRw, elw⟩ dX5_fold_82) hS (fun q z w => absurd w (Nat.not_le.mpr z)) hn (fun r_23 H locs hR hz hk hS => ?_)
              have fo := fo.kept (hk _ fo.lt (Nat.not_le.mpr fo.lt))
              have fj := fj.kept (hk _ fj.lt (Nat.not_le.mpr fj.lt))
              have fk := fk.new hk
              have fe := fe.kept (hk _ fe.lt (Nat.not_le.mpr fe.lt))
              have fr := fr.kept (hk _ fr.lt (Nat.not_le.mpr fr.lt))
              have f0w := f0w.kept (hk _ f0w.lt (Nat.not_le.mpr f0w.lt))
              have fRw := fRw.kept (hk _ fRw.lt (Nat.not_le.mpr fRw.lt))
              have elw := elw.new hk
              obtain ⟨bb24, cap24, ff24, ww24, md24, zr9_, zb9_, fl24, fR24, el24, hPQ24, hlc24, hlp24⟩ := hR
              have hcb24 := m_acB hlp24
              have s_fl24 : s.heap.size ≤ r_23 := Nat.le_trans hZ0_ zr9_
              have g_fl24 := hn _ s_fl24
              have l_fo_fl24 : mo < r_23 := Nat.lt_of_lt_of_le t_fo zr9_
              have l_fj_fl24 : ra < r_23 := Nat.lt_of_lt_of_le t_fj zr9_
              have nW_fl24 : ∀ k, k < 6 → rt k ≠ r_23 := fun k hk9 => Nat.ne_of_lt (Nat.lt_of_lt_of_le (t_fk k hk9) zr9_)
              have l_fe_fl24 : ex < r_23 := Nat.lt_of_lt_of_le t_fe zr9_
              have l_fr_fl24 : ro < r_23 := Nat.lt_of_lt_of_le t_fr zr9_
              have l_f0w_fl24 : rl < r_23 := Nat.lt_of_lt_of_le t_f0w zr9_
              have l_fRw_fl24 : br < r_23 := Nat.lt_of_lt_of_le t_fRw zr9_
              have s_fR24 : s.heap.size ≤ bb24 := Nat.le_trans hZ0_ zb9_
              have g_fR24 := hn _ s_fR24
              have l_fo_fR24 : mo < bb24 := Nat.lt_of_lt_of_le t_fo zb9_
              have l_fj_fR24 : ra < bb24 := Nat.lt_of_lt_of_le t_fj zb9_
              have nW_fR24 : ∀ k, k < 6 → rt k ≠ bb24 := fun k hk9 => Nat.ne_of_lt (Nat.lt_of_lt_of_le (t_fk k hk9) zb9_)
              have l_fe_fR24 : ex < bb24 := Nat.lt_of_lt_of_le t_fe zb9_
              have l_fr_fR24 : ro < bb24 := Nat.lt_of_lt_of_le t_fr zb9_
              have l_f0w_fR24 : rl < bb24 := Nat.lt_of_lt_of_le t_f0w zb9_
              have l_fRw_fR24 : br < bb24 := Nat.lt_of_lt_of_le t_fRw zb9_
              refine lv_aload_n (pc := 85) hx hb dX5_fold_85 rfl (lv_at hl 0 rfl) ?_
              refine r_get (pc := 86) E hC fo 1 (v := .ref rl) rfl rfl (by decide) uX5 (List.mem_cons_of_mem _ kw_1210) (fun _ h => h) dX5_fold_86 ?_
              refine k_i (pc := 89) (k_V E hC hS hA hl.1 (c1.recv hC f0w rfl) rfl (c_Jx4a65c_size_8abf5 l D tk N0 sa H.size rl br n9 mdr) kw_1546 kw_1547 kw_1548 kw_8 kw_1549 (n := 0) (by decide +kernel) rfl ⟨⟨rfl, rfl⟩, ⟨Nat.le_of_ble_eq_true rfl, Nat.le_of_ble_eq_true rfl⟩, (by dsimp only; omega), (by dsimp only; omega)⟩ rfl (Nat.le_of_ble_eq_true rfl) f0w dX5_fold_89) hS (fun q z w => absurd w (Nat.not_le.mpr z)) hn (fun r_25 H locs hR hz hk hS => ?_)
              have fo := fo.kept (hk _ fo.lt (Nat.not_le.mpr fo.lt))
              have fj := fj.kept (hk _ fj.lt (Nat.not_le.mpr fj.lt))
              have fk := fk.new hk
              have fe := fe.kept (hk _ fe.lt (Nat.not_le.mpr fe.lt))
              have fr := fr.kept (hk _ fr.lt (Nat.not_le.mpr fr.lt))
              have f0w := f0w.kept (hk _ f0w.lt (Nat.not_le.mpr f0w.lt))
              have fRw := fRw.kept (hk _ fRw.lt (Nat.not_le.mpr fRw.lt))
              have elw := elw.new hk
              have fR24 := fR24.kept (hk _ fR24.lt (Nat.not_le.mpr fR24.lt))
              have fl24 := fl24.kept (hk _ fl24.lt (Nat.not_le.mpr fl24.lt))
              have el24 := el24.new hk
              rw [show r_25 = nI n9 from hR]
              have hZ0_ := hS.1
              have t_fo := fo.lt
              have t_fj := fj.lt
              have t_fk := fun k (hk9 : k < 6) => (fk k hk9).lt
              have t_fe := fe.lt
              have t_fr := fr.lt
              have t_f0w := f0w.lt
              have t_fRw := fRw.lt
              have t_fR24 := fR24.lt
              have t_fl24 := fl24.lt
              refine k_o (pc := 92) (k_S E hC hS hA hl.1 (c_X5_folded l D tk N0 sa H.size r_23 bb24 n9 cap24 md24 (nI n9) ff24 ww24 n9 _ (by omega) (by omega) rfl (by omega) (by omega) (hPQ24.pf hPI (fun i g1 g2 => (hz9.resolve_left (fun q9 => c_19 q9.1)).2 i g1 (by omega))) hPQ24.rw) kw_1566 kw_1567 kw_5 kw_1568 (n := 2) (by decide +kernel) rfl ⟨⟨rfl, rfl⟩, ⟨Nat.le_of_ble_eq_true rfl, Nat.le_of_ble_eq_true rfl⟩, (by dsimp only; omega), (by dsimp only; omega)⟩ rfl (Nat.le_of_ble_eq_true rfl) ⟨fl24, fR24, el24⟩ dX5_fold_92) hS (fun q z w => absurd w (Nat.not_le.mpr z)) hn (fun r_26 H locs hR hz hk hS => ?_)
              have fo := fo.kept (hk _ fo.lt (Nat.not_le.mpr fo.lt))
              have fj := fj.kept (hk _ fj.lt (Nat.not_le.mpr fj.lt))
              have fk := fk.new hk
              have fe := fe.kept (hk _ fe.lt (Nat.not_le.mpr fe.lt))
              have fr := fr.kept (hk _ fr.lt (Nat.not_le.mpr fr.lt))
              have f0w := f0w.kept (hk _ f0w.lt (Nat.not_le.mpr f0w.lt))
              have fRw := fRw.kept (hk _ fRw.lt (Nat.not_le.mpr fRw.lt))
              have elw := elw.new hk
              have fR24 := fR24.kept (hk _ fR24.lt (Nat.not_le.mpr fR24.lt))
              have fl24 := fl24.kept (hk _ fl24.lt (Nat.not_le.mpr fl24.lt))
              have el24 := el24.new hk
              rcases hR with ⟨rfl, hv_f27⟩ | ⟨q_f27, tt_f27, bb_f27, rfl, z9_, f27, hb_f27, hv_f27⟩
              · refine lv_goto (pc := 95) (tgt := 99) hx hb dX5_fold_95 (by decide) ?_
                have hZ0_ := hS.1
                have t_fo := fo.lt
                have t_fj := fj.lt
                have t_fk := fun k (hk9 : k < 6) => (fk k hk9).lt
                have t_fe := fe.lt
                have t_fr := fr.lt
                have t_f0w := f0w.lt
                have t_fRw := fRw.lt
                have t_fR24 := fR24.lt
                have t_fl24 := fl24.lt
                obtain ⟨hx_28, hk_28⟩ := m_noN (er_1.symm.trans (m_fl0 (er_3.symm.trans c_4)).1)
                refine k_i (pc := 99) (k_V E hC hS hA hl.1 (c1.recv hC fo rfl) rfl (c_X5_become_N l D tk N0 sa H.size P hPN (fun q h9 => hPs q (Nat.le_trans hS.1 h9)) mo n9 kn ((m_th r_1 0)) tt bb eT eB oT oB pk ca rf vs x1 (nn x1) hx_28 hk_28 ) kw_1255 kw_1257 kp_21 kw_5 kw_1258 (n := 2) (by decide +kernel) rfl ⟨⟨rfl, rfl⟩, ⟨Nat.le_of_ble_eq_true rfl, Nat.le_of_ble_eq_true rfl⟩, (by dsimp only; omega), (by dsimp only; omega)⟩ rfl (Nat.le_of_ble_eq_true rfl) ⟨_, _, _, _, _, fo, fj, fk, fe, fr, (Or.inr ⟨_, _, _, _, hPb, f0w, fRw, elw, hPI, hncr, hmcr⟩), ⟨hPm, hPa, hPl, hPe, hPr, hPk⟩, hFk, hFe, hFr, hpk, hn9⟩ dX5_fold_99) hS (fun q _ h => h) hn (fun r_29 H locs hR hz hk hS => ?_)
                obtain ⟨tt_30, bb_30, rf_30, hM, hBE_30⟩ := hR
                obtain ⟨ra, rl, ex, ro, rt, fo, fj, fk, fe, fr, fw, ⟨hPm, hPa, hPl, hPe, hPr, hPk⟩, hFk, hFe, hFr, hpk, hn9⟩ := hM
                have g_fo := hPm
                have g_fj := hPa
                try rw [hQ]
                refine r_iret (pc := 102) E hr hlk hS (by omega) (by omega) ?_ dX5_fold_102
                exact ⟨_, _, _, _, _, ⟨_, _, _, _, _, fo, fj, fk, fe, fr, fw, ⟨hPm, hPa, hPl, hPe, hPr, hPk⟩, hFk, hFe, hFr, hpk, hn9⟩, AC.ok (by subst er_1 er_3; first | rfl | (simp [m_or, m_not, m_is0, m_lt0, m_fl, c_4, c_18, Int32.not_lt.mpr c_18, c_19]; done)) (by subst er_1 er_3; first | rfl | (simp [m_or, m_not, m_is0, m_lt0, m_fl, c_4, c_18, Int32.not_lt.mpr c_18, c_19]; done)) (er_3.symm.trans c_4) hBE_30, fun _ => m_isz.fo1 (by rw [show n9 = k by omega]; exact hz9) c_19 (by omega) hv_f27⟩
              · have s_f27 : s.heap.size ≤ q_f27 := Nat.le_trans hZ0_ z9_
                have g_f27 := hn _ s_f27
                have l_fo_f27 : mo < q_f27 := Nat.lt_of_lt_of_le t_fo z9_
                have l_fj_f27 : ra < q_f27 := Nat.lt_of_lt_of_le t_fj z9_
                have nW_f27 : ∀ k, k < 6 → rt k ≠ q_f27 := fun k hk9 => Nat.ne_of_lt (Nat.lt_of_lt_of_le (t_fk k hk9) z9_)
                have l_fe_f27 : ex < q_f27 := Nat.lt_of_lt_of_le t_fe z9_
                have l_fr_f27 : ro < q_f27 := Nat.lt_of_lt_of_le t_fr z9_
                have l_f0w_f27 : rl < q_f27 := Nat.lt_of_lt_of_le t_f0w z9_
                have l_fRw_f27 : br < q_f27 := Nat.lt_of_lt_of_le t_fRw z9_
                have l_fR24_f27 : bb24 < q_f27 := Nat.lt_of_lt_of_le t_fR24 z9_
                have l_fl24_f27 : r_23 < q_f27 := Nat.lt_of_lt_of_le t_fl24 z9_
                refine lv_goto (pc := 95) (tgt := 99) hx hb dX5_fold_95 (by decide) ?_
                have hZ0_ := hS.1
                have t_fo := fo.lt
                have t_fj := fj.lt
                have t_fk := fun k (hk9 : k < 6) => (fk k hk9).lt
                have t_fe := fe.lt
                have t_fr := fr.lt
                have t_f0w := f0w.lt
                have t_fRw := fRw.lt
                have t_fR24 := fR24.lt
                have t_fl24 := fl24.lt
                have t_f27 := f27.lt
                obtain ⟨hx_31, hk_31⟩ := m_noN (er_1.symm.trans (m_fl0 (er_3.symm.trans c_4)).1)
                refine k_i (pc := 99) (k_V E hC hS hA hl.1 (c1.recv hC fo rfl) rfl (c_X5_become l D tk N0 sa H.size P hPN (fun q h9 => hPs q (Nat.le_trans hS.1 h9)) mo n9 kn ((m_th r_1 0)) tt bb eT eB oT oB pk ca rf vs x1 (nn x1) hx_31 hk_31 q_f27 tt_f27 bb_f27 (hPs _ s_f27) hb_f27) kw_1255 kw_1257 kp_21 kw_5 kw_1258 (n := 2) (by decide +kernel) rfl ⟨⟨rfl, rfl⟩, ⟨Nat.le_of_ble_eq_true rfl, Nat.le_of_ble_eq_true rfl⟩, (by dsimp only; omega), (by dsimp only; omega)⟩ rfl (Nat.le_of_ble_eq_true rfl) ⟨⟨_, _, _, _, _, fo, fj, fk, fe, fr, (Or.inr ⟨_, _, _, _, hPb, f0w, fRw, elw, hPI, hncr, hmcr⟩), ⟨hPm, hPa, hPl, hPe, hPr, hPk⟩, hFk, hFe, hFr, hpk, hn9⟩, f27⟩ dX5_fold_99) hS (fun q _ h => h) hn (fun r_32 H locs hR hz hk hS => ?_)
                obtain ⟨tt_33, bb_33, rf_33, hM, hBE_33⟩ := hR
                obtain ⟨ra, rl, ex, ro, rt, fo, fj, fk, fe, fr, fw, ⟨hPm, hPa, hPl, hPe, hPr, hPk⟩, hFk, hFe, hFr, hpk, hn9⟩ := hM
                have g_fo := hPm
                have g_fj := hPa
                try rw [hQ]
                refine r_iret (pc := 102) E hr hlk hS (by omega) (by omega) ?_ dX5_fold_102
                exact ⟨_, _, _, _, _, ⟨_, _, _, _, _, fo, fj, fk, fe, fr, fw, ⟨hPm, hPa, hPl, hPe, hPr, hPk⟩, hFk, hFe, hFr, hpk, hn9⟩, AC.ok (by subst er_1 er_3; first | rfl | (simp [m_or, m_not, m_is0, m_lt0, m_fl, c_4, c_18, Int32.not_lt.mpr c_18, c_19]; done)) (by subst er_1 er_3; first | rfl | (simp [m_or, m_not, m_is0, m_lt0, m_fl, c_4, c_18, Int32.not_lt.mpr c_18, c_19]; done)) (er_3.symm.trans c_4) hBE_33, fun _ => m_isz.fo1 (by rw [show n9 = k by omega]; exact hz9) c_19 (by omega) hv_f27⟩
          · have hkn : k < n9 := Nat.not_le.mp (fun z9 => c_18 (by rw [hx9]; exact nI_le z9 (by omega)))
            refine lv_iload_n (pc := 43) hx hb dX5_fold_43 rfl (lv_at hl 2 rfl) ?_
            refine lv_aload_n (pc := 44) hx hb dX5_fold_44 rfl (lv_at hl 0 rfl) ?_
            refine r_get (pc := 45) E hC fo 1 (v := .ref rl) rfl rfl (by decide) uX5 (List.mem_cons_of_mem _ kw_1210) (fun _ h => h) dX5_fold_45 ?_
            refine lv_iload_n (pc := 48) hx hb dX5_fold_48 rfl (lv_at hl 3 rfl) ?_
            obtain ⟨qe34, hq34, he34⟩ := elw k hkn
            obtain ⟨xe34, ev34, pv34⟩ := hPI k hkn
            rw [ev34] at he34
            refine k_r (pc := 49) (k_V E hC hS hA hl.1 (c1.recv hC f0w rfl) rfl (c_Jx4a65c_get_915e3 l D tk N0 sa H.size rl br n9 capr k qe34 mdr y9 fnr hx9 hkn hncr (by omega) hq34) kw_1550 kw_1551 kw_1552 kw_8 kw_1553 (n := 1) (by decide +kernel) rfl ⟨⟨rfl, rfl⟩, ⟨Nat.le_of_ble_eq_true rfl, Nat.le_of_ble_eq_true rfl⟩, (by dsimp only; omega), (by dsimp only; omega)⟩ rfl (Nat.le_of_ble_eq_true rfl) ⟨f0w, fRw⟩ dX5_fold_49) hS (fun q z w => absurd w (Nat.not_le.mpr z)) hn (fun r_35 H locs hR hz hk hS => ?_)
            have fo := fo.kept (hk _ fo.lt (Nat.not_le.mpr fo.lt))
            have fj := fj.kept (hk _ fj.lt (Nat.not_le.mpr fj.lt))
            have fk := fk.new hk
            have fe := fe.kept (hk _ fe.lt (Nat.not_le.mpr fe.lt))
            have fr := fr.kept (hk _ fr.lt (Nat.not_le.mpr fr.lt))
            have f0w := f0w.kept (hk _ f0w.lt (Nat.not_le.mpr f0w.lt))
            have fRw := fRw.kept (hk _ fRw.lt (Nat.not_le.mpr fRw.lt))
            have elw := elw.new hk
            have he34 := he34.kept (hk _ he34.lt (Nat.not_le.mpr he34.lt))
            rw [show r_35 = qe34 from hR]
            refine r_castO (pc := 52) E hC he34 rfl kw_1614 dX5_fold_52 ?_
            refine k_i (pc := 55) (k_V E hC hS hA hl.1 (xf.recv hC he34 rfl) rfl (c_J6_intValue_8abf5 l D tk N0 sa H.size qe34 xe34) kw_1615 kw_1616 kw_1617 kw_22 kw_1618 (n := 0) (by decide +kernel) rfl ⟨⟨rfl, rfl⟩, ⟨Nat.le_of_ble_eq_true rfl, Nat.le_of_ble_eq_true rfl⟩, (by dsimp only; omega), (by dsimp only; omega)⟩ rfl (Nat.le_of_ble_eq_true rfl) he34 dX5_fold_55) hS (fun q z w => absurd w (Nat.not_le.mpr z)) hn (fun r_36 H locs hR hz hk hS => ?_)
            have fo := fo.kept (hk _ fo.lt (Nat.not_le.mpr fo.lt))
            have fj := fj.kept (hk _ fj.lt (Nat.not_le.mpr fj.lt))
            have fk := fk.new hk
            have fe := fe.kept (hk _ fe.lt (Nat.not_le.mpr fe.lt))
            have fr := fr.kept (hk _ fr.lt (Nat.not_le.mpr fr.lt))
            have f0w := f0w.kept (hk _ f0w.lt (Nat.not_le.mpr f0w.lt))
            have fRw := fRw.kept (hk _ fRw.lt (Nat.not_le.mpr fRw.lt))
            have elw := elw.new hk
            have he34 := he34.kept (hk _ he34.lt (Nat.not_le.mpr he34.lt))
            have er_36 : r_36 = xe34 := hR
            refine lv_iconst (pc := 58) (v := 1) hx hb dX5_fold_58 (by decide) ?_
            refine lv_icmp_lt (pc := 59) (tgt := 66) hx hb dX5_fold_59 (by decide) (fun c_37 => ?_) (fun c_37 => ?_)
            · refine lv_iconst (pc := 66) (v := 0) hx hb dX5_fold_66 (by decide) ?_
              refine lv_iand (pc := 67) hx hb dX5_fold_67 ?_
              obtain ⟨x_38, ex_38⟩ : ∃ z9 : Int32, z9 = u9 &&& 0 := ⟨_, rfl⟩
              rw [← ex_38]
              refine lv_istore_n (pc := 68) (lv' := [(2, .int x_38), (0, .ref mo), (1, .int x1), (3, .int y9)]) hx hb dX5_fold_68 rfl hl (by decide) rfl (fun ls hl => ?_)
              obtain ⟨x_39, ex_39⟩ : ∃ z9 : Int32, z9 = y9 + 1 := ⟨_, rfl⟩
              refine lv_iinc (pc := 69) (v := x_39) (lv' := [(3, .int x_39), (2, .int x_38), (0, .ref mo), (1, .int x1)]) hx hb dX5_fold_69 hl (k := 3) rfl (by rw [ex_39]; rfl) (by decide) rfl (fun ls hl => ?_)
              refine lv_goto (pc := 72) (tgt := 32) hx hb dX5_fold_72 (by decide) ?_
              refine W.widen (k := 0) (n := 0) (by omega) (by omega) ?_
              exact ih_32  (k + 1)  x_38 x_39 (by omega) (by omega) (i_up hx9 ex_39) (hz9.bad hk9.1 ev34 (by rw [← er_36]; exact c_37) (ex_38.trans (m_and0 _))) _ _ _ hS fo fj fk fe fr f0w fRw elw (lv_sub hl [2, 3, 1, 0] rfl)
            · refine lv_iconst (pc := 62) (v := 1) hx hb dX5_fold_62 (by decide) ?_
              refine lv_goto (pc := 63) (tgt := 67) hx hb dX5_fold_63 (by decide) ?_
              refine lv_iand (pc := 67) hx hb dX5_fold_67 ?_
              obtain ⟨x_40, ex_40⟩ : ∃ z9 : Int32, z9 = u9 &&& 1 := ⟨_, rfl⟩
              rw [← ex_40]
              refine lv_istore_n (pc := 68) (lv' := [(2, .int x_40), (0, .ref mo), (1, .int x1), (3, .int y9)]) hx hb dX5_fold_68 rfl hl (by decide) rfl (fun ls hl => ?_)
              obtain ⟨x_41, ex_41⟩ : ∃ z9 : Int32, z9 = y9 + 1 := ⟨_, rfl⟩
              refine lv_iinc (pc := 69) (v := x_41) (lv' := [(3, .int x_41), (2, .int x_40), (0, .ref mo), (1, .int x1)]) hx hb dX5_fold_69 hl (k := 3) rfl (by rw [ex_41]; rfl) (by decide) rfl (fun ls hl => ?_)
              refine lv_goto (pc := 72) (tgt := 32) hx hb dX5_fold_72 (by decide) ?_
              refine W.widen (k := 0) (n := 0) (by omega) (by omega) ?_
              exact ih_32  (k + 1)  x_40 x_41 (by omega) (by omega) (i_up hx9 ex_41) (hz9.add ev34 (by rw [← er_36]; exact Int32.not_lt.mp c_37) ex_40) _ _ _ hS fo fj fk fe fr f0w fRw elw (lv_sub hl [2, 3, 1, 0] rfl)
      refine W.widen (k := 0) (n := 0) (by omega) (by omega) ?_
      exact loop_32 17 1  1 1 (by omega) (by omega) (by decide) (Or.inr ⟨rfl, fun i g1 g2 => absurd g1 (by omega)⟩) _ _ _ hS fo fj fk fe fr f0w fRw elw (lv_sub hl [2, 3, 1, 0] rfl)
  · refine lv_iconst (pc := 12) (v := 0) hx hb dX5_fold_12 (by decide) ?_
    try rw [hQ]
    refine r_iret (pc := 13) E hr hlk hS (by omega) (by omega) ?_ dX5_fold_13
    exact ⟨_, _, _, _, none, ⟨_, _, _, _, _, fo, fj, fk, fe, fr, fw, ⟨hPm, hPa, hPl, hPe, hPr, hPk⟩, hFk, hFe, hFr, hpk, hn9⟩, AC.fail (by subst er_1 er_3; first | rfl | (simp [m_or, m_not, m_is0, m_lt0, m_fl, c_4]; done)) (by subst er_1 er_3; first | rfl | (simp [m_or, m_not, m_is0, m_lt0, m_fl, c_4]; done)) (fun z9 => c_4 (er_3.trans z9)), fun z9 => absurd z9 (AC7 (by subst er_1 er_3; first | rfl | (simp [m_or, m_not, m_is0, m_lt0, m_fl, c_4]; done)) rfl (fun z9 => c_4 (er_3.trans z9)))⟩
