set_option maxHeartbeats 4000000 in
set_option maxRecDepth 100000 in
/-- BestratiosModel.unsay(I)I -/
theorem c_X5_unsay (l : Launch) (D : va_G) (tk : Nat → ClassId) (N0 : Nat) (sa : Nat → Nat)  (sz : Nat) (P : Nat → Prop) (hPN : ∀ q, P q → N0 ≤ q) (hPs : ∀ q, sz ≤ q → P q) (mo n9 : Nat) (kn th : Int32) (tt bb : Nat → Int64) (eT eB oT oB : Int64) (pk : Nat) (ca rf : Int32) (vs : Nat → Value) (x1 : Int32) : Met l yX5_unsay (wsy yX5_unsay cX5_unsay 3 (some .int)) ({ frames := 3, cells := 0, slots := 0, locals := 66 } : Room) (cP D tk N0 sa [.ref mo, .int x1] sz (fun H => MI D tk sa P mo tt bb eT eB oT oB pk ca rf vs kn n9 th H)) (kQi (fun r H => ∃ n1 th1, MI D tk sa P mo tt bb eT eB oT oB pk ca rf vs kn n1 th1 H ∧ m_uns x1 n9 r n1 th1) (P)) (0) (0) (P) := by
  refine mStart RX5 rfl (by decide +kernel) (Nat.le_of_ble_eq_true rfl) ?_
  intro p e s m args below meth c E hr hlk hnm hsz hC hF ls hl
  subst hsz
  obtain ⟨hx, hb, -⟩ := id E
  have hA : ∀ q, (P) q → N0 ≤ q := hPN
  have hn : ∀ q, s.heap.size ≤ q → (P) q := hPs
  have hS : va_S (P) s.heap s.heap [] := va_S.rf
  have hl : lv_has ls 3 [(0, .ref mo), (1, .int x1)] := hl
  obtain ⟨Q, hQ⟩ : ∃ Q, Q = MQ below (kQi (fun r H => ∃ n1 th1, MI D tk sa P mo tt bb eT eB oT oB pk ca rf vs kn n1 th1 H ∧ m_uns x1 n9 r n1 th1) (P)) args s (0) (0) (P) := ⟨_, rfl⟩
  rw [← hQ]
  have hM : MI D tk sa P mo tt bb eT eB oT oB pk ca rf vs kn n9 th s.heap := hF
  obtain ⟨ra, rl, ex, ro, rt, fo, fj, fk, fe, fr, fw, ⟨hPm, hPa, hPl, hPe, hPr, hPk⟩, hFk, hFe, hFr, hpk, hn9⟩ := hM
  have g_fo := hPm
  have g_fj := hPa
  refine lv_aload_n (pc := 0) hx hb dX5_unsay_0 rfl (lv_at hl 0 rfl) ?_
  refine lv_iload_n (pc := 1) hx hb dX5_unsay_1 rfl (lv_at hl 1 rfl) ?_
  refine lv_iconst (pc := 2) (v := 0) hx hb dX5_unsay_2 (by decide) ?_
  refine lv_bipush (pc := 3) (v := 16) hx hb dX5_unsay_3 (by decide) ?_
  refine k_i (pc := 5) (k_S E hC hS hA hl.1 (c_X5_isIn l D tk N0 sa s.heap.size x1 0 16 ) kw_1248 kw_1249 kw_5 kw_1250 (n := 3) (by decide +kernel) rfl ⟨⟨rfl, rfl⟩, ⟨Nat.le_of_ble_eq_true rfl, Nat.le_of_ble_eq_true rfl⟩, (by dsimp only; omega), (by dsimp only; omega)⟩ rfl (Nat.le_of_ble_eq_true rfl) trivial dX5_unsay_5) hS (fun q z w => absurd w (Nat.not_le.mpr z)) hn (fun r_1 H locs hR hz hk hS => ?_)
  have er_1 := hR
  have fw := fw.new hk
  have fo := fo.kept (hk _ fo.lt (Nat.not_le.mpr fo.lt))
  have fj := fj.kept (hk _ fj.lt (Nat.not_le.mpr fj.lt))
  have fk := fk.new hk
  have fe := fe.kept (hk _ fe.lt (Nat.not_le.mpr fe.lt))
  have fr := fr.kept (hk _ fr.lt (Nat.not_le.mpr fr.lt))
  refine lv_if_ne (pc := 8) (tgt := 15) hx hb dX5_unsay_8 (by decide) (fun c_3 => ?_) (fun c_3 => ?_)
  · refine lv_iconst (pc := 15) (v := 0) hx hb dX5_unsay_15 (by decide) ?_
    refine lv_iconst (pc := 16) (v := 0) hx hb dX5_unsay_16 (by decide) ?_
    have hZ0_ := hS.1
    have t_fo := fo.lt
    have t_fj := fj.lt
    have t_fk := fun k (hk9 : k < 6) => (fk k hk9).lt
    have t_fe := fe.lt
    have t_fr := fr.lt
    refine k_i (pc := 17) (k_V E hC hS hA hl.1 (c1.recv hC fo rfl) rfl (c_X5_fails l D tk N0 sa H.size P hPN (fun q h9 => hPs q (Nat.le_trans hS.1 h9)) mo n9 kn th tt bb eT eB oT oB pk ca rf vs 0 0 ) kw_1251 kw_1253 kp_20 kw_5 kw_1254 (n := 2) (by decide +kernel) rfl ⟨⟨rfl, rfl⟩, ⟨Nat.le_of_ble_eq_true rfl, Nat.le_of_ble_eq_true rfl⟩, (by dsimp only; omega), (by dsimp only; omega)⟩ rfl (Nat.le_of_ble_eq_true rfl) ⟨_, _, _, _, _, fo, fj, fk, fe, fr, fw, ⟨hPm, hPa, hPl, hPe, hPr, hPk⟩, hFk, hFe, hFr, hpk, hn9⟩ dX5_unsay_17) hS (fun q _ h => h) hn (fun r_4 H locs hR hz hk hS => ?_)
    obtain ⟨er_4, hM⟩ := hR
    obtain ⟨ra, rl, ex, ro, rt, fo, fj, fk, fe, fr, fw, ⟨hPm, hPa, hPl, hPe, hPr, hPk⟩, hFk, hFe, hFr, hpk, hn9⟩ := hM
    have g_fo := hPm
    have g_fj := hPa
    have ef_r_4 : r_4 = 0 := er_4.trans rfl
    rw [ef_r_4]
    refine lv_if_eq (pc := 20) (tgt := 25) hx hb dX5_unsay_20 (by decide) (fun c_5 => ?_) (fun c_5 => ?_)
    rotate_left
    · exact absurd (by decide) c_5
    obtain ⟨km, hkm1, hkm2⟩ := m_in (x := x1) (hi_ := 16) (by decide) (fun z9 => c_3 (er_1.trans z9))
    rcases Nat.eq_zero_or_pos n9 with h0r | h0r
    · subst h0r
      obtain ⟨mdr, br, f0w⟩ := fw.obj
      refine lv_iconst (pc := 25) (v := 0) hx hb dX5_unsay_25 (by decide) ?_
      refine lv_istore_n (pc := 26) (lv' := [(2, .int 0), (0, .ref mo), (1, .int x1)]) hx hb dX5_unsay_26 rfl hl (by decide) rfl (fun ls hl => ?_)
      refine lv_iload_n (pc := 27) hx hb dX5_unsay_27 rfl (lv_at hl 0 rfl) ?_
      refine lv_iload_n (pc := 28) hx hb dX5_unsay_28 rfl (lv_at hl 2 rfl) ?_
      refine lv_icmp_ge (pc := 29) (tgt := 65) hx hb dX5_unsay_29 (by decide) (fun c_6 => ?_) (fun c_6 => ?_)
      · refine lv_aload_n (pc := 65) hx hb dX5_unsay_65 rfl (lv_at hl 1 rfl) ?_
        refine r_get (pc := 66) E hC fo 1 (v := .ref rl) rfl rfl (by decide) uX5 (List.mem_cons_of_mem _ kw_1210) (fun _ h => h) dX5_unsay_66 ?_
        obtain ⟨md_7, b_7, fz7⟩ := fw.obj
        refine k_i (pc := 69) (k_V E hC hS hA hl.1 (c1.recv hC fz7 rfl) rfl (c_Jx4a65c_size_8abf5 l D tk N0 sa H.size rl b_7 0 md_7) kw_1546 kw_1547 kw_1548 kw_8 kw_1549 (n := 0) (by decide +kernel) rfl ⟨⟨rfl, rfl⟩, ⟨Nat.le_of_ble_eq_true rfl, Nat.le_of_ble_eq_true rfl⟩, (by dsimp only; omega), (by dsimp only; omega)⟩ rfl (Nat.le_of_ble_eq_true rfl) (by exact fz7) dX5_unsay_69) hS (fun q z w => absurd w (Nat.not_le.mpr z)) hn (fun r_8 H locs hR hz hk hS => ?_)
        have fw := fw.new hk
        have fo := fo.kept (hk _ fo.lt (Nat.not_le.mpr fo.lt))
        have fj := fj.kept (hk _ fj.lt (Nat.not_le.mpr fj.lt))
        have fk := fk.new hk
        have fe := fe.kept (hk _ fe.lt (Nat.not_le.mpr fe.lt))
        have fr := fr.kept (hk _ fr.lt (Nat.not_le.mpr fr.lt))
        have f0w := f0w.kept (hk _ f0w.lt (Nat.not_le.mpr f0w.lt))
        have fz7 := fz7.kept (hk _ fz7.lt (Nat.not_le.mpr fz7.lt))
        rw [show r_8 = 0 from hR.trans nI_0]
        try rw [hQ]
        refine r_iret (pc := 72) E hr hlk hS (by omega) (by omega) ?_ dX5_unsay_72
        exact ⟨_, _, ⟨_, _, _, _, _, fo, fj, fk, fe, fr, fw, ⟨hPm, hPa, hPl, hPe, hPr, hPk⟩, hFk, hFe, hFr, hpk, hn9⟩, Or.inr ⟨km, hkm1, hkm2, nI_0.symm, by omega, rfl⟩⟩
      · refine lv_aload_n (pc := 32) hx hb dX5_unsay_32 rfl (lv_at hl 1 rfl) ?_
        refine r_get (pc := 33) E hC fo 1 (v := .ref rl) rfl rfl (by decide) uX5 (List.mem_cons_of_mem _ kw_1210) (fun _ h => h) dX5_unsay_33 ?_
        obtain ⟨md_9, b_9, fz9⟩ := fw.obj
        refine k_i (pc := 36) (k_V E hC hS hA hl.1 (c1.recv hC fz9 rfl) rfl (c_Jx4a65c_size_8abf5 l D tk N0 sa H.size rl b_9 0 md_9) kw_1546 kw_1547 kw_1548 kw_8 kw_1549 (n := 0) (by decide +kernel) rfl ⟨⟨rfl, rfl⟩, ⟨Nat.le_of_ble_eq_true rfl, Nat.le_of_ble_eq_true rfl⟩, (by dsimp only; omega), (by dsimp only; omega)⟩ rfl (Nat.le_of_ble_eq_true rfl) (by exact fz9) dX5_unsay_36) hS (fun q z w => absurd w (Nat.not_le.mpr z)) hn (fun r_10 H locs hR hz hk hS => ?_)
        have fw := fw.new hk
        have fo := fo.kept (hk _ fo.lt (Nat.not_le.mpr fo.lt))
        have fj := fj.kept (hk _ fj.lt (Nat.not_le.mpr fj.lt))
        have fk := fk.new hk
        have fe := fe.kept (hk _ fe.lt (Nat.not_le.mpr fe.lt))
        have fr := fr.kept (hk _ fr.lt (Nat.not_le.mpr fr.lt))
        have f0w := f0w.kept (hk _ f0w.lt (Nat.not_le.mpr f0w.lt))
        have fz9 := fz9.kept (hk _ fz9.lt (Nat.not_le.mpr fz9.lt))
        rw [show r_10 = 0 from hR.trans nI_0]
        refine lv_if_le (pc := 39) (tgt := 65) hx hb dX5_unsay_39 (by decide) (fun c_11 => ?_) (fun c_11 => ?_)
        rotate_left
        · exact absurd (by decide) c_11
        refine lv_aload_n (pc := 65) hx hb dX5_unsay_65 rfl (lv_at hl 1 rfl) ?_
        refine r_get (pc := 66) E hC fo 1 (v := .ref rl) rfl rfl (by decide) uX5 (List.mem_cons_of_mem _ kw_1210) (fun _ h => h) dX5_unsay_66 ?_
        obtain ⟨md_12, b_12, fz12⟩ := fw.obj
        refine k_i (pc := 69) (k_V E hC hS hA hl.1 (c1.recv hC fz12 rfl) rfl (c_Jx4a65c_size_8abf5 l D tk N0 sa H.size rl b_12 0 md_12) kw_1546 kw_1547 kw_1548 kw_8 kw_1549 (n := 0) (by decide +kernel) rfl ⟨⟨rfl, rfl⟩, ⟨Nat.le_of_ble_eq_true rfl, Nat.le_of_ble_eq_true rfl⟩, (by dsimp only; omega), (by dsimp only; omega)⟩ rfl (Nat.le_of_ble_eq_true rfl) (by exact fz12) dX5_unsay_69) hS (fun q z w => absurd w (Nat.not_le.mpr z)) hn (fun r_13 H locs hR hz hk hS => ?_)
        have fw := fw.new hk
        have fo := fo.kept (hk _ fo.lt (Nat.not_le.mpr fo.lt))
        have fj := fj.kept (hk _ fj.lt (Nat.not_le.mpr fj.lt))
        have fk := fk.new hk
        have fe := fe.kept (hk _ fe.lt (Nat.not_le.mpr fe.lt))
        have fr := fr.kept (hk _ fr.lt (Nat.not_le.mpr fr.lt))
        have f0w := f0w.kept (hk _ f0w.lt (Nat.not_le.mpr f0w.lt))
        have fz9 := fz9.kept (hk _ fz9.lt (Nat.not_le.mpr fz9.lt))
        have fz12 := fz12.kept (hk _ fz12.lt (Nat.not_le.mpr fz12.lt))
        rw [show r_13 = 0 from hR.trans nI_0]
        try rw [hQ]
        refine r_iret (pc := 72) E hr hlk hS (by omega) (by omega) ?_ dX5_unsay_72
        exact ⟨_, _, ⟨_, _, _, _, _, fo, fj, fk, fe, fr, fw, ⟨hPm, hPa, hPl, hPe, hPr, hPk⟩, hFk, hFe, hFr, hpk, hn9⟩, Or.inr ⟨km, hkm1, hkm2, nI_0.symm, by omega, rfl⟩⟩
    · rcases fw with ⟨h1r, -⟩ | ⟨mdr, br, capr, fnr, hPb, f0w, fRw, elw, hPI, hncr, hmcr⟩
      · exact absurd h1r (by omega)
      have g_f0w := hPl
      have nW_f0w : ∀ k, k < 6 → rt k ≠ rl := fun k hk9 => clA.ne (fk k hk9).cla f0w.cl (hC.ao 7 0 rfl rfl)
      have g_fRw := hPb
      have nW_fRw : ∀ k, k < 6 → rt k ≠ br := fun k hk9 => clA.ne (fk k hk9).cla fRw.cla (hC.aa 0 4 rfl rfl (by dsimp only; decide))
      have hcbr := m_acB hmcr
      refine lv_iconst (pc := 25) (v := 0) hx hb dX5_unsay_25 (by decide) ?_
      refine lv_istore_n (pc := 26) (lv' := [(2, .int 0), (0, .ref mo), (1, .int x1)]) hx hb dX5_unsay_26 rfl hl (by decide) rfl (fun ls hl => ?_)
      have loop_27 : ∀ (n : Nat) (k : Nat) (j : Nat) (mdq : Int32) (fnq : Nat → Option Nat)(y9 : Int32), 17 - k < n → k + j = n9 → y9 = nI k → k ≤ km → ∀ (H : Heap) (locs : List Loc) (ls : Array Slot), va_S (P) s.heap H locs → c1 D mo (.inr (13, [.ref ra, .ref rl, .ref ex, .ref ro, .int (nI pk), .int ca, .int rf, .int kn, .int ((m_th 0 0))])) H → c1 D ra (.inl (tk 3, 6, .inr (.inr (.inr (.inr (fun k => some (rt k))))))) H → MK D tk rt tt bb H → L2 D tk ex eT eB H → L2 D tk ro oT oB H → c1 D rl (.inr (7, [.int mdq, .ref br, .int (nI j)])) H → c1 D br (.inl (tk 4, capr, .inr (.inr (.inr (.inr fnq))))) H → EL D 2 j fnq vs H → lv_has ls 3 [(0, .ref mo), (1, .int x1), (2, .int y9)] → W p l e ({ frames := 3, cells := 0, slots := 0, locals := 66 } : Room) s m args below meth c H locs (0) (0) Q (F0 m 27 ls []) := by
        intro n
        induction n with
        | zero =>
          intro k j mdq fnq y9 hf9 hk9 hx9 hkk H locs ls hS fo fj fk fe fr f0w fRw elw hl
          omega
        | succ n ih_27 =>
          intro k j mdq fnq y9 hf9 hk9 hx9 hkk H locs ls hS fo fj fk fe fr f0w fRw elw hl
          refine lv_iload_n (pc := 27) hx hb dX5_unsay_27 rfl (lv_at hl 2 rfl) ?_
          refine lv_iload_n (pc := 28) hx hb dX5_unsay_28 rfl (lv_at hl 1 rfl) ?_
          refine lv_icmp_ge (pc := 29) (tgt := 65) hx hb dX5_unsay_29 (by decide) (fun c_14 => ?_) (fun c_14 => ?_)
          · refine lv_aload_n (pc := 65) hx hb dX5_unsay_65 rfl (lv_at hl 0 rfl) ?_
            refine r_get (pc := 66) E hC fo 1 (v := .ref rl) rfl rfl (by decide) uX5 (List.mem_cons_of_mem _ kw_1210) (fun _ h => h) dX5_unsay_66 ?_
            refine k_i (pc := 69) (k_V E hC hS hA hl.1 (c1.recv hC f0w rfl) rfl (c_Jx4a65c_size_8abf5 l D tk N0 sa H.size rl br j mdq) kw_1546 kw_1547 kw_1548 kw_8 kw_1549 (n := 0) (by decide +kernel) rfl ⟨⟨rfl, rfl⟩, ⟨Nat.le_of_ble_eq_true rfl, Nat.le_of_ble_eq_true rfl⟩, (by dsimp only; omega), (by dsimp only; omega)⟩ rfl (Nat.le_of_ble_eq_true rfl) f0w dX5_unsay_69) hS (fun q z w => absurd w (Nat.not_le.mpr z)) hn (fun r_15 H locs hR hz hk hS => ?_)
            have fo := fo.kept (hk _ fo.lt (Nat.not_le.mpr fo.lt))
            have fj := fj.kept (hk _ fj.lt (Nat.not_le.mpr fj.lt))
            have fk := fk.new hk
            have fe := fe.kept (hk _ fe.lt (Nat.not_le.mpr fe.lt))
            have fr := fr.kept (hk _ fr.lt (Nat.not_le.mpr fr.lt))
            have f0w := f0w.kept (hk _ f0w.lt (Nat.not_le.mpr f0w.lt))
            have fRw := fRw.kept (hk _ fRw.lt (Nat.not_le.mpr fRw.lt))
            have elw := elw.new hk
            rw [show r_15 = nI j from hR]
            try rw [hQ]
            refine r_iret (pc := 72) E hr hlk hS (by omega) (by omega) ?_ dX5_unsay_72
            exact ⟨_, _, ⟨_, _, _, _, _, fo, fj, fk, fe, fr, (Or.inr ⟨_, _, _, _, hPb, f0w, fRw, elw, hPI.le (by omega), by omega, hmcr⟩), ⟨hPm, hPa, hPl, hPe, hPr, hPk⟩, hFk, hFe, hFr, hpk, (by omega)⟩, Or.inr ⟨km, hkm1, hkm2, rfl, (by have hk0 : km ≤ k := Nat.not_lt.mp (fun z9 => absurd (nI_lt z9 (by omega)) (Int32.not_lt.mpr (by have h9 := c_14; rw [hkm1, hx9] at h9; exact h9))); omega), rfl⟩⟩
          · refine lv_aload_n (pc := 32) hx hb dX5_unsay_32 rfl (lv_at hl 0 rfl) ?_
            refine r_get (pc := 33) E hC fo 1 (v := .ref rl) rfl rfl (by decide) uX5 (List.mem_cons_of_mem _ kw_1210) (fun _ h => h) dX5_unsay_33 ?_
            refine k_i (pc := 36) (k_V E hC hS hA hl.1 (c1.recv hC f0w rfl) rfl (c_Jx4a65c_size_8abf5 l D tk N0 sa H.size rl br j mdq) kw_1546 kw_1547 kw_1548 kw_8 kw_1549 (n := 0) (by decide +kernel) rfl ⟨⟨rfl, rfl⟩, ⟨Nat.le_of_ble_eq_true rfl, Nat.le_of_ble_eq_true rfl⟩, (by dsimp only; omega), (by dsimp only; omega)⟩ rfl (Nat.le_of_ble_eq_true rfl) f0w dX5_unsay_36) hS (fun q z w => absurd w (Nat.not_le.mpr z)) hn (fun r_16 H locs hR hz hk hS => ?_)
            have fo := fo.kept (hk _ fo.lt (Nat.not_le.mpr fo.lt))
            have fj := fj.kept (hk _ fj.lt (Nat.not_le.mpr fj.lt))
            have fk := fk.new hk
            have fe := fe.kept (hk _ fe.lt (Nat.not_le.mpr fe.lt))
            have fr := fr.kept (hk _ fr.lt (Nat.not_le.mpr fr.lt))
            have f0w := f0w.kept (hk _ f0w.lt (Nat.not_le.mpr f0w.lt))
            have fRw := fRw.kept (hk _ fRw.lt (Nat.not_le.mpr fRw.lt))
            have elw := elw.new hk
            rw [show r_16 = nI j from hR]
            refine lv_if_le (pc := 39) (tgt := 65) hx hb dX5_unsay_39 (by decide) (fun c_17 => ?_) (fun c_17 => ?_)
            · refine lv_aload_n (pc := 65) hx hb dX5_unsay_65 rfl (lv_at hl 0 rfl) ?_
              refine r_get (pc := 66) E hC fo 1 (v := .ref rl) rfl rfl (by decide) uX5 (List.mem_cons_of_mem _ kw_1210) (fun _ h => h) dX5_unsay_66 ?_
              refine k_i (pc := 69) (k_V E hC hS hA hl.1 (c1.recv hC f0w rfl) rfl (c_Jx4a65c_size_8abf5 l D tk N0 sa H.size rl br j mdq) kw_1546 kw_1547 kw_1548 kw_8 kw_1549 (n := 0) (by decide +kernel) rfl ⟨⟨rfl, rfl⟩, ⟨Nat.le_of_ble_eq_true rfl, Nat.le_of_ble_eq_true rfl⟩, (by dsimp only; omega), (by dsimp only; omega)⟩ rfl (Nat.le_of_ble_eq_true rfl) f0w dX5_unsay_69) hS (fun q z w => absurd w (Nat.not_le.mpr z)) hn (fun r_18 H locs hR hz hk hS => ?_)
              have fo := fo.kept (hk _ fo.lt (Nat.not_le.mpr fo.lt))
              have fj := fj.kept (hk _ fj.lt (Nat.not_le.mpr fj.lt))
              have fk := fk.new hk
              have fe := fe.kept (hk _ fe.lt (Nat.not_le.mpr fe.lt))
              have fr := fr.kept (hk _ fr.lt (Nat.not_le.mpr fr.lt))
              have f0w := f0w.kept (hk _ f0w.lt (Nat.not_le.mpr f0w.lt))
              have fRw := fRw.kept (hk _ fRw.lt (Nat.not_le.mpr fRw.lt))
              have elw := elw.new hk
              rw [show r_18 = nI j from hR]
              try rw [hQ]
              refine r_iret (pc := 72) E hr hlk hS (by omega) (by omega) ?_ dX5_unsay_72
              exact ⟨_, _, ⟨_, _, _, _, _, fo, fj, fk, fe, fr, (Or.inr ⟨_, _, _, _, hPb, f0w, fRw, elw, hPI.le (by omega), by omega, hmcr⟩), ⟨hPm, hPa, hPl, hPe, hPr, hPk⟩, hFk, hFe, hFr, hpk, (by omega)⟩, Or.inr ⟨km, hkm1, hkm2, rfl, (by have hj0 := m_nle0 (by omega) c_17; omega), rfl⟩⟩
            · obtain ⟨j1, rfl⟩ : ∃ j1, j = j1 + 1 := ⟨j - 1, by have : j ≠ 0 := fun z9 => c_17 (by rw [z9]; decide); omega⟩
              obtain ⟨qe, hqe, fxe⟩ := elw j1 (by omega)
              have hlt : k < km := Nat.not_le.mp (fun z9 => c_14 (by rw [hkm1, hx9]; exact nI_le z9 (by omega)))
              refine lv_aload_n (pc := 42) hx hb dX5_unsay_42 rfl (lv_at hl 0 rfl) ?_
              refine r_get (pc := 43) E hC fo 1 (v := .ref rl) rfl rfl (by decide) uX5 (List.mem_cons_of_mem _ kw_1210) (fun _ h => h) dX5_unsay_43 ?_
              refine lv_aload_n (pc := 46) hx hb dX5_unsay_46 rfl (lv_at hl 0 rfl) ?_
              refine r_get (pc := 47) E hC fo 1 (v := .ref rl) rfl rfl (by decide) uX5 (List.mem_cons_of_mem _ kw_1210) (fun _ h => h) dX5_unsay_47 ?_
              refine k_i (pc := 50) (k_V E hC hS hA hl.1 (c1.recv hC f0w rfl) rfl (c_Jx4a65c_size_8abf5 l D tk N0 sa H.size rl br (j1 + 1) mdq) kw_1546 kw_1547 kw_1548 kw_8 kw_1549 (n := 0) (by decide +kernel) rfl ⟨⟨rfl, rfl⟩, ⟨Nat.le_of_ble_eq_true rfl, Nat.le_of_ble_eq_true rfl⟩, (by dsimp only; omega), (by dsimp only; omega)⟩ rfl (Nat.le_of_ble_eq_true rfl) f0w dX5_unsay_50) hS (fun q z w => absurd w (Nat.not_le.mpr z)) hn (fun r_19 H locs hR hz hk hS => ?_)
              have fo := fo.kept (hk _ fo.lt (Nat.not_le.mpr fo.lt))
              have fj := fj.kept (hk _ fj.lt (Nat.not_le.mpr fj.lt))
              have fk := fk.new hk
              have fe := fe.kept (hk _ fe.lt (Nat.not_le.mpr fe.lt))
              have fr := fr.kept (hk _ fr.lt (Nat.not_le.mpr fr.lt))
              have f0w := f0w.kept (hk _ f0w.lt (Nat.not_le.mpr f0w.lt))
              have fRw := fRw.kept (hk _ fRw.lt (Nat.not_le.mpr fRw.lt))
              have elw := elw.new hk
              rw [show r_19 = nI (j1 + 1) from hR]
              refine lv_iconst (pc := 53) (v := 1) hx hb dX5_unsay_53 (by decide) ?_
              refine lv_isub (pc := 54) hx hb dX5_unsay_54 ?_
              refine k_r (pc := 55) (k_V E hC hS hA hl.1 (c1.recv hC f0w rfl) rfl (c_Jx4a65c_remove_915e3 l D tk N0 sa H.size rl br j1 capr 2 qe mdq ((nI (j1 + 1)) - 1) fnq vs (hA _ g_f0w) (hA _ g_fRw) (Or.inr rfl) (nI_pred j1) (by omega) (by omega) hqe) kw_1597 kw_1598 kw_1599 kw_8 kw_1600 (n := 1) (by decide +kernel) rfl ⟨⟨rfl, rfl⟩, ⟨Nat.le_of_ble_eq_true rfl, Nat.le_of_ble_eq_true rfl⟩, (by dsimp only; omega), (by dsimp only; omega)⟩ rfl (Nat.le_of_ble_eq_true rfl) ⟨f0w, fRw, elw⟩ dX5_unsay_55) hS (inA2.to g_f0w g_fRw) hn (fun r_20 H locs hR hz hk hS => ?_)
              have fo := fo.kept (hk _ fo.lt (inA2.not (clA.ne fo.cl f0w.cl (hC.oo 13 7 rfl rfl (by decide))) (clA.ne fo.cl fRw.cla (hC.oa 13 4 rfl rfl)) fo.lt))
              have fj := fj.kept (hk _ fj.lt (inA2.not (clA.ne fj.cla f0w.cl (hC.ao 7 3 rfl rfl)) (clA.ne fj.cla fRw.cla (hC.aa 3 4 rfl rfl (by dsimp only; decide))) fj.lt))
              have fk := fk.kept (fun k hk9 => hk _ (fk k hk9).lt (inA2.not (nW_f0w k hk9) (nW_fRw k hk9) (fk k hk9).lt))
              have fe := fe.kept (hk _ fe.lt (inA2.not (clA.ne fe.cla f0w.cl (hC.ao 7 0 rfl rfl)) (clA.ne fe.cla fRw.cla (hC.aa 0 4 rfl rfl (by dsimp only; decide))) fe.lt))
              have fr := fr.kept (hk _ fr.lt (inA2.not (clA.ne fr.cla f0w.cl (hC.ao 7 0 rfl rfl)) (clA.ne fr.cla fRw.cla (hC.aa 0 4 rfl rfl (by dsimp only; decide))) fr.lt))
              obtain ⟨hr9, f0w, fRw, elw⟩ := hR
              rw [hr9]
              refine lv_pop (pc := 58) hx hb dX5_unsay_58 rfl ?_
              obtain ⟨x_21, ex_21⟩ : ∃ z9 : Int32, z9 = y9 + 1 := ⟨_, rfl⟩
              refine lv_iinc (pc := 59) (v := x_21) (lv' := [(2, .int x_21), (0, .ref mo), (1, .int x1)]) hx hb dX5_unsay_59 hl (k := 2) rfl (by rw [ex_21]; rfl) (by decide) rfl (fun ls hl => ?_)
              refine lv_goto (pc := 62) (tgt := 27) hx hb dX5_unsay_62 (by decide) ?_
              refine W.widen (k := 0) (n := 0) (by omega) (by omega) ?_
              exact ih_27  (k + 1) j1 _ _  x_21 (by omega) (by omega) (i_up hx9 ex_21) (by omega) _ _ _ hS fo fj fk fe fr f0w fRw elw (lv_sub hl [1, 2, 0] rfl)
      refine W.widen (k := 0) (n := 0) (by omega) (by omega) ?_
      exact loop_27 18 0 n9 _ _  0 (by omega) (by omega) nI_0.symm (Nat.zero_le _) _ _ _ hS fo fj fk fe fr f0w fRw elw (lv_sub hl [1, 2, 0] rfl)
  · refine lv_iconst (pc := 11) (v := 1) hx hb dX5_unsay_11 (by decide) ?_
    refine lv_goto (pc := 12) (tgt := 16) hx hb dX5_unsay_12 (by decide) ?_
    refine lv_iconst (pc := 16) (v := 0) hx hb dX5_unsay_16 (by decide) ?_
    have hZ0_ := hS.1
    have t_fo := fo.lt
    have t_fj := fj.lt
    have t_fk := fun k (hk9 : k < 6) => (fk k hk9).lt
    have t_fe := fe.lt
    have t_fr := fr.lt
    refine k_i (pc := 17) (k_V E hC hS hA hl.1 (c1.recv hC fo rfl) rfl (c_X5_fails l D tk N0 sa H.size P hPN (fun q h9 => hPs q (Nat.le_trans hS.1 h9)) mo n9 kn th tt bb eT eB oT oB pk ca rf vs 1 0 ) kw_1251 kw_1253 kp_20 kw_5 kw_1254 (n := 2) (by decide +kernel) rfl ⟨⟨rfl, rfl⟩, ⟨Nat.le_of_ble_eq_true rfl, Nat.le_of_ble_eq_true rfl⟩, (by dsimp only; omega), (by dsimp only; omega)⟩ rfl (Nat.le_of_ble_eq_true rfl) ⟨_, _, _, _, _, fo, fj, fk, fe, fr, fw, ⟨hPm, hPa, hPl, hPe, hPr, hPk⟩, hFk, hFe, hFr, hpk, hn9⟩ dX5_unsay_17) hS (fun q _ h => h) hn (fun r_22 H locs hR hz hk hS => ?_)
    obtain ⟨er_22, hM⟩ := hR
    obtain ⟨ra, rl, ex, ro, rt, fo, fj, fk, fe, fr, fw, ⟨hPm, hPa, hPl, hPe, hPr, hPk⟩, hFk, hFe, hFr, hpk, hn9⟩ := hM
    have g_fo := hPm
    have g_fj := hPa
    have ef_r_22 : r_22 = 1 := er_22.trans (if_neg (by decide))
    rw [ef_r_22]
    refine lv_if_eq (pc := 20) (tgt := 25) hx hb dX5_unsay_20 (by decide) (fun c_23 => ?_) (fun c_23 => ?_)
    · exact absurd c_23 (by decide)
    refine lv_iconst (pc := 23) (v := 0) hx hb dX5_unsay_23 (by decide) ?_
    try rw [hQ]
    refine r_iret (pc := 24) E hr hlk hS (by omega) (by omega) ?_ dX5_unsay_24
    exact ⟨_, _, ⟨_, _, _, _, _, fo, fj, fk, fe, fr, fw, ⟨hPm, hPa, hPl, hPe, hPr, hPk⟩, hFk, hFe, hFr, hpk, hn9⟩, Or.inl ⟨er_1.symm.trans c_3, rfl, rfl, rfl⟩⟩
