set_option maxHeartbeats 4000000 in
set_option maxRecDepth 100000 in
/-- BestratiosLaw.invert(LBestratios;ILBestratiosLaw$Out;)I -/
theorem c_L_invert (l : Launch) (hlst : l.stackTraces = false) (D : va_G) (tk : Nat → ClassId) (N0 : Nat) (sa : Nat → Nat) {ad : Nat → Nat} (hAD : ADok N0 ad) {uo : Nat} (huo : N0 ≤ uo) (sz : Nat) (g : CS) (kn : Int32) (hI : CI g kn) (x1 : Int32) : Met l yL_invert (wsw yL_invert cL_invert 4 (some .int) [(0, 10, 13, 19)]) lwR (cPW D tk N0 sa [.ref (ad 15), .int x1, .ref uo] sz (fun H => CW D tk ad g H ∧ OUo D uo H)) (kQi (fun rk H => ∃ (g1 : CS) (ox : Int64) (ov : Value), CW D tk ad g1 H ∧ c1 D uo (.inr (12, [.long ox, ov])) H ∧ WR (bR x1) (f_invW g (nn x1)) ((f_invR g (nn x1)).toInt64) g rk g1 ox) (lwA ad uo sz)) 3000 8000 (lwA ad uo sz) := by
  refine mStartW RL rfl (by decide +kernel) (Nat.le_of_ble_eq_true rfl) ?_
  intro p e s m args below meth c E hr hlk htb hsz hC hN hF ls hl
  subst hsz
  obtain ⟨hx, hb, -⟩ := id E
  have hA := lwA.ge hAD huo hC.2.1
  have hn : ∀ q, s.heap.size ≤ q → (lwA ad uo s.heap.size) q := fun q h => Or.inl (Or.inr h)
  have hS : va_S (lwA ad uo s.heap.size) s.heap s.heap [] := va_S.rf
  have hl : lv_has ls 4 [(0, .ref (ad 15)), (1, .int x1), (2, .ref uo)] := hl
  obtain ⟨hW, x9, v9, fu⟩ := hF
  have hne := cwC hC hW (Or.inl fu.cl)
  refine lv_aload_n (pc := 0) hx hb dL_invert_0 rfl (lv_at hl 2 rfl) ?_
  refine lv_aload_n (pc := 1) hx hb dL_invert_1 rfl (lv_at hl 0 rfl) ?_
  refine lv_iload_n (pc := 2) hx hb dL_invert_2 rfl (lv_at hl 1 rfl) ?_
  refine kh_i (pc := 3) (kx_V E hC hS hA hl.1 (c1.recv hC hW.obj rfl) rfl (c_X3_invert l hlst D tk N0 sa hAD s.heap.size g x1) kw_915 kw_916 kw_917 kw_1 kw_918 (n := 1) (by decide +kernel) rfl ⟨⟨rfl, rfl⟩, ⟨Nat.le_of_ble_eq_true rfl, Nat.le_of_ble_eq_true rfl⟩, (by dsimp only [lwR]; omega), (by dsimp only [lwR]; omega)⟩ rfl (Nat.le_of_ble_eq_true rfl) hW dL_invert_3) hS (fun q z w => Or.inl w) hn (fun E1 ce q9 H locs hb9 hz hk hS h1 h2 h3 => ?_) (fun r H locs hR hz hk hS => ?_)
  · have hW := hW.new hk
    have fu := fu.new hk
    obtain ⟨rfl, hx9⟩ := hb9
    refine r_c1 (pc := 3) E hC htb (by decide) (by decide) kw_803 wc_0 h1 h2 h3 ?_
    refine lv_astore_n (pc := 13) (lv' := [(3, .ref q9), (0, .ref (ad 15)), (1, .int x1), (2, .ref uo)]) hx hb dL_invert_13 rfl hl (by decide) rfl (fun ls hl => ?_)
    refine lv_iconst (pc := 14) (v := 1) hx hb dL_invert_14 (by decide) ?_
    refine r_iret (pc := 15) E hr hlk hS (by omega) (by omega) ?_ dL_invert_15
    exact ⟨g, _, _, hW, fu, by rw [hx9]; rfl, fun z => absurd (hx9.symm.trans z) (by decide), fun _ => rfl⟩
  · obtain ⟨hx0, er, hW⟩ := hR
    have fu := fu.kept (hk _ fu.lt (cwN hne fu.lt))
    refine lv_i2l (pc := 6) (v := r.toInt64) hx hb dL_invert_6 rfl ?_
    refine r_putO (pc := 7) "BestratiosLaw" E hC fu hS (Or.inr rfl) 0 tyX4 tyX4_ok nmX4 rfl (by decide) (Nat.le_of_ble_eq_true rfl) uX4 kn_793 (fun _ h => h) rfl rfl rfl dL_invert_7 (fun H locs n_ ho hz hS => ?_)
    have hW := hW.kept (fun k hk9 => ho _ (hne k hk9))
    refine lv_goto (pc := 10) (tgt := 16) hx hb dL_invert_10 (by decide) ?_
    refine lv_iconst (pc := 16) (v := 0) hx hb dL_invert_16 (by decide) ?_
    refine r_iret (pc := 17) E hr hlk hS (by omega) (by omega) ?_ dL_invert_17
    exact ⟨_, _, _, hW, n_, by rw [hx0]; rfl, fun _ => ⟨rfl, by rw [er]⟩, fun z => absurd hx0 z⟩
set_option maxHeartbeats 4000000 in
set_option maxRecDepth 100000 in
/-- BestratiosLaw.raise(LBestratios;IILBestratiosLaw$Out;)I -/
theorem c_L_raise (l : Launch) (hlst : l.stackTraces = false) (D : va_G) (tk : Nat → ClassId) (N0 : Nat) (sa : Nat → Nat) {ad : Nat → Nat} (hAD : ADok N0 ad) {uo : Nat} (huo : N0 ≤ uo) (sz : Nat) (g : CS) (kn : Int32) (hI : CI g kn) (x1 : Int32) (x2 : Int32) : Met l yL_raise (wsw yL_raise cL_raise 5 (some .int) [(0, 11, 14, 19), (0, 11, 18, 21)]) lwR (cPW D tk N0 sa [.ref (ad 15), .int x1, .int x2, .ref uo] sz (fun H => CW D tk ad g H ∧ OUo D uo H)) (kQi (fun rk H => ∃ (g1 : CS) (ox : Int64) (ov : Value), CW D tk ad g1 H ∧ c1 D uo (.inr (12, [.long ox, ov])) H ∧ WR (xo (bR x1) (2 * bW x2 (-6) 6)) (f_raiW g (nn x1) x2) ((f_raiR g (nn x1) x2).toInt64) g rk g1 ox) (lwA ad uo sz)) 3000 8000 (lwA ad uo sz) := by
  refine mStartW RL rfl (by decide +kernel) (Nat.le_of_ble_eq_true rfl) ?_
  intro p e s m args below meth c E hr hlk htb hsz hC hN hF ls hl
  subst hsz
  obtain ⟨hx, hb, -⟩ := id E
  have hA := lwA.ge hAD huo hC.2.1
  have hn : ∀ q, s.heap.size ≤ q → (lwA ad uo s.heap.size) q := fun q h => Or.inl (Or.inr h)
  have hS : va_S (lwA ad uo s.heap.size) s.heap s.heap [] := va_S.rf
  have hl : lv_has ls 5 [(0, .ref (ad 15)), (1, .int x1), (2, .int x2), (3, .ref uo)] := hl
  obtain ⟨hW, x9, v9, fu⟩ := hF
  have hne := cwC hC hW (Or.inl fu.cl)
  refine lv_aload_n (pc := 0) hx hb dL_raise_0 rfl (lv_at hl 3 rfl) ?_
  refine lv_aload_n (pc := 1) hx hb dL_raise_1 rfl (lv_at hl 0 rfl) ?_
  refine lv_iload_n (pc := 2) hx hb dL_raise_2 rfl (lv_at hl 1 rfl) ?_
  refine lv_iload_n (pc := 3) hx hb dL_raise_3 rfl (lv_at hl 2 rfl) ?_
  refine kh_i (pc := 4) (kx_V E hC hS hA hl.1 (c1.recv hC hW.obj rfl) rfl (c_X3_raise l hlst D tk N0 sa hAD s.heap.size g x1 x2) kw_922 kw_923 kw_924 kw_1 kw_925 (n := 2) (by decide +kernel) rfl ⟨⟨rfl, rfl⟩, ⟨Nat.le_of_ble_eq_true rfl, Nat.le_of_ble_eq_true rfl⟩, (by dsimp only [lwR]; omega), (by dsimp only [lwR]; omega)⟩ rfl (Nat.le_of_ble_eq_true rfl) hW dL_raise_4) hS (fun q z w => Or.inl w) hn (fun E1 ce q9 H locs hb9 hz hk hS h1 h2 h3 => ?_) (fun r H locs hR hz hk hS => ?_)
  · have hW := hW.new hk
    have fu := fu.new hk
    rcases hb9 with ⟨rfl, hx9⟩ | ⟨rfl, hx9⟩
    · refine r_c1 (pc := 4) E hC htb (by decide) (by decide) kw_803 wc_0 h1 h2 h3 ?_
      refine lv_astore (pc := 14) (lv' := [(4, .ref q9), (0, .ref (ad 15)), (1, .int x1), (2, .int x2), (3, .ref uo)]) hx hb dL_raise_14 hl (by decide) rfl (fun ls hl => ?_)
      refine lv_iconst (pc := 16) (v := 1) hx hb dL_raise_16 (by decide) ?_
      refine r_iret (pc := 17) E hr hlk hS (by omega) (by omega) ?_ dL_raise_17
      exact ⟨g, _, _, hW, fu, by rw [hx9]; rfl, fun z => absurd (hx9.symm.trans z) (by decide), fun _ => rfl⟩
    · refine r_c2 (pc := 4) E hC htb (by decide) (by decide) (by decide) kw_804 kw_803 hN.1 wc_1 h1 h2 h3 ?_
      refine lv_astore (pc := 18) (lv' := [(4, .ref q9), (0, .ref (ad 15)), (1, .int x1), (2, .int x2), (3, .ref uo)]) hx hb dL_raise_18 hl (by decide) rfl (fun ls hl => ?_)
      refine lv_iconst (pc := 20) (v := 2) hx hb dL_raise_20 (by decide) ?_
      refine r_iret (pc := 21) E hr hlk hS (by omega) (by omega) ?_ dL_raise_21
      exact ⟨g, _, _, hW, fu, by rw [hx9]; rfl, fun z => absurd (hx9.symm.trans z) (by decide), fun _ => rfl⟩
  · obtain ⟨hx0, er, hW⟩ := hR
    have fu := fu.kept (hk _ fu.lt (cwN hne fu.lt))
    refine lv_i2l (pc := 7) (v := r.toInt64) hx hb dL_raise_7 rfl ?_
    refine r_putO (pc := 8) "BestratiosLaw" E hC fu hS (Or.inr rfl) 0 tyX4 tyX4_ok nmX4 rfl (by decide) (Nat.le_of_ble_eq_true rfl) uX4 kn_793 (fun _ h => h) rfl rfl rfl dL_raise_8 (fun H locs n_ ho hz hS => ?_)
    have hW := hW.kept (fun k hk9 => ho _ (hne k hk9))
    refine lv_goto (pc := 11) (tgt := 22) hx hb dL_raise_11 (by decide) ?_
    refine lv_iconst (pc := 22) (v := 0) hx hb dL_raise_22 (by decide) ?_
    refine r_iret (pc := 23) E hr hlk hS (by omega) (by omega) ?_ dL_raise_23
    exact ⟨_, _, _, hW, n_, by rw [hx0]; rfl, fun _ => ⟨rfl, by rw [er]⟩, fun z => absurd hx0 z⟩
set_option maxHeartbeats 4000000 in
set_option maxRecDepth 100000 in
/-- BestratiosLaw.text(LBestratios;ILBestratiosLaw$Out;)I -/
theorem c_L_text (l : Launch) (hlst : l.stackTraces = false) (D : va_G) (tk : Nat → ClassId) (N0 : Nat) (sa : Nat → Nat) {ad : Nat → Nat} (hAD : ADok N0 ad) {uo : Nat} (huo : N0 ≤ uo) (sz : Nat) (g : CS) (kn : Int32) (hI : CI g kn) (x1 : Int32) : Met l yL_text (wsw yL_text cL_text 4 (some .int) [(0, 9, 12, 19)]) lwR (cPW D tk N0 sa [.ref (ad 15), .int x1, .ref uo] sz (fun H => CW D tk ad g H ∧ OUo D uo H)) (kQi (fun rk H => ∃ (g1 : CS) (ox : Int64) (ov : Value), CW D tk ad g1 H ∧ c1 D uo (.inr (12, [.long ox, ov])) H ∧ WS (bR x1) (g) g rk g1) (lwA ad uo sz)) 3000 8000 (lwA ad uo sz) := by
  refine mStartW RL rfl (by decide +kernel) (Nat.le_of_ble_eq_true rfl) ?_
  intro p e s m args below meth c E hr hlk htb hsz hC hN hF ls hl
  subst hsz
  obtain ⟨hx, hb, -⟩ := id E
  have hA := lwA.ge hAD huo hC.2.1
  have hn : ∀ q, s.heap.size ≤ q → (lwA ad uo s.heap.size) q := fun q h => Or.inl (Or.inr h)
  have hS : va_S (lwA ad uo s.heap.size) s.heap s.heap [] := va_S.rf
  have hl : lv_has ls 4 [(0, .ref (ad 15)), (1, .int x1), (2, .ref uo)] := hl
  obtain ⟨hW, x9, v9, fu⟩ := hF
  have hne := cwC hC hW (Or.inl fu.cl)
  have hw := tx_wf_ok (tT g (nn x1)) (tB g (nn x1)) (q := (0, 16)) (Nat.zero_le _)
  unfold tx_ok at hw
  dsimp only at hw
  refine lv_aload_n (pc := 0) hx hb dL_text_0 rfl (lv_at hl 2 rfl) ?_
  refine lv_aload_n (pc := 1) hx hb dL_text_1 rfl (lv_at hl 0 rfl) ?_
  refine lv_iload_n (pc := 2) hx hb dL_text_2 rfl (lv_at hl 1 rfl) ?_
  refine kh_r (pc := 3) (kx_V E hC hS hA hl.1 (c1.recv hC hW.obj rfl) rfl (c_X3_text l hlst D tk N0 sa hAD s.heap.size g x1) kw_948 kw_949 kw_950 kw_1 kw_951 (n := 1) (by decide +kernel) rfl ⟨⟨rfl, rfl⟩, ⟨Nat.le_of_ble_eq_true rfl, Nat.le_of_ble_eq_true rfl⟩, (by dsimp only [lwR]; omega), (by dsimp only [lwR]; omega)⟩ rfl (Nat.le_of_ble_eq_true rfl) hW dL_text_3) hS (fun q z w => absurd w (Nat.not_le.mpr z)) hn (fun E1 ce q9 H locs hb9 hz hk hS h1 h2 h3 => ?_) (fun r H locs hR hz hk hS => ?_)
  · have hW := hW.new hk
    have fu := fu.new hk
    obtain ⟨rfl, hx9⟩ := hb9
    refine r_c1 (pc := 3) E hC htb (by decide) (by decide) kw_803 wc_0 h1 h2 h3 ?_
    refine lv_astore_n (pc := 12) (lv' := [(3, .ref q9), (0, .ref (ad 15)), (1, .int x1), (2, .ref uo)]) hx hb dL_text_12 rfl hl (by decide) rfl (fun ls hl => ?_)
    refine lv_iconst (pc := 13) (v := 1) hx hb dL_text_13 (by decide) ?_
    refine r_iret (pc := 14) E hr hlk hS (by omega) (by omega) ?_ dL_text_14
    exact ⟨g, _, _, hW, fu, by rw [hx9]; rfl, fun z => absurd (hx9.symm.trans z) (by decide), fun _ => rfl⟩
  · obtain ⟨hx0, hge, hsx⟩ := hR
    have hW := hW.new hk
    have fu := fu.new hk
    refine r_putO (pc := 6) "BestratiosLaw" E hC fu hS (Or.inr rfl) 1 tyX4 tyX4_ok nmX4 rfl (by decide) (Nat.le_of_ble_eq_true rfl) uX4 kn_794 (fun _ h => h) rfl rfl rfl dL_text_6 (fun H locs n_ ho hz hS => ?_)
    have hW := hW.kept (fun k hk9 => ho _ (hne k hk9))
    refine lv_goto (pc := 9) (tgt := 15) hx hb dL_text_9 (by decide) ?_
    refine lv_iconst (pc := 15) (v := 0) hx hb dL_text_15 (by decide) ?_
    refine r_iret (pc := 16) E hr hlk hS (by omega) (by omega) ?_ dL_text_16
    exact ⟨_, _, _, hW, n_, by rw [hx0]; rfl, fun _ => rfl, fun z => absurd hx0 z⟩
set_option maxHeartbeats 4000000 in
set_option maxRecDepth 100000 in
/-- BestratiosLaw.part(LBestratios;IILBestratiosLaw$Out;)I -/
theorem c_L_part (l : Launch) (hlst : l.stackTraces = false) (D : va_G) (tk : Nat → ClassId) (N0 : Nat) (sa : Nat → Nat) {ad : Nat → Nat} (hAD : ADok N0 ad) {uo : Nat} (huo : N0 ≤ uo) (sz : Nat) (g : CS) (kn : Int32) (hI : CI g kn) (x1 : Int32) (x2 : Int32) : Met l yL_part (wsw yL_part cL_part 5 (some .int) [(0, 11, 14, 19), (0, 11, 18, 21)]) lwR (cPW D tk N0 sa [.ref (ad 15), .int x1, .int x2, .ref uo] sz (fun H => CW D tk ad g H ∧ OUo D uo H)) (kQi (fun rk H => ∃ (g1 : CS) (ox : Int64) (ov : Value), CW D tk ad g1 H ∧ c1 D uo (.inr (12, [.long ox, ov])) H ∧ WR (xo (bR x1) (2 * bW x2 0 3)) (g) (((f_part g (nn x1) x2).toInt32).toInt64) g rk g1 ox) (lwA ad uo sz)) 3000 8000 (lwA ad uo sz) := by
  refine mStartW RL rfl (by decide +kernel) (Nat.le_of_ble_eq_true rfl) ?_
  intro p e s m args below meth c E hr hlk htb hsz hC hN hF ls hl
  subst hsz
  obtain ⟨hx, hb, -⟩ := id E
  have hA := lwA.ge hAD huo hC.2.1
  have hn : ∀ q, s.heap.size ≤ q → (lwA ad uo s.heap.size) q := fun q h => Or.inl (Or.inr h)
  have hS : va_S (lwA ad uo s.heap.size) s.heap s.heap [] := va_S.rf
  have hl : lv_has ls 5 [(0, .ref (ad 15)), (1, .int x1), (2, .int x2), (3, .ref uo)] := hl
  obtain ⟨hW, x9, v9, fu⟩ := hF
  have hne := cwC hC hW (Or.inl fu.cl)
  refine lv_aload_n (pc := 0) hx hb dL_part_0 rfl (lv_at hl 3 rfl) ?_
  refine lv_aload_n (pc := 1) hx hb dL_part_1 rfl (lv_at hl 0 rfl) ?_
  refine lv_iload_n (pc := 2) hx hb dL_part_2 rfl (lv_at hl 1 rfl) ?_
  refine lv_iload_n (pc := 3) hx hb dL_part_3 rfl (lv_at hl 2 rfl) ?_
  refine kh_i (pc := 4) (kx_V E hC hS hA hl.1 (c1.recv hC hW.obj rfl) rfl (c_X3_part l hlst D tk N0 sa hAD s.heap.size g x1 x2) kw_955 kw_956 kw_957 kw_1 kw_958 (n := 2) (by decide +kernel) rfl ⟨⟨rfl, rfl⟩, ⟨Nat.le_of_ble_eq_true rfl, Nat.le_of_ble_eq_true rfl⟩, (by dsimp only [lwR]; omega), (by dsimp only [lwR]; omega)⟩ rfl (Nat.le_of_ble_eq_true rfl) hW dL_part_4) hS (fun q z w => absurd w (Nat.not_le.mpr z)) hn (fun E1 ce q9 H locs hb9 hz hk hS h1 h2 h3 => ?_) (fun r H locs hR hz hk hS => ?_)
  · have hW := hW.new hk
    have fu := fu.new hk
    rcases hb9 with ⟨rfl, hx9⟩ | ⟨rfl, hx9⟩
    · refine r_c1 (pc := 4) E hC htb (by decide) (by decide) kw_803 wc_0 h1 h2 h3 ?_
      refine lv_astore (pc := 14) (lv' := [(4, .ref q9), (0, .ref (ad 15)), (1, .int x1), (2, .int x2), (3, .ref uo)]) hx hb dL_part_14 hl (by decide) rfl (fun ls hl => ?_)
      refine lv_iconst (pc := 16) (v := 1) hx hb dL_part_16 (by decide) ?_
      refine r_iret (pc := 17) E hr hlk hS (by omega) (by omega) ?_ dL_part_17
      exact ⟨g, _, _, hW, fu, by rw [hx9]; rfl, fun z => absurd (hx9.symm.trans z) (by decide), fun _ => rfl⟩
    · refine r_c2 (pc := 4) E hC htb (by decide) (by decide) (by decide) kw_804 kw_803 hN.1 wc_1 h1 h2 h3 ?_
      refine lv_astore (pc := 18) (lv' := [(4, .ref q9), (0, .ref (ad 15)), (1, .int x1), (2, .int x2), (3, .ref uo)]) hx hb dL_part_18 hl (by decide) rfl (fun ls hl => ?_)
      refine lv_iconst (pc := 20) (v := 2) hx hb dL_part_20 (by decide) ?_
      refine r_iret (pc := 21) E hr hlk hS (by omega) (by omega) ?_ dL_part_21
      exact ⟨g, _, _, hW, fu, by rw [hx9]; rfl, fun z => absurd (hx9.symm.trans z) (by decide), fun _ => rfl⟩
  · obtain ⟨hx0, er⟩ := hR
    have hW := hW.new hk
    have fu := fu.new hk
    refine lv_i2l (pc := 7) (v := r.toInt64) hx hb dL_part_7 rfl ?_
    refine r_putO (pc := 8) "BestratiosLaw" E hC fu hS (Or.inr rfl) 0 tyX4 tyX4_ok nmX4 rfl (by decide) (Nat.le_of_ble_eq_true rfl) uX4 kn_793 (fun _ h => h) rfl rfl rfl dL_part_8 (fun H locs n_ ho hz hS => ?_)
    have hW := hW.kept (fun k hk9 => ho _ (hne k hk9))
    refine lv_goto (pc := 11) (tgt := 22) hx hb dL_part_11 (by decide) ?_
    refine lv_iconst (pc := 22) (v := 0) hx hb dL_part_22 (by decide) ?_
    refine r_iret (pc := 23) E hr hlk hS (by omega) (by omega) ?_ dL_part_23
    exact ⟨_, _, _, hW, n_, by rw [hx0]; rfl, fun _ => ⟨rfl, by rw [er]⟩, fun z => absurd hx0 z⟩
set_option maxHeartbeats 4000000 in
set_option maxRecDepth 100000 in
/-- BestratiosLaw.compare(LBestratios;IILBestratiosLaw$Out;)I -/
theorem c_L_compare (l : Launch) (hlst : l.stackTraces = false) (D : va_G) (tk : Nat → ClassId) (N0 : Nat) (sa : Nat → Nat) {ad : Nat → Nat} (hAD : ADok N0 ad) {uo : Nat} (huo : N0 ≤ uo) (sz : Nat) (g : CS) (kn : Int32) (hI : CI g kn) (x1 : Int32) (x2 : Int32) : Met l yL_compare (wsw yL_compare cL_compare 5 (some .int) [(0, 11, 14, 19)]) lwR (cPW D tk N0 sa [.ref (ad 15), .int x1, .int x2, .ref uo] sz (fun H => CW D tk ad g H ∧ OUo D uo H)) (kQi (fun rk H => ∃ (g1 : CS) (ox : Int64) (ov : Value), CW D tk ad g1 H ∧ c1 D uo (.inr (12, [.long ox, ov])) H ∧ WR (xo (bR x1) (bR x2)) (g) ((f_cmp (tT g (nn x1) * tB g (nn x2)) (tT g (nn x2) * tB g (nn x1))).toInt64) g rk g1 ox) (lwA ad uo sz)) 3000 8000 (lwA ad uo sz) := by
  refine mStartW RL rfl (by decide +kernel) (Nat.le_of_ble_eq_true rfl) ?_
  intro p e s m args below meth c E hr hlk htb hsz hC hN hF ls hl
  subst hsz
  obtain ⟨hx, hb, -⟩ := id E
  have hA := lwA.ge hAD huo hC.2.1
  have hn : ∀ q, s.heap.size ≤ q → (lwA ad uo s.heap.size) q := fun q h => Or.inl (Or.inr h)
  have hS : va_S (lwA ad uo s.heap.size) s.heap s.heap [] := va_S.rf
  have hl : lv_has ls 5 [(0, .ref (ad 15)), (1, .int x1), (2, .int x2), (3, .ref uo)] := hl
  obtain ⟨hW, x9, v9, fu⟩ := hF
  have hne := cwC hC hW (Or.inl fu.cl)
  refine lv_aload_n (pc := 0) hx hb dL_compare_0 rfl (lv_at hl 3 rfl) ?_
  refine lv_aload_n (pc := 1) hx hb dL_compare_1 rfl (lv_at hl 0 rfl) ?_
  refine lv_iload_n (pc := 2) hx hb dL_compare_2 rfl (lv_at hl 1 rfl) ?_
  refine lv_iload_n (pc := 3) hx hb dL_compare_3 rfl (lv_at hl 2 rfl) ?_
  refine kh_i (pc := 4) (kx_V E hC hS hA hl.1 (c1.recv hC hW.obj rfl) rfl (c_X3_compare l hlst D tk N0 sa hAD s.heap.size g x1 x2) kw_962 kw_963 kw_964 kw_1 kw_965 (n := 2) (by decide +kernel) rfl ⟨⟨rfl, rfl⟩, ⟨Nat.le_of_ble_eq_true rfl, Nat.le_of_ble_eq_true rfl⟩, (by dsimp only [lwR]; omega), (by dsimp only [lwR]; omega)⟩ rfl (Nat.le_of_ble_eq_true rfl) hW dL_compare_4) hS (fun q z w => absurd w (Nat.not_le.mpr z)) hn (fun E1 ce q9 H locs hb9 hz hk hS h1 h2 h3 => ?_) (fun r H locs hR hz hk hS => ?_)
  · have hW := hW.new hk
    have fu := fu.new hk
    obtain ⟨rfl, hx9⟩ := hb9
    refine r_c1 (pc := 4) E hC htb (by decide) (by decide) kw_803 wc_0 h1 h2 h3 ?_
    refine lv_astore (pc := 14) (lv' := [(4, .ref q9), (0, .ref (ad 15)), (1, .int x1), (2, .int x2), (3, .ref uo)]) hx hb dL_compare_14 hl (by decide) rfl (fun ls hl => ?_)
    refine lv_iconst (pc := 16) (v := 1) hx hb dL_compare_16 (by decide) ?_
    refine r_iret (pc := 17) E hr hlk hS (by omega) (by omega) ?_ dL_compare_17
    exact ⟨g, _, _, hW, fu, by rw [hx9]; rfl, fun z => absurd (hx9.symm.trans z) (by decide), fun _ => rfl⟩
  · obtain ⟨hx0, er⟩ := hR
    have hW := hW.new hk
    have fu := fu.new hk
    refine lv_i2l (pc := 7) (v := r.toInt64) hx hb dL_compare_7 rfl ?_
    refine r_putO (pc := 8) "BestratiosLaw" E hC fu hS (Or.inr rfl) 0 tyX4 tyX4_ok nmX4 rfl (by decide) (Nat.le_of_ble_eq_true rfl) uX4 kn_793 (fun _ h => h) rfl rfl rfl dL_compare_8 (fun H locs n_ ho hz hS => ?_)
    have hW := hW.kept (fun k hk9 => ho _ (hne k hk9))
    refine lv_goto (pc := 11) (tgt := 18) hx hb dL_compare_11 (by decide) ?_
    refine lv_iconst (pc := 18) (v := 0) hx hb dL_compare_18 (by decide) ?_
    refine r_iret (pc := 19) E hr hlk hS (by omega) (by omega) ?_ dL_compare_19
    exact ⟨_, _, _, hW, n_, by rw [hx0]; rfl, fun _ => ⟨rfl, by rw [er]⟩, fun z => absurd hx0 z⟩
set_option maxHeartbeats 4000000 in
set_option maxRecDepth 100000 in
/-- BestratiosLaw.areNext(LBestratios;IILBestratiosLaw$Out;)I -/
theorem c_L_areNext (l : Launch) (hlst : l.stackTraces = false) (D : va_G) (tk : Nat → ClassId) (N0 : Nat) (sa : Nat → Nat) {ad : Nat → Nat} (hAD : ADok N0 ad) {uo : Nat} (huo : N0 ≤ uo) (sz : Nat) (g : CS) (kn : Int32) (hI : CI g kn) (x1 : Int32) (x2 : Int32) : Met l yL_areNext (wsw yL_areNext cL_areNext 5 (some .int) [(0, 18, 21, 19)]) lwR (cPW D tk N0 sa [.ref (ad 15), .int x1, .int x2, .ref uo] sz (fun H => CW D tk ad g H ∧ OUo D uo H)) (kQi (fun rk H => ∃ (g1 : CS) (ox : Int64) (ov : Value), CW D tk ad g1 H ∧ c1 D uo (.inr (12, [.long ox, ov])) H ∧ WR (xo (bR x1) (bR x2)) (g) ((f_next (tT g (nn x1)) (tB g (nn x1)) (tT g (nn x2)) (tB g (nn x2))).toInt64) g rk g1 ox) (lwA ad uo sz)) 3000 8000 (lwA ad uo sz) := by
  refine mStartW RL rfl (by decide +kernel) (Nat.le_of_ble_eq_true rfl) ?_
  intro p e s m args below meth c E hr hlk htb hsz hC hN hF ls hl
  subst hsz
  obtain ⟨hx, hb, -⟩ := id E
  have hA := lwA.ge hAD huo hC.2.1
  have hn : ∀ q, s.heap.size ≤ q → (lwA ad uo s.heap.size) q := fun q h => Or.inl (Or.inr h)
  have hS : va_S (lwA ad uo s.heap.size) s.heap s.heap [] := va_S.rf
  have hl : lv_has ls 5 [(0, .ref (ad 15)), (1, .int x1), (2, .int x2), (3, .ref uo)] := hl
  obtain ⟨hW, x9, v9, fu⟩ := hF
  have hne := cwC hC hW (Or.inl fu.cl)
  refine lv_aload_n (pc := 0) hx hb dL_areNext_0 rfl (lv_at hl 3 rfl) ?_
  refine lv_aload_n (pc := 1) hx hb dL_areNext_1 rfl (lv_at hl 0 rfl) ?_
  refine lv_iload_n (pc := 2) hx hb dL_areNext_2 rfl (lv_at hl 1 rfl) ?_
  refine lv_iload_n (pc := 3) hx hb dL_areNext_3 rfl (lv_at hl 2 rfl) ?_
  refine kh_i (pc := 4) (kx_V E hC hS hA hl.1 (c1.recv hC hW.obj rfl) rfl (c_X3_areNext l hlst D tk N0 sa hAD s.heap.size g x1 x2) kw_969 kw_970 kw_971 kw_1 kw_972 (n := 2) (by decide +kernel) rfl ⟨⟨rfl, rfl⟩, ⟨Nat.le_of_ble_eq_true rfl, Nat.le_of_ble_eq_true rfl⟩, (by dsimp only [lwR]; omega), (by dsimp only [lwR]; omega)⟩ rfl (Nat.le_of_ble_eq_true rfl) hW dL_areNext_4) hS (fun q z w => absurd w (Nat.not_le.mpr z)) hn (fun E1 ce q9 H locs hb9 hz hk hS h1 h2 h3 => ?_) (fun r H locs hR hz hk hS => ?_)
  · have hW := hW.new hk
    have fu := fu.new hk
    obtain ⟨rfl, hx9⟩ := hb9
    refine r_c1 (pc := 4) E hC htb (by decide) (by decide) kw_803 wc_0 h1 h2 h3 ?_
    refine lv_astore (pc := 21) (lv' := [(4, .ref q9), (0, .ref (ad 15)), (1, .int x1), (2, .int x2), (3, .ref uo)]) hx hb dL_areNext_21 hl (by decide) rfl (fun ls hl => ?_)
    refine lv_iconst (pc := 23) (v := 1) hx hb dL_areNext_23 (by decide) ?_
    refine r_iret (pc := 24) E hr hlk hS (by omega) (by omega) ?_ dL_areNext_24
    exact ⟨g, _, _, hW, fu, by rw [hx9]; rfl, fun z => absurd (hx9.symm.trans z) (by decide), fun _ => rfl⟩
  · obtain ⟨hx0, er⟩ := hR
    have hW := hW.new hk
    have fu := fu.new hk
    refine lv_if_eq (pc := 7) (tgt := 14) hx hb dL_areNext_7 (by decide) (fun c_0 => ?_) (fun c_0 => ?_)
    · refine lv_lconst (pc := 14) (v := 0) hx hb dL_areNext_14 (by decide) ?_
      refine r_putO (pc := 15) "BestratiosLaw" E hC fu hS (Or.inr rfl) 0 tyX4 tyX4_ok nmX4 rfl (by decide) (Nat.le_of_ble_eq_true rfl) uX4 kn_793 (fun _ h => h) rfl rfl rfl dL_areNext_15 (fun H locs n_ ho hz hS => ?_)
      have hW := hW.kept (fun k hk9 => ho _ (hne k hk9))
      refine lv_goto (pc := 18) (tgt := 25) hx hb dL_areNext_18 (by decide) ?_
      refine lv_iconst (pc := 25) (v := 0) hx hb dL_areNext_25 (by decide) ?_
      refine r_iret (pc := 26) E hr hlk hS (by omega) (by omega) ?_ dL_areNext_26
      exact ⟨_, _, _, hW, n_, by rw [hx0]; rfl, fun _ => ⟨rfl, by rw [← er, c_0]; rfl⟩, fun z => absurd hx0 z⟩
    · refine lv_lconst (pc := 10) (v := 1) hx hb dL_areNext_10 (by decide) ?_
      refine lv_goto (pc := 11) (tgt := 15) hx hb dL_areNext_11 (by decide) ?_
      refine r_putO (pc := 15) "BestratiosLaw" E hC fu hS (Or.inr rfl) 0 tyX4 tyX4_ok nmX4 rfl (by decide) (Nat.le_of_ble_eq_true rfl) uX4 kn_793 (fun _ h => h) rfl rfl rfl dL_areNext_15 (fun H locs n_ ho hz hS => ?_)
      have hW := hW.kept (fun k hk9 => ho _ (hne k hk9))
      refine lv_goto (pc := 18) (tgt := 25) hx hb dL_areNext_18 (by decide) ?_
      refine lv_iconst (pc := 25) (v := 0) hx hb dL_areNext_25 (by decide) ?_
      refine r_iret (pc := 26) E hr hlk hS (by omega) (by omega) ?_ dL_areNext_26
      exact ⟨_, _, _, hW, n_, by rw [hx0]; rfl, fun _ => ⟨rfl, by rw [← er, q_nx2 er c_0]; rfl⟩, fun z => absurd hx0 z⟩
set_option maxHeartbeats 4000000 in
set_option maxRecDepth 100000 in
/-- BestratiosLaw.terms(LBestratios;ILBestratiosLaw$Out;)I -/
theorem c_L_terms (l : Launch) (hlst : l.stackTraces = false) (D : va_G) (tk : Nat → ClassId) (N0 : Nat) (sa : Nat → Nat) {ad : Nat → Nat} (hAD : ADok N0 ad) {uo : Nat} (huo : N0 ≤ uo) (sz : Nat) (g : CS) (kn : Int32) (hI : CI g kn) (x1 : Int32) : Met l yL_terms (wsw yL_terms cL_terms 4 (some .int) [(0, 9, 12, 19)]) lwR (cPW D tk N0 sa [.ref (ad 15), .int x1, .ref uo] sz (fun H => CW D tk ad g H ∧ OUo D uo H)) (kQi (fun rk H => ∃ (g1 : CS) (ox : Int64) (ov : Value), CW D tk ad g1 H ∧ c1 D uo (.inr (12, [.long ox, ov])) H ∧ WS (bR x1) (f_apart g 1 (nn x1)) g rk g1) (lwA ad uo sz)) 3000 8000 (lwA ad uo sz) := by
  refine mStartW RL rfl (by decide +kernel) (Nat.le_of_ble_eq_true rfl) ?_
  intro p e s m args below meth c E hr hlk htb hsz hC hN hF ls hl
  subst hsz
  obtain ⟨hx, hb, -⟩ := id E
  have hA := lwA.ge hAD huo hC.2.1
  have hn : ∀ q, s.heap.size ≤ q → (lwA ad uo s.heap.size) q := fun q h => Or.inl (Or.inr h)
  have hS : va_S (lwA ad uo s.heap.size) s.heap s.heap [] := va_S.rf
  have hl : lv_has ls 4 [(0, .ref (ad 15)), (1, .int x1), (2, .ref uo)] := hl
  obtain ⟨hW, x9, v9, fu⟩ := hF
  have hne := cwC hC hW (Or.inl fu.cl)
  have hc9 := tx_aprt g 1 (nn x1)
  have hw := tx_rtL_ok (f_apart g 1 (nn x1)) 1 (tC (f_apart g 1 (nn x1)) 1).toNatClampNeg 0 0 (0, 16) (0, 16) (tx_ok.rf (Nat.zero_le _))
  unfold tx_ok at hw
  dsimp only at hw
  have e9 : tx_rt (f_apart g 1 (nn x1)) 1 = tx_rtL (f_apart g 1 (nn x1)) 1 (tC (f_apart g 1 (nn x1)) 1).toNatClampNeg 0 (0, 16) := rfl
  rw [← e9] at hw
  refine lv_aload_n (pc := 0) hx hb dL_terms_0 rfl (lv_at hl 2 rfl) ?_
  refine lv_aload_n (pc := 1) hx hb dL_terms_1 rfl (lv_at hl 0 rfl) ?_
  refine lv_iload_n (pc := 2) hx hb dL_terms_2 rfl (lv_at hl 1 rfl) ?_
  refine kh_r (pc := 3) (kx_V E hC hS hA hl.1 (c1.recv hC hW.obj rfl) rfl (c_X3_terms l hlst D tk N0 sa hAD s.heap.size g x1) kw_976 kw_977 kw_978 kw_1 kw_979 (n := 1) (by decide +kernel) rfl ⟨⟨rfl, rfl⟩, ⟨Nat.le_of_ble_eq_true rfl, Nat.le_of_ble_eq_true rfl⟩, (by dsimp only [lwR]; omega), (by dsimp only [lwR]; omega)⟩ rfl (Nat.le_of_ble_eq_true rfl) hW dL_terms_3) hS (fun q z w => Or.inl w) hn (fun E1 ce q9 H locs hb9 hz hk hS h1 h2 h3 => ?_) (fun r H locs hR hz hk hS => ?_)
  · have hW := hW.new hk
    have fu := fu.new hk
    obtain ⟨rfl, hx9⟩ := hb9
    refine r_c1 (pc := 3) E hC htb (by decide) (by decide) kw_803 wc_0 h1 h2 h3 ?_
    refine lv_astore_n (pc := 12) (lv' := [(3, .ref q9), (0, .ref (ad 15)), (1, .int x1), (2, .ref uo)]) hx hb dL_terms_12 rfl hl (by decide) rfl (fun ls hl => ?_)
    refine lv_iconst (pc := 13) (v := 1) hx hb dL_terms_13 (by decide) ?_
    refine r_iret (pc := 14) E hr hlk hS (by omega) (by omega) ?_ dL_terms_14
    exact ⟨g, _, _, hW, fu, by rw [hx9]; rfl, fun z => absurd (hx9.symm.trans z) (by decide), fun _ => rfl⟩
  · obtain ⟨hx0, hge, hsx, hW⟩ := hR
    have fu := fu.kept (hk _ fu.lt (cwN hne fu.lt))
    refine r_putO (pc := 6) "BestratiosLaw" E hC fu hS (Or.inr rfl) 1 tyX4 tyX4_ok nmX4 rfl (by decide) (Nat.le_of_ble_eq_true rfl) uX4 kn_794 (fun _ h => h) rfl rfl rfl dL_terms_6 (fun H locs n_ ho hz hS => ?_)
    have hW := hW.kept (fun k hk9 => ho _ (hne k hk9))
    refine lv_goto (pc := 9) (tgt := 15) hx hb dL_terms_9 (by decide) ?_
    refine lv_iconst (pc := 15) (v := 0) hx hb dL_terms_15 (by decide) ?_
    refine r_iret (pc := 16) E hr hlk hS (by omega) (by omega) ?_ dL_terms_16
    exact ⟨_, _, _, hW, n_, by rw [hx0]; rfl, fun _ => rfl, fun z => absurd hx0 z⟩
set_option maxHeartbeats 4000000 in
set_option maxRecDepth 100000 in
/-- BestratiosLaw.term(LBestratios;IILBestratiosLaw$Out;)I -/
theorem c_L_term (l : Launch) (hlst : l.stackTraces = false) (D : va_G) (tk : Nat → ClassId) (N0 : Nat) (sa : Nat → Nat) {ad : Nat → Nat} (hAD : ADok N0 ad) {uo : Nat} (huo : N0 ≤ uo) (sz : Nat) (g : CS) (kn : Int32) (hI : CI g kn) (x1 : Int32) (x2 : Int32) : Met l yL_term (wsw yL_term cL_term 5 (some .int) [(0, 11, 14, 19), (0, 11, 18, 21)]) lwR (cPW D tk N0 sa [.ref (ad 15), .int x1, .int x2, .ref uo] sz (fun H => CW D tk ad g H ∧ OUo D uo H)) (kQi (fun rk H => ∃ (g1 : CS) (ox : Int64) (ov : Value), CW D tk ad g1 H ∧ c1 D uo (.inr (12, [.long ox, ov])) H ∧ WR (xo (bR x1) (2 * bN x2)) (f_apart g 1 (nn x1)) ((f_term (f_apart g 1 (nn x1)) x2).toInt64) g rk g1 ox) (lwA ad uo sz)) 3000 8000 (lwA ad uo sz) := by
  refine mStartW RL rfl (by decide +kernel) (Nat.le_of_ble_eq_true rfl) ?_
  intro p e s m args below meth c E hr hlk htb hsz hC hN hF ls hl
  subst hsz
  obtain ⟨hx, hb, -⟩ := id E
  have hA := lwA.ge hAD huo hC.2.1
  have hn : ∀ q, s.heap.size ≤ q → (lwA ad uo s.heap.size) q := fun q h => Or.inl (Or.inr h)
  have hS : va_S (lwA ad uo s.heap.size) s.heap s.heap [] := va_S.rf
  have hl : lv_has ls 5 [(0, .ref (ad 15)), (1, .int x1), (2, .int x2), (3, .ref uo)] := hl
  obtain ⟨hW, x9, v9, fu⟩ := hF
  have hne := cwC hC hW (Or.inl fu.cl)
  refine lv_aload_n (pc := 0) hx hb dL_term_0 rfl (lv_at hl 3 rfl) ?_
  refine lv_aload_n (pc := 1) hx hb dL_term_1 rfl (lv_at hl 0 rfl) ?_
  refine lv_iload_n (pc := 2) hx hb dL_term_2 rfl (lv_at hl 1 rfl) ?_
  refine lv_iload_n (pc := 3) hx hb dL_term_3 rfl (lv_at hl 2 rfl) ?_
  refine kh_i (pc := 4) (kx_V E hC hS hA hl.1 (c1.recv hC hW.obj rfl) rfl (c_X3_term l hlst D tk N0 sa hAD s.heap.size g x1 x2) kw_983 kw_984 kw_985 kw_1 kw_986 (n := 2) (by decide +kernel) rfl ⟨⟨rfl, rfl⟩, ⟨Nat.le_of_ble_eq_true rfl, Nat.le_of_ble_eq_true rfl⟩, (by dsimp only [lwR]; omega), (by dsimp only [lwR]; omega)⟩ rfl (Nat.le_of_ble_eq_true rfl) hW dL_term_4) hS (fun q z w => Or.inl w) hn (fun E1 ce q9 H locs hb9 hz hk hS h1 h2 h3 => ?_) (fun r H locs hR hz hk hS => ?_)
  · have hW := hW.new hk
    have fu := fu.new hk
    rcases hb9 with ⟨rfl, hx9⟩ | ⟨rfl, hx9⟩
    · refine r_c1 (pc := 4) E hC htb (by decide) (by decide) kw_803 wc_0 h1 h2 h3 ?_
      refine lv_astore (pc := 14) (lv' := [(4, .ref q9), (0, .ref (ad 15)), (1, .int x1), (2, .int x2), (3, .ref uo)]) hx hb dL_term_14 hl (by decide) rfl (fun ls hl => ?_)
      refine lv_iconst (pc := 16) (v := 1) hx hb dL_term_16 (by decide) ?_
      refine r_iret (pc := 17) E hr hlk hS (by omega) (by omega) ?_ dL_term_17
      exact ⟨g, _, _, hW, fu, by rw [hx9]; rfl, fun z => absurd (hx9.symm.trans z) (by decide), fun _ => rfl⟩
    · refine r_c2 (pc := 4) E hC htb (by decide) (by decide) (by decide) kw_804 kw_803 hN.1 wc_1 h1 h2 h3 ?_
      refine lv_astore (pc := 18) (lv' := [(4, .ref q9), (0, .ref (ad 15)), (1, .int x1), (2, .int x2), (3, .ref uo)]) hx hb dL_term_18 hl (by decide) rfl (fun ls hl => ?_)
      refine lv_iconst (pc := 20) (v := 2) hx hb dL_term_20 (by decide) ?_
      refine r_iret (pc := 21) E hr hlk hS (by omega) (by omega) ?_ dL_term_21
      exact ⟨g, _, _, hW, fu, by rw [hx9]; rfl, fun z => absurd (hx9.symm.trans z) (by decide), fun _ => rfl⟩
  · obtain ⟨hx0, er, hW⟩ := hR
    have fu := fu.kept (hk _ fu.lt (cwN hne fu.lt))
    refine lv_i2l (pc := 7) (v := r.toInt64) hx hb dL_term_7 rfl ?_
    refine r_putO (pc := 8) "BestratiosLaw" E hC fu hS (Or.inr rfl) 0 tyX4 tyX4_ok nmX4 rfl (by decide) (Nat.le_of_ble_eq_true rfl) uX4 kn_793 (fun _ h => h) rfl rfl rfl dL_term_8 (fun H locs n_ ho hz hS => ?_)
    have hW := hW.kept (fun k hk9 => ho _ (hne k hk9))
    refine lv_goto (pc := 11) (tgt := 22) hx hb dL_term_11 (by decide) ?_
    refine lv_iconst (pc := 22) (v := 0) hx hb dL_term_22 (by decide) ?_
    refine r_iret (pc := 23) E hr hlk hS (by omega) (by omega) ?_ dL_term_23
    exact ⟨_, _, _, hW, n_, by rw [hx0]; rfl, fun _ => ⟨rfl, by rw [er]⟩, fun z => absurd hx0 z⟩
set_option maxHeartbeats 4000000 in
set_option maxRecDepth 100000 in
/-- BestratiosLaw.convergent(LBestratios;IIILBestratiosLaw$Out;)I -/
theorem c_L_convergent (l : Launch) (hlst : l.stackTraces = false) (D : va_G) (tk : Nat → ClassId) (N0 : Nat) (sa : Nat → Nat) {ad : Nat → Nat} (hAD : ADok N0 ad) {uo : Nat} (huo : N0 ≤ uo) (sz : Nat) (g : CS) (kn : Int32) (hI : CI g kn) (x1 : Int32) (x2 : Int32) (x3 : Int32) : Met l yL_convergent (wsw yL_convergent cL_convergent 6 (some .int) [(0, 13, 16, 19), (0, 13, 20, 21)]) lwR (cPW D tk N0 sa [.ref (ad 15), .int x1, .int x2, .int x3, .ref uo] sz (fun H => CW D tk ad g H ∧ OUo D uo H)) (kQi (fun rk H => ∃ (g1 : CS) (ox : Int64) (ov : Value), CW D tk ad g1 H ∧ c1 D uo (.inr (12, [.long ox, ov])) H ∧ WR (xo (bR x1) (xo (bR x2) (2 * bN x3))) (f_conW (f_apart g 1 (nn x2)) (nn x1) x3) ((f_conR (f_apart g 1 (nn x2)) (nn x1) x3).toInt64) g rk g1 ox) (lwA ad uo sz)) 3000 8000 (lwA ad uo sz) := by
  refine mStartW RL rfl (by decide +kernel) (Nat.le_of_ble_eq_true rfl) ?_
  intro p e s m args below meth c E hr hlk htb hsz hC hN hF ls hl
  subst hsz
  obtain ⟨hx, hb, -⟩ := id E
  have hA := lwA.ge hAD huo hC.2.1
  have hn : ∀ q, s.heap.size ≤ q → (lwA ad uo s.heap.size) q := fun q h => Or.inl (Or.inr h)
  have hS : va_S (lwA ad uo s.heap.size) s.heap s.heap [] := va_S.rf
  have hl : lv_has ls 6 [(0, .ref (ad 15)), (1, .int x1), (2, .int x2), (3, .int x3), (4, .ref uo)] := hl
  obtain ⟨hW, x9, v9, fu⟩ := hF
  have hne := cwC hC hW (Or.inl fu.cl)
  refine lv_aload (pc := 0) hx hb dL_convergent_0 (lv_at hl 4 rfl) ?_
  refine lv_aload_n (pc := 2) hx hb dL_convergent_2 rfl (lv_at hl 0 rfl) ?_
  refine lv_iload_n (pc := 3) hx hb dL_convergent_3 rfl (lv_at hl 1 rfl) ?_
  refine lv_iload_n (pc := 4) hx hb dL_convergent_4 rfl (lv_at hl 2 rfl) ?_
  refine lv_iload_n (pc := 5) hx hb dL_convergent_5 rfl (lv_at hl 3 rfl) ?_
  refine kh_i (pc := 6) (kx_V E hC hS hA hl.1 (c1.recv hC hW.obj rfl) rfl (c_X3_convergent l hlst D tk N0 sa hAD s.heap.size g x1 x2 x3) kw_994 kw_995 kw_996 kw_1 kw_997 (n := 3) (by decide +kernel) rfl ⟨⟨rfl, rfl⟩, ⟨Nat.le_of_ble_eq_true rfl, Nat.le_of_ble_eq_true rfl⟩, (by dsimp only [lwR]; omega), (by dsimp only [lwR]; omega)⟩ rfl (Nat.le_of_ble_eq_true rfl) hW dL_convergent_6) hS (fun q z w => Or.inl w) hn (fun E1 ce q9 H locs hb9 hz hk hS h1 h2 h3 => ?_) (fun r H locs hR hz hk hS => ?_)
  · have hW := hW.new hk
    have fu := fu.new hk
    rcases hb9 with ⟨rfl, hx9⟩ | ⟨rfl, hx9⟩
    · refine r_c1 (pc := 6) E hC htb (by decide) (by decide) kw_803 wc_0 h1 h2 h3 ?_
      refine lv_astore (pc := 16) (lv' := [(5, .ref q9), (0, .ref (ad 15)), (1, .int x1), (2, .int x2), (3, .int x3), (4, .ref uo)]) hx hb dL_convergent_16 hl (by decide) rfl (fun ls hl => ?_)
      refine lv_iconst (pc := 18) (v := 1) hx hb dL_convergent_18 (by decide) ?_
      refine r_iret (pc := 19) E hr hlk hS (by omega) (by omega) ?_ dL_convergent_19
      exact ⟨g, _, _, hW, fu, by rw [hx9]; rfl, fun z => absurd (hx9.symm.trans z) (by decide), fun _ => rfl⟩
    · refine r_c2 (pc := 6) E hC htb (by decide) (by decide) (by decide) kw_804 kw_803 hN.1 wc_1 h1 h2 h3 ?_
      refine lv_astore (pc := 20) (lv' := [(5, .ref q9), (0, .ref (ad 15)), (1, .int x1), (2, .int x2), (3, .int x3), (4, .ref uo)]) hx hb dL_convergent_20 hl (by decide) rfl (fun ls hl => ?_)
      refine lv_iconst (pc := 22) (v := 2) hx hb dL_convergent_22 (by decide) ?_
      refine r_iret (pc := 23) E hr hlk hS (by omega) (by omega) ?_ dL_convergent_23
      exact ⟨g, _, _, hW, fu, by rw [hx9]; rfl, fun z => absurd (hx9.symm.trans z) (by decide), fun _ => rfl⟩
  · obtain ⟨hx0, er, hW⟩ := hR
    have fu := fu.kept (hk _ fu.lt (cwN hne fu.lt))
    refine lv_i2l (pc := 9) (v := r.toInt64) hx hb dL_convergent_9 rfl ?_
    refine r_putO (pc := 10) "BestratiosLaw" E hC fu hS (Or.inr rfl) 0 tyX4 tyX4_ok nmX4 rfl (by decide) (Nat.le_of_ble_eq_true rfl) uX4 kn_793 (fun _ h => h) rfl rfl rfl dL_convergent_10 (fun H locs n_ ho hz hS => ?_)
    have hW := hW.kept (fun k hk9 => ho _ (hne k hk9))
    refine lv_goto (pc := 13) (tgt := 24) hx hb dL_convergent_13 (by decide) ?_
    refine lv_iconst (pc := 24) (v := 0) hx hb dL_convergent_24 (by decide) ?_
    refine r_iret (pc := 25) E hr hlk hS (by omega) (by omega) ?_ dL_convergent_25
    exact ⟨_, _, _, hW, n_, by rw [hx0]; rfl, fun _ => ⟨rfl, by rw [er]⟩, fun z => absurd hx0 z⟩
set_option maxHeartbeats 4000000 in
set_option maxRecDepth 100000 in
/-- BestratiosLaw.say(LBestratios;ILBestratiosLaw$Out;)I -/
theorem c_L_say (l : Launch) (hlst : l.stackTraces = false) (D : va_G) (tk : Nat → ClassId) (N0 : Nat) (sa : Nat → Nat) {ad : Nat → Nat} (hAD : ADok N0 ad) {uo : Nat} (huo : N0 ≤ uo) (sz : Nat) (g : CS) (kn : Int32) (hI : CI g kn) (x1 : Int32) : Met l yL_say (wsw yL_say cL_say 4 (some .int) [(0, 10, 13, 21), (0, 10, 16, 88)]) lwR (cPW D tk N0 sa [.ref (ad 15), .int x1, .ref uo] sz (fun H => CW D tk ad g H ∧ OUo D uo H)) (kQi (fun rk H => ∃ (g1 : CS) (ox : Int64) (ov : Value), CW D tk ad g1 H ∧ c1 D uo (.inr (12, [.long ox, ov])) H ∧ WR (xo (bW x1 (-99999) 99999) (if tC g 0 < 16 then 0 else 2)) (f_addLast g 0 x1.toInt64) ((tC (f_addLast g 0 x1.toInt64) 0).toInt64) g rk g1 ox) (lwA ad uo sz)) 3000 8000 (lwA ad uo sz) := by
  refine mStartW RL rfl (by decide +kernel) (Nat.le_of_ble_eq_true rfl) ?_
  intro p e s m args below meth c E hr hlk htb hsz hC hN hF ls hl
  subst hsz
  obtain ⟨hx, hb, -⟩ := id E
  have hA := lwA.ge hAD huo hC.2.1
  have hn : ∀ q, s.heap.size ≤ q → (lwA ad uo s.heap.size) q := fun q h => Or.inl (Or.inr h)
  have hS : va_S (lwA ad uo s.heap.size) s.heap s.heap [] := va_S.rf
  have hl : lv_has ls 4 [(0, .ref (ad 15)), (1, .int x1), (2, .ref uo)] := hl
  obtain ⟨hW, x9, v9, fu⟩ := hF
  have hne := cwC hC hW (Or.inl fu.cl)
  refine lv_aload_n (pc := 0) hx hb dL_say_0 rfl (lv_at hl 2 rfl) ?_
  refine lv_aload_n (pc := 1) hx hb dL_say_1 rfl (lv_at hl 0 rfl) ?_
  refine lv_iload_n (pc := 2) hx hb dL_say_2 rfl (lv_at hl 1 rfl) ?_
  refine kh_i (pc := 3) (kx_V E hC hS hA hl.1 (c1.recv hC hW.obj rfl) rfl (c_X3_say l hlst D tk N0 sa hAD s.heap.size g x1) kw_1006 kw_1007 kw_1008 kw_1 kw_1009 (n := 1) (by decide +kernel) rfl ⟨⟨rfl, rfl⟩, ⟨Nat.le_of_ble_eq_true rfl, Nat.le_of_ble_eq_true rfl⟩, (by dsimp only [lwR]; omega), (by dsimp only [lwR]; omega)⟩ rfl (Nat.le_of_ble_eq_true rfl) hW dL_say_3) hS (fun q z w => Or.inl w) hn (fun E1 ce q9 H locs hb9 hz hk hS h1 h2 h3 => ?_) (fun r H locs hR hz hk hS => ?_)
  · have hW := hW.new hk
    have fu := fu.new hk
    rcases hb9 with ⟨rfl, hx9⟩ | ⟨rfl, hx9⟩
    · refine r_c1 (pc := 3) E hC htb (by decide) (by decide) kw_804 wc_1 h1 h2 h3 ?_
      refine lv_astore_n (pc := 13) (lv' := [(3, .ref q9), (0, .ref (ad 15)), (1, .int x1), (2, .ref uo)]) hx hb dL_say_13 rfl hl (by decide) rfl (fun ls hl => ?_)
      refine lv_iconst (pc := 14) (v := 1) hx hb dL_say_14 (by decide) ?_
      refine r_iret (pc := 15) E hr hlk hS (by omega) (by omega) ?_ dL_say_15
      exact ⟨g, _, _, hW, fu, by rw [hx9]; rfl, fun z => absurd (hx9.symm.trans z) (by decide), fun _ => rfl⟩
    · refine r_c2 (pc := 3) E hC htb (by decide) (by decide) (by decide) kw_1005 kw_804 hN.2 wc_2 h1 h2 h3 ?_
      refine lv_astore_n (pc := 16) (lv' := [(3, .ref q9), (0, .ref (ad 15)), (1, .int x1), (2, .ref uo)]) hx hb dL_say_16 rfl hl (by decide) rfl (fun ls hl => ?_)
      refine lv_iconst (pc := 17) (v := 2) hx hb dL_say_17 (by decide) ?_
      refine r_iret (pc := 18) E hr hlk hS (by omega) (by omega) ?_ dL_say_18
      exact ⟨g, _, _, hW, fu, by rw [hx9]; rfl, fun z => absurd (hx9.symm.trans z) (by decide), fun _ => rfl⟩
  · obtain ⟨hx0, er, hW⟩ := hR
    have fu := fu.kept (hk _ fu.lt (cwN hne fu.lt))
    refine lv_i2l (pc := 6) (v := r.toInt64) hx hb dL_say_6 rfl ?_
    refine r_putO (pc := 7) "BestratiosLaw" E hC fu hS (Or.inr rfl) 0 tyX4 tyX4_ok nmX4 rfl (by decide) (Nat.le_of_ble_eq_true rfl) uX4 kn_793 (fun _ h => h) rfl rfl rfl dL_say_7 (fun H locs n_ ho hz hS => ?_)
    have hW := hW.kept (fun k hk9 => ho _ (hne k hk9))
    refine lv_goto (pc := 10) (tgt := 19) hx hb dL_say_10 (by decide) ?_
    refine lv_iconst (pc := 19) (v := 0) hx hb dL_say_19 (by decide) ?_
    refine r_iret (pc := 20) E hr hlk hS (by omega) (by omega) ?_ dL_say_20
    exact ⟨_, _, _, hW, n_, by rw [hx0]; rfl, fun _ => ⟨rfl, by rw [er]⟩, fun z => absurd hx0 z⟩
set_option maxHeartbeats 4000000 in
set_option maxRecDepth 100000 in
/-- BestratiosLaw.unsay(LBestratios;ILBestratiosLaw$Out;)I -/
theorem c_L_unsay (l : Launch) (hlst : l.stackTraces = false) (D : va_G) (tk : Nat → ClassId) (N0 : Nat) (sa : Nat → Nat) {ad : Nat → Nat} (hAD : ADok N0 ad) {uo : Nat} (huo : N0 ≤ uo) (sz : Nat) (g : CS) (kn : Int32) (hI : CI g kn) (x1 : Int32) : Met l yL_unsay (wsw yL_unsay cL_unsay 4 (some .int) [(0, 10, 13, 21)]) lwR (cPW D tk N0 sa [.ref (ad 15), .int x1, .ref uo] sz (fun H => CW D tk ad g H ∧ OUo D uo H)) (kQi (fun rk H => ∃ (g1 : CS) (ox : Int64) (ov : Value), CW D tk ad g1 H ∧ c1 D uo (.inr (12, [.long ox, ov])) H ∧ WR (bW x1 0 16) (f_uns g x1) ((tC (f_uns g x1) 0).toInt64) g rk g1 ox) (lwA ad uo sz)) 3000 8000 (lwA ad uo sz) := by
  refine mStartW RL rfl (by decide +kernel) (Nat.le_of_ble_eq_true rfl) ?_
  intro p e s m args below meth c E hr hlk htb hsz hC hN hF ls hl
  subst hsz
  obtain ⟨hx, hb, -⟩ := id E
  have hA := lwA.ge hAD huo hC.2.1
  have hn : ∀ q, s.heap.size ≤ q → (lwA ad uo s.heap.size) q := fun q h => Or.inl (Or.inr h)
  have hS : va_S (lwA ad uo s.heap.size) s.heap s.heap [] := va_S.rf
  have hl : lv_has ls 4 [(0, .ref (ad 15)), (1, .int x1), (2, .ref uo)] := hl
  obtain ⟨hW, x9, v9, fu⟩ := hF
  have hne := cwC hC hW (Or.inl fu.cl)
  refine lv_aload_n (pc := 0) hx hb dL_unsay_0 rfl (lv_at hl 2 rfl) ?_
  refine lv_aload_n (pc := 1) hx hb dL_unsay_1 rfl (lv_at hl 0 rfl) ?_
  refine lv_iload_n (pc := 2) hx hb dL_unsay_2 rfl (lv_at hl 1 rfl) ?_
  refine kh_i (pc := 3) (kx_V E hC hS hA hl.1 (c1.recv hC hW.obj rfl) rfl (c_X3_unsay l hlst D tk N0 sa hAD s.heap.size g x1) kw_1031 kw_1032 kw_1033 kw_1 kw_1034 (n := 1) (by decide +kernel) rfl ⟨⟨rfl, rfl⟩, ⟨Nat.le_of_ble_eq_true rfl, Nat.le_of_ble_eq_true rfl⟩, (by dsimp only [lwR]; omega), (by dsimp only [lwR]; omega)⟩ rfl (Nat.le_of_ble_eq_true rfl) hW dL_unsay_3) hS (fun q z w => Or.inl w) hn (fun E1 ce q9 H locs hb9 hz hk hS h1 h2 h3 => ?_) (fun r H locs hR hz hk hS => ?_)
  · have hW := hW.new hk
    have fu := fu.new hk
    obtain ⟨rfl, hx9⟩ := hb9
    refine r_c1 (pc := 3) E hC htb (by decide) (by decide) kw_804 wc_1 h1 h2 h3 ?_
    refine lv_astore_n (pc := 13) (lv' := [(3, .ref q9), (0, .ref (ad 15)), (1, .int x1), (2, .ref uo)]) hx hb dL_unsay_13 rfl hl (by decide) rfl (fun ls hl => ?_)
    refine lv_iconst (pc := 14) (v := 1) hx hb dL_unsay_14 (by decide) ?_
    refine r_iret (pc := 15) E hr hlk hS (by omega) (by omega) ?_ dL_unsay_15
    exact ⟨g, _, _, hW, fu, by rw [hx9]; rfl, fun z => absurd (hx9.symm.trans z) (by decide), fun _ => rfl⟩
  · obtain ⟨hx0, er, hW⟩ := hR
    have fu := fu.kept (hk _ fu.lt (cwN hne fu.lt))
    refine lv_i2l (pc := 6) (v := r.toInt64) hx hb dL_unsay_6 rfl ?_
    refine r_putO (pc := 7) "BestratiosLaw" E hC fu hS (Or.inr rfl) 0 tyX4 tyX4_ok nmX4 rfl (by decide) (Nat.le_of_ble_eq_true rfl) uX4 kn_793 (fun _ h => h) rfl rfl rfl dL_unsay_7 (fun H locs n_ ho hz hS => ?_)
    have hW := hW.kept (fun k hk9 => ho _ (hne k hk9))
    refine lv_goto (pc := 10) (tgt := 16) hx hb dL_unsay_10 (by decide) ?_
    refine lv_iconst (pc := 16) (v := 0) hx hb dL_unsay_16 (by decide) ?_
    refine r_iret (pc := 17) E hr hlk hS (by omega) (by omega) ?_ dL_unsay_17
    exact ⟨_, _, _, hW, n_, by rw [hx0]; rfl, fun _ => ⟨rfl, by rw [er]⟩, fun z => absurd hx0 z⟩
set_option maxHeartbeats 4000000 in
set_option maxRecDepth 100000 in
/-- BestratiosLaw.fold(LBestratios;ILBestratiosLaw$Out;)I -/
theorem c_L_fold (l : Launch) (hlst : l.stackTraces = false) (D : va_G) (tk : Nat → ClassId) (N0 : Nat) (sa : Nat → Nat) {ad : Nat → Nat} (hAD : ADok N0 ad) {uo : Nat} (huo : N0 ≤ uo) (sz : Nat) (g : CS) (kn : Int32) (hI : CI g kn) (x1 : Int32) : Met l yL_fold (wsw yL_fold cL_fold 4 (some .int) [(0, 10, 13, 19)]) lwR (cPW D tk N0 sa [.ref (ad 15), .int x1, .ref uo] sz (fun H => CW D tk ad g H ∧ OUo D uo H)) (kQi (fun rk H => ∃ (g1 : CS) (ox : Int64) (ov : Value), CW D tk ad g1 H ∧ c1 D uo (.inr (12, [.long ox, ov])) H ∧ WR (bR x1) (f_fsW g 0 (nn x1)) ((f_fsR g 0 (nn x1)).toInt64) g rk g1 ox) (lwA ad uo sz)) 3000 8000 (lwA ad uo sz) := by
  refine mStartW RL rfl (by decide +kernel) (Nat.le_of_ble_eq_true rfl) ?_
  intro p e s m args below meth c E hr hlk htb hsz hC hN hF ls hl
  subst hsz
  obtain ⟨hx, hb, -⟩ := id E
  have hA := lwA.ge hAD huo hC.2.1
  have hn : ∀ q, s.heap.size ≤ q → (lwA ad uo s.heap.size) q := fun q h => Or.inl (Or.inr h)
  have hS : va_S (lwA ad uo s.heap.size) s.heap s.heap [] := va_S.rf
  have hl : lv_has ls 4 [(0, .ref (ad 15)), (1, .int x1), (2, .ref uo)] := hl
  obtain ⟨hW, x9, v9, fu⟩ := hF
  have hne := cwC hC hW (Or.inl fu.cl)
  refine lv_aload_n (pc := 0) hx hb dL_fold_0 rfl (lv_at hl 2 rfl) ?_
  refine lv_aload_n (pc := 1) hx hb dL_fold_1 rfl (lv_at hl 0 rfl) ?_
  refine lv_iload_n (pc := 2) hx hb dL_fold_2 rfl (lv_at hl 1 rfl) ?_
  refine kh_i (pc := 3) (kx_V E hC hS hA hl.1 (c1.recv hC hW.obj rfl) rfl (c_X3_fold l hlst D tk N0 sa hAD s.heap.size g x1) kw_1038 kw_1039 kw_1040 kw_1 kw_1041 (n := 1) (by decide +kernel) rfl ⟨⟨rfl, rfl⟩, ⟨Nat.le_of_ble_eq_true rfl, Nat.le_of_ble_eq_true rfl⟩, (by dsimp only [lwR]; omega), (by dsimp only [lwR]; omega)⟩ rfl (Nat.le_of_ble_eq_true rfl) hW dL_fold_3) hS (fun q z w => Or.inl w) hn (fun E1 ce q9 H locs hb9 hz hk hS h1 h2 h3 => ?_) (fun r H locs hR hz hk hS => ?_)
  · have hW := hW.new hk
    have fu := fu.new hk
    obtain ⟨rfl, hx9⟩ := hb9
    refine r_c1 (pc := 3) E hC htb (by decide) (by decide) kw_803 wc_0 h1 h2 h3 ?_
    refine lv_astore_n (pc := 13) (lv' := [(3, .ref q9), (0, .ref (ad 15)), (1, .int x1), (2, .ref uo)]) hx hb dL_fold_13 rfl hl (by decide) rfl (fun ls hl => ?_)
    refine lv_iconst (pc := 14) (v := 1) hx hb dL_fold_14 (by decide) ?_
    refine r_iret (pc := 15) E hr hlk hS (by omega) (by omega) ?_ dL_fold_15
    exact ⟨g, _, _, hW, fu, by rw [hx9]; rfl, fun z => absurd (hx9.symm.trans z) (by decide), fun _ => rfl⟩
  · obtain ⟨hx0, er, hW⟩ := hR
    have fu := fu.kept (hk _ fu.lt (cwN hne fu.lt))
    refine lv_i2l (pc := 6) (v := r.toInt64) hx hb dL_fold_6 rfl ?_
    refine r_putO (pc := 7) "BestratiosLaw" E hC fu hS (Or.inr rfl) 0 tyX4 tyX4_ok nmX4 rfl (by decide) (Nat.le_of_ble_eq_true rfl) uX4 kn_793 (fun _ h => h) rfl rfl rfl dL_fold_7 (fun H locs n_ ho hz hS => ?_)
    have hW := hW.kept (fun k hk9 => ho _ (hne k hk9))
    refine lv_goto (pc := 10) (tgt := 16) hx hb dL_fold_10 (by decide) ?_
    refine lv_iconst (pc := 16) (v := 0) hx hb dL_fold_16 (by decide) ?_
    refine r_iret (pc := 17) E hr hlk hS (by omega) (by omega) ?_ dL_fold_17
    exact ⟨_, _, _, hW, n_, by rw [hx0]; rfl, fun _ => ⟨rfl, by rw [er]⟩, fun z => absurd hx0 z⟩
set_option maxHeartbeats 4000000 in
set_option maxRecDepth 100000 in
/-- BestratiosLaw.lower(LBestratios;IIILBestratiosLaw$Out;)I -/
theorem c_L_lower (l : Launch) (hlst : l.stackTraces = false) (D : va_G) (tk : Nat → ClassId) (N0 : Nat) (sa : Nat → Nat) {ad : Nat → Nat} (hAD : ADok N0 ad) {uo : Nat} (huo : N0 ≤ uo) (sz : Nat) (g : CS) (kn : Int32) (hI : CI g kn) (x1 : Int32) (x2 : Int32) (x3 : Int32) : Met l yL_lower (wsw yL_lower cL_lower 6 (some .int) [(0, 13, 16, 19), (0, 13, 20, 21)]) lwR (cPW D tk N0 sa [.ref (ad 15), .int x1, .int x2, .int x3, .ref uo] sz (fun H => CW D tk ad g H ∧ OUo D uo H)) (kQi (fun rk H => ∃ (g1 : CS) (ox : Int64) (ov : Value), CW D tk ad g1 H ∧ c1 D uo (.inr (12, [.long ox, ov])) H ∧ WR (xo (bR x1) (xo (bR x2) (2 * bW x3 1 200))) (f_setW (f_nb g 6 (nn x2) x3 1) (nn x1)) ((f_setR (f_nb g 6 (nn x2) x3 1) (nn x1)).toInt64) g rk g1 ox) (lwA ad uo sz)) 3000 8000 (lwA ad uo sz) := by
  refine mStartW RL rfl (by decide +kernel) (Nat.le_of_ble_eq_true rfl) ?_
  intro p e s m args below meth c E hr hlk htb hsz hC hN hF ls hl
  subst hsz
  obtain ⟨hx, hb, -⟩ := id E
  have hA := lwA.ge hAD huo hC.2.1
  have hn : ∀ q, s.heap.size ≤ q → (lwA ad uo s.heap.size) q := fun q h => Or.inl (Or.inr h)
  have hS : va_S (lwA ad uo s.heap.size) s.heap s.heap [] := va_S.rf
  have hl : lv_has ls 6 [(0, .ref (ad 15)), (1, .int x1), (2, .int x2), (3, .int x3), (4, .ref uo)] := hl
  obtain ⟨hW, x9, v9, fu⟩ := hF
  have hne := cwC hC hW (Or.inl fu.cl)
  refine lv_aload (pc := 0) hx hb dL_lower_0 (lv_at hl 4 rfl) ?_
  refine lv_aload_n (pc := 2) hx hb dL_lower_2 rfl (lv_at hl 0 rfl) ?_
  refine lv_iload_n (pc := 3) hx hb dL_lower_3 rfl (lv_at hl 1 rfl) ?_
  refine lv_iload_n (pc := 4) hx hb dL_lower_4 rfl (lv_at hl 2 rfl) ?_
  refine lv_iload_n (pc := 5) hx hb dL_lower_5 rfl (lv_at hl 3 rfl) ?_
  refine kh_i (pc := 6) (kx_V E hC hS hA hl.1 (c1.recv hC hW.obj rfl) rfl (c_X3_lower l hlst D tk N0 sa hAD s.heap.size g x1 x2 x3) kw_1045 kw_1046 kw_1047 kw_1 kw_1048 (n := 3) (by decide +kernel) rfl ⟨⟨rfl, rfl⟩, ⟨Nat.le_of_ble_eq_true rfl, Nat.le_of_ble_eq_true rfl⟩, (by dsimp only [lwR]; omega), (by dsimp only [lwR]; omega)⟩ rfl (Nat.le_of_ble_eq_true rfl) hW dL_lower_6) hS (fun q z w => Or.inl w) hn (fun E1 ce q9 H locs hb9 hz hk hS h1 h2 h3 => ?_) (fun r H locs hR hz hk hS => ?_)
  · have hW := hW.new hk
    have fu := fu.new hk
    rcases hb9 with ⟨rfl, hx9⟩ | ⟨rfl, hx9⟩
    · refine r_c1 (pc := 6) E hC htb (by decide) (by decide) kw_803 wc_0 h1 h2 h3 ?_
      refine lv_astore (pc := 16) (lv' := [(5, .ref q9), (0, .ref (ad 15)), (1, .int x1), (2, .int x2), (3, .int x3), (4, .ref uo)]) hx hb dL_lower_16 hl (by decide) rfl (fun ls hl => ?_)
      refine lv_iconst (pc := 18) (v := 1) hx hb dL_lower_18 (by decide) ?_
      refine r_iret (pc := 19) E hr hlk hS (by omega) (by omega) ?_ dL_lower_19
      exact ⟨g, _, _, hW, fu, by rw [hx9]; rfl, fun z => absurd (hx9.symm.trans z) (by decide), fun _ => rfl⟩
    · refine r_c2 (pc := 6) E hC htb (by decide) (by decide) (by decide) kw_804 kw_803 hN.1 wc_1 h1 h2 h3 ?_
      refine lv_astore (pc := 20) (lv' := [(5, .ref q9), (0, .ref (ad 15)), (1, .int x1), (2, .int x2), (3, .int x3), (4, .ref uo)]) hx hb dL_lower_20 hl (by decide) rfl (fun ls hl => ?_)
      refine lv_iconst (pc := 22) (v := 2) hx hb dL_lower_22 (by decide) ?_
      refine r_iret (pc := 23) E hr hlk hS (by omega) (by omega) ?_ dL_lower_23
      exact ⟨g, _, _, hW, fu, by rw [hx9]; rfl, fun z => absurd (hx9.symm.trans z) (by decide), fun _ => rfl⟩
  · obtain ⟨hx0, er, hW⟩ := hR
    have fu := fu.kept (hk _ fu.lt (cwN hne fu.lt))
    refine lv_i2l (pc := 9) (v := r.toInt64) hx hb dL_lower_9 rfl ?_
    refine r_putO (pc := 10) "BestratiosLaw" E hC fu hS (Or.inr rfl) 0 tyX4 tyX4_ok nmX4 rfl (by decide) (Nat.le_of_ble_eq_true rfl) uX4 kn_793 (fun _ h => h) rfl rfl rfl dL_lower_10 (fun H locs n_ ho hz hS => ?_)
    have hW := hW.kept (fun k hk9 => ho _ (hne k hk9))
    refine lv_goto (pc := 13) (tgt := 24) hx hb dL_lower_13 (by decide) ?_
    refine lv_iconst (pc := 24) (v := 0) hx hb dL_lower_24 (by decide) ?_
    refine r_iret (pc := 25) E hr hlk hS (by omega) (by omega) ?_ dL_lower_25
    exact ⟨_, _, _, hW, n_, by rw [hx0]; rfl, fun _ => ⟨rfl, by rw [er]⟩, fun z => absurd hx0 z⟩
set_option maxHeartbeats 4000000 in
set_option maxRecDepth 100000 in
/-- BestratiosLaw.upper(LBestratios;IIILBestratiosLaw$Out;)I -/
theorem c_L_upper (l : Launch) (hlst : l.stackTraces = false) (D : va_G) (tk : Nat → ClassId) (N0 : Nat) (sa : Nat → Nat) {ad : Nat → Nat} (hAD : ADok N0 ad) {uo : Nat} (huo : N0 ≤ uo) (sz : Nat) (g : CS) (kn : Int32) (hI : CI g kn) (x1 : Int32) (x2 : Int32) (x3 : Int32) : Met l yL_upper (wsw yL_upper cL_upper 6 (some .int) [(0, 13, 16, 19), (0, 13, 20, 21)]) lwR (cPW D tk N0 sa [.ref (ad 15), .int x1, .int x2, .int x3, .ref uo] sz (fun H => CW D tk ad g H ∧ OUo D uo H)) (kQi (fun rk H => ∃ (g1 : CS) (ox : Int64) (ov : Value), CW D tk ad g1 H ∧ c1 D uo (.inr (12, [.long ox, ov])) H ∧ WR (xo (bR x1) (xo (bR x2) (2 * bW x3 1 200))) (f_setW (f_nb g 6 (nn x2) x3 (-1)) (nn x1)) ((f_setR (f_nb g 6 (nn x2) x3 (-1)) (nn x1)).toInt64) g rk g1 ox) (lwA ad uo sz)) 3000 8000 (lwA ad uo sz) := by
  refine mStartW RL rfl (by decide +kernel) (Nat.le_of_ble_eq_true rfl) ?_
  intro p e s m args below meth c E hr hlk htb hsz hC hN hF ls hl
  subst hsz
  obtain ⟨hx, hb, -⟩ := id E
  have hA := lwA.ge hAD huo hC.2.1
  have hn : ∀ q, s.heap.size ≤ q → (lwA ad uo s.heap.size) q := fun q h => Or.inl (Or.inr h)
  have hS : va_S (lwA ad uo s.heap.size) s.heap s.heap [] := va_S.rf
  have hl : lv_has ls 6 [(0, .ref (ad 15)), (1, .int x1), (2, .int x2), (3, .int x3), (4, .ref uo)] := hl
  obtain ⟨hW, x9, v9, fu⟩ := hF
  have hne := cwC hC hW (Or.inl fu.cl)
  refine lv_aload (pc := 0) hx hb dL_upper_0 (lv_at hl 4 rfl) ?_
  refine lv_aload_n (pc := 2) hx hb dL_upper_2 rfl (lv_at hl 0 rfl) ?_
  refine lv_iload_n (pc := 3) hx hb dL_upper_3 rfl (lv_at hl 1 rfl) ?_
  refine lv_iload_n (pc := 4) hx hb dL_upper_4 rfl (lv_at hl 2 rfl) ?_
  refine lv_iload_n (pc := 5) hx hb dL_upper_5 rfl (lv_at hl 3 rfl) ?_
  refine kh_i (pc := 6) (kx_V E hC hS hA hl.1 (c1.recv hC hW.obj rfl) rfl (c_X3_upper l hlst D tk N0 sa hAD s.heap.size g x1 x2 x3) kw_1056 kw_1057 kw_1058 kw_1 kw_1059 (n := 3) (by decide +kernel) rfl ⟨⟨rfl, rfl⟩, ⟨Nat.le_of_ble_eq_true rfl, Nat.le_of_ble_eq_true rfl⟩, (by dsimp only [lwR]; omega), (by dsimp only [lwR]; omega)⟩ rfl (Nat.le_of_ble_eq_true rfl) hW dL_upper_6) hS (fun q z w => Or.inl w) hn (fun E1 ce q9 H locs hb9 hz hk hS h1 h2 h3 => ?_) (fun r H locs hR hz hk hS => ?_)
  · have hW := hW.new hk
    have fu := fu.new hk
    rcases hb9 with ⟨rfl, hx9⟩ | ⟨rfl, hx9⟩
    · refine r_c1 (pc := 6) E hC htb (by decide) (by decide) kw_803 wc_0 h1 h2 h3 ?_
      refine lv_astore (pc := 16) (lv' := [(5, .ref q9), (0, .ref (ad 15)), (1, .int x1), (2, .int x2), (3, .int x3), (4, .ref uo)]) hx hb dL_upper_16 hl (by decide) rfl (fun ls hl => ?_)
      refine lv_iconst (pc := 18) (v := 1) hx hb dL_upper_18 (by decide) ?_
      refine r_iret (pc := 19) E hr hlk hS (by omega) (by omega) ?_ dL_upper_19
      exact ⟨g, _, _, hW, fu, by rw [hx9]; rfl, fun z => absurd (hx9.symm.trans z) (by decide), fun _ => rfl⟩
    · refine r_c2 (pc := 6) E hC htb (by decide) (by decide) (by decide) kw_804 kw_803 hN.1 wc_1 h1 h2 h3 ?_
      refine lv_astore (pc := 20) (lv' := [(5, .ref q9), (0, .ref (ad 15)), (1, .int x1), (2, .int x2), (3, .int x3), (4, .ref uo)]) hx hb dL_upper_20 hl (by decide) rfl (fun ls hl => ?_)
      refine lv_iconst (pc := 22) (v := 2) hx hb dL_upper_22 (by decide) ?_
      refine r_iret (pc := 23) E hr hlk hS (by omega) (by omega) ?_ dL_upper_23
      exact ⟨g, _, _, hW, fu, by rw [hx9]; rfl, fun z => absurd (hx9.symm.trans z) (by decide), fun _ => rfl⟩
  · obtain ⟨hx0, er, hW⟩ := hR
    have fu := fu.kept (hk _ fu.lt (cwN hne fu.lt))
    refine lv_i2l (pc := 9) (v := r.toInt64) hx hb dL_upper_9 rfl ?_
    refine r_putO (pc := 10) "BestratiosLaw" E hC fu hS (Or.inr rfl) 0 tyX4 tyX4_ok nmX4 rfl (by decide) (Nat.le_of_ble_eq_true rfl) uX4 kn_793 (fun _ h => h) rfl rfl rfl dL_upper_10 (fun H locs n_ ho hz hS => ?_)
    have hW := hW.kept (fun k hk9 => ho _ (hne k hk9))
    refine lv_goto (pc := 13) (tgt := 24) hx hb dL_upper_13 (by decide) ?_
    refine lv_iconst (pc := 24) (v := 0) hx hb dL_upper_24 (by decide) ?_
    refine r_iret (pc := 25) E hr hlk hS (by omega) (by omega) ?_ dL_upper_25
    exact ⟨_, _, _, hW, n_, by rw [hx0]; rfl, fun _ => ⟨rfl, by rw [er]⟩, fun z => absurd hx0 z⟩
set_option maxHeartbeats 4000000 in
set_option maxRecDepth 100000 in
/-- BestratiosLaw.best(LBestratios;IIILBestratiosLaw$Out;)I -/
theorem c_L_best (l : Launch) (hlst : l.stackTraces = false) (D : va_G) (tk : Nat → ClassId) (N0 : Nat) (sa : Nat → Nat) {ad : Nat → Nat} (hAD : ADok N0 ad) {uo : Nat} (huo : N0 ≤ uo) (sz : Nat) (g : CS) (kn : Int32) (hI : CI g kn) (x1 : Int32) (x2 : Int32) (x3 : Int32) : Met l yL_best (wsw yL_best cL_best 6 (some .int) [(0, 13, 16, 19), (0, 13, 20, 21)]) lwR (cPW D tk N0 sa [.ref (ad 15), .int x1, .int x2, .int x3, .ref uo] sz (fun H => CW D tk ad g H ∧ OUo D uo H)) (kQi (fun rk H => ∃ (g1 : CS) (ox : Int64) (ov : Value), CW D tk ad g1 H ∧ c1 D uo (.inr (12, [.long ox, ov])) H ∧ WR (xo (bR x1) (xo (bR x2) (2 * bW x3 1 200))) (f_setW (f_best g (nn x2) x3) (nn x1)) ((f_setR (f_best g (nn x2) x3) (nn x1)).toInt64) g rk g1 ox) (lwA ad uo sz)) 3000 8000 (lwA ad uo sz) := by
  refine mStartW RL rfl (by decide +kernel) (Nat.le_of_ble_eq_true rfl) ?_
  intro p e s m args below meth c E hr hlk htb hsz hC hN hF ls hl
  subst hsz
  obtain ⟨hx, hb, -⟩ := id E
  have hA := lwA.ge hAD huo hC.2.1
  have hn : ∀ q, s.heap.size ≤ q → (lwA ad uo s.heap.size) q := fun q h => Or.inl (Or.inr h)
  have hS : va_S (lwA ad uo s.heap.size) s.heap s.heap [] := va_S.rf
  have hl : lv_has ls 6 [(0, .ref (ad 15)), (1, .int x1), (2, .int x2), (3, .int x3), (4, .ref uo)] := hl
  obtain ⟨hW, x9, v9, fu⟩ := hF
  have hne := cwC hC hW (Or.inl fu.cl)
  refine lv_aload (pc := 0) hx hb dL_best_0 (lv_at hl 4 rfl) ?_
  refine lv_aload_n (pc := 2) hx hb dL_best_2 rfl (lv_at hl 0 rfl) ?_
  refine lv_iload_n (pc := 3) hx hb dL_best_3 rfl (lv_at hl 1 rfl) ?_
  refine lv_iload_n (pc := 4) hx hb dL_best_4 rfl (lv_at hl 2 rfl) ?_
  refine lv_iload_n (pc := 5) hx hb dL_best_5 rfl (lv_at hl 3 rfl) ?_
  refine kh_i (pc := 6) (kx_V E hC hS hA hl.1 (c1.recv hC hW.obj rfl) rfl (c_X3_best l hlst D tk N0 sa hAD s.heap.size g x1 x2 x3) kw_1063 kw_1064 kw_1065 kw_1 kw_1066 (n := 3) (by decide +kernel) rfl ⟨⟨rfl, rfl⟩, ⟨Nat.le_of_ble_eq_true rfl, Nat.le_of_ble_eq_true rfl⟩, (by dsimp only [lwR]; omega), (by dsimp only [lwR]; omega)⟩ rfl (Nat.le_of_ble_eq_true rfl) hW dL_best_6) hS (fun q z w => Or.inl w) hn (fun E1 ce q9 H locs hb9 hz hk hS h1 h2 h3 => ?_) (fun r H locs hR hz hk hS => ?_)
  · have hW := hW.new hk
    have fu := fu.new hk
    rcases hb9 with ⟨rfl, hx9⟩ | ⟨rfl, hx9⟩
    · refine r_c1 (pc := 6) E hC htb (by decide) (by decide) kw_803 wc_0 h1 h2 h3 ?_
      refine lv_astore (pc := 16) (lv' := [(5, .ref q9), (0, .ref (ad 15)), (1, .int x1), (2, .int x2), (3, .int x3), (4, .ref uo)]) hx hb dL_best_16 hl (by decide) rfl (fun ls hl => ?_)
      refine lv_iconst (pc := 18) (v := 1) hx hb dL_best_18 (by decide) ?_
      refine r_iret (pc := 19) E hr hlk hS (by omega) (by omega) ?_ dL_best_19
      exact ⟨g, _, _, hW, fu, by rw [hx9]; rfl, fun z => absurd (hx9.symm.trans z) (by decide), fun _ => rfl⟩
    · refine r_c2 (pc := 6) E hC htb (by decide) (by decide) (by decide) kw_804 kw_803 hN.1 wc_1 h1 h2 h3 ?_
      refine lv_astore (pc := 20) (lv' := [(5, .ref q9), (0, .ref (ad 15)), (1, .int x1), (2, .int x2), (3, .int x3), (4, .ref uo)]) hx hb dL_best_20 hl (by decide) rfl (fun ls hl => ?_)
      refine lv_iconst (pc := 22) (v := 2) hx hb dL_best_22 (by decide) ?_
      refine r_iret (pc := 23) E hr hlk hS (by omega) (by omega) ?_ dL_best_23
      exact ⟨g, _, _, hW, fu, by rw [hx9]; rfl, fun z => absurd (hx9.symm.trans z) (by decide), fun _ => rfl⟩
  · obtain ⟨hx0, er, hW⟩ := hR
    have fu := fu.kept (hk _ fu.lt (cwN hne fu.lt))
    refine lv_i2l (pc := 9) (v := r.toInt64) hx hb dL_best_9 rfl ?_
    refine r_putO (pc := 10) "BestratiosLaw" E hC fu hS (Or.inr rfl) 0 tyX4 tyX4_ok nmX4 rfl (by decide) (Nat.le_of_ble_eq_true rfl) uX4 kn_793 (fun _ h => h) rfl rfl rfl dL_best_10 (fun H locs n_ ho hz hS => ?_)
    have hW := hW.kept (fun k hk9 => ho _ (hne k hk9))
    refine lv_goto (pc := 13) (tgt := 24) hx hb dL_best_13 (by decide) ?_
    refine lv_iconst (pc := 24) (v := 0) hx hb dL_best_24 (by decide) ?_
    refine r_iret (pc := 25) E hr hlk hS (by omega) (by omega) ?_ dL_best_25
    exact ⟨_, _, _, hW, n_, by rw [hx0]; rfl, fun _ => ⟨rfl, by rw [er]⟩, fun z => absurd hx0 z⟩
set_option maxHeartbeats 4000000 in
set_option maxRecDepth 100000 in
/-- BestratiosLaw.up(LBestratios;ILBestratiosLaw$Out;)I -/
theorem c_L_up (l : Launch) (hlst : l.stackTraces = false) (D : va_G) (tk : Nat → ClassId) (N0 : Nat) (sa : Nat → Nat) {ad : Nat → Nat} (hAD : ADok N0 ad) {uo : Nat} (huo : N0 ≤ uo) (sz : Nat) (g : CS) (kn : Int32) (hI : CI g kn) (x1 : Int32) : Met l yL_up (wsw yL_up cL_up 4 (some .int) [(0, 10, 13, 19)]) lwR (cPW D tk N0 sa [.ref (ad 15), .int x1, .ref uo] sz (fun H => CW D tk ad g H ∧ OUo D uo H)) (kQi (fun rk H => ∃ (g1 : CS) (ox : Int64) (ov : Value), CW D tk ad g1 H ∧ c1 D uo (.inr (12, [.long ox, ov])) H ∧ WR (bR x1) (f_upX g (nn x1)) ((f_upR g (nn x1)).toInt64) g rk g1 ox) (lwA ad uo sz)) 3000 8000 (lwA ad uo sz) := by
  refine mStartW RL rfl (by decide +kernel) (Nat.le_of_ble_eq_true rfl) ?_
  intro p e s m args below meth c E hr hlk htb hsz hC hN hF ls hl
  subst hsz
  obtain ⟨hx, hb, -⟩ := id E
  have hA := lwA.ge hAD huo hC.2.1
  have hn : ∀ q, s.heap.size ≤ q → (lwA ad uo s.heap.size) q := fun q h => Or.inl (Or.inr h)
  have hS : va_S (lwA ad uo s.heap.size) s.heap s.heap [] := va_S.rf
  have hl : lv_has ls 4 [(0, .ref (ad 15)), (1, .int x1), (2, .ref uo)] := hl
  obtain ⟨hW, x9, v9, fu⟩ := hF
  have hne := cwC hC hW (Or.inl fu.cl)
  refine lv_aload_n (pc := 0) hx hb dL_up_0 rfl (lv_at hl 2 rfl) ?_
  refine lv_aload_n (pc := 1) hx hb dL_up_1 rfl (lv_at hl 0 rfl) ?_
  refine lv_iload_n (pc := 2) hx hb dL_up_2 rfl (lv_at hl 1 rfl) ?_
  refine kh_i (pc := 3) (kx_V E hC hS hA hl.1 (c1.recv hC hW.obj rfl) rfl (c_X3_up l hlst D tk N0 sa hAD s.heap.size g x1) kw_1074 kw_1075 kw_1076 kw_1 kw_1077 (n := 1) (by decide +kernel) rfl ⟨⟨rfl, rfl⟩, ⟨Nat.le_of_ble_eq_true rfl, Nat.le_of_ble_eq_true rfl⟩, (by dsimp only [lwR]; omega), (by dsimp only [lwR]; omega)⟩ rfl (Nat.le_of_ble_eq_true rfl) hW dL_up_3) hS (fun q z w => Or.inl w) hn (fun E1 ce q9 H locs hb9 hz hk hS h1 h2 h3 => ?_) (fun r H locs hR hz hk hS => ?_)
  · have hW := hW.new hk
    have fu := fu.new hk
    obtain ⟨rfl, hx9⟩ := hb9
    refine r_c1 (pc := 3) E hC htb (by decide) (by decide) kw_803 wc_0 h1 h2 h3 ?_
    refine lv_astore_n (pc := 13) (lv' := [(3, .ref q9), (0, .ref (ad 15)), (1, .int x1), (2, .ref uo)]) hx hb dL_up_13 rfl hl (by decide) rfl (fun ls hl => ?_)
    refine lv_iconst (pc := 14) (v := 1) hx hb dL_up_14 (by decide) ?_
    refine r_iret (pc := 15) E hr hlk hS (by omega) (by omega) ?_ dL_up_15
    exact ⟨g, _, _, hW, fu, by rw [hx9]; rfl, fun z => absurd (hx9.symm.trans z) (by decide), fun _ => rfl⟩
  · obtain ⟨hx0, er, hW⟩ := hR
    have fu := fu.kept (hk _ fu.lt (cwN hne fu.lt))
    refine lv_i2l (pc := 6) (v := r.toInt64) hx hb dL_up_6 rfl ?_
    refine r_putO (pc := 7) "BestratiosLaw" E hC fu hS (Or.inr rfl) 0 tyX4 tyX4_ok nmX4 rfl (by decide) (Nat.le_of_ble_eq_true rfl) uX4 kn_793 (fun _ h => h) rfl rfl rfl dL_up_7 (fun H locs n_ ho hz hS => ?_)
    have hW := hW.kept (fun k hk9 => ho _ (hne k hk9))
    refine lv_goto (pc := 10) (tgt := 16) hx hb dL_up_10 (by decide) ?_
    refine lv_iconst (pc := 16) (v := 0) hx hb dL_up_16 (by decide) ?_
    refine r_iret (pc := 17) E hr hlk hS (by omega) (by omega) ?_ dL_up_17
    exact ⟨_, _, _, hW, n_, by rw [hx0]; rfl, fun _ => ⟨rfl, by rw [er]⟩, fun z => absurd hx0 z⟩
set_option maxHeartbeats 4000000 in
set_option maxRecDepth 100000 in
/-- BestratiosLaw.down(LBestratios;IZLBestratiosLaw$Out;)I -/
theorem c_L_down (l : Launch) (hlst : l.stackTraces = false) (D : va_G) (tk : Nat → ClassId) (N0 : Nat) (sa : Nat → Nat) {ad : Nat → Nat} (hAD : ADok N0 ad) {uo : Nat} (huo : N0 ≤ uo) (sz : Nat) (g : CS) (kn : Int32) (hI : CI g kn) (x1 : Int32) (x2 : Int32) : Met l yL_down (wsw yL_down cL_down 5 (some .int) [(0, 11, 14, 19)]) lwR (cPW D tk N0 sa [.ref (ad 15), .int x1, .int x2, .ref uo] sz (fun H => CW D tk ad g H ∧ OUo D uo H)) (kQi (fun rk H => ∃ (g1 : CS) (ox : Int64) (ov : Value), CW D tk ad g1 H ∧ c1 D uo (.inr (12, [.long ox, ov])) H ∧ WR (bR x1) (f_dnX g (nn x1) x2) ((f_dnR g (nn x1) x2).toInt64) g rk g1 ox) (lwA ad uo sz)) 3000 8000 (lwA ad uo sz) := by
  refine mStartW RL rfl (by decide +kernel) (Nat.le_of_ble_eq_true rfl) ?_
  intro p e s m args below meth c E hr hlk htb hsz hC hN hF ls hl
  subst hsz
  obtain ⟨hx, hb, -⟩ := id E
  have hA := lwA.ge hAD huo hC.2.1
  have hn : ∀ q, s.heap.size ≤ q → (lwA ad uo s.heap.size) q := fun q h => Or.inl (Or.inr h)
  have hS : va_S (lwA ad uo s.heap.size) s.heap s.heap [] := va_S.rf
  have hl : lv_has ls 5 [(0, .ref (ad 15)), (1, .int x1), (2, .int x2), (3, .ref uo)] := hl
  obtain ⟨hW, x9, v9, fu⟩ := hF
  have hne := cwC hC hW (Or.inl fu.cl)
  refine lv_aload_n (pc := 0) hx hb dL_down_0 rfl (lv_at hl 3 rfl) ?_
  refine lv_aload_n (pc := 1) hx hb dL_down_1 rfl (lv_at hl 0 rfl) ?_
  refine lv_iload_n (pc := 2) hx hb dL_down_2 rfl (lv_at hl 1 rfl) ?_
  refine lv_iload_n (pc := 3) hx hb dL_down_3 rfl (lv_at hl 2 rfl) ?_
  refine kh_i (pc := 4) (kx_V E hC hS hA hl.1 (c1.recv hC hW.obj rfl) rfl (c_X3_down l hlst D tk N0 sa hAD s.heap.size g x1 x2) kw_1085 kw_1086 kw_1087 kw_1 kw_1088 (n := 2) (by decide +kernel) rfl ⟨⟨rfl, rfl⟩, ⟨Nat.le_of_ble_eq_true rfl, Nat.le_of_ble_eq_true rfl⟩, (by dsimp only [lwR]; omega), (by dsimp only [lwR]; omega)⟩ rfl (Nat.le_of_ble_eq_true rfl) hW dL_down_4) hS (fun q z w => Or.inl w) hn (fun E1 ce q9 H locs hb9 hz hk hS h1 h2 h3 => ?_) (fun r H locs hR hz hk hS => ?_)
  · have hW := hW.new hk
    have fu := fu.new hk
    obtain ⟨rfl, hx9⟩ := hb9
    refine r_c1 (pc := 4) E hC htb (by decide) (by decide) kw_803 wc_0 h1 h2 h3 ?_
    refine lv_astore (pc := 14) (lv' := [(4, .ref q9), (0, .ref (ad 15)), (1, .int x1), (2, .int x2), (3, .ref uo)]) hx hb dL_down_14 hl (by decide) rfl (fun ls hl => ?_)
    refine lv_iconst (pc := 16) (v := 1) hx hb dL_down_16 (by decide) ?_
    refine r_iret (pc := 17) E hr hlk hS (by omega) (by omega) ?_ dL_down_17
    exact ⟨g, _, _, hW, fu, by rw [hx9]; rfl, fun z => absurd (hx9.symm.trans z) (by decide), fun _ => rfl⟩
  · obtain ⟨hx0, er, hW⟩ := hR
    have fu := fu.kept (hk _ fu.lt (cwN hne fu.lt))
    refine lv_i2l (pc := 7) (v := r.toInt64) hx hb dL_down_7 rfl ?_
    refine r_putO (pc := 8) "BestratiosLaw" E hC fu hS (Or.inr rfl) 0 tyX4 tyX4_ok nmX4 rfl (by decide) (Nat.le_of_ble_eq_true rfl) uX4 kn_793 (fun _ h => h) rfl rfl rfl dL_down_8 (fun H locs n_ ho hz hS => ?_)
    have hW := hW.kept (fun k hk9 => ho _ (hne k hk9))
    refine lv_goto (pc := 11) (tgt := 18) hx hb dL_down_11 (by decide) ?_
    refine lv_iconst (pc := 18) (v := 0) hx hb dL_down_18 (by decide) ?_
    refine r_iret (pc := 19) E hr hlk hS (by omega) (by omega) ?_ dL_down_19
    exact ⟨_, _, _, hW, n_, by rw [hx0]; rfl, fun _ => ⟨rfl, by rw [er]⟩, fun z => absurd hx0 z⟩
set_option maxHeartbeats 4000000 in
set_option maxRecDepth 100000 in
/-- BestratiosLaw.depth(LBestratios;ILBestratiosLaw$Out;)I -/
theorem c_L_depth (l : Launch) (hlst : l.stackTraces = false) (D : va_G) (tk : Nat → ClassId) (N0 : Nat) (sa : Nat → Nat) {ad : Nat → Nat} (hAD : ADok N0 ad) {uo : Nat} (huo : N0 ≤ uo) (sz : Nat) (g : CS) (kn : Int32) (hI : CI g kn) (x1 : Int32) : Met l yL_depth (wsw yL_depth cL_depth 4 (some .int) [(0, 10, 13, 19)]) lwR (cPW D tk N0 sa [.ref (ad 15), .int x1, .ref uo] sz (fun H => CW D tk ad g H ∧ OUo D uo H)) (kQi (fun rk H => ∃ (g1 : CS) (ox : Int64) (ov : Value), CW D tk ad g1 H ∧ c1 D uo (.inr (12, [.long ox, ov])) H ∧ WR (bR x1) (f_depW g (nn x1)) (((f_depR g (nn x1)).toInt32).toInt64) g rk g1 ox) (lwA ad uo sz)) 3000 8000 (lwA ad uo sz) := by
  refine mStartW RL rfl (by decide +kernel) (Nat.le_of_ble_eq_true rfl) ?_
  intro p e s m args below meth c E hr hlk htb hsz hC hN hF ls hl
  subst hsz
  obtain ⟨hx, hb, -⟩ := id E
  have hA := lwA.ge hAD huo hC.2.1
  have hn : ∀ q, s.heap.size ≤ q → (lwA ad uo s.heap.size) q := fun q h => Or.inl (Or.inr h)
  have hS : va_S (lwA ad uo s.heap.size) s.heap s.heap [] := va_S.rf
  have hl : lv_has ls 4 [(0, .ref (ad 15)), (1, .int x1), (2, .ref uo)] := hl
  obtain ⟨hW, x9, v9, fu⟩ := hF
  have hne := cwC hC hW (Or.inl fu.cl)
  refine lv_aload_n (pc := 0) hx hb dL_depth_0 rfl (lv_at hl 2 rfl) ?_
  refine lv_aload_n (pc := 1) hx hb dL_depth_1 rfl (lv_at hl 0 rfl) ?_
  refine lv_iload_n (pc := 2) hx hb dL_depth_2 rfl (lv_at hl 1 rfl) ?_
  refine kh_i (pc := 3) (kx_V E hC hS hA hl.1 (c1.recv hC hW.obj rfl) rfl (c_X3_depth l hlst D tk N0 sa hAD s.heap.size g x1) kw_1092 kw_1093 kw_1094 kw_1 kw_1095 (n := 1) (by decide +kernel) rfl ⟨⟨rfl, rfl⟩, ⟨Nat.le_of_ble_eq_true rfl, Nat.le_of_ble_eq_true rfl⟩, (by dsimp only [lwR]; omega), (by dsimp only [lwR]; omega)⟩ rfl (Nat.le_of_ble_eq_true rfl) hW dL_depth_3) hS (fun q z w => Or.inl w) hn (fun E1 ce q9 H locs hb9 hz hk hS h1 h2 h3 => ?_) (fun r H locs hR hz hk hS => ?_)
  · have hW := hW.new hk
    have fu := fu.new hk
    obtain ⟨rfl, hx9⟩ := hb9
    refine r_c1 (pc := 3) E hC htb (by decide) (by decide) kw_803 wc_0 h1 h2 h3 ?_
    refine lv_astore_n (pc := 13) (lv' := [(3, .ref q9), (0, .ref (ad 15)), (1, .int x1), (2, .ref uo)]) hx hb dL_depth_13 rfl hl (by decide) rfl (fun ls hl => ?_)
    refine lv_iconst (pc := 14) (v := 1) hx hb dL_depth_14 (by decide) ?_
    refine r_iret (pc := 15) E hr hlk hS (by omega) (by omega) ?_ dL_depth_15
    exact ⟨g, _, _, hW, fu, by rw [hx9]; rfl, fun z => absurd (hx9.symm.trans z) (by decide), fun _ => rfl⟩
  · obtain ⟨hx0, er, hW⟩ := hR
    have fu := fu.kept (hk _ fu.lt (cwN hne fu.lt))
    refine lv_i2l (pc := 6) (v := r.toInt64) hx hb dL_depth_6 rfl ?_
    refine r_putO (pc := 7) "BestratiosLaw" E hC fu hS (Or.inr rfl) 0 tyX4 tyX4_ok nmX4 rfl (by decide) (Nat.le_of_ble_eq_true rfl) uX4 kn_793 (fun _ h => h) rfl rfl rfl dL_depth_7 (fun H locs n_ ho hz hS => ?_)
    have hW := hW.kept (fun k hk9 => ho _ (hne k hk9))
    refine lv_goto (pc := 10) (tgt := 16) hx hb dL_depth_10 (by decide) ?_
    refine lv_iconst (pc := 16) (v := 0) hx hb dL_depth_16 (by decide) ?_
    refine r_iret (pc := 17) E hr hlk hS (by omega) (by omega) ?_ dL_depth_17
    exact ⟨_, _, _, hW, n_, by rw [hx0]; rfl, fun _ => ⟨rfl, by rw [er]⟩, fun z => absurd hx0 z⟩
set_option maxHeartbeats 4000000 in
set_option maxRecDepth 100000 in
/-- BestratiosLaw.way(LBestratios;ILBestratiosLaw$Out;)I -/
theorem c_L_way (l : Launch) (hlst : l.stackTraces = false) (D : va_G) (tk : Nat → ClassId) (N0 : Nat) (sa : Nat → Nat) {ad : Nat → Nat} (hAD : ADok N0 ad) {uo : Nat} (huo : N0 ≤ uo) (sz : Nat) (g : CS) (kn : Int32) (hI : CI g kn) (x1 : Int32) : Met l yL_way (wsw yL_way cL_way 4 (some .int) [(0, 9, 12, 19)]) lwR (cPW D tk N0 sa [.ref (ad 15), .int x1, .ref uo] sz (fun H => CW D tk ad g H ∧ OUo D uo H)) (kQi (fun rk H => ∃ (g1 : CS) (ox : Int64) (ov : Value), CW D tk ad g1 H ∧ c1 D uo (.inr (12, [.long ox, ov])) H ∧ WS (bR x1) (tx_wyW g (nn x1)) g rk g1) (lwA ad uo sz)) 3000 8000 (lwA ad uo sz) := by
  refine mStartW RL rfl (by decide +kernel) (Nat.le_of_ble_eq_true rfl) ?_
  intro p e s m args below meth c E hr hlk htb hsz hC hN hF ls hl
  subst hsz
  obtain ⟨hx, hb, -⟩ := id E
  have hA := lwA.ge hAD huo hC.2.1
  have hn : ∀ q, s.heap.size ≤ q → (lwA ad uo s.heap.size) q := fun q h => Or.inl (Or.inr h)
  have hS : va_S (lwA ad uo s.heap.size) s.heap s.heap [] := va_S.rf
  have hl : lv_has ls 4 [(0, .ref (ad 15)), (1, .int x1), (2, .ref uo)] := hl
  obtain ⟨hW, x9, v9, fu⟩ := hF
  have hne := cwC hC hW (Or.inl fu.cl)
  have hw := tx_wy_ok g (nn x1) (q := (0, 16)) (Nat.zero_le _)
  unfold tx_ok at hw
  dsimp only at hw
  refine lv_aload_n (pc := 0) hx hb dL_way_0 rfl (lv_at hl 2 rfl) ?_
  refine lv_aload_n (pc := 1) hx hb dL_way_1 rfl (lv_at hl 0 rfl) ?_
  refine lv_iload_n (pc := 2) hx hb dL_way_2 rfl (lv_at hl 1 rfl) ?_
  refine kh_r (pc := 3) (kx_V E hC hS hA hl.1 (c1.recv hC hW.obj rfl) rfl (c_X3_way l hlst D tk N0 sa hAD s.heap.size g x1) kw_1099 kw_1100 kw_1101 kw_1 kw_1102 (n := 1) (by decide +kernel) rfl ⟨⟨rfl, rfl⟩, ⟨Nat.le_of_ble_eq_true rfl, Nat.le_of_ble_eq_true rfl⟩, (by dsimp only [lwR]; omega), (by dsimp only [lwR]; omega)⟩ rfl (Nat.le_of_ble_eq_true rfl) hW dL_way_3) hS (fun q z w => Or.inl w) hn (fun E1 ce q9 H locs hb9 hz hk hS h1 h2 h3 => ?_) (fun r H locs hR hz hk hS => ?_)
  · have hW := hW.new hk
    have fu := fu.new hk
    obtain ⟨rfl, hx9⟩ := hb9
    refine r_c1 (pc := 3) E hC htb (by decide) (by decide) kw_803 wc_0 h1 h2 h3 ?_
    refine lv_astore_n (pc := 12) (lv' := [(3, .ref q9), (0, .ref (ad 15)), (1, .int x1), (2, .ref uo)]) hx hb dL_way_12 rfl hl (by decide) rfl (fun ls hl => ?_)
    refine lv_iconst (pc := 13) (v := 1) hx hb dL_way_13 (by decide) ?_
    refine r_iret (pc := 14) E hr hlk hS (by omega) (by omega) ?_ dL_way_14
    exact ⟨g, _, _, hW, fu, by rw [hx9]; rfl, fun z => absurd (hx9.symm.trans z) (by decide), fun _ => rfl⟩
  · obtain ⟨hx0, hge, hsx, hW⟩ := hR
    have fu := fu.kept (hk _ fu.lt (cwN hne fu.lt))
    refine r_putO (pc := 6) "BestratiosLaw" E hC fu hS (Or.inr rfl) 1 tyX4 tyX4_ok nmX4 rfl (by decide) (Nat.le_of_ble_eq_true rfl) uX4 kn_794 (fun _ h => h) rfl rfl rfl dL_way_6 (fun H locs n_ ho hz hS => ?_)
    have hW := hW.kept (fun k hk9 => ho _ (hne k hk9))
    refine lv_goto (pc := 9) (tgt := 15) hx hb dL_way_9 (by decide) ?_
    refine lv_iconst (pc := 15) (v := 0) hx hb dL_way_15 (by decide) ?_
    refine r_iret (pc := 16) E hr hlk hS (by omega) (by omega) ?_ dL_way_16
    exact ⟨_, _, _, hW, n_, by rw [hx0]; rfl, fun _ => rfl, fun z => absurd hx0 z⟩
set_option maxHeartbeats 4000000 in
set_option maxRecDepth 100000 in
/-- BestratiosLaw.next(LBestratios;IILBestratiosLaw$Out;)I -/
theorem c_L_next (l : Launch) (hlst : l.stackTraces = false) (D : va_G) (tk : Nat → ClassId) (N0 : Nat) (sa : Nat → Nat) {ad : Nat → Nat} (hAD : ADok N0 ad) {uo : Nat} (huo : N0 ≤ uo) (sz : Nat) (g : CS) (kn : Int32) (hI : CI g kn) (x1 : Int32) (x2 : Int32) : Met l yL_next (wsw yL_next cL_next 5 (some .int) [(0, 11, 14, 19), (0, 11, 18, 21)]) lwR (cPW D tk N0 sa [.ref (ad 15), .int x1, .int x2, .ref uo] sz (fun H => CW D tk ad g H ∧ OUo D uo H)) (kQi (fun rk H => ∃ (g1 : CS) (ox : Int64) (ov : Value), CW D tk ad g1 H ∧ c1 D uo (.inr (12, [.long ox, ov])) H ∧ WR (xo (bR x1) (2 * bW x2 1 50)) (f_nextW g (nn x1) x2) ((f_nextR g (nn x1) x2).toInt64) g rk g1 ox) (lwA ad uo sz)) 3000 8000 (lwA ad uo sz) := by
  refine mStartW RL rfl (by decide +kernel) (Nat.le_of_ble_eq_true rfl) ?_
  intro p e s m args below meth c E hr hlk htb hsz hC hN hF ls hl
  subst hsz
  obtain ⟨hx, hb, -⟩ := id E
  have hA := lwA.ge hAD huo hC.2.1
  have hn : ∀ q, s.heap.size ≤ q → (lwA ad uo s.heap.size) q := fun q h => Or.inl (Or.inr h)
  have hS : va_S (lwA ad uo s.heap.size) s.heap s.heap [] := va_S.rf
  have hl : lv_has ls 5 [(0, .ref (ad 15)), (1, .int x1), (2, .int x2), (3, .ref uo)] := hl
  obtain ⟨hW, x9, v9, fu⟩ := hF
  have hne := cwC hC hW (Or.inl fu.cl)
  refine lv_aload_n (pc := 0) hx hb dL_next_0 rfl (lv_at hl 3 rfl) ?_
  refine lv_aload_n (pc := 1) hx hb dL_next_1 rfl (lv_at hl 0 rfl) ?_
  refine lv_iload_n (pc := 2) hx hb dL_next_2 rfl (lv_at hl 1 rfl) ?_
  refine lv_iload_n (pc := 3) hx hb dL_next_3 rfl (lv_at hl 2 rfl) ?_
  refine kh_i (pc := 4) (kx_V E hC hS hA hl.1 (c1.recv hC hW.obj rfl) rfl (c_X3_next l hlst D tk N0 sa hAD s.heap.size g x1 x2) kw_1106 kw_1107 kw_1108 kw_1 kw_1109 (n := 2) (by decide +kernel) rfl ⟨⟨rfl, rfl⟩, ⟨Nat.le_of_ble_eq_true rfl, Nat.le_of_ble_eq_true rfl⟩, (by dsimp only [lwR]; omega), (by dsimp only [lwR]; omega)⟩ rfl (Nat.le_of_ble_eq_true rfl) hW dL_next_4) hS (fun q z w => Or.inl w) hn (fun E1 ce q9 H locs hb9 hz hk hS h1 h2 h3 => ?_) (fun r H locs hR hz hk hS => ?_)
  · have hW := hW.new hk
    have fu := fu.new hk
    rcases hb9 with ⟨rfl, hx9⟩ | ⟨rfl, hx9⟩
    · refine r_c1 (pc := 4) E hC htb (by decide) (by decide) kw_803 wc_0 h1 h2 h3 ?_
      refine lv_astore (pc := 14) (lv' := [(4, .ref q9), (0, .ref (ad 15)), (1, .int x1), (2, .int x2), (3, .ref uo)]) hx hb dL_next_14 hl (by decide) rfl (fun ls hl => ?_)
      refine lv_iconst (pc := 16) (v := 1) hx hb dL_next_16 (by decide) ?_
      refine r_iret (pc := 17) E hr hlk hS (by omega) (by omega) ?_ dL_next_17
      exact ⟨g, _, _, hW, fu, by rw [hx9]; rfl, fun z => absurd (hx9.symm.trans z) (by decide), fun _ => rfl⟩
    · refine r_c2 (pc := 4) E hC htb (by decide) (by decide) (by decide) kw_804 kw_803 hN.1 wc_1 h1 h2 h3 ?_
      refine lv_astore (pc := 18) (lv' := [(4, .ref q9), (0, .ref (ad 15)), (1, .int x1), (2, .int x2), (3, .ref uo)]) hx hb dL_next_18 hl (by decide) rfl (fun ls hl => ?_)
      refine lv_iconst (pc := 20) (v := 2) hx hb dL_next_20 (by decide) ?_
      refine r_iret (pc := 21) E hr hlk hS (by omega) (by omega) ?_ dL_next_21
      exact ⟨g, _, _, hW, fu, by rw [hx9]; rfl, fun z => absurd (hx9.symm.trans z) (by decide), fun _ => rfl⟩
  · obtain ⟨hx0, er, hW⟩ := hR
    have fu := fu.kept (hk _ fu.lt (cwN hne fu.lt))
    refine lv_i2l (pc := 7) (v := r.toInt64) hx hb dL_next_7 rfl ?_
    refine r_putO (pc := 8) "BestratiosLaw" E hC fu hS (Or.inr rfl) 0 tyX4 tyX4_ok nmX4 rfl (by decide) (Nat.le_of_ble_eq_true rfl) uX4 kn_793 (fun _ h => h) rfl rfl rfl dL_next_8 (fun H locs n_ ho hz hS => ?_)
    have hW := hW.kept (fun k hk9 => ho _ (hne k hk9))
    refine lv_goto (pc := 11) (tgt := 22) hx hb dL_next_11 (by decide) ?_
    refine lv_iconst (pc := 22) (v := 0) hx hb dL_next_22 (by decide) ?_
    refine r_iret (pc := 23) E hr hlk hS (by omega) (by omega) ?_ dL_next_23
    exact ⟨_, _, _, hW, n_, by rw [hx0]; rfl, fun _ => ⟨rfl, by rw [er]⟩, fun z => absurd hx0 z⟩
set_option maxHeartbeats 4000000 in
set_option maxRecDepth 100000 in
/-- BestratiosLaw.before(LBestratios;ILBestratiosLaw$Out;)I -/
theorem c_L_before (l : Launch) (hlst : l.stackTraces = false) (D : va_G) (tk : Nat → ClassId) (N0 : Nat) (sa : Nat → Nat) {ad : Nat → Nat} (hAD : ADok N0 ad) {uo : Nat} (huo : N0 ≤ uo) (sz : Nat) (g : CS) (kn : Int32) (hI : CI g kn) (x1 : Int32) : Met l yL_before (wsw yL_before cL_before 4 (some .int) [(0, 10, 13, 19)]) lwR (cPW D tk N0 sa [.ref (ad 15), .int x1, .ref uo] sz (fun H => CW D tk ad g H ∧ OUo D uo H)) (kQi (fun rk H => ∃ (g1 : CS) (ox : Int64) (ov : Value), CW D tk ad g1 H ∧ c1 D uo (.inr (12, [.long ox, ov])) H ∧ WR (bR x1) (f_befW g (nn x1)) ((f_befR g (nn x1)).toInt64) g rk g1 ox) (lwA ad uo sz)) 3000 8000 (lwA ad uo sz) := by
  refine mStartW RL rfl (by decide +kernel) (Nat.le_of_ble_eq_true rfl) ?_
  intro p e s m args below meth c E hr hlk htb hsz hC hN hF ls hl
  subst hsz
  obtain ⟨hx, hb, -⟩ := id E
  have hA := lwA.ge hAD huo hC.2.1
  have hn : ∀ q, s.heap.size ≤ q → (lwA ad uo s.heap.size) q := fun q h => Or.inl (Or.inr h)
  have hS : va_S (lwA ad uo s.heap.size) s.heap s.heap [] := va_S.rf
  have hl : lv_has ls 4 [(0, .ref (ad 15)), (1, .int x1), (2, .ref uo)] := hl
  obtain ⟨hW, x9, v9, fu⟩ := hF
  have hne := cwC hC hW (Or.inl fu.cl)
  refine lv_aload_n (pc := 0) hx hb dL_before_0 rfl (lv_at hl 2 rfl) ?_
  refine lv_aload_n (pc := 1) hx hb dL_before_1 rfl (lv_at hl 0 rfl) ?_
  refine lv_iload_n (pc := 2) hx hb dL_before_2 rfl (lv_at hl 1 rfl) ?_
  refine kh_i (pc := 3) (kx_V E hC hS hA hl.1 (c1.recv hC hW.obj rfl) rfl (c_X3_before l hlst D tk N0 sa hAD s.heap.size g x1) kw_1113 kw_1114 kw_1115 kw_1 kw_1116 (n := 1) (by decide +kernel) rfl ⟨⟨rfl, rfl⟩, ⟨Nat.le_of_ble_eq_true rfl, Nat.le_of_ble_eq_true rfl⟩, (by dsimp only [lwR]; omega), (by dsimp only [lwR]; omega)⟩ rfl (Nat.le_of_ble_eq_true rfl) hW dL_before_3) hS (fun q z w => Or.inl w) hn (fun E1 ce q9 H locs hb9 hz hk hS h1 h2 h3 => ?_) (fun r H locs hR hz hk hS => ?_)
  · have hW := hW.new hk
    have fu := fu.new hk
    obtain ⟨rfl, hx9⟩ := hb9
    refine r_c1 (pc := 3) E hC htb (by decide) (by decide) kw_803 wc_0 h1 h2 h3 ?_
    refine lv_astore_n (pc := 13) (lv' := [(3, .ref q9), (0, .ref (ad 15)), (1, .int x1), (2, .ref uo)]) hx hb dL_before_13 rfl hl (by decide) rfl (fun ls hl => ?_)
    refine lv_iconst (pc := 14) (v := 1) hx hb dL_before_14 (by decide) ?_
    refine r_iret (pc := 15) E hr hlk hS (by omega) (by omega) ?_ dL_before_15
    exact ⟨g, _, _, hW, fu, by rw [hx9]; rfl, fun z => absurd (hx9.symm.trans z) (by decide), fun _ => rfl⟩
  · obtain ⟨hx0, er, hW⟩ := hR
    have fu := fu.kept (hk _ fu.lt (cwN hne fu.lt))
    refine lv_i2l (pc := 6) (v := r.toInt64) hx hb dL_before_6 rfl ?_
    refine r_putO (pc := 7) "BestratiosLaw" E hC fu hS (Or.inr rfl) 0 tyX4 tyX4_ok nmX4 rfl (by decide) (Nat.le_of_ble_eq_true rfl) uX4 kn_793 (fun _ h => h) rfl rfl rfl dL_before_7 (fun H locs n_ ho hz hS => ?_)
    have hW := hW.kept (fun k hk9 => ho _ (hne k hk9))
    refine lv_goto (pc := 10) (tgt := 16) hx hb dL_before_10 (by decide) ?_
    refine lv_iconst (pc := 16) (v := 0) hx hb dL_before_16 (by decide) ?_
    refine r_iret (pc := 17) E hr hlk hS (by omega) (by omega) ?_ dL_before_17
    exact ⟨_, _, _, hW, n_, by rw [hx0]; rfl, fun _ => ⟨rfl, by rw [er]⟩, fun z => absurd hx0 z⟩
set_option maxHeartbeats 4000000 in
set_option maxRecDepth 100000 in
/-- BestratiosLaw.cut(LBestratios;IIILBestratiosLaw$Out;)I -/
theorem c_L_cut (l : Launch) (hlst : l.stackTraces = false) (D : va_G) (tk : Nat → ClassId) (N0 : Nat) (sa : Nat → Nat) {ad : Nat → Nat} (hAD : ADok N0 ad) {uo : Nat} (huo : N0 ≤ uo) (sz : Nat) (g : CS) (kn : Int32) (hI : CI g kn) (x1 : Int32) (x2 : Int32) (x3 : Int32) : Met l yL_cut (wsw yL_cut cL_cut 6 (some .int) [(0, 12, 15, 19), (0, 12, 19, 21)]) lwR (cPW D tk N0 sa [.ref (ad 15), .int x1, .int x2, .int x3, .ref uo] sz (fun H => CW D tk ad g H ∧ OUo D uo H)) (kQi (fun rk H => ∃ (g1 : CS) (ox : Int64) (ov : Value), CW D tk ad g1 H ∧ c1 D uo (.inr (12, [.long ox, ov])) H ∧ WS (xo (bR x1) (xo (2 * bW x2 0 9) (2 * bW x3 0 4))) (g) g rk g1) (lwA ad uo sz)) 3000 8000 (lwA ad uo sz) := by
  refine mStartW RL rfl (by decide +kernel) (Nat.le_of_ble_eq_true rfl) ?_
  intro p e s m args below meth c E hr hlk htb hsz hC hN hF ls hl
  subst hsz
  obtain ⟨hx, hb, -⟩ := id E
  have hA := lwA.ge hAD huo hC.2.1
  have hn : ∀ q, s.heap.size ≤ q → (lwA ad uo s.heap.size) q := fun q h => Or.inl (Or.inr h)
  have hS : va_S (lwA ad uo s.heap.size) s.heap s.heap [] := va_S.rf
  have hl : lv_has ls 6 [(0, .ref (ad 15)), (1, .int x1), (2, .int x2), (3, .int x3), (4, .ref uo)] := hl
  obtain ⟨hW, x9, v9, fu⟩ := hF
  have hne := cwC hC hW (Or.inl fu.cl)
  refine lv_aload (pc := 0) hx hb dL_cut_0 (lv_at hl 4 rfl) ?_
  refine lv_aload_n (pc := 2) hx hb dL_cut_2 rfl (lv_at hl 0 rfl) ?_
  refine lv_iload_n (pc := 3) hx hb dL_cut_3 rfl (lv_at hl 1 rfl) ?_
  refine lv_iload_n (pc := 4) hx hb dL_cut_4 rfl (lv_at hl 2 rfl) ?_
  refine lv_iload_n (pc := 5) hx hb dL_cut_5 rfl (lv_at hl 3 rfl) ?_
  by_cases hbw : bW x2 0 9 = 0
  · have hkp := (bW_k (k := 9) (by decide) hbw).2
    have hw := tx_wd_ok (f_cutNum (tT g (nn x1)) (tB g (nn x1)) x2 x3) (nn x2) (q := (0, 16)) (Nat.zero_le _)
    unfold tx_ok at hw
    dsimp only at hw
    refine kh_r (pc := 6) (kx_V E hC hS hA hl.1 (c1.recv hC hW.obj rfl) rfl (c_X3_cut l hlst D tk N0 sa hAD s.heap.size g x1 x2 x3 (fun i hi => CI_tx hI (Or.inl hi) _ _ _)) kw_1120 kw_1121 kw_1122 kw_1 kw_1123 (n := 3) (by decide +kernel) rfl ⟨⟨rfl, rfl⟩, ⟨Nat.le_of_ble_eq_true rfl, Nat.le_of_ble_eq_true rfl⟩, (by dsimp only [lwR]; omega), (by dsimp only [lwR]; omega)⟩ rfl (Nat.le_of_ble_eq_true rfl) hW dL_cut_6) hS (fun q z w => absurd w (Nat.not_le.mpr z)) hn (fun E1 ce q9 H locs hb9 hz hk hS h1 h2 h3 => ?_) (fun r H locs hR hz hk hS => ?_)
    · have hW := hW.new hk
      have fu := fu.new hk
      rcases hb9 with ⟨rfl, hx9⟩ | ⟨rfl, hx9⟩
      · refine r_c1 (pc := 6) E hC htb (by decide) (by decide) kw_803 wc_0 h1 h2 h3 ?_
        refine lv_astore (pc := 15) (lv' := [(5, .ref q9), (0, .ref (ad 15)), (1, .int x1), (2, .int x2), (3, .int x3), (4, .ref uo)]) hx hb dL_cut_15 hl (by decide) rfl (fun ls hl => ?_)
        refine lv_iconst (pc := 17) (v := 1) hx hb dL_cut_17 (by decide) ?_
        refine r_iret (pc := 18) E hr hlk hS (by omega) (by omega) ?_ dL_cut_18
        exact ⟨g, _, _, hW, fu, by rw [hx9]; rfl, fun z => absurd (hx9.symm.trans z) (by decide), fun _ => rfl⟩
      · refine r_c2 (pc := 6) E hC htb (by decide) (by decide) (by decide) kw_804 kw_803 hN.1 wc_1 h1 h2 h3 ?_
        refine lv_astore (pc := 19) (lv' := [(5, .ref q9), (0, .ref (ad 15)), (1, .int x1), (2, .int x2), (3, .int x3), (4, .ref uo)]) hx hb dL_cut_19 hl (by decide) rfl (fun ls hl => ?_)
        refine lv_iconst (pc := 21) (v := 2) hx hb dL_cut_21 (by decide) ?_
        refine r_iret (pc := 22) E hr hlk hS (by omega) (by omega) ?_ dL_cut_22
        exact ⟨g, _, _, hW, fu, by rw [hx9]; rfl, fun z => absurd (hx9.symm.trans z) (by decide), fun _ => rfl⟩
    · obtain ⟨hx0, hge, hsx⟩ := hR
      have hW := hW.new hk
      have fu := fu.new hk
      refine r_putO (pc := 9) "BestratiosLaw" E hC fu hS (Or.inr rfl) 1 tyX4 tyX4_ok nmX4 rfl (by decide) (Nat.le_of_ble_eq_true rfl) uX4 kn_794 (fun _ h => h) rfl rfl rfl dL_cut_9 (fun H locs n_ ho hz hS => ?_)
      have hW := hW.kept (fun k hk9 => ho _ (hne k hk9))
      refine lv_goto (pc := 12) (tgt := 23) hx hb dL_cut_12 (by decide) ?_
      refine lv_iconst (pc := 23) (v := 0) hx hb dL_cut_23 (by decide) ?_
      refine r_iret (pc := 24) E hr hlk hS (by omega) (by omega) ?_ dL_cut_24
      exact ⟨_, _, _, hW, n_, by rw [hx0]; rfl, fun _ => rfl, fun z => absurd hx0 z⟩
  · refine kh_r (pc := 6) (kx_V E hC hS hA hl.1 (c1.recv hC hW.obj rfl) rfl (c_X3_cut_N l hlst D tk N0 sa hAD s.heap.size g x1 x2 x3 hbw) kw_1120 kw_1121 kw_1122 kw_1 kw_1123 (n := 3) (by decide +kernel) rfl ⟨⟨rfl, rfl⟩, ⟨Nat.le_of_ble_eq_true rfl, Nat.le_of_ble_eq_true rfl⟩, (by dsimp only [lwR]; omega), (by dsimp only [lwR]; omega)⟩ rfl (Nat.le_of_ble_eq_true rfl) hW dL_cut_6) hS (fun q z w => absurd w (Nat.not_le.mpr z)) hn (fun E1 ce q9 H locs hb9 hz hk hS h1 h2 h3 => ?_) (fun r H locs hR hz hk hS => ?_)
    · have hW := hW.new hk
      have fu := fu.new hk
      rcases hb9 with ⟨rfl, hx9⟩ | ⟨rfl, hx9⟩
      · refine r_c1 (pc := 6) E hC htb (by decide) (by decide) kw_803 wc_0 h1 h2 h3 ?_
        refine lv_astore (pc := 15) (lv' := [(5, .ref q9), (0, .ref (ad 15)), (1, .int x1), (2, .int x2), (3, .int x3), (4, .ref uo)]) hx hb dL_cut_15 hl (by decide) rfl (fun ls hl => ?_)
        refine lv_iconst (pc := 17) (v := 1) hx hb dL_cut_17 (by decide) ?_
        refine r_iret (pc := 18) E hr hlk hS (by omega) (by omega) ?_ dL_cut_18
        exact ⟨g, _, _, hW, fu, by rw [hx9]; rfl, fun z => absurd (hx9.symm.trans z) (by decide), fun _ => rfl⟩
      · refine r_c2 (pc := 6) E hC htb (by decide) (by decide) (by decide) kw_804 kw_803 hN.1 wc_1 h1 h2 h3 ?_
        refine lv_astore (pc := 19) (lv' := [(5, .ref q9), (0, .ref (ad 15)), (1, .int x1), (2, .int x2), (3, .int x3), (4, .ref uo)]) hx hb dL_cut_19 hl (by decide) rfl (fun ls hl => ?_)
        refine lv_iconst (pc := 21) (v := 2) hx hb dL_cut_21 (by decide) ?_
        refine r_iret (pc := 22) E hr hlk hS (by omega) (by omega) ?_ dL_cut_22
        exact ⟨g, _, _, hW, fu, by rw [hx9]; rfl, fun z => absurd (hx9.symm.trans z) (by decide), fun _ => rfl⟩
    · obtain ⟨hx0, hge, hsx⟩ := hR
      have hW := hW.new hk
      have fu := fu.new hk
      refine r_putO (pc := 9) "BestratiosLaw" E hC fu hS (Or.inr rfl) 1 tyX4 tyX4_ok nmX4 rfl (by decide) (Nat.le_of_ble_eq_true rfl) uX4 kn_794 (fun _ h => h) rfl rfl rfl dL_cut_9 (fun H locs n_ ho hz hS => ?_)
      have hW := hW.kept (fun k hk9 => ho _ (hne k hk9))
      refine lv_goto (pc := 12) (tgt := 23) hx hb dL_cut_12 (by decide) ?_
      refine lv_iconst (pc := 23) (v := 0) hx hb dL_cut_23 (by decide) ?_
      refine r_iret (pc := 24) E hr hlk hS (by omega) (by omega) ?_ dL_cut_24
      exact ⟨_, _, _, hW, n_, by rw [hx0]; rfl, fun _ => rfl, fun z => absurd hx0 z⟩
set_option maxHeartbeats 4000000 in
set_option maxRecDepth 100000 in
/-- BestratiosLaw.simplest(LBestratios;IIIILBestratiosLaw$Out;)I -/
theorem c_L_simplest (l : Launch) (hlst : l.stackTraces = false) (D : va_G) (tk : Nat → ClassId) (N0 : Nat) (sa : Nat → Nat) {ad : Nat → Nat} (hAD : ADok N0 ad) {uo : Nat} (huo : N0 ≤ uo) (sz : Nat) (g : CS) (kn : Int32) (hI : CI g kn) (x1 : Int32) (x2 : Int32) (x3 : Int32) (x4 : Int32) : Met l yL_simplest (wsw yL_simplest cL_simplest 7 (some .int) [(0, 15, 18, 19), (0, 15, 22, 21)]) lwR (cPW D tk N0 sa [.ref (ad 15), .int x1, .int x2, .int x3, .int x4, .ref uo] sz (fun H => CW D tk ad g H ∧ OUo D uo H)) (kQi (fun rk H => ∃ (g1 : CS) (ox : Int64) (ov : Value), CW D tk ad g1 H ∧ c1 D uo (.inr (12, [.long ox, ov])) H ∧ WR (xo (bR x1) (xo (bR x2) (xo (2 * bW x3 0 2) (2 * bW x4 0 4)))) (f_setW (f_sm g 6 (nn x2) x3 x4) (nn x1)) ((f_setR (f_sm g 6 (nn x2) x3 x4) (nn x1)).toInt64) g rk g1 ox) (lwA ad uo sz)) 3000 8000 (lwA ad uo sz) := by
  refine mStartW RL rfl (by decide +kernel) (Nat.le_of_ble_eq_true rfl) ?_
  intro p e s m args below meth c E hr hlk htb hsz hC hN hF ls hl
  subst hsz
  obtain ⟨hx, hb, -⟩ := id E
  have hA := lwA.ge hAD huo hC.2.1
  have hn : ∀ q, s.heap.size ≤ q → (lwA ad uo s.heap.size) q := fun q h => Or.inl (Or.inr h)
  have hS : va_S (lwA ad uo s.heap.size) s.heap s.heap [] := va_S.rf
  have hl : lv_has ls 7 [(0, .ref (ad 15)), (1, .int x1), (2, .int x2), (3, .int x3), (4, .int x4), (5, .ref uo)] := hl
  obtain ⟨hW, x9, v9, fu⟩ := hF
  have hne := cwC hC hW (Or.inl fu.cl)
  refine lv_aload (pc := 0) hx hb dL_simplest_0 (lv_at hl 5 rfl) ?_
  refine lv_aload_n (pc := 2) hx hb dL_simplest_2 rfl (lv_at hl 0 rfl) ?_
  refine lv_iload_n (pc := 3) hx hb dL_simplest_3 rfl (lv_at hl 1 rfl) ?_
  refine lv_iload_n (pc := 4) hx hb dL_simplest_4 rfl (lv_at hl 2 rfl) ?_
  refine lv_iload_n (pc := 5) hx hb dL_simplest_5 rfl (lv_at hl 3 rfl) ?_
  refine lv_iload (pc := 6) hx hb dL_simplest_6 (lv_at hl 4 rfl) ?_
  refine kh_i (pc := 8) (kx_V E hC hS hA hl.1 (c1.recv hC hW.obj rfl) rfl (c_X3_simplest l hlst D tk N0 sa hAD s.heap.size g x1 x2 x3 x4 (CI_sm hI)) kw_1127 kw_1128 kw_1129 kw_1 kw_1130 (n := 4) (by decide +kernel) rfl ⟨⟨rfl, rfl⟩, ⟨Nat.le_of_ble_eq_true rfl, Nat.le_of_ble_eq_true rfl⟩, (by dsimp only [lwR]; omega), (by dsimp only [lwR]; omega)⟩ rfl (Nat.le_of_ble_eq_true rfl) hW dL_simplest_8) hS (fun q z w => Or.inl w) hn (fun E1 ce q9 H locs hb9 hz hk hS h1 h2 h3 => ?_) (fun r H locs hR hz hk hS => ?_)
  · have hW := hW.new hk
    have fu := fu.new hk
    rcases hb9 with ⟨rfl, hx9⟩ | ⟨rfl, hx9⟩
    · refine r_c1 (pc := 8) E hC htb (by decide) (by decide) kw_803 wc_0 h1 h2 h3 ?_
      refine lv_astore (pc := 18) (lv' := [(6, .ref q9), (0, .ref (ad 15)), (1, .int x1), (2, .int x2), (3, .int x3), (4, .int x4), (5, .ref uo)]) hx hb dL_simplest_18 hl (by decide) rfl (fun ls hl => ?_)
      refine lv_iconst (pc := 20) (v := 1) hx hb dL_simplest_20 (by decide) ?_
      refine r_iret (pc := 21) E hr hlk hS (by omega) (by omega) ?_ dL_simplest_21
      exact ⟨g, _, _, hW, fu, by rw [hx9]; rfl, fun z => absurd (hx9.symm.trans z) (by decide), fun _ => rfl⟩
    · refine r_c2 (pc := 8) E hC htb (by decide) (by decide) (by decide) kw_804 kw_803 hN.1 wc_1 h1 h2 h3 ?_
      refine lv_astore (pc := 22) (lv' := [(6, .ref q9), (0, .ref (ad 15)), (1, .int x1), (2, .int x2), (3, .int x3), (4, .int x4), (5, .ref uo)]) hx hb dL_simplest_22 hl (by decide) rfl (fun ls hl => ?_)
      refine lv_iconst (pc := 24) (v := 2) hx hb dL_simplest_24 (by decide) ?_
      refine r_iret (pc := 25) E hr hlk hS (by omega) (by omega) ?_ dL_simplest_25
      exact ⟨g, _, _, hW, fu, by rw [hx9]; rfl, fun z => absurd (hx9.symm.trans z) (by decide), fun _ => rfl⟩
  · obtain ⟨hx0, er, hW⟩ := hR
    have fu := fu.kept (hk _ fu.lt (cwN hne fu.lt))
    refine lv_i2l (pc := 11) (v := r.toInt64) hx hb dL_simplest_11 rfl ?_
    refine r_putO (pc := 12) "BestratiosLaw" E hC fu hS (Or.inr rfl) 0 tyX4 tyX4_ok nmX4 rfl (by decide) (Nat.le_of_ble_eq_true rfl) uX4 kn_793 (fun _ h => h) rfl rfl rfl dL_simplest_12 (fun H locs n_ ho hz hS => ?_)
    have hW := hW.kept (fun k hk9 => ho _ (hne k hk9))
    refine lv_goto (pc := 15) (tgt := 26) hx hb dL_simplest_15 (by decide) ?_
    refine lv_iconst (pc := 26) (v := 0) hx hb dL_simplest_26 (by decide) ?_
    refine r_iret (pc := 27) E hr hlk hS (by omega) (by omega) ?_ dL_simplest_27
    exact ⟨_, _, _, hW, n_, by rw [hx0]; rfl, fun _ => ⟨rfl, by rw [er]⟩, fun z => absurd hx0 z⟩
set_option maxHeartbeats 4000000 in
set_option maxRecDepth 100000 in
/-- BestratiosLaw.tally(LBestratios;IIILBestratiosLaw$Out;)I -/
theorem c_L_tally (l : Launch) (hlst : l.stackTraces = false) (D : va_G) (tk : Nat → ClassId) (N0 : Nat) (sa : Nat → Nat) {ad : Nat → Nat} (hAD : ADok N0 ad) {uo : Nat} (huo : N0 ≤ uo) (sz : Nat) (g : CS) (kn : Int32) (hI : CI g kn) (x1 : Int32) (x2 : Int32) (x3 : Int32) : Met l yL_tally (wsw yL_tally cL_tally 6 (some .int) [(0, 13, 16, 19), (0, 13, 20, 21)]) lwR (cPW D tk N0 sa [.ref (ad 15), .int x1, .int x2, .int x3, .ref uo] sz (fun H => CW D tk ad g H ∧ OUo D uo H)) (kQi (fun rk H => ∃ (g1 : CS) (ox : Int64) (ov : Value), CW D tk ad g1 H ∧ c1 D uo (.inr (12, [.long ox, ov])) H ∧ WR (xo (bR x1) (xo (2 * bW x2 0 4) (2 * bW x3 0 4))) (f_talW g (nn x1) x2 x3) ((f_talR g (nn x1) x2 x3).toInt64) g rk g1 ox) (lwA ad uo sz)) 3000 8000 (lwA ad uo sz) := by
  refine mStartW RL rfl (by decide +kernel) (Nat.le_of_ble_eq_true rfl) ?_
  intro p e s m args below meth c E hr hlk htb hsz hC hN hF ls hl
  subst hsz
  obtain ⟨hx, hb, -⟩ := id E
  have hA := lwA.ge hAD huo hC.2.1
  have hn : ∀ q, s.heap.size ≤ q → (lwA ad uo s.heap.size) q := fun q h => Or.inl (Or.inr h)
  have hS : va_S (lwA ad uo s.heap.size) s.heap s.heap [] := va_S.rf
  have hl : lv_has ls 6 [(0, .ref (ad 15)), (1, .int x1), (2, .int x2), (3, .int x3), (4, .ref uo)] := hl
  obtain ⟨hW, x9, v9, fu⟩ := hF
  have hne := cwC hC hW (Or.inl fu.cl)
  refine lv_aload (pc := 0) hx hb dL_tally_0 (lv_at hl 4 rfl) ?_
  refine lv_aload_n (pc := 2) hx hb dL_tally_2 rfl (lv_at hl 0 rfl) ?_
  refine lv_iload_n (pc := 3) hx hb dL_tally_3 rfl (lv_at hl 1 rfl) ?_
  refine lv_iload_n (pc := 4) hx hb dL_tally_4 rfl (lv_at hl 2 rfl) ?_
  refine lv_iload_n (pc := 5) hx hb dL_tally_5 rfl (lv_at hl 3 rfl) ?_
  refine kh_i (pc := 6) (kx_V E hC hS hA hl.1 (c1.recv hC hW.obj rfl) rfl (c_X3_tally l hlst D tk N0 sa hAD s.heap.size g x1 x2 x3) kw_1140 kw_1141 kw_1142 kw_1 kw_1143 (n := 3) (by decide +kernel) rfl ⟨⟨rfl, rfl⟩, ⟨Nat.le_of_ble_eq_true rfl, Nat.le_of_ble_eq_true rfl⟩, (by dsimp only [lwR]; omega), (by dsimp only [lwR]; omega)⟩ rfl (Nat.le_of_ble_eq_true rfl) hW dL_tally_6) hS (fun q z w => Or.inl w) hn (fun E1 ce q9 H locs hb9 hz hk hS h1 h2 h3 => ?_) (fun r H locs hR hz hk hS => ?_)
  · have hW := hW.new hk
    have fu := fu.new hk
    rcases hb9 with ⟨rfl, hx9⟩ | ⟨rfl, hx9⟩
    · refine r_c1 (pc := 6) E hC htb (by decide) (by decide) kw_803 wc_0 h1 h2 h3 ?_
      refine lv_astore (pc := 16) (lv' := [(5, .ref q9), (0, .ref (ad 15)), (1, .int x1), (2, .int x2), (3, .int x3), (4, .ref uo)]) hx hb dL_tally_16 hl (by decide) rfl (fun ls hl => ?_)
      refine lv_iconst (pc := 18) (v := 1) hx hb dL_tally_18 (by decide) ?_
      refine r_iret (pc := 19) E hr hlk hS (by omega) (by omega) ?_ dL_tally_19
      exact ⟨g, _, _, hW, fu, by rw [hx9]; rfl, fun z => absurd (hx9.symm.trans z) (by decide), fun _ => rfl⟩
    · refine r_c2 (pc := 6) E hC htb (by decide) (by decide) (by decide) kw_804 kw_803 hN.1 wc_1 h1 h2 h3 ?_
      refine lv_astore (pc := 20) (lv' := [(5, .ref q9), (0, .ref (ad 15)), (1, .int x1), (2, .int x2), (3, .int x3), (4, .ref uo)]) hx hb dL_tally_20 hl (by decide) rfl (fun ls hl => ?_)
      refine lv_iconst (pc := 22) (v := 2) hx hb dL_tally_22 (by decide) ?_
      refine r_iret (pc := 23) E hr hlk hS (by omega) (by omega) ?_ dL_tally_23
      exact ⟨g, _, _, hW, fu, by rw [hx9]; rfl, fun z => absurd (hx9.symm.trans z) (by decide), fun _ => rfl⟩
  · obtain ⟨hx0, er, hW⟩ := hR
    have fu := fu.kept (hk _ fu.lt (cwN hne fu.lt))
    refine lv_i2l (pc := 9) (v := r.toInt64) hx hb dL_tally_9 rfl ?_
    refine r_putO (pc := 10) "BestratiosLaw" E hC fu hS (Or.inr rfl) 0 tyX4 tyX4_ok nmX4 rfl (by decide) (Nat.le_of_ble_eq_true rfl) uX4 kn_793 (fun _ h => h) rfl rfl rfl dL_tally_10 (fun H locs n_ ho hz hS => ?_)
    have hW := hW.kept (fun k hk9 => ho _ (hne k hk9))
    refine lv_goto (pc := 13) (tgt := 24) hx hb dL_tally_13 (by decide) ?_
    refine lv_iconst (pc := 24) (v := 0) hx hb dL_tally_24 (by decide) ?_
    refine r_iret (pc := 25) E hr hlk hS (by omega) (by omega) ?_ dL_tally_25
    exact ⟨_, _, _, hW, n_, by rw [hx0]; rfl, fun _ => ⟨rfl, by rw [er]⟩, fun z => absurd hx0 z⟩
set_option maxHeartbeats 4000000 in
set_option maxRecDepth 100000 in
/-- BestratiosLaw.house(LBestratios;ILBestratiosLaw$Out;)I -/
theorem c_L_house (l : Launch) (hlst : l.stackTraces = false) (D : va_G) (tk : Nat → ClassId) (N0 : Nat) (sa : Nat → Nat) {ad : Nat → Nat} (hAD : ADok N0 ad) {uo : Nat} (huo : N0 ≤ uo) (sz : Nat) (g : CS) (kn : Int32) (hI : CI g kn) (x1 : Int32) : Met l yL_house (wsw yL_house cL_house 4 (some .int) [(0, 10, 13, 21)]) lwR (cPW D tk N0 sa [.ref (ad 15), .int x1, .ref uo] sz (fun H => CW D tk ad g H ∧ OUo D uo H)) (kQi (fun rk H => ∃ (g1 : CS) (ox : Int64) (ov : Value), CW D tk ad g1 H ∧ c1 D uo (.inr (12, [.long ox, ov])) H ∧ WR (bW x1 0 4) (g) ((f_cnt g x1).toInt64) g rk g1 ox) (lwA ad uo sz)) 3000 8000 (lwA ad uo sz) := by
  refine mStartW RL rfl (by decide +kernel) (Nat.le_of_ble_eq_true rfl) ?_
  intro p e s m args below meth c E hr hlk htb hsz hC hN hF ls hl
  subst hsz
  obtain ⟨hx, hb, -⟩ := id E
  have hA := lwA.ge hAD huo hC.2.1
  have hn : ∀ q, s.heap.size ≤ q → (lwA ad uo s.heap.size) q := fun q h => Or.inl (Or.inr h)
  have hS : va_S (lwA ad uo s.heap.size) s.heap s.heap [] := va_S.rf
  have hl : lv_has ls 4 [(0, .ref (ad 15)), (1, .int x1), (2, .ref uo)] := hl
  obtain ⟨hW, x9, v9, fu⟩ := hF
  have hne := cwC hC hW (Or.inl fu.cl)
  refine lv_aload_n (pc := 0) hx hb dL_house_0 rfl (lv_at hl 2 rfl) ?_
  refine lv_aload_n (pc := 1) hx hb dL_house_1 rfl (lv_at hl 0 rfl) ?_
  refine lv_iload_n (pc := 2) hx hb dL_house_2 rfl (lv_at hl 1 rfl) ?_
  refine kh_i (pc := 3) (kx_V E hC hS hA hl.1 (c1.recv hC hW.obj rfl) rfl (c_X3_house l hlst D tk N0 sa hAD s.heap.size g x1) kw_1158 kw_1159 kw_1160 kw_1 kw_1161 (n := 1) (by decide +kernel) rfl ⟨⟨rfl, rfl⟩, ⟨Nat.le_of_ble_eq_true rfl, Nat.le_of_ble_eq_true rfl⟩, (by dsimp only [lwR]; omega), (by dsimp only [lwR]; omega)⟩ rfl (Nat.le_of_ble_eq_true rfl) hW dL_house_3) hS (fun q z w => absurd w (Nat.not_le.mpr z)) hn (fun E1 ce q9 H locs hb9 hz hk hS h1 h2 h3 => ?_) (fun r H locs hR hz hk hS => ?_)
  · have hW := hW.new hk
    have fu := fu.new hk
    obtain ⟨rfl, hx9⟩ := hb9
    refine r_c1 (pc := 3) E hC htb (by decide) (by decide) kw_804 wc_1 h1 h2 h3 ?_
    refine lv_astore_n (pc := 13) (lv' := [(3, .ref q9), (0, .ref (ad 15)), (1, .int x1), (2, .ref uo)]) hx hb dL_house_13 rfl hl (by decide) rfl (fun ls hl => ?_)
    refine lv_iconst (pc := 14) (v := 1) hx hb dL_house_14 (by decide) ?_
    refine r_iret (pc := 15) E hr hlk hS (by omega) (by omega) ?_ dL_house_15
    exact ⟨g, _, _, hW, fu, by rw [hx9]; rfl, fun z => absurd (hx9.symm.trans z) (by decide), fun _ => rfl⟩
  · obtain ⟨hx0, er⟩ := hR
    have hW := hW.new hk
    have fu := fu.new hk
    refine lv_i2l (pc := 6) (v := r.toInt64) hx hb dL_house_6 rfl ?_
    refine r_putO (pc := 7) "BestratiosLaw" E hC fu hS (Or.inr rfl) 0 tyX4 tyX4_ok nmX4 rfl (by decide) (Nat.le_of_ble_eq_true rfl) uX4 kn_793 (fun _ h => h) rfl rfl rfl dL_house_7 (fun H locs n_ ho hz hS => ?_)
    have hW := hW.kept (fun k hk9 => ho _ (hne k hk9))
    refine lv_goto (pc := 10) (tgt := 16) hx hb dL_house_10 (by decide) ?_
    refine lv_iconst (pc := 16) (v := 0) hx hb dL_house_16 (by decide) ?_
    refine r_iret (pc := 17) E hr hlk hS (by omega) (by omega) ?_ dL_house_17
    exact ⟨_, _, _, hW, n_, by rw [hx0]; rfl, fun _ => ⟨rfl, by rw [er]⟩, fun z => absurd hx0 z⟩
set_option maxHeartbeats 4000000 in
set_option maxRecDepth 100000 in
/-- BestratiosLaw$Out.<init>()V -/
theorem c_X4_init (l : Launch) (D : va_G) (tk : Nat → ClassId) (N0 : Nat) (sa : Nat → Nat)  (sz : Nat) (uo : Nat) : Met l yX4_init (wsy yX4_init cX4_init 1 none) ({ frames := 1, cells := 0, slots := 0, locals := 20 } : Room) (cP D tk N0 sa [.ref uo] sz (fun H => c1 D uo (.inr (12, [.long 0, .null])) H)) (kQv (fun H => c1 D uo (.inr (12, [.long 0, .null])) H) (nwA sz)) (0) (0) (nwA sz) := by
  refine mStart RX4 rfl (by decide +kernel) (Nat.le_of_ble_eq_true rfl) ?_
  intro p e s m args below meth c E hr hlk hnm hsz hC hF ls hl
  subst hsz
  obtain ⟨hx, hb, -⟩ := id E
  have hA : ∀ q, (nwA s.heap.size) q → N0 ≤ q := fun q h => Nat.le_trans hC.2.1 h
  have hn : ∀ q, s.heap.size ≤ q → (nwA s.heap.size) q := fun q h => h
  have hS : va_S (nwA s.heap.size) s.heap s.heap [] := va_S.rf
  have hl : lv_has ls 1 [(0, .ref uo)] := hl
  have f0 : c1 D uo (.inr (12, [.long 0, .null])) s.heap := hF
  refine lv_aload_n (pc := 0) hx hb dX4_init_0 rfl (lv_at hl 0 rfl) ?_
  refine r_oinit (pc := 1) E hl.1 kw_792 (Nat.le_of_ble_eq_true rfl) (by decide) (by decide) dX4_init_1 ?_
  refine r_vret (pc := 4) E hr hlk hS (by decide) (by decide) ?_ dX4_init_4
  exact f0
/-! ===== the law's cases ===== -/
theorem lw_in {i j L : Nat} (h : i + j < L) (hL : L ≤ 320) {x : Int32} (hx : x = nI j) : vp_in (nI i + x) L := by
  rw [hx, nI_add]
  exact vp_in_nI h (by omega)
theorem nn16 {x : Int32} (h0 : 0 ≤ x) (h : x ≤ 16) : x.toNatClampNeg ≤ 64 := by
  have h1 := Int32.le_iff_toInt_le.mp h
  have e1 : (16 : Int32).toInt = 16 := by decide
  have e2 : x.toNatClampNeg = x.toInt.toNat := rfl
  omega
theorem MI.obj {D : va_G} {tk : Nat → ClassId} {sa : Nat → Nat} {P : Nat → Prop} {mo : Nat} {tt bb : Nat → Int64} {eT eB oT oB : Int64} {pk : Nat} {ca rf : Int32} {vs : Nat → Value} {kn : Int32} {n9 : Nat} {th : Int32} {H : Heap} (h : MI D tk sa P mo tt bb eT eB oT oB pk ca rf vs kn n9 th H) : ∃ fs, c1 D mo (.inr (13, fs)) H := by
  obtain ⟨ra, rl, ex, ro, rt, fo, -⟩ := h
  exact ⟨_, fo⟩
theorem MI.new {D : va_G} {tk : Nat → ClassId} {sa : Nat → Nat} {P : Nat → Prop} {mo : Nat} {tt bb : Nat → Int64} {eT eB oT oB : Int64} {pk : Nat} {ca rf : Int32} {vs : Nat → Value} {kn : Int32} {n9 : Nat} {th : Int32} {H H1 : Heap} (h : MI D tk sa P mo tt bb eT eB oT oB pk ca rf vs kn n9 th H) (hk : ∀ q : Nat, q < H.size → ¬ nwA H.size q → H1[q]? = H[q]?) : MI D tk sa P mo tt bb eT eB oT oB pk ca rf vs kn n9 th H1 := h.kept hk (fun _ hl _ => Nat.not_le.mpr hl) (fun _ _ hl => Nat.not_le.mpr hl)
set_option maxHeartbeats 4000000 in
set_option maxRecDepth 100000 in
theorem lc_0 {p : Program} {l : Launch} {e : Env} {s : State} {m : MethodId} {below : List Frame} {meth : Method} {c : Code} {Q : State → Prop} {D : va_G} {tk : Nat → ClassId} {sa ad : Nat → Nat} {b L uo mo M0 : Nat} {xs : Nat → Int32} {w0 : Cond} (hlst : l.stackTraces = false) (E : CallFix p m c cL_law 7 s #[.ref b] (w0 :: GW) "BestratiosLaw") (hr : meth.sig.returnType = some .boolean) (hC : Ctx D tk s.heap.size sa s) (hN : NCx s) (hX : va_X b L xs s s.heap) (hbl : b < s.heap.size) (hAD : ADok s.heap.size ad) (huo : s.heap.size ≤ uo) (hM0 : s.heap.size ≤ M0) (had : ∀ k, k < 22 → ad k < M0) (hL : L ≤ 320) {i : Nat} (hi : i + 5 ≤ L) {cells slots : Nat} {H : Heap} {locs : List Loc} {ls : Array Slot} (hc9 : cells + 7000 ≤ 844753) (hs9 : slots + 101000 ≤ 6567222) (hz0 : M0 ≤ H.size) (hS : va_S (NA s.heap.size) s.heap H locs) (hB : LR D tk sa ad uo mo (PL M0 uo) H) (hl : lv_has ls 7 [(0, .ref b), (1, .ref (ad 15)), (2, .ref mo), (3, .ref uo), (4, .int (nI i))])
    (K : ∀ (H1 : Heap) (locs1 : List Loc) (ls1 : Array Slot), M0 ≤ H1.size → va_S (NA s.heap.size) s.heap H1 locs1 → LR D tk sa ad uo mo (PL M0 uo) H1 → lv_has ls1 7 [(0, .ref b), (1, .ref (ad 15)), (2, .ref mo), (3, .ref uo), (4, .int (nI i))] → W p l e room_1 s m #[.ref b] below meth c H1 locs1 (cells + 7000) (slots + 101000) Q (F0 m 1813 ls1 [])) : W p l e room_1 s m #[.ref b] below meth c H locs cells slots Q (F0 m 228 ls []) := by
  obtain ⟨hx, hb, -⟩ := id E
  have hbA : ¬ NA s.heap.size b := Nat.not_le.mpr hbl
  have hA : ∀ q, NA s.heap.size q → s.heap.size ≤ q := fun q h => h
  have hn : ∀ q, s.heap.size ≤ q → NA s.heap.size q := fun q h => h
  have hPN : ∀ q, PL M0 uo q → s.heap.size ≤ q := fun q h => Nat.le_trans hM0 h.1
  obtain ⟨g, kn, tt, bb, eT, eB, oT, oB, pk, ca, rf, vs, n9, th, ox, ov, hV, hW, fu, hM⟩ := hB
  refine lv_aload_n (pc := 228) hx hb dL_law_228 rfl (lv_at hl 1 rfl) ?_
  refine lv_aload_n (pc := 229) hx hb dL_law_229 rfl (lv_at hl 0 rfl) ?_
  refine lv_iload (pc := 230) hx hb dL_law_230 (lv_at hl 4 rfl) ?_
  refine lv_iconst (pc := 232) (v := 1) hx hb dL_law_232 (by decide) ?_
  refine lv_iadd (pc := 233) hx hb dL_law_233 ?_
  refine va_sld (pc := 234) hx hb hX hbl hbA hS (lw_in (j := 1) (by omega) hL rfl) dL_law_234 ?_
  refine lv_aload_n (pc := 235) hx hb dL_law_235 rfl (lv_at hl 0 rfl) ?_
  refine lv_iload (pc := 236) hx hb dL_law_236 (lv_at hl 4 rfl) ?_
  refine lv_iconst (pc := 238) (v := 2) hx hb dL_law_238 (by decide) ?_
  refine lv_iadd (pc := 239) hx hb dL_law_239 ?_
  refine va_sld (pc := 240) hx hb hX hbl hbA hS (lw_in (j := 2) (by omega) hL rfl) dL_law_240 ?_
  refine lv_aload_n (pc := 241) hx hb dL_law_241 rfl (lv_at hl 0 rfl) ?_
  refine lv_iload (pc := 242) hx hb dL_law_242 (lv_at hl 4 rfl) ?_
  refine lv_iconst (pc := 244) (v := 3) hx hb dL_law_244 (by decide) ?_
  refine lv_iadd (pc := 245) hx hb dL_law_245 ?_
  refine va_sld (pc := 246) hx hb hX hbl hbA hS (lw_in (j := 3) (by omega) hL rfl) dL_law_246 ?_
  refine lv_aload_n (pc := 247) hx hb dL_law_247 rfl (lv_at hl 3 rfl) ?_
  have hz1 := hS.1
  have hne := cwC hC hW (Or.inl fu.cl)
  refine k_i (pc := 248) (k_SW E hC hN hS hA hl.1 (c_L_put l hlst D tk s.heap.size sa hAD huo H.size g kn hV.ci ((xs (nI i + 1).toNatClampNeg)) ((xs (nI i + 2).toNatClampNeg)) ((xs (nI i + 3).toNatClampNeg))) kw_800 kw_801 kw_0 wh_put (n := 5) (by decide +kernel) rfl ⟨⟨rfl, rfl⟩, ⟨Nat.le_of_ble_eq_true rfl, Nat.le_of_ble_eq_true rfl⟩, (by dsimp only [room_1]; omega), (by dsimp only [room_1]; omega)⟩ rfl (Nat.le_of_ble_eq_true rfl) ⟨hW, _, _, fu⟩ dL_law_248) hS (fun q _ w => lwA.ge hAD huo hS.1 q w) hn (fun rk H locs hR hz hk hS => ?_)
  have hM := hM.wrap hC hW fu had hk
  obtain ⟨g1, ox, ov, hW, fu, hw9⟩ := hR
  have hz0 := Nat.le_trans hz0 hz
  refine lv_istore (pc := 251) (lv' := [(5, .int rk), (0, .ref b), (1, .ref (ad 15)), (2, .ref mo), (3, .ref uo), (4, .int (nI i))]) hx hb dL_law_251 hl (by decide) rfl (fun ls hl => ?_)
  refine lv_aload_n (pc := 253) hx hb dL_law_253 rfl (lv_at hl 3 rfl) ?_
  refine lv_aload_n (pc := 254) hx hb dL_law_254 rfl (lv_at hl 1 rfl) ?_
  refine lv_iload (pc := 255) hx hb dL_law_255 (lv_at hl 5 rfl) ?_
  refine lv_iconst (pc := 257) (v := 1) hx hb dL_law_257 (by decide) ?_
  refine lv_iadd (pc := 258) hx hb dL_law_258 ?_
  refine va_sld (pc := 259) hx hb hX hbl hbA hS (lw_in (j := 1) (by omega) hL rfl) dL_law_259 ?_
  refine lv_aload_n (pc := 260) hx hb dL_law_260 rfl (lv_at hl 1 rfl) ?_
  refine lv_iload (pc := 261) hx hb dL_law_261 (lv_at hl 5 rfl) ?_
  refine lv_iconst (pc := 263) (v := 2) hx hb dL_law_263 (by decide) ?_
  refine lv_iadd (pc := 264) hx hb dL_law_264 ?_
  refine va_sld (pc := 265) hx hb hX hbl hbA hS (lw_in (j := 2) (by omega) hL rfl) dL_law_265 ?_
  refine lv_aload_n (pc := 266) hx hb dL_law_266 rfl (lv_at hl 1 rfl) ?_
  refine lv_iload (pc := 267) hx hb dL_law_267 (lv_at hl 5 rfl) ?_
  refine lv_iconst (pc := 269) (v := 3) hx hb dL_law_269 (by decide) ?_
  refine lv_iadd (pc := 270) hx hb dL_law_270 ?_
  refine va_sld (pc := 271) hx hb hX hbl hbA hS (lw_in (j := 3) (by omega) hL rfl) dL_law_271 ?_
  have hz1 := hS.1
  have t_fu := fu.lt
  have hpl0 := hM.tl
  obtain ⟨fsm, fom⟩ := hM.obj
  have hPs : ∀ q, H.size ≤ q → PL M0 uo q := fun q h => ⟨Nat.le_trans hz0 h, by have := fu.lt; omega⟩
  refine k_i (pc := 272) (k_V E hC hS hA hl.1 (c1.recv hC fom rfl) rfl (c_X5_put l D tk s.heap.size sa H.size (PL M0 uo) hPN hPs mo n9 kn th tt bb eT eB oT oB pk ca rf vs ((xs (nI i + 1).toNatClampNeg)) ((xs (nI i + 2).toNatClampNeg)) ((xs (nI i + 3).toNatClampNeg))) kw_1241 kw_1242 kw_1243 kw_5 kw_1244 (n := 3) (by decide +kernel) rfl ⟨⟨rfl, rfl⟩, ⟨Nat.le_of_ble_eq_true rfl, Nat.le_of_ble_eq_true rfl⟩, (by dsimp only [room_1]; omega), (by dsimp only [room_1]; omega)⟩ rfl (Nat.le_of_ble_eq_true rfl) hM dL_law_272) hS (fun q _ w => hPN q w) hn (fun rm_ H locs hR hz hk hS => ?_)
  have hW := hW.kept (fun k hk9 => hk _ (hW k hk9).lt (fun z9 => Nat.not_le.mpr (had k hk9) z9.1))
  have fu := fu.kept (hk _ fu.lt (fun z9 => z9.2 rfl))
  obtain ⟨th1, tt1, bb1, rf1, hM, hm9⟩ := hR
  obtain ⟨e_th, e_n, hV⟩ := l_put hV hw9 hm9
  have hz0 := Nat.le_trans hz0 hz
  refine lv_istore (pc := 275) (lv' := [(6, .int rm_), (5, .int rk), (0, .ref b), (1, .ref (ad 15)), (2, .ref mo), (3, .ref uo), (4, .int (nI i))]) hx hb dL_law_275 hl (by decide) rfl (fun ls hl => ?_)
  refine lv_goto (pc := 277) (tgt := 1813) hx hb dL_law_277 (by decide) ?_
  refine W.widen (k := cells + 7000) (n := slots + 101000) (by omega) (by omega) ?_
  exact K _ _ _ hz0 hS ⟨_, _, _, _, _, _, _, _, _, _, _, _, _, _, _, _, hV, hW, fu, hM⟩ (lv_sub hl [2, 3, 4, 5, 6] rfl)
set_option maxHeartbeats 4000000 in
set_option maxRecDepth 100000 in
theorem lc_1 {p : Program} {l : Launch} {e : Env} {s : State} {m : MethodId} {below : List Frame} {meth : Method} {c : Code} {Q : State → Prop} {D : va_G} {tk : Nat → ClassId} {sa ad : Nat → Nat} {b L uo mo M0 : Nat} {xs : Nat → Int32} {w0 : Cond} (hlst : l.stackTraces = false) (E : CallFix p m c cL_law 7 s #[.ref b] (w0 :: GW) "BestratiosLaw") (hr : meth.sig.returnType = some .boolean) (hC : Ctx D tk s.heap.size sa s) (hN : NCx s) (hX : va_X b L xs s s.heap) (hbl : b < s.heap.size) (hAD : ADok s.heap.size ad) (huo : s.heap.size ≤ uo) (hM0 : s.heap.size ≤ M0) (had : ∀ k, k < 22 → ad k < M0) (hL : L ≤ 320) {i : Nat} (hi : i + 5 ≤ L) {cells slots : Nat} {H : Heap} {locs : List Loc} {ls : Array Slot} (hc9 : cells + 7000 ≤ 844753) (hs9 : slots + 101000 ≤ 6567222) (hz0 : M0 ≤ H.size) (hS : va_S (NA s.heap.size) s.heap H locs) (hB : LR D tk sa ad uo mo (PL M0 uo) H) (hl : lv_has ls 7 [(0, .ref b), (1, .ref (ad 15)), (2, .ref mo), (3, .ref uo), (4, .int (nI i))])
    (K : ∀ (H1 : Heap) (locs1 : List Loc) (ls1 : Array Slot), M0 ≤ H1.size → va_S (NA s.heap.size) s.heap H1 locs1 → LR D tk sa ad uo mo (PL M0 uo) H1 → lv_has ls1 7 [(0, .ref b), (1, .ref (ad 15)), (2, .ref mo), (3, .ref uo), (4, .int (nI i))] → W p l e room_1 s m #[.ref b] below meth c H1 locs1 (cells + 7000) (slots + 101000) Q (F0 m 1813 ls1 [])) : W p l e room_1 s m #[.ref b] below meth c H locs cells slots Q (F0 m 280 ls []) := by
  obtain ⟨hx, hb, -⟩ := id E
  have hbA : ¬ NA s.heap.size b := Nat.not_le.mpr hbl
  have hA : ∀ q, NA s.heap.size q → s.heap.size ≤ q := fun q h => h
  have hn : ∀ q, s.heap.size ≤ q → NA s.heap.size q := fun q h => h
  have hPN : ∀ q, PL M0 uo q → s.heap.size ≤ q := fun q h => Nat.le_trans hM0 h.1
  obtain ⟨g, kn, tt, bb, eT, eB, oT, oB, pk, ca, rf, vs, n9, th, ox, ov, hV, hW, fu, hM⟩ := hB
  refine lv_aload_n (pc := 280) hx hb dL_law_280 rfl (lv_at hl 1 rfl) ?_
  refine lv_aload_n (pc := 281) hx hb dL_law_281 rfl (lv_at hl 0 rfl) ?_
  refine lv_iload (pc := 282) hx hb dL_law_282 (lv_at hl 4 rfl) ?_
  refine lv_iconst (pc := 284) (v := 1) hx hb dL_law_284 (by decide) ?_
  refine lv_iadd (pc := 285) hx hb dL_law_285 ?_
  refine va_sld (pc := 286) hx hb hX hbl hbA hS (lw_in (j := 1) (by omega) hL rfl) dL_law_286 ?_
  refine lv_aload_n (pc := 287) hx hb dL_law_287 rfl (lv_at hl 0 rfl) ?_
  refine lv_iload (pc := 288) hx hb dL_law_288 (lv_at hl 4 rfl) ?_
  refine lv_iconst (pc := 290) (v := 2) hx hb dL_law_290 (by decide) ?_
  refine lv_iadd (pc := 291) hx hb dL_law_291 ?_
  refine va_sld (pc := 292) hx hb hX hbl hbA hS (lw_in (j := 2) (by omega) hL rfl) dL_law_292 ?_
  refine lv_aload_n (pc := 293) hx hb dL_law_293 rfl (lv_at hl 0 rfl) ?_
  refine lv_iload (pc := 294) hx hb dL_law_294 (lv_at hl 4 rfl) ?_
  refine lv_iconst (pc := 296) (v := 3) hx hb dL_law_296 (by decide) ?_
  refine lv_iadd (pc := 297) hx hb dL_law_297 ?_
  refine va_sld (pc := 298) hx hb hX hbl hbA hS (lw_in (j := 3) (by omega) hL rfl) dL_law_298 ?_
  refine lv_aload_n (pc := 299) hx hb dL_law_299 rfl (lv_at hl 3 rfl) ?_
  have hz1 := hS.1
  have hne := cwC hC hW (Or.inl fu.cl)
  refine k_i (pc := 300) (k_SW E hC hN hS hA hl.1 (c_L_putDecimal l hlst D tk s.heap.size sa hAD huo H.size g kn hV.ci ((xs (nI i + 1).toNatClampNeg)) ((xs (nI i + 2).toNatClampNeg)) ((xs (nI i + 3).toNatClampNeg))) kw_844 kw_845 kw_0 wh_putDecimal (n := 5) (by decide +kernel) rfl ⟨⟨rfl, rfl⟩, ⟨Nat.le_of_ble_eq_true rfl, Nat.le_of_ble_eq_true rfl⟩, (by dsimp only [room_1]; omega), (by dsimp only [room_1]; omega)⟩ rfl (Nat.le_of_ble_eq_true rfl) ⟨hW, _, _, fu⟩ dL_law_300) hS (fun q _ w => lwA.ge hAD huo hS.1 q w) hn (fun rk H locs hR hz hk hS => ?_)
  have hM := hM.wrap hC hW fu had hk
  obtain ⟨g1, ox, ov, hW, fu, hw9⟩ := hR
  have hz0 := Nat.le_trans hz0 hz
  refine lv_istore (pc := 303) (lv' := [(5, .int rk), (0, .ref b), (1, .ref (ad 15)), (2, .ref mo), (3, .ref uo), (4, .int (nI i))]) hx hb dL_law_303 hl (by decide) rfl (fun ls hl => ?_)
  refine lv_aload_n (pc := 305) hx hb dL_law_305 rfl (lv_at hl 3 rfl) ?_
  refine lv_aload_n (pc := 306) hx hb dL_law_306 rfl (lv_at hl 1 rfl) ?_
  refine lv_iload (pc := 307) hx hb dL_law_307 (lv_at hl 5 rfl) ?_
  refine lv_iconst (pc := 309) (v := 1) hx hb dL_law_309 (by decide) ?_
  refine lv_iadd (pc := 310) hx hb dL_law_310 ?_
  refine va_sld (pc := 311) hx hb hX hbl hbA hS (lw_in (j := 1) (by omega) hL rfl) dL_law_311 ?_
  refine lv_aload_n (pc := 312) hx hb dL_law_312 rfl (lv_at hl 1 rfl) ?_
  refine lv_iload (pc := 313) hx hb dL_law_313 (lv_at hl 5 rfl) ?_
  refine lv_iconst (pc := 315) (v := 2) hx hb dL_law_315 (by decide) ?_
  refine lv_iadd (pc := 316) hx hb dL_law_316 ?_
  refine va_sld (pc := 317) hx hb hX hbl hbA hS (lw_in (j := 2) (by omega) hL rfl) dL_law_317 ?_
  refine lv_aload_n (pc := 318) hx hb dL_law_318 rfl (lv_at hl 1 rfl) ?_
  refine lv_iload (pc := 319) hx hb dL_law_319 (lv_at hl 5 rfl) ?_
  refine lv_iconst (pc := 321) (v := 3) hx hb dL_law_321 (by decide) ?_
  refine lv_iadd (pc := 322) hx hb dL_law_322 ?_
  refine va_sld (pc := 323) hx hb hX hbl hbA hS (lw_in (j := 3) (by omega) hL rfl) dL_law_323 ?_
  have hz1 := hS.1
  have t_fu := fu.lt
  have hpl0 := hM.tl
  obtain ⟨fsm, fom⟩ := hM.obj
  have hPs : ∀ q, H.size ≤ q → PL M0 uo q := fun q h => ⟨Nat.le_trans hz0 h, by have := fu.lt; omega⟩
  refine k_i (pc := 324) (k_V E hC hS hA hl.1 (c1.recv hC fom rfl) rfl (c_X5_putDecimal l D tk s.heap.size sa H.size (PL M0 uo) hPN hPs mo n9 kn th tt bb eT eB oT oB pk ca rf vs ((xs (nI i + 1).toNatClampNeg)) ((xs (nI i + 2).toNatClampNeg)) ((xs (nI i + 3).toNatClampNeg))) kw_1274 kw_1275 kw_1276 kw_5 kw_1277 (n := 3) (by decide +kernel) rfl ⟨⟨rfl, rfl⟩, ⟨Nat.le_of_ble_eq_true rfl, Nat.le_of_ble_eq_true rfl⟩, (by dsimp only [room_1]; omega), (by dsimp only [room_1]; omega)⟩ rfl (Nat.le_of_ble_eq_true rfl) hM dL_law_324) hS (fun q _ w => hPN q w) hn (fun rm_ H locs hR hz hk hS => ?_)
  have hW := hW.kept (fun k hk9 => hk _ (hW k hk9).lt (fun z9 => Nat.not_le.mpr (had k hk9) z9.1))
  have fu := fu.kept (hk _ fu.lt (fun z9 => z9.2 rfl))
  obtain ⟨th1, tt1, bb1, rf1, hM, hm9⟩ := hR
  obtain ⟨e_th, e_n, hV⟩ := l_putDecimal hV hw9 hm9
  have hz0 := Nat.le_trans hz0 hz
  refine lv_istore (pc := 327) (lv' := [(6, .int rm_), (5, .int rk), (0, .ref b), (1, .ref (ad 15)), (2, .ref mo), (3, .ref uo), (4, .int (nI i))]) hx hb dL_law_327 hl (by decide) rfl (fun ls hl => ?_)
  refine lv_goto (pc := 329) (tgt := 1813) hx hb dL_law_329 (by decide) ?_
  refine W.widen (k := cells + 7000) (n := slots + 101000) (by omega) (by omega) ?_
  exact K _ _ _ hz0 hS ⟨_, _, _, _, _, _, _, _, _, _, _, _, _, _, _, _, hV, hW, fu, hM⟩ (lv_sub hl [2, 3, 4, 5, 6] rfl)
set_option maxHeartbeats 4000000 in
set_option maxRecDepth 100000 in
theorem lc_2 {p : Program} {l : Launch} {e : Env} {s : State} {m : MethodId} {below : List Frame} {meth : Method} {c : Code} {Q : State → Prop} {D : va_G} {tk : Nat → ClassId} {sa ad : Nat → Nat} {b L uo mo M0 : Nat} {xs : Nat → Int32} {w0 : Cond} (hlst : l.stackTraces = false) (E : CallFix p m c cL_law 7 s #[.ref b] (w0 :: GW) "BestratiosLaw") (hr : meth.sig.returnType = some .boolean) (hC : Ctx D tk s.heap.size sa s) (hN : NCx s) (hX : va_X b L xs s s.heap) (hbl : b < s.heap.size) (hAD : ADok s.heap.size ad) (huo : s.heap.size ≤ uo) (hM0 : s.heap.size ≤ M0) (had : ∀ k, k < 22 → ad k < M0) (hL : L ≤ 320) {i : Nat} (hi : i + 5 ≤ L) {cells slots : Nat} {H : Heap} {locs : List Loc} {ls : Array Slot} (hc9 : cells + 7000 ≤ 844753) (hs9 : slots + 101000 ≤ 6567222) (hz0 : M0 ≤ H.size) (hS : va_S (NA s.heap.size) s.heap H locs) (hB : LR D tk sa ad uo mo (PL M0 uo) H) (hl : lv_has ls 7 [(0, .ref b), (1, .ref (ad 15)), (2, .ref mo), (3, .ref uo), (4, .int (nI i))])
    (K : ∀ (H1 : Heap) (locs1 : List Loc) (ls1 : Array Slot), M0 ≤ H1.size → va_S (NA s.heap.size) s.heap H1 locs1 → LR D tk sa ad uo mo (PL M0 uo) H1 → lv_has ls1 7 [(0, .ref b), (1, .ref (ad 15)), (2, .ref mo), (3, .ref uo), (4, .int (nI i))] → W p l e room_1 s m #[.ref b] below meth c H1 locs1 (cells + 7000) (slots + 101000) Q (F0 m 1813 ls1 [])) : W p l e room_1 s m #[.ref b] below meth c H locs cells slots Q (F0 m 332 ls []) := by
  obtain ⟨hx, hb, -⟩ := id E
  have hbA : ¬ NA s.heap.size b := Nat.not_le.mpr hbl
  have hA : ∀ q, NA s.heap.size q → s.heap.size ≤ q := fun q h => h
  have hn : ∀ q, s.heap.size ≤ q → NA s.heap.size q := fun q h => h
  have hPN : ∀ q, PL M0 uo q → s.heap.size ≤ q := fun q h => Nat.le_trans hM0 h.1
  obtain ⟨g, kn, tt, bb, eT, eB, oT, oB, pk, ca, rf, vs, n9, th, ox, ov, hV, hW, fu, hM⟩ := hB
  refine lv_aload_n (pc := 332) hx hb dL_law_332 rfl (lv_at hl 1 rfl) ?_
  refine lv_aload_n (pc := 333) hx hb dL_law_333 rfl (lv_at hl 0 rfl) ?_
  refine lv_iload (pc := 334) hx hb dL_law_334 (lv_at hl 4 rfl) ?_
  refine lv_iconst (pc := 336) (v := 1) hx hb dL_law_336 (by decide) ?_
  refine lv_iadd (pc := 337) hx hb dL_law_337 ?_
  refine va_sld (pc := 338) hx hb hX hbl hbA hS (lw_in (j := 1) (by omega) hL rfl) dL_law_338 ?_
  refine lv_aload_n (pc := 339) hx hb dL_law_339 rfl (lv_at hl 0 rfl) ?_
  refine lv_iload (pc := 340) hx hb dL_law_340 (lv_at hl 4 rfl) ?_
  refine lv_iconst (pc := 342) (v := 2) hx hb dL_law_342 (by decide) ?_
  refine lv_iadd (pc := 343) hx hb dL_law_343 ?_
  refine va_sld (pc := 344) hx hb hX hbl hbA hS (lw_in (j := 2) (by omega) hL rfl) dL_law_344 ?_
  refine lv_aload_n (pc := 345) hx hb dL_law_345 rfl (lv_at hl 3 rfl) ?_
  have hz1 := hS.1
  have hne := cwC hC hW (Or.inl fu.cl)
  refine k_i (pc := 346) (k_SW E hC hN hS hA hl.1 (c_L_copy l hlst D tk s.heap.size sa hAD huo H.size g kn hV.ci ((xs (nI i + 1).toNatClampNeg)) ((xs (nI i + 2).toNatClampNeg))) kw_855 kw_856 kw_0 wh_copy (n := 4) (by decide +kernel) rfl ⟨⟨rfl, rfl⟩, ⟨Nat.le_of_ble_eq_true rfl, Nat.le_of_ble_eq_true rfl⟩, (by dsimp only [room_1]; omega), (by dsimp only [room_1]; omega)⟩ rfl (Nat.le_of_ble_eq_true rfl) ⟨hW, _, _, fu⟩ dL_law_346) hS (fun q _ w => lwA.ge hAD huo hS.1 q w) hn (fun rk H locs hR hz hk hS => ?_)
  have hM := hM.wrap hC hW fu had hk
  obtain ⟨g1, ox, ov, hW, fu, hw9⟩ := hR
  have hz0 := Nat.le_trans hz0 hz
  refine lv_istore (pc := 349) (lv' := [(5, .int rk), (0, .ref b), (1, .ref (ad 15)), (2, .ref mo), (3, .ref uo), (4, .int (nI i))]) hx hb dL_law_349 hl (by decide) rfl (fun ls hl => ?_)
  refine lv_aload_n (pc := 351) hx hb dL_law_351 rfl (lv_at hl 3 rfl) ?_
  refine lv_aload_n (pc := 352) hx hb dL_law_352 rfl (lv_at hl 1 rfl) ?_
  refine lv_iload (pc := 353) hx hb dL_law_353 (lv_at hl 5 rfl) ?_
  refine lv_iconst (pc := 355) (v := 1) hx hb dL_law_355 (by decide) ?_
  refine lv_iadd (pc := 356) hx hb dL_law_356 ?_
  refine va_sld (pc := 357) hx hb hX hbl hbA hS (lw_in (j := 1) (by omega) hL rfl) dL_law_357 ?_
  refine lv_aload_n (pc := 358) hx hb dL_law_358 rfl (lv_at hl 1 rfl) ?_
  refine lv_iload (pc := 359) hx hb dL_law_359 (lv_at hl 5 rfl) ?_
  refine lv_iconst (pc := 361) (v := 2) hx hb dL_law_361 (by decide) ?_
  refine lv_iadd (pc := 362) hx hb dL_law_362 ?_
  refine va_sld (pc := 363) hx hb hX hbl hbA hS (lw_in (j := 2) (by omega) hL rfl) dL_law_363 ?_
  have hz1 := hS.1
  have t_fu := fu.lt
  have hpl0 := hM.tl
  obtain ⟨fsm, fom⟩ := hM.obj
  have hPs : ∀ q, H.size ≤ q → PL M0 uo q := fun q h => ⟨Nat.le_trans hz0 h, by have := fu.lt; omega⟩
  refine k_i (pc := 364) (k_V E hC hS hA hl.1 (c1.recv hC fom rfl) rfl (c_X5_copy l D tk s.heap.size sa H.size (PL M0 uo) hPN hPs mo n9 kn th tt bb eT eB oT oB pk ca rf vs ((xs (nI i + 1).toNatClampNeg)) ((xs (nI i + 2).toNatClampNeg))) kw_1282 kw_1283 kw_1284 kw_5 kw_1285 (n := 2) (by decide +kernel) rfl ⟨⟨rfl, rfl⟩, ⟨Nat.le_of_ble_eq_true rfl, Nat.le_of_ble_eq_true rfl⟩, (by dsimp only [room_1]; omega), (by dsimp only [room_1]; omega)⟩ rfl (Nat.le_of_ble_eq_true rfl) hM dL_law_364) hS (fun q _ w => hPN q w) hn (fun rm_ H locs hR hz hk hS => ?_)
  have hW := hW.kept (fun k hk9 => hk _ (hW k hk9).lt (fun z9 => Nat.not_le.mpr (had k hk9) z9.1))
  have fu := fu.kept (hk _ fu.lt (fun z9 => z9.2 rfl))
  obtain ⟨th1, tt1, bb1, rf1, hM, hm9⟩ := hR
  obtain ⟨e_th, e_n, hV⟩ := l_copy hV hw9 hm9
  have hz0 := Nat.le_trans hz0 hz
  refine lv_istore (pc := 367) (lv' := [(6, .int rm_), (5, .int rk), (0, .ref b), (1, .ref (ad 15)), (2, .ref mo), (3, .ref uo), (4, .int (nI i))]) hx hb dL_law_367 hl (by decide) rfl (fun ls hl => ?_)
  refine lv_aload_n (pc := 369) hx hb dL_law_369 rfl (lv_at hl 4 rfl) ?_
  have hz1 := hS.1
  obtain ⟨fsm, fom⟩ := hM.obj
  refine k_i (pc := 370) (k_V E hC hS hA hl.1 (c1.recv hC fom rfl) rfl (c_X5_thrown l D tk s.heap.size sa H.size (PL M0 uo) hPN mo _ _ _ _ _ _ _ _ _ _ _ _ _) kw_1237 kw_1238 kw_1239 kw_5 kw_1240 (n := 0) (by decide +kernel) rfl ⟨⟨rfl, rfl⟩, ⟨Nat.le_of_ble_eq_true rfl, Nat.le_of_ble_eq_true rfl⟩, (by dsimp only [room_1]; omega), (by dsimp only [room_1]; omega)⟩ rfl (Nat.le_of_ble_eq_true rfl) hM dL_law_370) hS (fun q z w => absurd w (Nat.not_le.mpr z)) hn (fun rt_ H locs hR hz hk hS => ?_)
  have hM := hM.new hk
  have hW := hW.new hk
  have fu := fu.new hk
  have e_t : rt_ = _ := hR
  have hz0 := Nat.le_trans hz0 hz
  refine lv_iload (pc := 373) hx hb dL_law_373 (lv_at hl 1 rfl) ?_
  refine lv_icmp_eq (pc := 375) (tgt := 380) hx hb dL_law_375 (by decide) (fun _ => ?_) (fun h9 => absurd (e_t.trans e_th) h9)
  refine lv_iload (pc := 380) hx hb dL_law_380 (lv_at hl 1 rfl) ?_
  refine lv_if_ne (pc := 382) (tgt := 398) hx hb dL_law_382 (by decide) (fun c_z => ?_) (fun c_z => ?_)
  · refine lv_goto (pc := 398) (tgt := 1813) hx hb dL_law_398 (by decide) ?_
    refine W.widen (k := cells + 7000) (n := slots + 101000) (by omega) (by omega) ?_
    exact K _ _ _ hz0 hS ⟨_, _, _, _, _, _, _, _, _, _, _, _, _, _, _, _, hV, hW, fu, hM⟩ (lv_sub hl [2, 3, 4, 5, 6] rfl)
  · refine lv_aload_n (pc := 385) hx hb dL_law_385 rfl (lv_at hl 5 rfl) ?_
    refine r_getN (pc := 386) "BestratiosLaw" E hC fu 0 (v := .long ox) rfl rfl (by decide) uX4 kn_793 (fun _ h => h) dL_law_386 ?_
    refine lv_iload (pc := 389) hx hb dL_law_389 (lv_at hl 0 rfl) ?_
    refine lv_i2l (pc := 391) (v := rm_.toInt64) hx hb dL_law_391 rfl ?_
    refine r_lceq (pc := 392) (tgt := 398) E dL_law_392 dL_law_393 (by decide) (fun _ => ?_) (fun h9 => absurd (e_n c_z) h9)
    refine lv_goto (pc := 398) (tgt := 1813) hx hb dL_law_398 (by decide) ?_
    refine W.widen (k := cells + 7000) (n := slots + 101000) (by omega) (by omega) ?_
    exact K _ _ _ hz0 hS ⟨_, _, _, _, _, _, _, _, _, _, _, _, _, _, _, _, hV, hW, fu, hM⟩ (lv_sub hl [2, 3, 4, 5, 6] rfl)
set_option maxHeartbeats 4000000 in
set_option maxRecDepth 100000 in
theorem lc_3 {p : Program} {l : Launch} {e : Env} {s : State} {m : MethodId} {below : List Frame} {meth : Method} {c : Code} {Q : State → Prop} {D : va_G} {tk : Nat → ClassId} {sa ad : Nat → Nat} {b L uo mo M0 : Nat} {xs : Nat → Int32} {w0 : Cond} (hlst : l.stackTraces = false) (E : CallFix p m c cL_law 7 s #[.ref b] (w0 :: GW) "BestratiosLaw") (hr : meth.sig.returnType = some .boolean) (hC : Ctx D tk s.heap.size sa s) (hN : NCx s) (hX : va_X b L xs s s.heap) (hbl : b < s.heap.size) (hAD : ADok s.heap.size ad) (huo : s.heap.size ≤ uo) (hM0 : s.heap.size ≤ M0) (had : ∀ k, k < 22 → ad k < M0) (hL : L ≤ 320) {i : Nat} (hi : i + 5 ≤ L) {cells slots : Nat} {H : Heap} {locs : List Loc} {ls : Array Slot} (hc9 : cells + 7000 ≤ 844753) (hs9 : slots + 101000 ≤ 6567222) (hz0 : M0 ≤ H.size) (hS : va_S (NA s.heap.size) s.heap H locs) (hB : LR D tk sa ad uo mo (PL M0 uo) H) (hl : lv_has ls 7 [(0, .ref b), (1, .ref (ad 15)), (2, .ref mo), (3, .ref uo), (4, .int (nI i))])
    (K : ∀ (H1 : Heap) (locs1 : List Loc) (ls1 : Array Slot), M0 ≤ H1.size → va_S (NA s.heap.size) s.heap H1 locs1 → LR D tk sa ad uo mo (PL M0 uo) H1 → lv_has ls1 7 [(0, .ref b), (1, .ref (ad 15)), (2, .ref mo), (3, .ref uo), (4, .int (nI i))] → W p l e room_1 s m #[.ref b] below meth c H1 locs1 (cells + 7000) (slots + 101000) Q (F0 m 1813 ls1 [])) : W p l e room_1 s m #[.ref b] below meth c H locs cells slots Q (F0 m 401 ls []) := by
  obtain ⟨hx, hb, -⟩ := id E
  have hbA : ¬ NA s.heap.size b := Nat.not_le.mpr hbl
  have hA : ∀ q, NA s.heap.size q → s.heap.size ≤ q := fun q h => h
  have hn : ∀ q, s.heap.size ≤ q → NA s.heap.size q := fun q h => h
  have hPN : ∀ q, PL M0 uo q → s.heap.size ≤ q := fun q h => Nat.le_trans hM0 h.1
  obtain ⟨g, kn, tt, bb, eT, eB, oT, oB, pk, ca, rf, vs, n9, th, ox, ov, hV, hW, fu, hM⟩ := hB
  refine lv_aload_n (pc := 401) hx hb dL_law_401 rfl (lv_at hl 1 rfl) ?_
  refine lv_aload_n (pc := 402) hx hb dL_law_402 rfl (lv_at hl 0 rfl) ?_
  refine lv_iload (pc := 403) hx hb dL_law_403 (lv_at hl 4 rfl) ?_
  refine lv_iconst (pc := 405) (v := 1) hx hb dL_law_405 (by decide) ?_
  refine lv_iadd (pc := 406) hx hb dL_law_406 ?_
  refine va_sld (pc := 407) hx hb hX hbl hbA hS (lw_in (j := 1) (by omega) hL rfl) dL_law_407 ?_
  refine lv_aload_n (pc := 408) hx hb dL_law_408 rfl (lv_at hl 0 rfl) ?_
  refine lv_iload (pc := 409) hx hb dL_law_409 (lv_at hl 4 rfl) ?_
  refine lv_iconst (pc := 411) (v := 2) hx hb dL_law_411 (by decide) ?_
  refine lv_iadd (pc := 412) hx hb dL_law_412 ?_
  refine va_sld (pc := 413) hx hb hX hbl hbA hS (lw_in (j := 2) (by omega) hL rfl) dL_law_413 ?_
  refine lv_aload_n (pc := 414) hx hb dL_law_414 rfl (lv_at hl 3 rfl) ?_
  have hz1 := hS.1
  have hne := cwC hC hW (Or.inl fu.cl)
  refine k_i (pc := 415) (k_SW E hC hN hS hA hl.1 (c_L_swap l hlst D tk s.heap.size sa hAD huo H.size g kn hV.ci ((xs (nI i + 1).toNatClampNeg)) ((xs (nI i + 2).toNatClampNeg))) kw_862 kw_863 kw_0 wh_swap (n := 4) (by decide +kernel) rfl ⟨⟨rfl, rfl⟩, ⟨Nat.le_of_ble_eq_true rfl, Nat.le_of_ble_eq_true rfl⟩, (by dsimp only [room_1]; omega), (by dsimp only [room_1]; omega)⟩ rfl (Nat.le_of_ble_eq_true rfl) ⟨hW, _, _, fu⟩ dL_law_415) hS (fun q _ w => lwA.ge hAD huo hS.1 q w) hn (fun rk H locs hR hz hk hS => ?_)
  have hM := hM.wrap hC hW fu had hk
  obtain ⟨g1, ox, ov, hW, fu, hw9⟩ := hR
  have hz0 := Nat.le_trans hz0 hz
  refine lv_istore (pc := 418) (lv' := [(5, .int rk), (0, .ref b), (1, .ref (ad 15)), (2, .ref mo), (3, .ref uo), (4, .int (nI i))]) hx hb dL_law_418 hl (by decide) rfl (fun ls hl => ?_)
  refine lv_aload_n (pc := 420) hx hb dL_law_420 rfl (lv_at hl 3 rfl) ?_
  refine lv_aload_n (pc := 421) hx hb dL_law_421 rfl (lv_at hl 1 rfl) ?_
  refine lv_iload (pc := 422) hx hb dL_law_422 (lv_at hl 5 rfl) ?_
  refine lv_iconst (pc := 424) (v := 1) hx hb dL_law_424 (by decide) ?_
  refine lv_iadd (pc := 425) hx hb dL_law_425 ?_
  refine va_sld (pc := 426) hx hb hX hbl hbA hS (lw_in (j := 1) (by omega) hL rfl) dL_law_426 ?_
  refine lv_aload_n (pc := 427) hx hb dL_law_427 rfl (lv_at hl 1 rfl) ?_
  refine lv_iload (pc := 428) hx hb dL_law_428 (lv_at hl 5 rfl) ?_
  refine lv_iconst (pc := 430) (v := 2) hx hb dL_law_430 (by decide) ?_
  refine lv_iadd (pc := 431) hx hb dL_law_431 ?_
  refine va_sld (pc := 432) hx hb hX hbl hbA hS (lw_in (j := 2) (by omega) hL rfl) dL_law_432 ?_
  have hz1 := hS.1
  have t_fu := fu.lt
  have hpl0 := hM.tl
  obtain ⟨fsm, fom⟩ := hM.obj
  have hPs : ∀ q, H.size ≤ q → PL M0 uo q := fun q h => ⟨Nat.le_trans hz0 h, by have := fu.lt; omega⟩
  refine k_i (pc := 433) (k_V E hC hS hA hl.1 (c1.recv hC fom rfl) rfl (c_X5_swap l D tk s.heap.size sa H.size (PL M0 uo) hPN hPs mo n9 kn th tt bb eT eB oT oB pk ca rf vs ((xs (nI i + 1).toNatClampNeg)) ((xs (nI i + 2).toNatClampNeg))) kw_1289 kw_1290 kw_1291 kw_5 kw_1292 (n := 2) (by decide +kernel) rfl ⟨⟨rfl, rfl⟩, ⟨Nat.le_of_ble_eq_true rfl, Nat.le_of_ble_eq_true rfl⟩, (by dsimp only [room_1]; omega), (by dsimp only [room_1]; omega)⟩ rfl (Nat.le_of_ble_eq_true rfl) hM dL_law_433) hS (fun q _ w => hPN q w) hn (fun rm_ H locs hR hz hk hS => ?_)
  have hW := hW.kept (fun k hk9 => hk _ (hW k hk9).lt (fun z9 => Nat.not_le.mpr (had k hk9) z9.1))
  have fu := fu.kept (hk _ fu.lt (fun z9 => z9.2 rfl))
  obtain ⟨th1, tt1, bb1, hM, hm9⟩ := hR
  obtain ⟨e_th, e_n, hV⟩ := l_swap hV hw9 hm9
  have hz0 := Nat.le_trans hz0 hz
  refine lv_istore (pc := 436) (lv' := [(6, .int rm_), (5, .int rk), (0, .ref b), (1, .ref (ad 15)), (2, .ref mo), (3, .ref uo), (4, .int (nI i))]) hx hb dL_law_436 hl (by decide) rfl (fun ls hl => ?_)
  refine lv_goto (pc := 438) (tgt := 1813) hx hb dL_law_438 (by decide) ?_
  refine W.widen (k := cells + 7000) (n := slots + 101000) (by omega) (by omega) ?_
  exact K _ _ _ hz0 hS ⟨_, _, _, _, _, _, _, _, _, _, _, _, _, _, _, _, hV, hW, fu, hM⟩ (lv_sub hl [2, 3, 4, 5, 6] rfl)
set_option maxHeartbeats 4000000 in
set_option maxRecDepth 100000 in
theorem lc_4 {p : Program} {l : Launch} {e : Env} {s : State} {m : MethodId} {below : List Frame} {meth : Method} {c : Code} {Q : State → Prop} {D : va_G} {tk : Nat → ClassId} {sa ad : Nat → Nat} {b L uo mo M0 : Nat} {xs : Nat → Int32} {w0 : Cond} (hlst : l.stackTraces = false) (E : CallFix p m c cL_law 7 s #[.ref b] (w0 :: GW) "BestratiosLaw") (hr : meth.sig.returnType = some .boolean) (hC : Ctx D tk s.heap.size sa s) (hN : NCx s) (hX : va_X b L xs s s.heap) (hbl : b < s.heap.size) (hAD : ADok s.heap.size ad) (huo : s.heap.size ≤ uo) (hM0 : s.heap.size ≤ M0) (had : ∀ k, k < 22 → ad k < M0) (hL : L ≤ 320) {i : Nat} (hi : i + 5 ≤ L) {cells slots : Nat} {H : Heap} {locs : List Loc} {ls : Array Slot} (hc9 : cells + 7000 ≤ 844753) (hs9 : slots + 101000 ≤ 6567222) (hz0 : M0 ≤ H.size) (hS : va_S (NA s.heap.size) s.heap H locs) (hB : LR D tk sa ad uo mo (PL M0 uo) H) (hl : lv_has ls 7 [(0, .ref b), (1, .ref (ad 15)), (2, .ref mo), (3, .ref uo), (4, .int (nI i))])
    (K : ∀ (H1 : Heap) (locs1 : List Loc) (ls1 : Array Slot), M0 ≤ H1.size → va_S (NA s.heap.size) s.heap H1 locs1 → LR D tk sa ad uo mo (PL M0 uo) H1 → lv_has ls1 7 [(0, .ref b), (1, .ref (ad 15)), (2, .ref mo), (3, .ref uo), (4, .int (nI i))] → W p l e room_1 s m #[.ref b] below meth c H1 locs1 (cells + 7000) (slots + 101000) Q (F0 m 1813 ls1 [])) : W p l e room_1 s m #[.ref b] below meth c H locs cells slots Q (F0 m 441 ls []) := by
  obtain ⟨hx, hb, -⟩ := id E
  have hbA : ¬ NA s.heap.size b := Nat.not_le.mpr hbl
  have hA : ∀ q, NA s.heap.size q → s.heap.size ≤ q := fun q h => h
  have hn : ∀ q, s.heap.size ≤ q → NA s.heap.size q := fun q h => h
  have hPN : ∀ q, PL M0 uo q → s.heap.size ≤ q := fun q h => Nat.le_trans hM0 h.1
  obtain ⟨g, kn, tt, bb, eT, eB, oT, oB, pk, ca, rf, vs, n9, th, ox, ov, hV, hW, fu, hM⟩ := hB
  refine lv_aload_n (pc := 441) hx hb dL_law_441 rfl (lv_at hl 1 rfl) ?_
  refine lv_aload_n (pc := 442) hx hb dL_law_442 rfl (lv_at hl 0 rfl) ?_
  refine lv_iload (pc := 443) hx hb dL_law_443 (lv_at hl 4 rfl) ?_
  refine lv_iconst (pc := 445) (v := 1) hx hb dL_law_445 (by decide) ?_
  refine lv_iadd (pc := 446) hx hb dL_law_446 ?_
  refine va_sld (pc := 447) hx hb hX hbl hbA hS (lw_in (j := 1) (by omega) hL rfl) dL_law_447 ?_
  refine lv_aload_n (pc := 448) hx hb dL_law_448 rfl (lv_at hl 0 rfl) ?_
  refine lv_iload (pc := 449) hx hb dL_law_449 (lv_at hl 4 rfl) ?_
  refine lv_iconst (pc := 451) (v := 2) hx hb dL_law_451 (by decide) ?_
  refine lv_iadd (pc := 452) hx hb dL_law_452 ?_
  refine va_sld (pc := 453) hx hb hX hbl hbA hS (lw_in (j := 2) (by omega) hL rfl) dL_law_453 ?_
  refine lv_aload_n (pc := 454) hx hb dL_law_454 rfl (lv_at hl 0 rfl) ?_
  refine lv_iload (pc := 455) hx hb dL_law_455 (lv_at hl 4 rfl) ?_
  refine lv_iconst (pc := 457) (v := 3) hx hb dL_law_457 (by decide) ?_
  refine lv_iadd (pc := 458) hx hb dL_law_458 ?_
  refine va_sld (pc := 459) hx hb hX hbl hbA hS (lw_in (j := 3) (by omega) hL rfl) dL_law_459 ?_
  refine lv_aload_n (pc := 460) hx hb dL_law_460 rfl (lv_at hl 3 rfl) ?_
  have hz1 := hS.1
  have hne := cwC hC hW (Or.inl fu.cl)
  refine k_i (pc := 461) (k_SW E hC hN hS hA hl.1 (c_L_plus l hlst D tk s.heap.size sa hAD huo H.size g kn hV.ci ((xs (nI i + 1).toNatClampNeg)) ((xs (nI i + 2).toNatClampNeg)) ((xs (nI i + 3).toNatClampNeg))) kw_869 kw_870 kw_0 wh_plus (n := 5) (by decide +kernel) rfl ⟨⟨rfl, rfl⟩, ⟨Nat.le_of_ble_eq_true rfl, Nat.le_of_ble_eq_true rfl⟩, (by dsimp only [room_1]; omega), (by dsimp only [room_1]; omega)⟩ rfl (Nat.le_of_ble_eq_true rfl) ⟨hW, _, _, fu⟩ dL_law_461) hS (fun q _ w => lwA.ge hAD huo hS.1 q w) hn (fun rk H locs hR hz hk hS => ?_)
  have hM := hM.wrap hC hW fu had hk
  obtain ⟨g1, ox, ov, hW, fu, hw9⟩ := hR
  have hz0 := Nat.le_trans hz0 hz
  refine lv_istore (pc := 464) (lv' := [(5, .int rk), (0, .ref b), (1, .ref (ad 15)), (2, .ref mo), (3, .ref uo), (4, .int (nI i))]) hx hb dL_law_464 hl (by decide) rfl (fun ls hl => ?_)
  refine lv_aload_n (pc := 466) hx hb dL_law_466 rfl (lv_at hl 3 rfl) ?_
  refine lv_aload_n (pc := 467) hx hb dL_law_467 rfl (lv_at hl 1 rfl) ?_
  refine lv_iload (pc := 468) hx hb dL_law_468 (lv_at hl 5 rfl) ?_
  refine lv_iconst (pc := 470) (v := 1) hx hb dL_law_470 (by decide) ?_
  refine lv_iadd (pc := 471) hx hb dL_law_471 ?_
  refine va_sld (pc := 472) hx hb hX hbl hbA hS (lw_in (j := 1) (by omega) hL rfl) dL_law_472 ?_
  refine lv_aload_n (pc := 473) hx hb dL_law_473 rfl (lv_at hl 1 rfl) ?_
  refine lv_iload (pc := 474) hx hb dL_law_474 (lv_at hl 5 rfl) ?_
  refine lv_iconst (pc := 476) (v := 2) hx hb dL_law_476 (by decide) ?_
  refine lv_iadd (pc := 477) hx hb dL_law_477 ?_
  refine va_sld (pc := 478) hx hb hX hbl hbA hS (lw_in (j := 2) (by omega) hL rfl) dL_law_478 ?_
  refine lv_aload_n (pc := 479) hx hb dL_law_479 rfl (lv_at hl 1 rfl) ?_
  refine lv_iload (pc := 480) hx hb dL_law_480 (lv_at hl 5 rfl) ?_
  refine lv_iconst (pc := 482) (v := 3) hx hb dL_law_482 (by decide) ?_
  refine lv_iadd (pc := 483) hx hb dL_law_483 ?_
  refine va_sld (pc := 484) hx hb hX hbl hbA hS (lw_in (j := 3) (by omega) hL rfl) dL_law_484 ?_
  have hz1 := hS.1
  have t_fu := fu.lt
  have hpl0 := hM.tl
  obtain ⟨fsm, fom⟩ := hM.obj
  have hPs : ∀ q, H.size ≤ q → PL M0 uo q := fun q h => ⟨Nat.le_trans hz0 h, by have := fu.lt; omega⟩
  refine k_i (pc := 485) (k_V E hC hS hA hl.1 (c1.recv hC fom rfl) rfl (c_X5_plus l D tk s.heap.size sa H.size (PL M0 uo) hPN hPs mo n9 kn th tt bb eT eB oT oB pk ca rf vs ((xs (nI i + 1).toNatClampNeg)) ((xs (nI i + 2).toNatClampNeg)) ((xs (nI i + 3).toNatClampNeg))) kw_1293 kw_1294 kw_1295 kw_5 kw_1296 (n := 3) (by decide +kernel) rfl ⟨⟨rfl, rfl⟩, ⟨Nat.le_of_ble_eq_true rfl, Nat.le_of_ble_eq_true rfl⟩, (by dsimp only [room_1]; omega), (by dsimp only [room_1]; omega)⟩ rfl (Nat.le_of_ble_eq_true rfl) hM dL_law_485) hS (fun q _ w => hPN q w) hn (fun rm_ H locs hR hz hk hS => ?_)
  have hW := hW.kept (fun k hk9 => hk _ (hW k hk9).lt (fun z9 => Nat.not_le.mpr (had k hk9) z9.1))
  have fu := fu.kept (hk _ fu.lt (fun z9 => z9.2 rfl))
  obtain ⟨th1, tt1, bb1, rf1, hM, hm9⟩ := hR
  obtain ⟨e_th, e_n, hV⟩ := l_plus hV hw9 hm9
  have hz0 := Nat.le_trans hz0 hz
  refine lv_istore (pc := 488) (lv' := [(6, .int rm_), (5, .int rk), (0, .ref b), (1, .ref (ad 15)), (2, .ref mo), (3, .ref uo), (4, .int (nI i))]) hx hb dL_law_488 hl (by decide) rfl (fun ls hl => ?_)
  refine lv_goto (pc := 490) (tgt := 1813) hx hb dL_law_490 (by decide) ?_
  refine W.widen (k := cells + 7000) (n := slots + 101000) (by omega) (by omega) ?_
  exact K _ _ _ hz0 hS ⟨_, _, _, _, _, _, _, _, _, _, _, _, _, _, _, _, hV, hW, fu, hM⟩ (lv_sub hl [2, 3, 4, 5, 6] rfl)
set_option maxHeartbeats 4000000 in
set_option maxRecDepth 100000 in
theorem lc_5 {p : Program} {l : Launch} {e : Env} {s : State} {m : MethodId} {below : List Frame} {meth : Method} {c : Code} {Q : State → Prop} {D : va_G} {tk : Nat → ClassId} {sa ad : Nat → Nat} {b L uo mo M0 : Nat} {xs : Nat → Int32} {w0 : Cond} (hlst : l.stackTraces = false) (E : CallFix p m c cL_law 7 s #[.ref b] (w0 :: GW) "BestratiosLaw") (hr : meth.sig.returnType = some .boolean) (hC : Ctx D tk s.heap.size sa s) (hN : NCx s) (hX : va_X b L xs s s.heap) (hbl : b < s.heap.size) (hAD : ADok s.heap.size ad) (huo : s.heap.size ≤ uo) (hM0 : s.heap.size ≤ M0) (had : ∀ k, k < 22 → ad k < M0) (hL : L ≤ 320) {i : Nat} (hi : i + 5 ≤ L) {cells slots : Nat} {H : Heap} {locs : List Loc} {ls : Array Slot} (hc9 : cells + 7000 ≤ 844753) (hs9 : slots + 101000 ≤ 6567222) (hz0 : M0 ≤ H.size) (hS : va_S (NA s.heap.size) s.heap H locs) (hB : LR D tk sa ad uo mo (PL M0 uo) H) (hl : lv_has ls 7 [(0, .ref b), (1, .ref (ad 15)), (2, .ref mo), (3, .ref uo), (4, .int (nI i))])
    (K : ∀ (H1 : Heap) (locs1 : List Loc) (ls1 : Array Slot), M0 ≤ H1.size → va_S (NA s.heap.size) s.heap H1 locs1 → LR D tk sa ad uo mo (PL M0 uo) H1 → lv_has ls1 7 [(0, .ref b), (1, .ref (ad 15)), (2, .ref mo), (3, .ref uo), (4, .int (nI i))] → W p l e room_1 s m #[.ref b] below meth c H1 locs1 (cells + 7000) (slots + 101000) Q (F0 m 1813 ls1 [])) : W p l e room_1 s m #[.ref b] below meth c H locs cells slots Q (F0 m 493 ls []) := by
  obtain ⟨hx, hb, -⟩ := id E
  have hbA : ¬ NA s.heap.size b := Nat.not_le.mpr hbl
  have hA : ∀ q, NA s.heap.size q → s.heap.size ≤ q := fun q h => h
  have hn : ∀ q, s.heap.size ≤ q → NA s.heap.size q := fun q h => h
  have hPN : ∀ q, PL M0 uo q → s.heap.size ≤ q := fun q h => Nat.le_trans hM0 h.1
  obtain ⟨g, kn, tt, bb, eT, eB, oT, oB, pk, ca, rf, vs, n9, th, ox, ov, hV, hW, fu, hM⟩ := hB
  refine lv_aload_n (pc := 493) hx hb dL_law_493 rfl (lv_at hl 1 rfl) ?_
  refine lv_aload_n (pc := 494) hx hb dL_law_494 rfl (lv_at hl 0 rfl) ?_
  refine lv_iload (pc := 495) hx hb dL_law_495 (lv_at hl 4 rfl) ?_
  refine lv_iconst (pc := 497) (v := 1) hx hb dL_law_497 (by decide) ?_
  refine lv_iadd (pc := 498) hx hb dL_law_498 ?_
  refine va_sld (pc := 499) hx hb hX hbl hbA hS (lw_in (j := 1) (by omega) hL rfl) dL_law_499 ?_
  refine lv_aload_n (pc := 500) hx hb dL_law_500 rfl (lv_at hl 0 rfl) ?_
  refine lv_iload (pc := 501) hx hb dL_law_501 (lv_at hl 4 rfl) ?_
  refine lv_iconst (pc := 503) (v := 2) hx hb dL_law_503 (by decide) ?_
  refine lv_iadd (pc := 504) hx hb dL_law_504 ?_
  refine va_sld (pc := 505) hx hb hX hbl hbA hS (lw_in (j := 2) (by omega) hL rfl) dL_law_505 ?_
  refine lv_aload_n (pc := 506) hx hb dL_law_506 rfl (lv_at hl 0 rfl) ?_
  refine lv_iload (pc := 507) hx hb dL_law_507 (lv_at hl 4 rfl) ?_
  refine lv_iconst (pc := 509) (v := 3) hx hb dL_law_509 (by decide) ?_
  refine lv_iadd (pc := 510) hx hb dL_law_510 ?_
  refine va_sld (pc := 511) hx hb hX hbl hbA hS (lw_in (j := 3) (by omega) hL rfl) dL_law_511 ?_
  refine lv_aload_n (pc := 512) hx hb dL_law_512 rfl (lv_at hl 3 rfl) ?_
  have hz1 := hS.1
  have hne := cwC hC hW (Or.inl fu.cl)
  refine k_i (pc := 513) (k_SW E hC hN hS hA hl.1 (c_L_minus l hlst D tk s.heap.size sa hAD huo H.size g kn hV.ci ((xs (nI i + 1).toNatClampNeg)) ((xs (nI i + 2).toNatClampNeg)) ((xs (nI i + 3).toNatClampNeg))) kw_876 kw_877 kw_0 wh_minus (n := 5) (by decide +kernel) rfl ⟨⟨rfl, rfl⟩, ⟨Nat.le_of_ble_eq_true rfl, Nat.le_of_ble_eq_true rfl⟩, (by dsimp only [room_1]; omega), (by dsimp only [room_1]; omega)⟩ rfl (Nat.le_of_ble_eq_true rfl) ⟨hW, _, _, fu⟩ dL_law_513) hS (fun q _ w => lwA.ge hAD huo hS.1 q w) hn (fun rk H locs hR hz hk hS => ?_)
  have hM := hM.wrap hC hW fu had hk
  obtain ⟨g1, ox, ov, hW, fu, hw9⟩ := hR
  have hz0 := Nat.le_trans hz0 hz
  refine lv_istore (pc := 516) (lv' := [(5, .int rk), (0, .ref b), (1, .ref (ad 15)), (2, .ref mo), (3, .ref uo), (4, .int (nI i))]) hx hb dL_law_516 hl (by decide) rfl (fun ls hl => ?_)
  refine lv_aload_n (pc := 518) hx hb dL_law_518 rfl (lv_at hl 3 rfl) ?_
  refine lv_aload_n (pc := 519) hx hb dL_law_519 rfl (lv_at hl 1 rfl) ?_
  refine lv_iload (pc := 520) hx hb dL_law_520 (lv_at hl 5 rfl) ?_
  refine lv_iconst (pc := 522) (v := 1) hx hb dL_law_522 (by decide) ?_
  refine lv_iadd (pc := 523) hx hb dL_law_523 ?_
  refine va_sld (pc := 524) hx hb hX hbl hbA hS (lw_in (j := 1) (by omega) hL rfl) dL_law_524 ?_
  refine lv_aload_n (pc := 525) hx hb dL_law_525 rfl (lv_at hl 1 rfl) ?_
  refine lv_iload (pc := 526) hx hb dL_law_526 (lv_at hl 5 rfl) ?_
  refine lv_iconst (pc := 528) (v := 2) hx hb dL_law_528 (by decide) ?_
  refine lv_iadd (pc := 529) hx hb dL_law_529 ?_
  refine va_sld (pc := 530) hx hb hX hbl hbA hS (lw_in (j := 2) (by omega) hL rfl) dL_law_530 ?_
  refine lv_aload_n (pc := 531) hx hb dL_law_531 rfl (lv_at hl 1 rfl) ?_
  refine lv_iload (pc := 532) hx hb dL_law_532 (lv_at hl 5 rfl) ?_
  refine lv_iconst (pc := 534) (v := 3) hx hb dL_law_534 (by decide) ?_
  refine lv_iadd (pc := 535) hx hb dL_law_535 ?_
  refine va_sld (pc := 536) hx hb hX hbl hbA hS (lw_in (j := 3) (by omega) hL rfl) dL_law_536 ?_
  have hz1 := hS.1
  have t_fu := fu.lt
  have hpl0 := hM.tl
  obtain ⟨fsm, fom⟩ := hM.obj
  have hPs : ∀ q, H.size ≤ q → PL M0 uo q := fun q h => ⟨Nat.le_trans hz0 h, by have := fu.lt; omega⟩
  refine k_i (pc := 537) (k_V E hC hS hA hl.1 (c1.recv hC fom rfl) rfl (c_X5_minus l D tk s.heap.size sa H.size (PL M0 uo) hPN hPs mo n9 kn th tt bb eT eB oT oB pk ca rf vs ((xs (nI i + 1).toNatClampNeg)) ((xs (nI i + 2).toNatClampNeg)) ((xs (nI i + 3).toNatClampNeg))) kw_1300 kw_1301 kw_1302 kw_5 kw_1303 (n := 3) (by decide +kernel) rfl ⟨⟨rfl, rfl⟩, ⟨Nat.le_of_ble_eq_true rfl, Nat.le_of_ble_eq_true rfl⟩, (by dsimp only [room_1]; omega), (by dsimp only [room_1]; omega)⟩ rfl (Nat.le_of_ble_eq_true rfl) hM dL_law_537) hS (fun q _ w => hPN q w) hn (fun rm_ H locs hR hz hk hS => ?_)
  have hW := hW.kept (fun k hk9 => hk _ (hW k hk9).lt (fun z9 => Nat.not_le.mpr (had k hk9) z9.1))
  have fu := fu.kept (hk _ fu.lt (fun z9 => z9.2 rfl))
  obtain ⟨th1, tt1, bb1, rf1, hM, hm9⟩ := hR
  obtain ⟨e_th, e_n, hV⟩ := l_minus hV hw9 hm9
  have hz0 := Nat.le_trans hz0 hz
  refine lv_istore (pc := 540) (lv' := [(6, .int rm_), (5, .int rk), (0, .ref b), (1, .ref (ad 15)), (2, .ref mo), (3, .ref uo), (4, .int (nI i))]) hx hb dL_law_540 hl (by decide) rfl (fun ls hl => ?_)
  refine lv_goto (pc := 542) (tgt := 1813) hx hb dL_law_542 (by decide) ?_
  refine W.widen (k := cells + 7000) (n := slots + 101000) (by omega) (by omega) ?_
  exact K _ _ _ hz0 hS ⟨_, _, _, _, _, _, _, _, _, _, _, _, _, _, _, _, hV, hW, fu, hM⟩ (lv_sub hl [2, 3, 4, 5, 6] rfl)
set_option maxHeartbeats 4000000 in
set_option maxRecDepth 100000 in
theorem lc_6 {p : Program} {l : Launch} {e : Env} {s : State} {m : MethodId} {below : List Frame} {meth : Method} {c : Code} {Q : State → Prop} {D : va_G} {tk : Nat → ClassId} {sa ad : Nat → Nat} {b L uo mo M0 : Nat} {xs : Nat → Int32} {w0 : Cond} (hlst : l.stackTraces = false) (E : CallFix p m c cL_law 7 s #[.ref b] (w0 :: GW) "BestratiosLaw") (hr : meth.sig.returnType = some .boolean) (hC : Ctx D tk s.heap.size sa s) (hN : NCx s) (hX : va_X b L xs s s.heap) (hbl : b < s.heap.size) (hAD : ADok s.heap.size ad) (huo : s.heap.size ≤ uo) (hM0 : s.heap.size ≤ M0) (had : ∀ k, k < 22 → ad k < M0) (hL : L ≤ 320) {i : Nat} (hi : i + 5 ≤ L) {cells slots : Nat} {H : Heap} {locs : List Loc} {ls : Array Slot} (hc9 : cells + 7000 ≤ 844753) (hs9 : slots + 101000 ≤ 6567222) (hz0 : M0 ≤ H.size) (hS : va_S (NA s.heap.size) s.heap H locs) (hB : LR D tk sa ad uo mo (PL M0 uo) H) (hl : lv_has ls 7 [(0, .ref b), (1, .ref (ad 15)), (2, .ref mo), (3, .ref uo), (4, .int (nI i))])
    (K : ∀ (H1 : Heap) (locs1 : List Loc) (ls1 : Array Slot), M0 ≤ H1.size → va_S (NA s.heap.size) s.heap H1 locs1 → LR D tk sa ad uo mo (PL M0 uo) H1 → lv_has ls1 7 [(0, .ref b), (1, .ref (ad 15)), (2, .ref mo), (3, .ref uo), (4, .int (nI i))] → W p l e room_1 s m #[.ref b] below meth c H1 locs1 (cells + 7000) (slots + 101000) Q (F0 m 1813 ls1 [])) : W p l e room_1 s m #[.ref b] below meth c H locs cells slots Q (F0 m 545 ls []) := by
  obtain ⟨hx, hb, -⟩ := id E
  have hbA : ¬ NA s.heap.size b := Nat.not_le.mpr hbl
  have hA : ∀ q, NA s.heap.size q → s.heap.size ≤ q := fun q h => h
  have hn : ∀ q, s.heap.size ≤ q → NA s.heap.size q := fun q h => h
  have hPN : ∀ q, PL M0 uo q → s.heap.size ≤ q := fun q h => Nat.le_trans hM0 h.1
  obtain ⟨g, kn, tt, bb, eT, eB, oT, oB, pk, ca, rf, vs, n9, th, ox, ov, hV, hW, fu, hM⟩ := hB
  refine lv_aload_n (pc := 545) hx hb dL_law_545 rfl (lv_at hl 1 rfl) ?_
  refine lv_aload_n (pc := 546) hx hb dL_law_546 rfl (lv_at hl 0 rfl) ?_
  refine lv_iload (pc := 547) hx hb dL_law_547 (lv_at hl 4 rfl) ?_
  refine lv_iconst (pc := 549) (v := 1) hx hb dL_law_549 (by decide) ?_
  refine lv_iadd (pc := 550) hx hb dL_law_550 ?_
  refine va_sld (pc := 551) hx hb hX hbl hbA hS (lw_in (j := 1) (by omega) hL rfl) dL_law_551 ?_
  refine lv_aload_n (pc := 552) hx hb dL_law_552 rfl (lv_at hl 0 rfl) ?_
  refine lv_iload (pc := 553) hx hb dL_law_553 (lv_at hl 4 rfl) ?_
  refine lv_iconst (pc := 555) (v := 2) hx hb dL_law_555 (by decide) ?_
  refine lv_iadd (pc := 556) hx hb dL_law_556 ?_
  refine va_sld (pc := 557) hx hb hX hbl hbA hS (lw_in (j := 2) (by omega) hL rfl) dL_law_557 ?_
  refine lv_aload_n (pc := 558) hx hb dL_law_558 rfl (lv_at hl 0 rfl) ?_
  refine lv_iload (pc := 559) hx hb dL_law_559 (lv_at hl 4 rfl) ?_
  refine lv_iconst (pc := 561) (v := 3) hx hb dL_law_561 (by decide) ?_
  refine lv_iadd (pc := 562) hx hb dL_law_562 ?_
  refine va_sld (pc := 563) hx hb hX hbl hbA hS (lw_in (j := 3) (by omega) hL rfl) dL_law_563 ?_
  refine lv_aload_n (pc := 564) hx hb dL_law_564 rfl (lv_at hl 3 rfl) ?_
  have hz1 := hS.1
  have hne := cwC hC hW (Or.inl fu.cl)
  refine k_i (pc := 565) (k_SW E hC hN hS hA hl.1 (c_L_times l hlst D tk s.heap.size sa hAD huo H.size g kn hV.ci ((xs (nI i + 1).toNatClampNeg)) ((xs (nI i + 2).toNatClampNeg)) ((xs (nI i + 3).toNatClampNeg))) kw_883 kw_884 kw_0 wh_times (n := 5) (by decide +kernel) rfl ⟨⟨rfl, rfl⟩, ⟨Nat.le_of_ble_eq_true rfl, Nat.le_of_ble_eq_true rfl⟩, (by dsimp only [room_1]; omega), (by dsimp only [room_1]; omega)⟩ rfl (Nat.le_of_ble_eq_true rfl) ⟨hW, _, _, fu⟩ dL_law_565) hS (fun q _ w => lwA.ge hAD huo hS.1 q w) hn (fun rk H locs hR hz hk hS => ?_)
  have hM := hM.wrap hC hW fu had hk
  obtain ⟨g1, ox, ov, hW, fu, hw9⟩ := hR
  have hz0 := Nat.le_trans hz0 hz
  refine lv_istore (pc := 568) (lv' := [(5, .int rk), (0, .ref b), (1, .ref (ad 15)), (2, .ref mo), (3, .ref uo), (4, .int (nI i))]) hx hb dL_law_568 hl (by decide) rfl (fun ls hl => ?_)
  refine lv_aload_n (pc := 570) hx hb dL_law_570 rfl (lv_at hl 3 rfl) ?_
  refine lv_aload_n (pc := 571) hx hb dL_law_571 rfl (lv_at hl 1 rfl) ?_
  refine lv_iload (pc := 572) hx hb dL_law_572 (lv_at hl 5 rfl) ?_
  refine lv_iconst (pc := 574) (v := 1) hx hb dL_law_574 (by decide) ?_
  refine lv_iadd (pc := 575) hx hb dL_law_575 ?_
  refine va_sld (pc := 576) hx hb hX hbl hbA hS (lw_in (j := 1) (by omega) hL rfl) dL_law_576 ?_
  refine lv_aload_n (pc := 577) hx hb dL_law_577 rfl (lv_at hl 1 rfl) ?_
  refine lv_iload (pc := 578) hx hb dL_law_578 (lv_at hl 5 rfl) ?_
  refine lv_iconst (pc := 580) (v := 2) hx hb dL_law_580 (by decide) ?_
  refine lv_iadd (pc := 581) hx hb dL_law_581 ?_
  refine va_sld (pc := 582) hx hb hX hbl hbA hS (lw_in (j := 2) (by omega) hL rfl) dL_law_582 ?_
  refine lv_aload_n (pc := 583) hx hb dL_law_583 rfl (lv_at hl 1 rfl) ?_
  refine lv_iload (pc := 584) hx hb dL_law_584 (lv_at hl 5 rfl) ?_
  refine lv_iconst (pc := 586) (v := 3) hx hb dL_law_586 (by decide) ?_
  refine lv_iadd (pc := 587) hx hb dL_law_587 ?_
  refine va_sld (pc := 588) hx hb hX hbl hbA hS (lw_in (j := 3) (by omega) hL rfl) dL_law_588 ?_
  have hz1 := hS.1
  have t_fu := fu.lt
  have hpl0 := hM.tl
  obtain ⟨fsm, fom⟩ := hM.obj
  have hPs : ∀ q, H.size ≤ q → PL M0 uo q := fun q h => ⟨Nat.le_trans hz0 h, by have := fu.lt; omega⟩
  refine k_i (pc := 589) (k_V E hC hS hA hl.1 (c1.recv hC fom rfl) rfl (c_X5_times l D tk s.heap.size sa H.size (PL M0 uo) hPN hPs mo n9 kn th tt bb eT eB oT oB pk ca rf vs ((xs (nI i + 1).toNatClampNeg)) ((xs (nI i + 2).toNatClampNeg)) ((xs (nI i + 3).toNatClampNeg))) kw_1304 kw_1305 kw_1306 kw_5 kw_1307 (n := 3) (by decide +kernel) rfl ⟨⟨rfl, rfl⟩, ⟨Nat.le_of_ble_eq_true rfl, Nat.le_of_ble_eq_true rfl⟩, (by dsimp only [room_1]; omega), (by dsimp only [room_1]; omega)⟩ rfl (Nat.le_of_ble_eq_true rfl) hM dL_law_589) hS (fun q _ w => hPN q w) hn (fun rm_ H locs hR hz hk hS => ?_)
  have hW := hW.kept (fun k hk9 => hk _ (hW k hk9).lt (fun z9 => Nat.not_le.mpr (had k hk9) z9.1))
  have fu := fu.kept (hk _ fu.lt (fun z9 => z9.2 rfl))
  obtain ⟨th1, tt1, bb1, rf1, hM, hm9⟩ := hR
  obtain ⟨e_th, e_n, hV⟩ := l_times hV hw9 hm9
  have hz0 := Nat.le_trans hz0 hz
  refine lv_istore (pc := 592) (lv' := [(6, .int rm_), (5, .int rk), (0, .ref b), (1, .ref (ad 15)), (2, .ref mo), (3, .ref uo), (4, .int (nI i))]) hx hb dL_law_592 hl (by decide) rfl (fun ls hl => ?_)
  refine lv_goto (pc := 594) (tgt := 1813) hx hb dL_law_594 (by decide) ?_
  refine W.widen (k := cells + 7000) (n := slots + 101000) (by omega) (by omega) ?_
  exact K _ _ _ hz0 hS ⟨_, _, _, _, _, _, _, _, _, _, _, _, _, _, _, _, hV, hW, fu, hM⟩ (lv_sub hl [2, 3, 4, 5, 6] rfl)
