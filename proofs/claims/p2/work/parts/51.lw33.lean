set_option maxHeartbeats 4000000 in
set_option maxRecDepth 100000 in
/-- BestratiosLaw.simplest(LBestratios;IIIILBestratiosLaw$Out;)I -/
theorem c_L_simplest (l : Launch) (hlst : l.stackTraces = false) (D : va_G) (tk : Nat → ClassId) (N0 : Nat) (sa : Nat → Nat) {ad : Nat → Nat} (hAD : ADok N0 ad) {uo : Nat} (huo : N0 ≤ uo) (sz : Nat) (g : CS) (kn : Int32) (hI : CI g kn) (x1 : Int32) (x2 : Int32) (x3 : Int32) (x4 : Int32) : Met l yL_simplest (wsw yL_simplest cL_simplest 7 (some .int) [(0, 15, 18, 19), (0, 15, 22, 21)]) lwR (cPW D tk N0 sa [.ref (ad 15), .int x1, .int x2, .int x3, .int x4, .ref uo] sz (fun H => CW D tk ad g H ∧ OUo D uo H)) (kQi (fun rk H => ∃ (g1 : CS) (ox : Int64) (ov : Value), CW D tk ad g1 H ∧ c1 D uo (.inr (12, [.long ox, ov])) H ∧ WR (xo (bR x1) (xo (bR x2) (xo (2 * bW x3 0 2) (2 * bW x4 0 4)))) (f_setW (f_sm g 6 (nn x2) x3 x4) (nn x1)) ((f_setR (f_sm g 6 (nn x2) x3 x4) (nn x1)).toInt64) g rk g1 ox) (lwA ad uo sz)) 3000 8000 (lwA ad uo sz) := by
  refine mStartW RL rfl (by decide +kernel) (Nat.le_of_ble_eq_true rfl) ?_
  intro p e s m args below meth c E hr hlk htb hsz hC hN hF ls hl
  subst hsz
  obtain ⟨hx, hb, -⟩ := id E
  have hA := lwA.ge hAD huo hC.2.1
  have hn : ∀ q, s.heap.size ≤ q → (lwA ad uo s.heap.size) q := fun q h => Or.inl (Or.inr h)
  have hS : va_S (lwA ad uo s.heap.size) s.heap s.heap [] := va_S.rf
  have hl : lv_has ls 7 [(0, .ref (ad 15)), (1, .int x1), (2, .int x2), (3, .int x3), (4, .int x4), (5, .ref uo)] := hl
  obtain ⟨hW, x9, v9, fu⟩ := hF
  have hne := cwC hC hW (Or.inl fu.cl)
  refine lv_aload (pc := 0) hx hb dL_simplest_0 (lv_at hl 5 rfl) ?_
  refine lv_aload_n (pc := 2) hx hb dL_simplest_2 rfl (lv_at hl 0 rfl) ?_
  refine lv_iload_n (pc := 3) hx hb dL_simplest_3 rfl (lv_at hl 1 rfl) ?_
  refine lv_iload_n (pc := 4) hx hb dL_simplest_4 rfl (lv_at hl 2 rfl) ?_
  refine lv_iload_n (pc := 5) hx hb dL_simplest_5 rfl (lv_at hl 3 rfl) ?_
  refine lv_iload (pc := 6) hx hb dL_simplest_6 (lv_at hl 4 rfl) ?_
  refine kh_i (pc := 8) (kx_V E hC hS hA hl.1 (c1.recv hC hW.obj rfl) rfl (c_X3_simplest l hlst D tk N0 sa hAD s.heap.size g x1 x2 x3 x4 (CI_sm hI)) kw_1127 kw_1128 kw_1129 kw_1 kw_1130 (n := 4) (by decide +kernel) rfl ⟨⟨rfl, rfl⟩, ⟨Nat.le_of_ble_eq_true rfl, Nat.le_of_ble_eq_true rfl⟩, (by dsimp only [lwR]; omega), (by dsimp only [lwR]; omega)⟩ rfl (Nat.le_of_ble_eq_true rfl) hW dL_simplest_8) hS (fun q z w => Or.inl w) hn (fun E1 ce q9 H locs hb9 hz hk hS h1 h2 h3 => ?_) (fun r H locs hR hz hk hS => ?_)
  · have hW := hW.new hk
    have fu := fu.new hk
    rcases hb9 with ⟨rfl, hx9⟩ | ⟨rfl, hx9⟩
    · refine r_c1 (pc := 8) E hC htb (by decide) (by decide) kw_803 wc_0 h1 h2 h3 ?_
      refine lv_astore (pc := 18) (lv' := [(6, .ref q9), (0, .ref (ad 15)), (1, .int x1), (2, .int x2), (3, .int x3), (4, .int x4), (5, .ref uo)]) hx hb dL_simplest_18 hl (by decide) rfl (fun ls hl => ?_)
      refine lv_iconst (pc := 20) (v := 1) hx hb dL_simplest_20 (by decide) ?_
      refine r_iret (pc := 21) E hr hlk hS (by omega) (by omega) ?_ dL_simplest_21
      exact ⟨g, _, _, hW, fu, by rw [hx9]; rfl, fun z => absurd (hx9.symm.trans z) (by decide), fun _ => rfl⟩
    · refine r_c2 (pc := 8) E hC htb (by decide) (by decide) (by decide) kw_804 kw_803 hN.1 wc_1 h1 h2 h3 ?_
      refine lv_astore (pc := 22) (lv' := [(6, .ref q9), (0, .ref (ad 15)), (1, .int x1), (2, .int x2), (3, .int x3), (4, .int x4), (5, .ref uo)]) hx hb dL_simplest_22 hl (by decide) rfl (fun ls hl => ?_)
      refine lv_iconst (pc := 24) (v := 2) hx hb dL_simplest_24 (by decide) ?_
      refine r_iret (pc := 25) E hr hlk hS (by omega) (by omega) ?_ dL_simplest_25
      exact ⟨g, _, _, hW, fu, by rw [hx9]; rfl, fun z => absurd (hx9.symm.trans z) (by decide), fun _ => rfl⟩
  · obtain ⟨hx0, er, hW⟩ := hR
    have fu := fu.kept (hk _ fu.lt (cwN hne fu.lt))
    refine lv_i2l (pc := 11) (v := r.toInt64) hx hb dL_simplest_11 rfl ?_
    refine r_putO (pc := 12) "BestratiosLaw" E hC fu hS (Or.inr rfl) 0 tyX4 tyX4_ok nmX4 rfl (by decide) (Nat.le_of_ble_eq_true rfl) uX4 kn_793 (fun _ h => h) rfl rfl rfl dL_simplest_12 (fun H locs n_ ho hz hS => ?_)
    have hW := hW.kept (fun k hk9 => ho _ (hne k hk9))
    refine lv_goto (pc := 15) (tgt := 26) hx hb dL_simplest_15 (by decide) ?_
    refine lv_iconst (pc := 26) (v := 0) hx hb dL_simplest_26 (by decide) ?_
    refine r_iret (pc := 27) E hr hlk hS (by omega) (by omega) ?_ dL_simplest_27
    exact ⟨_, _, _, hW, n_, by rw [hx0]; rfl, fun _ => ⟨rfl, by rw [er]⟩, fun z => absurd hx0 z⟩
