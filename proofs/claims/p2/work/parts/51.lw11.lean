set_option maxHeartbeats 4000000 in
set_option maxRecDepth 100000 in
/-- BestratiosLaw.invert(LBestratios;ILBestratiosLaw$Out;)I -/
theorem c_L_invert (l : Launch) (hlst : l.stackTraces = false) (D : va_G) (tk : Nat → ClassId) (N0 : Nat) (sa : Nat → Nat) {ad : Nat → Nat} (hAD : ADok N0 ad) {uo : Nat} (huo : N0 ≤ uo) (sz : Nat) (g : CS) (kn : Int32) (hI : CI g kn) (x1 : Int32) : Met l yL_invert (wsw yL_invert cL_invert 4 (some .int) [(0, 10, 13, 19)]) lwR (cPW D tk N0 sa [.ref (ad 15), .int x1, .ref uo] sz (fun H => CW D tk ad g H ∧ OUo D uo H)) (kQi (fun rk H => ∃ (g1 : CS) (ox : Int64) (ov : Value), CW D tk ad g1 H ∧ c1 D uo (.inr (12, [.long ox, ov])) H ∧ WR (bR x1) (f_invW g (nn x1)) ((f_invR g (nn x1)).toInt64) g rk g1 ox) (lwA ad uo sz)) 3000 8000 (lwA ad uo sz) := by
  refine mStartW RL rfl (by decide +kernel) (Nat.le_of_ble_eq_true rfl) ?_
  intro p e s m args below meth c E hr hlk htb hsz hC hN hF ls hl
  subst hsz
  obtain ⟨hx, hb, -⟩ := id E
  have hA := lwA.ge hAD huo hC.2.1
  have hn : ∀ q, s.heap.size ≤ q → (lwA ad uo s.heap.size) q := fun q h => Or.inl (Or.inr h)
  have hS : va_S (lwA ad uo s.heap.size) s.heap s.heap [] := va_S.rf
  have hl : lv_has ls 4 [(0, .ref (ad 15)), (1, .int x1), (2, .ref uo)] := hl
  obtain ⟨hW, x9, v9, fu⟩ := hF
  have hne := cwC hC hW (Or.inl fu.cl)
  refine lv_aload_n (pc := 0) hx hb dL_invert_0 rfl (lv_at hl 2 rfl) ?_
  refine lv_aload_n (pc := 1) hx hb dL_invert_1 rfl (lv_at hl 0 rfl) ?_
  refine lv_iload_n (pc := 2) hx hb dL_invert_2 rfl (lv_at hl 1 rfl) ?_
  refine kh_i (pc := 3) (kx_V E hC hS hA hl.1 (c1.recv hC hW.obj rfl) rfl (c_X3_invert l hlst D tk N0 sa hAD s.heap.size g x1) kw_915 kw_916 kw_917 kw_1 kw_918 (n := 1) (by decide +kernel) rfl ⟨⟨rfl, rfl⟩, ⟨Nat.le_of_ble_eq_true rfl, Nat.le_of_ble_eq_true rfl⟩, (by dsimp only [lwR]; omega), (by dsimp only [lwR]; omega)⟩ rfl (Nat.le_of_ble_eq_true rfl) hW dL_invert_3) hS (fun q z w => Or.inl w) hn (fun E1 ce q9 H locs hb9 hz hk hS h1 h2 h3 => ?_) (fun r H locs hR hz hk hS => ?_)
  · have hW := hW.new hk
    have fu := fu.new hk
    obtain ⟨rfl, hx9⟩ := hb9
    refine r_c1 (pc := 3) E hC htb (by decide) (by decide) kw_803 wc_0 h1 h2 h3 ?_
    refine lv_astore_n (pc := 13) (lv' := [(3, .ref q9), (0, .ref (ad 15)), (1, .int x1), (2, .ref uo)]) hx hb dL_invert_13 rfl hl (by decide) rfl (fun ls hl => ?_)
    refine lv_iconst (pc := 14) (v := 1) hx hb dL_invert_14 (by decide) ?_
    refine r_iret (pc := 15) E hr hlk hS (by omega) (by omega) ?_ dL_invert_15
    exact ⟨g, _, _, hW, fu, by rw [hx9]; rfl, fun z => absurd (hx9.symm.trans z) (by decide), fun _ => rfl⟩
  · obtain ⟨hx0, er, hW⟩ := hR
    have fu := fu.kept (hk _ fu.lt (cwN hne fu.lt))
    refine lv_i2l (pc := 6) (v := r.toInt64) hx hb dL_invert_6 rfl ?_
    refine r_putO (pc := 7) "BestratiosLaw" E hC fu hS (Or.inr rfl) 0 tyX4 tyX4_ok nmX4 rfl (by decide) (Nat.le_of_ble_eq_true rfl) uX4 kn_793 (fun _ h => h) rfl rfl rfl dL_invert_7 (fun H locs n_ ho hz hS => ?_)
    have hW := hW.kept (fun k hk9 => ho _ (hne k hk9))
    refine lv_goto (pc := 10) (tgt := 16) hx hb dL_invert_10 (by decide) ?_
    refine lv_iconst (pc := 16) (v := 0) hx hb dL_invert_16 (by decide) ?_
    refine r_iret (pc := 17) E hr hlk hS (by omega) (by omega) ?_ dL_invert_17
    exact ⟨_, _, _, hW, n_, by rw [hx0]; rfl, fun _ => ⟨rfl, by rw [er]⟩, fun z => absurd hx0 z⟩
