set_option maxHeartbeats 4000000 in
set_option maxRecDepth 100000 in
/-- BestratiosLaw.way(LBestratios;ILBestratiosLaw$Out;)I -/
theorem c_L_way (l : Launch) (hlst : l.stackTraces = false) (D : va_G) (tk : Nat → ClassId) (N0 : Nat) (sa : Nat → Nat) {ad : Nat → Nat} (hAD : ADok N0 ad) {uo : Nat} (huo : N0 ≤ uo) (sz : Nat) (g : CS) (kn : Int32) (hI : CI g kn) (x1 : Int32) : Met l yL_way (wsw yL_way cL_way 4 (some .int) [(0, 9, 12, 19)]) lwR (cPW D tk N0 sa [.ref (ad 15), .int x1, .ref uo] sz (fun H => CW D tk ad g H ∧ OUo D uo H)) (kQi (fun rk H => ∃ (g1 : CS) (ox : Int64) (ov : Value), CW D tk ad g1 H ∧ c1 D uo (.inr (12, [.long ox, ov])) H ∧ WS (bR x1) (tx_wyW g (nn x1)) g rk g1) (lwA ad uo sz)) 3000 8000 (lwA ad uo sz) := by
  refine mStartW RL rfl (by decide +kernel) (Nat.le_of_ble_eq_true rfl) ?_
  intro p e s m args below meth c E hr hlk htb hsz hC hN hF ls hl
  subst hsz
  obtain ⟨hx, hb, -⟩ := id E
  have hA := lwA.ge hAD huo hC.2.1
  have hn : ∀ q, s.heap.size ≤ q → (lwA ad uo s.heap.size) q := fun q h => Or.inl (Or.inr h)
  have hS : va_S (lwA ad uo s.heap.size) s.heap s.heap [] := va_S.rf
  have hl : lv_has ls 4 [(0, .ref (ad 15)), (1, .int x1), (2, .ref uo)] := hl
  obtain ⟨hW, x9, v9, fu⟩ := hF
  have hne := cwC hC hW (Or.inl fu.cl)
  have hw := tx_wy_ok g (nn x1) (q := (0, 16)) (Nat.zero_le _)
  unfold tx_ok at hw
  dsimp only at hw
  refine lv_aload_n (pc := 0) hx hb dL_way_0 rfl (lv_at hl 2 rfl) ?_
  refine lv_aload_n (pc := 1) hx hb dL_way_1 rfl (lv_at hl 0 rfl) ?_
  refine lv_iload_n (pc := 2) hx hb dL_way_2 rfl (lv_at hl 1 rfl) ?_
  refine kh_r (pc := 3) (kx_V E hC hS hA hl.1 (c1.recv hC hW.obj rfl) rfl (c_X3_way l hlst D tk N0 sa hAD s.heap.size g x1) kw_1099 kw_1100 kw_1101 kw_1 kw_1102 (n := 1) (by decide +kernel) rfl ⟨⟨rfl, rfl⟩, ⟨Nat.le_of_ble_eq_true rfl, Nat.le_of_ble_eq_true rfl⟩, (by dsimp only [lwR]; omega), (by dsimp only [lwR]; omega)⟩ rfl (Nat.le_of_ble_eq_true rfl) hW dL_way_3) hS (fun q z w => Or.inl w) hn (fun E1 ce q9 H locs hb9 hz hk hS h1 h2 h3 => ?_) (fun r H locs hR hz hk hS => ?_)
  · have hW := hW.new hk
    have fu := fu.new hk
    obtain ⟨rfl, hx9⟩ := hb9
    refine r_c1 (pc := 3) E hC htb (by decide) (by decide) kw_803 wc_0 h1 h2 h3 ?_
    refine lv_astore_n (pc := 12) (lv' := [(3, .ref q9), (0, .ref (ad 15)), (1, .int x1), (2, .ref uo)]) hx hb dL_way_12 rfl hl (by decide) rfl (fun ls hl => ?_)
    refine lv_iconst (pc := 13) (v := 1) hx hb dL_way_13 (by decide) ?_
    refine r_iret (pc := 14) E hr hlk hS (by omega) (by omega) ?_ dL_way_14
    exact ⟨g, _, _, hW, fu, by rw [hx9]; rfl, fun z => absurd (hx9.symm.trans z) (by decide), fun _ => rfl⟩
  · obtain ⟨hx0, hge, hsx, hW⟩ := hR
    have fu := fu.kept (hk _ fu.lt (cwN hne fu.lt))
    refine r_putO (pc := 6) "BestratiosLaw" E hC fu hS (Or.inr rfl) 1 tyX4 tyX4_ok nmX4 rfl (by decide) (Nat.le_of_ble_eq_true rfl) uX4 kn_794 (fun _ h => h) rfl rfl rfl dL_way_6 (fun H locs n_ ho hz hS => ?_)
    have hW := hW.kept (fun k hk9 => ho _ (hne k hk9))
    refine lv_goto (pc := 9) (tgt := 15) hx hb dL_way_9 (by decide) ?_
    refine lv_iconst (pc := 15) (v := 0) hx hb dL_way_15 (by decide) ?_
    refine r_iret (pc := 16) E hr hlk hS (by omega) (by omega) ?_ dL_way_16
    exact ⟨_, _, _, hW, n_, by rw [hx0]; rfl, fun _ => rfl, fun z => absurd hx0 z⟩
