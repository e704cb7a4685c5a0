set_option maxHeartbeats 4000000 in
set_option maxRecDepth 100000 in
/-- BestratiosModel.areNextNow(II)Z -/
theorem c_X5_areNextNow (l : Launch) (D : va_G) (tk : Nat → ClassId) (N0 : Nat) (sa : Nat → Nat)  (sz : Nat) (P : Nat → Prop) (hPN : ∀ q, P q → N0 ≤ q) (mo n9 : Nat) (kn th : Int32) (tt bb : Nat → Int64) (eT eB oT oB : Int64) (pk : Nat) (ca rf : Int32) (vs : Nat → Value) (x : Int32) (k_x : Nat) (hx_x : x = nI k_x) (hk_x : k_x < 6) (y : Int32) (k_y : Nat) (hx_y : y = nI k_y) (hk_y : k_y < 6) : Met l yX5_areNextNow (wsy yX5_areNextNow cX5_areNextNow 3 (some .boolean)) ({ frames := 1, cells := 0, slots := 0, locals := 21 } : Room) (cP D tk N0 sa [.ref mo, .int x, .int y] sz (fun H => MI D tk sa P mo tt bb eT eB oT oB pk ca rf vs kn n9 th H)) (kQi (fun r H => r = m_nx1 (tt k_x) (bb k_x) (tt k_y) (bb k_y)) (nwA sz)) (0) (0) (nwA sz) := by
  refine mStart RX5 rfl (by decide +kernel) (Nat.le_of_ble_eq_true rfl) ?_
  intro p e s m args below meth c E hr hlk hnm hsz hC hF ls hl
  subst hsz
  obtain ⟨hx, hb, -⟩ := id E
  have hA : ∀ q, (nwA s.heap.size) q → N0 ≤ q := fun q h => Nat.le_trans hC.2.1 h
  have hn : ∀ q, s.heap.size ≤ q → (nwA s.heap.size) q := fun q h => h
  have hS : va_S (nwA s.heap.size) s.heap s.heap [] := va_S.rf
  have hl : lv_has ls 3 [(0, .ref mo), (1, .int x), (2, .int y)] := hl
  have hM : MI D tk sa P mo tt bb eT eB oT oB pk ca rf vs kn n9 th s.heap := hF
  obtain ⟨ra, rl, ex, ro, rt, fo, fj, fk, fe, fr, fw, ⟨hPm, hPa, hPl, hPe, hPr, hPk⟩, hFk, hFe, hFr, hpk, hn9⟩ := hM
  refine lv_aload_n (pc := 0) hx hb dX5_areNextNow_0 rfl (lv_at hl 0 rfl) ?_
  refine r_get (pc := 1) E hC fo 0 (v := .ref ra) rfl rfl (by decide) uX5 (List.mem_cons_of_mem _ kw_1209) (fun _ h => h) dX5_areNextNow_1 ?_
  refine lv_iload_n (pc := 4) hx hb dX5_areNextNow_4 rfl (lv_at hl 1 rfl) ?_
  refine r_aaldJ (pc := 5) E hC fj k_x hx_x hk_x (by decide) rfl dX5_areNextNow_5 ?_
  have fL1 := fk k_x hk_x
  have mF_fL1 := hFk k_x hk_x
  have Pq_fL1 := hPk k_x hk_x
  refine lv_iconst (pc := 6) (v := 0) hx hb dX5_areNextNow_6 (by decide) ?_
  refine r_l0 (pc := 7) E hC fL1 dX5_areNextNow_7 ?_
  refine lv_aload_n (pc := 8) hx hb dX5_areNextNow_8 rfl (lv_at hl 0 rfl) ?_
  refine r_get (pc := 9) E hC fo 0 (v := .ref ra) rfl rfl (by decide) uX5 (List.mem_cons_of_mem _ kw_1209) (fun _ h => h) dX5_areNextNow_9 ?_
  refine lv_iload_n (pc := 12) hx hb dX5_areNextNow_12 rfl (lv_at hl 2 rfl) ?_
  refine r_aaldJ (pc := 13) E hC fj k_y hx_y hk_y (by decide) rfl dX5_areNextNow_13 ?_
  have fL2 := fk k_y hk_y
  have mF_fL2 := hFk k_y hk_y
  have Pq_fL2 := hPk k_y hk_y
  refine lv_iconst (pc := 14) (v := 1) hx hb dX5_areNextNow_14 (by decide) ?_
  refine r_l1 (pc := 15) E hC fL2 dX5_areNextNow_15 ?_
  refine lv_lmul (pc := 16) hx hb dX5_areNextNow_16 ?_
  refine lv_aload_n (pc := 17) hx hb dX5_areNextNow_17 rfl (lv_at hl 0 rfl) ?_
  refine r_get (pc := 18) E hC fo 0 (v := .ref ra) rfl rfl (by decide) uX5 (List.mem_cons_of_mem _ kw_1209) (fun _ h => h) dX5_areNextNow_18 ?_
  refine lv_iload_n (pc := 21) hx hb dX5_areNextNow_21 rfl (lv_at hl 2 rfl) ?_
  refine r_aaldJ (pc := 22) E hC fj k_y hx_y hk_y (by decide) rfl dX5_areNextNow_22 ?_
  have fL3 := fk k_y hk_y
  have mF_fL3 := hFk k_y hk_y
  have Pq_fL3 := hPk k_y hk_y
  refine lv_iconst (pc := 23) (v := 0) hx hb dX5_areNextNow_23 (by decide) ?_
  refine r_l0 (pc := 24) E hC fL3 dX5_areNextNow_24 ?_
  refine lv_aload_n (pc := 25) hx hb dX5_areNextNow_25 rfl (lv_at hl 0 rfl) ?_
  refine r_get (pc := 26) E hC fo 0 (v := .ref ra) rfl rfl (by decide) uX5 (List.mem_cons_of_mem _ kw_1209) (fun _ h => h) dX5_areNextNow_26 ?_
  refine lv_iload_n (pc := 29) hx hb dX5_areNextNow_29 rfl (lv_at hl 1 rfl) ?_
  refine r_aaldJ (pc := 30) E hC fj k_x hx_x hk_x (by decide) rfl dX5_areNextNow_30 ?_
  have fL4 := fk k_x hk_x
  have mF_fL4 := hFk k_x hk_x
  have Pq_fL4 := hPk k_x hk_x
  refine lv_iconst (pc := 31) (v := 1) hx hb dX5_areNextNow_31 (by decide) ?_
  refine r_l1 (pc := 32) E hC fL4 dX5_areNextNow_32 ?_
  refine lv_lmul (pc := 33) hx hb dX5_areNextNow_33 ?_
  refine lv_lsub (pc := 34) hx hb dX5_areNextNow_34 ?_
  refine k_l (pc := 35) (k_S E hC hS hA hl.1 (c_J9_abs_067f4 l D tk N0 sa s.heap.size (((tt k_x) * (bb k_y)) - ((tt k_y) * (bb k_x))) ) kw_1205 kw_1206 kw_9 kw_1207 (n := 1) (by decide +kernel) rfl ⟨⟨rfl, rfl⟩, ⟨Nat.le_of_ble_eq_true rfl, Nat.le_of_ble_eq_true rfl⟩, (by dsimp only; omega), (by dsimp only; omega)⟩ rfl (Nat.le_of_ble_eq_true rfl) trivial dX5_areNextNow_35) hS (fun q z w => absurd w (Nat.not_le.mpr z)) hn (fun r_5 H locs hR hz hk hS => ?_)
  have er_5 := hR
  have fw := fw.new hk
  have fo := fo.kept (hk _ fo.lt (Nat.not_le.mpr fo.lt))
  have fj := fj.kept (hk _ fj.lt (Nat.not_le.mpr fj.lt))
  have fk := fk.new hk
  have fe := fe.kept (hk _ fe.lt (Nat.not_le.mpr fe.lt))
  have fr := fr.kept (hk _ fr.lt (Nat.not_le.mpr fr.lt))
  have fL1 := fL1.kept (hk _ fL1.lt (Nat.not_le.mpr fL1.lt))
  have fL2 := fL2.kept (hk _ fL2.lt (Nat.not_le.mpr fL2.lt))
  have fL3 := fL3.kept (hk _ fL3.lt (Nat.not_le.mpr fL3.lt))
  have fL4 := fL4.kept (hk _ fL4.lt (Nat.not_le.mpr fL4.lt))
  refine lv_lconst (pc := 38) (v := 1) hx hb dX5_areNextNow_38 (by decide) ?_
  refine r_lcne (pc := 39) (tgt := 47) E dX5_areNextNow_39 dX5_areNextNow_40 (by decide) (fun c_7 => ?_) (fun c_7 => ?_)
  · refine lv_iconst (pc := 47) (v := 0) hx hb dX5_areNextNow_47 (by decide) ?_
    refine r_zret (pc := 48) E hr hlk hS (by omega) (by omega) rfl ?_ dX5_areNextNow_48
    subst er_5; first | with_reducible rfl | (simp [m_nx1, c_7]; done)
  · refine lv_iconst (pc := 43) (v := 1) hx hb dX5_areNextNow_43 (by decide) ?_
    refine lv_goto (pc := 44) (tgt := 48) hx hb dX5_areNextNow_44 (by decide) ?_
    refine r_zret (pc := 48) E hr hlk hS (by omega) (by omega) rfl ?_ dX5_areNextNow_48
    subst er_5; first | with_reducible rfl | (simp [m_nx1, c_7]; done)
