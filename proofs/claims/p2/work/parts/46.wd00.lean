set_option maxHeartbeats 4000000 in
set_option maxRecDepth 100000 in
/-- BestratiosModel.told(Ljava/util/ArrayList;)Ljava/lang/String; -/
theorem c_X5_told_E (l : Launch) (D : va_G) (tk : Nat → ClassId) (N0 : Nat) (sa : Nat → Nat)  (sz : Nat) (a : Nat) (md : Int32) : Met l yX5_told (wsy yX5_told cX5_told 5 (some (.object "java/lang/String"))) ({ frames := 3, cells := 1, slots := 4, locals := 61 } : Room) (cP D tk N0 sa [.ref a] sz (fun H => c1 D a (.inr (7, [.int md, .ref (sa 1), .int 0])) H)) (kQr (fun r H => ∃ n9, n9 ≤ 516 ∧ SX D tk r n9 H) (nwA sz)) (1) (4) (nwA sz) := by
  refine mStart RX5 rfl (by decide +kernel) (Nat.le_of_ble_eq_true rfl) ?_
  intro p e s m args below meth c E hr hlk hnm hsz hC hF ls hl
  subst hsz
  obtain ⟨hx, hb, -⟩ := id E
  have hA : ∀ q, (nwA s.heap.size) q → N0 ≤ q := fun q h => Nat.le_trans hC.2.1 h
  have hn : ∀ q, s.heap.size ≤ q → (nwA s.heap.size) q := fun q h => h
  have hS : va_S (nwA s.heap.size) s.heap s.heap [] := va_S.rf
  have hl : lv_has ls 5 [(0, .ref a)] := hl
  have f0 : c1 D a (.inr (7, [.int md, .ref (sa 1), .int 0])) s.heap := hF
  refine va_ldcS (pc := 0) hx hb E.2.2.2.1 (hC.2.2.2.2.1 6 _ rfl).1 dX5_told_0 ?_
  have k1 : SX D tk (sa (10 + 6)) 0 s.heap := hC.str hS hA 6 _ rfl (by decide)
  refine lv_astore_n (pc := 2) (lv' := [(1, .ref (sa (10 + 6))), (0, .ref a)]) hx hb dX5_told_2 rfl hl (by decide) rfl (fun ls hl => ?_)
  refine lv_aload_n (pc := 3) hx hb dX5_told_3 rfl (lv_at hl 1 rfl) ?_
  have hZ0_ := hS.1
  have t_f0 := f0.lt
  have t_k1 := k1.lt
  refine k_r (pc := 4) (k_V E hC hS hA hl.1 (c1.recv hC f0 rfl) rfl (c_Jx4a65c_iterator_32c93 l D tk N0 sa s.heap.size a (sa 1) 0 md) kw_1486 kw_1487 kw_1488 kw_8 kw_1489 (n := 0) (by decide +kernel) rfl ⟨⟨rfl, rfl⟩, ⟨Nat.le_of_ble_eq_true rfl, Nat.le_of_ble_eq_true rfl⟩, (by dsimp only; omega), (by dsimp only; omega)⟩ rfl (Nat.le_of_ble_eq_true rfl) (by exact f0) dX5_told_4) hS (fun q z w => absurd w (Nat.not_le.mpr z)) hn (fun r_2 H locs hR hz hk hS => ?_)
  have f0 := f0.kept (hk _ f0.lt (Nat.not_le.mpr f0.lt))
  have k1 := k1.new hk
  obtain ⟨z9_, f3⟩ := hR
  have s_f3 : s.heap.size ≤ r_2 := Nat.le_trans hZ0_ z9_
  have g_f3 := hn _ s_f3
  have l_f0_f3 : a < r_2 := Nat.lt_of_lt_of_le t_f0 z9_
  have l_k1_f3 : sa (10 + 6) < r_2 := Nat.lt_of_lt_of_le t_k1 z9_
  refine lv_astore_n (pc := 7) (lv' := [(2, .ref r_2), (1, .ref (sa (10 + 6))), (0, .ref a)]) hx hb dX5_told_7 rfl hl (by decide) rfl (fun ls hl => ?_)
  refine lv_aload_n (pc := 8) hx hb dX5_told_8 rfl (lv_at hl 0 rfl) ?_
  refine k5_i (pc := 9) (k_F (ci := 6) rfl hC.xt.2.2.2.1 E hC hS hA hl.1 (c1.recv hC f3 rfl) (c_Jx35411_hasNext_aae02 l D tk N0 sa H.size r_2 a (sa 1) 0 0 md ((-1)) (by omega) (by omega)) kw_1510 kw_1516 kw_1514 kw_29 kw_1518 (n := 0) (by decide +kernel) rfl ⟨⟨rfl, rfl⟩, ⟨Nat.le_of_ble_eq_true rfl, Nat.le_of_ble_eq_true rfl⟩, (by dsimp only; omega), (by dsimp only; omega)⟩ rfl (Nat.le_of_ble_eq_true rfl) ⟨f3, f0⟩ dX5_told_9) hS (fun q z w => absurd w (Nat.not_le.mpr z)) hn (fun r_4 H locs hR hz hk hS => ?_)
  have f0 := f0.kept (hk _ f0.lt (Nat.not_le.mpr f0.lt))
  have k1 := k1.new hk
  have f3 := f3.kept (hk _ f3.lt (Nat.not_le.mpr f3.lt))
  have hn_r_4 := hR
  refine lv_if_eq (pc := 14) (tgt := 69) hx hb dX5_told_14 (by decide) (fun c_5 => ?_) (fun c_5 => ?_)
  rotate_left
  · exact absurd (hn_r_4.elim (fun z9 => z9.1) (fun z9 => absurd rfl z9.2)) c_5
  refine lv_aload_n (pc := 69) hx hb dX5_told_69 rfl (lv_at hl 1 rfl) ?_
  refine r_aret (pc := 70) E hr (Or.inl ⟨_, rfl⟩) hlk hS (by omega) (by omega) ?_ dX5_told_70
  exact ⟨0, by omega, k1⟩
