set_option maxHeartbeats 4000000 in
set_option maxRecDepth 100000 in
/-- java/lang/StringBuilder.toString()Ljava/lang/String; -/
theorem c_J4_toString_0e30d (l : Launch) (D : va_G) (tk : Nat → ClassId) (N0 : Nat) (sa : Nat → Nat)  (sz : Nat) (a v cap n : Nat) (ml : Int32) (hn9 : n ≤ cap) (hcap : cap ≤ 100000000) : Met l yJ4_toString_0e30d (wsy yJ4_toString_0e30d cJ4_toString_0e30d 1 (some (.object "java/lang/String"))) ({ frames := 5, cells := 2, slots := 4 + n, locals := 117 } : Room) (cP D tk N0 sa [.ref a] sz (fun H => SBo D a v ml (nI n) H ∧ BA D tk v cap H)) (kQr (fun r H => ∃ q, sz ≤ r ∧ sz ≤ q ∧ SM D tk r q n H) (nwA sz)) (2) (4 + n) (nwA sz) := by
  refine mStart RJ4 rfl (by decide +kernel) (Nat.le_of_ble_eq_true rfl) ?_
  intro p e s m args below meth c E hr hlk hnm hsz hC hF ls hl
  subst hsz
  obtain ⟨hx, hb, -⟩ := id E
  have hA : ∀ q, (nwA s.heap.size) q → N0 ≤ q := fun q h => Nat.le_trans hC.2.1 h
  have hn : ∀ q, s.heap.size ≤ q → (nwA s.heap.size) q := fun q h => h
  have hS : va_S (nwA s.heap.size) s.heap s.heap [] := va_S.rf
  have hl : lv_has ls 1 [(0, .ref a)] := hl
  obtain ⟨f0, hB⟩ : SBo D a v ml (nI n) s.heap ∧ BA D tk v cap s.heap := hF
  have hS0_ := hS
  refine r_new (pc := 0) E hC hS tyJ0_ok uJ0 (List.mem_cons_of_mem _ kw_319) (List.mem_cons_of_mem _ kw_320) (List.mem_cons_of_mem _ kw_20) (ci := 0) rfl (fs := [.null, .int 0, .int 0, .int 0]) (by decide) (by dsimp only; omega) (by dsimp only; omega) dJ4_toString_0e30d_0 (fun qf1 H zq_ n_ ho_ hS => ?_)
  have l_f0_f1 : a < qf1 := zq_ ▸ f0.lt
  have f0 := f0.kept (ho_ _ f0.lt)
  have l_hB_f1 : v < qf1 := zq_ ▸ hB.lt
  have hB := hB.kept (ho_ _ hB.lt)
  have f1 := n_
  have s_f1 : s.heap.size ≤ qf1 := zq_ ▸ hS0_.1
  have g_f1 := hn _ s_f1
  refine lv_dup (pc := 3) hx hb dJ4_toString_0e30d_3 rfl ?_
  refine lv_aload_n (pc := 4) hx hb dJ4_toString_0e30d_4 rfl (lv_at hl 0 rfl) ?_
  have hZ0_ := hS.1
  have t_f0 := f0.lt
  have t_hB := hB.lt
  have t_f1 := f1.lt
  refine k_v (pc := 5) (k_I E hC hS hA hl.1 (c_J0_init_81219 l D tk N0 sa H.size qf1 a v cap n ml (hA _ g_f1) hn9 hcap) kw_321 kw_322 kw_20 kw_323 rfl (n := 1) (by decide +kernel) rfl ⟨⟨rfl, rfl⟩, ⟨Nat.le_of_ble_eq_true rfl, Nat.le_of_ble_eq_true rfl⟩, (by dsimp only; omega), (by dsimp only; omega)⟩ rfl (Nat.le_of_ble_eq_true rfl) ⟨f1, f0, hB⟩ dJ4_toString_0e30d_5) hS (inA1.to g_f1) hn (fun H locs hR hz hk hS => ?_)
  have f0 := f0.kept (hk _ f0.lt (inA1.not (clA.ne f0.cl f1.cl (hC.oo 1 0 rfl rfl (by decide))) f0.lt))
  have hB := hB.kept (hk _ hB.lt (inA1.not (clA.ne hB.cl f1.cl (hC.ao 0 1 rfl rfl)) hB.lt))
  obtain ⟨q_f3, z9_, f1, f3⟩ := hR
  have s_f3 : s.heap.size ≤ q_f3 := Nat.le_trans hZ0_ z9_
  have g_f3 := hn _ s_f3
  have l_f0_f3 : a < q_f3 := Nat.lt_of_lt_of_le t_f0 z9_
  have l_hB_f3 : v < q_f3 := Nat.lt_of_lt_of_le t_hB z9_
  have l_f1_f3 : qf1 < q_f3 := Nat.lt_of_lt_of_le t_f1 z9_
  refine r_aret (pc := 8) E hr (Or.inl ⟨_, rfl⟩) hlk hS (by omega) (by omega) ?_ dJ4_toString_0e30d_8
  exact ⟨_, s_f1, s_f3, f1, f3⟩
