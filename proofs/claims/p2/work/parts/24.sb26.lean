set_option maxHeartbeats 4000000 in
set_option maxRecDepth 100000 in
/-- java/lang/String.<init>(Ljava/lang/StringBuilder;)V -/
theorem c_J0_init_81219 (l : Launch) (D : va_G) (tk : Nat → ClassId) (N0 : Nat) (sa : Nat → Nat)  (sz : Nat) (t a v cap n : Nat) (ml : Int32) (ha9 : N0 ≤ t) (hn9 : n ≤ cap) (hcap : cap ≤ 100000000) : Met l yJ0_init_81219 (wsy yJ0_init_81219 cJ0_init_81219 2 none) ({ frames := 4, cells := 1, slots := n, locals := 96 } : Room) (cP D tk N0 sa [.ref t, .ref a] sz (fun H => c1 D t (.inr (0, [.null, .int 0, .int 0, .int 0])) H ∧ SBo D a v ml (nI n) H ∧ BA D tk v cap H)) (kQv (fun H => ∃ q, sz ≤ q ∧ SM D tk t q n H) (inA1 t sz)) (1) (n) (inA1 t sz) := by
  refine mStart RJ0 rfl (by decide +kernel) (Nat.le_of_ble_eq_true rfl) ?_
  intro p e s m args below meth c E hr hlk hnm hsz hC hF ls hl
  subst hsz
  obtain ⟨hx, hb, -⟩ := id E
  have hA : ∀ q, (inA1 t s.heap.size) q → N0 ≤ q := fun q h => h.elim (fun z => z ▸ ha9) (fun z => Nat.le_trans hC.2.1 z)
  have hn : ∀ q, s.heap.size ≤ q → (inA1 t s.heap.size) q := fun q h => Or.inr h
  have hS : va_S (inA1 t s.heap.size) s.heap s.heap [] := va_S.rf
  have hl : lv_has ls 2 [(0, .ref t), (1, .ref a)] := hl
  obtain ⟨fT, f0, hB⟩ : c1 D t (.inr (0, [.null, .int 0, .int 0, .int 0])) s.heap ∧ SBo D a v ml (nI n) s.heap ∧ BA D tk v cap s.heap := hF
  have g_fT : (inA1 t s.heap.size) t := Or.inl rfl
  refine lv_aload_n (pc := 0) hx hb dJ0_init_81219_0 rfl (lv_at hl 0 rfl) ?_
  refine lv_aload_n (pc := 1) hx hb dJ0_init_81219_1 rfl (lv_at hl 1 rfl) ?_
  refine lv_null (pc := 2) hx hb dJ0_init_81219_2 ?_
  have hZ0_ := hS.1
  have t_fT := fT.lt
  have t_f0 := f0.lt
  have t_hB := hB.lt
  refine k_v (pc := 3) (k_I E hC hS hA hl.1 (c_J0_init_db425 l D tk N0 sa s.heap.size t a v cap n ml (hA _ g_fT) hn9 hcap) kw_324 kw_325 kw_20 kw_326 rfl (n := 2) (by decide +kernel) rfl ⟨⟨rfl, rfl⟩, ⟨Nat.le_of_ble_eq_true rfl, Nat.le_of_ble_eq_true rfl⟩, (by dsimp only; omega), (by dsimp only; omega)⟩ rfl (Nat.le_of_ble_eq_true rfl) ⟨fT, f0, hB⟩ dJ0_init_81219_3) hS (inA1.to g_fT) hn (fun H locs hR hz hk hS => ?_)
  have f0 := f0.kept (hk _ f0.lt (inA1.not (clA.ne f0.cl fT.cl (hC.oo 1 0 rfl rfl (by decide))) f0.lt))
  have hB := hB.kept (hk _ hB.lt (inA1.not (clA.ne hB.cl fT.cl (hC.ao 0 1 rfl rfl)) hB.lt))
  obtain ⟨q_f2, z9_, fT, f2⟩ := hR
  have s_f2 : s.heap.size ≤ q_f2 := Nat.le_trans hZ0_ z9_
  have g_f2 := hn _ s_f2
  have l_fT_f2 : t < q_f2 := Nat.lt_of_lt_of_le t_fT z9_
  have l_f0_f2 : a < q_f2 := Nat.lt_of_lt_of_le t_f0 z9_
  have l_hB_f2 : v < q_f2 := Nat.lt_of_lt_of_le t_hB z9_
  refine r_vret (pc := 6) E hr hlk hS (by omega) (by omega) ?_ dJ0_init_81219_6
  exact ⟨_, s_f2, fT, f2⟩
