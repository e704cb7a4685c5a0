set_option maxHeartbeats 4000000 in
set_option maxRecDepth 100000 in
/-- java/util/ArrayList.grow()[Ljava/lang/Object; -/
theorem c_Jx4a65c_grow_d5877_E (l : Launch) (D : va_G) (tk : Nat → ClassId) (N0 : Nat) (sa : Nat → Nat)  (sz : Nat) (a : Nat) (md : Int32) (ha9 : N0 ≤ a) : Met l yJx4a65c_grow_d5877 (wsy yJx4a65c_grow_d5877 cJx4a65c_grow_d5877 1 (some (.array (.object "java/lang/Object")))) ({ frames := 2, cells := 1, slots := 10, locals := 44 } : Room) (cP D tk N0 sa [.ref a] sz (fun H => c1 D a (.inr (7, [.int md, .ref (sa 1), .int 0])) H)) (kQr (fun r H => ∃ q, r = q ∧ sz ≤ q ∧ c1 D a (.inr (7, [.int md, .ref q, .int 0])) H ∧ c1 D q (.inl (tk 4, 10, .inr (.inr (.inr (.inr (fun _ => none)))))) H) (inA1 a sz)) (1) (10) (inA1 a sz) := by
  refine mStart RJx4a65c rfl (by decide +kernel) (Nat.le_of_ble_eq_true rfl) ?_
  intro p e s m args below meth c E hr hlk hnm hsz hC hF ls hl
  subst hsz
  obtain ⟨hx, hb, -⟩ := id E
  have hA : ∀ q, (inA1 a s.heap.size) q → N0 ≤ q := fun q h => h.elim (fun z => z ▸ ha9) (fun z => Nat.le_trans hC.2.1 z)
  have hn : ∀ q, s.heap.size ≤ q → (inA1 a s.heap.size) q := fun q h => Or.inr h
  have hS : va_S (inA1 a s.heap.size) s.heap s.heap [] := va_S.rf
  have hl : lv_has ls 1 [(0, .ref a)] := hl
  have f0 : c1 D a (.inr (7, [.int md, .ref (sa 1), .int 0])) s.heap := hF
  have g_f0 : (inA1 a s.heap.size) a := Or.inl rfl
  refine lv_aload_n (pc := 0) hx hb dJx4a65c_grow_d5877_0 rfl (lv_at hl 0 rfl) ?_
  refine lv_aload_n (pc := 1) hx hb dJx4a65c_grow_d5877_1 rfl (lv_at hl 0 rfl) ?_
  refine r_get (pc := 2) E hC f0 2 (v := .int 0) rfl rfl (by decide) uJx4a65c (List.mem_cons_of_mem _ kw_1187) (fun _ h => h) dJx4a65c_grow_d5877_2 ?_
  refine lv_iconst (pc := 5) (v := 1) hx hb dJx4a65c_grow_d5877_5 (by decide) ?_
  refine lv_iadd (pc := 6) hx hb dJx4a65c_grow_d5877_6 ?_
  have hZ0_ := hS.1
  have t_f0 := f0.lt
  refine k_r (pc := 7) (k_V E hC hS hA hl.1 (c1.recv hC f0 rfl) rfl (c_Jx4a65c_grow_92f84_E l D tk N0 sa s.heap.size a md (0 + 1) (hA _ g_f0) (by decide)) kw_1446 kw_1448 kp_27 kw_8 kw_1449 (n := 1) (by decide +kernel) rfl ⟨⟨rfl, rfl⟩, ⟨by decide, by decide⟩, by decide, by decide⟩ rfl (Nat.le_of_ble_eq_true rfl) f0 dJx4a65c_grow_d5877_7) hS (inA1.to g_f0) hn (fun r_1 H locs hR hz hk hS => ?_)
  obtain ⟨q2, hr9, z9_, f0, f2⟩ := hR
  rw [hr9]
  have s_f2 : s.heap.size ≤ q2 := Nat.le_trans hZ0_ z9_
  have g_f2 := hn _ s_f2
  have l_f0_f2 : a < q2 := Nat.lt_of_lt_of_le t_f0 z9_
  refine r_aret (pc := 10) E hr (Or.inr ⟨_, rfl⟩) hlk hS (by decide) (by decide) ?_ dJx4a65c_grow_d5877_10
  exact ⟨_, rfl, s_f2, f0, f2⟩
