set_option maxHeartbeats 4000000 in
set_option maxRecDepth 100000 in
/-- java/util/ArrayList.grow()[Ljava/lang/Object; -/
theorem c_Jx4a65c_grow_d5877_G (l : Launch) (D : va_G) (tk : Nat → ClassId) (N0 : Nat) (sa : Nat → Nat)  (sz : Nat) (a b n ce : Nat) (md : Int32) (f : Nat → Option Nat) (vs : Nat → Value) (ha9 : N0 ≤ a) (hce : ce = 3 ∨ ce = 2) (h2n : 2 ≤ n) (hn9 : n ≤ 40000) : Met l yJx4a65c_grow_d5877 (wsy yJx4a65c_grow_d5877 cJx4a65c_grow_d5877 1 (some (.array (.object "java/lang/Object")))) ({ frames := 4, cells := 1, slots := n + n / 2, locals := 93 } : Room) (cP D tk N0 sa [.ref a] sz (fun H => c1 D a (.inr (7, [.int md, .ref b, .int (nI n)])) H ∧ c1 D b (.inl (tk 4, n, .inr (.inr (.inr (.inr f))))) H ∧ EL D ce n f vs H)) (kQr (fun r H => ∃ q f1, r = q ∧ sz ≤ q ∧ c1 D a (.inr (7, [.int md, .ref q, .int (nI n)])) H ∧ c1 D q (.inl (tk 4, n + n / 2, .inr (.inr (.inr (.inr f1))))) H ∧ EL D ce n f1 vs H) (inA1 a sz)) (1) (n + n / 2) (inA1 a sz) := by
  refine mStart RJx4a65c rfl (by decide +kernel) (Nat.le_of_ble_eq_true rfl) ?_
  intro p e s m args below meth c E hr hlk hnm hsz hC hF ls hl
  subst hsz
  obtain ⟨hx, hb, -⟩ := id E
  have hA : ∀ q, (inA1 a s.heap.size) q → N0 ≤ q := fun q h => h.elim (fun z => z ▸ ha9) (fun z => Nat.le_trans hC.2.1 z)
  have hn : ∀ q, s.heap.size ≤ q → (inA1 a s.heap.size) q := fun q h => Or.inr h
  have hS : va_S (inA1 a s.heap.size) s.heap s.heap [] := va_S.rf
  have hl : lv_has ls 1 [(0, .ref a)] := hl
  obtain ⟨f0, fR, el⟩ : c1 D a (.inr (7, [.int md, .ref b, .int (nI n)])) s.heap ∧ c1 D b (.inl (tk 4, n, .inr (.inr (.inr (.inr f))))) s.heap ∧ EL D ce n f vs s.heap := hF
  have g_f0 : (inA1 a s.heap.size) a := Or.inl rfl
  refine lv_aload_n (pc := 0) hx hb dJx4a65c_grow_d5877_0 rfl (lv_at hl 0 rfl) ?_
  refine lv_aload_n (pc := 1) hx hb dJx4a65c_grow_d5877_1 rfl (lv_at hl 0 rfl) ?_
  refine r_get (pc := 2) E hC f0 2 (v := .int (nI n)) rfl rfl (by decide) uJx4a65c (List.mem_cons_of_mem _ kw_1187) (fun _ h => h) dJx4a65c_grow_d5877_2 ?_
  refine lv_iconst (pc := 5) (v := 1) hx hb dJx4a65c_grow_d5877_5 (by decide) ?_
  refine lv_iadd (pc := 6) hx hb dJx4a65c_grow_d5877_6 ?_
  have hZ0_ := hS.1
  have t_f0 := f0.lt
  have t_fR := fR.lt
  refine k_r (pc := 7) (k_V E hC hS hA hl.1 (c1.recv hC f0 rfl) rfl (c_Jx4a65c_grow_92f84_G l D tk N0 sa s.heap.size a b n ce md ((nI n) + 1) f vs (hA _ g_f0) hce h2n hn9 (nI_1 _)) kw_1446 kw_1448 kp_27 kw_8 kw_1449 (n := 1) (by decide +kernel) rfl ⟨⟨rfl, rfl⟩, ⟨Nat.le_of_ble_eq_true rfl, Nat.le_of_ble_eq_true rfl⟩, (by dsimp only; omega), (by dsimp only; omega)⟩ rfl (Nat.le_of_ble_eq_true rfl) ⟨f0, fR, el⟩ dJx4a65c_grow_d5877_7) hS (inA1.to g_f0) hn (fun r_1 H locs hR hz hk hS => ?_)
  have fR := fR.kept (hk _ fR.lt (inA1.not (clA.ne fR.cla f0.cl (hC.ao 7 4 rfl rfl)) fR.lt))
  obtain ⟨q2, f_2, hr9, z9_, f0, f2, el⟩ := hR
  rw [hr9]
  have s_f2 : s.heap.size ≤ q2 := Nat.le_trans hZ0_ z9_
  have g_f2 := hn _ s_f2
  have l_f0_f2 : a < q2 := Nat.lt_of_lt_of_le t_f0 z9_
  have l_fR_f2 : b < q2 := Nat.lt_of_lt_of_le t_fR z9_
  refine r_aret (pc := 10) E hr (Or.inr ⟨_, rfl⟩) hlk hS (by omega) (by omega) ?_ dJx4a65c_grow_d5877_10
  exact ⟨_, _, rfl, s_f2, f0, f2, el⟩
