set_option maxHeartbeats 4000000 in
set_option maxRecDepth 100000 in
/-- java/util/ArrayList.add(Ljava/lang/Object;[Ljava/lang/Object;I)V -/
theorem c_Jx4a65c_add_72be8_G (l : Launch) (D : va_G) (tk : Nat → ClassId) (N0 : Nat) (sa : Nat → Nat)  (sz : Nat) (a b n y ce : Nat) (md : Int32) (w : Value) (f : Nat → Option Nat) (vs : Nat → Value) (ha9 : N0 ≤ a) (hce : ce = 3 ∨ ce = 2) (h2n : 2 ≤ n) (hn9 : n ≤ 40000) : Met l yJx4a65c_add_72be8 (wsy yJx4a65c_add_72be8 cJx4a65c_add_72be8 4 none) ({ frames := 5, cells := 1, slots := n + n / 2, locals := 113 } : Room) (cP D tk N0 sa [.ref a, .ref y, .ref b, .int (nI n)] sz (fun H => c1 D a (.inr (7, [.int md, .ref b, .int (nI n)])) H ∧ c1 D b (.inl (tk 4, n, .inr (.inr (.inr (.inr f))))) H ∧ EL D ce n f vs H ∧ xf D ce y 0 w H)) (kQv (fun H => ∃ q f1, sz ≤ q ∧ c1 D a (.inr (7, [.int md, .ref q, .int (nI (n + 1))])) H ∧ c1 D q (.inl (tk 4, n + n / 2, .inr (.inr (.inr (.inr f1))))) H ∧ EL D ce (n + 1) f1 (va_up vs n w) H) (inA1 a sz)) (1) (n + n / 2) (inA1 a sz) := by
  refine mStart RJx4a65c rfl (by decide +kernel) (Nat.le_of_ble_eq_true rfl) ?_
  intro p e s m args below meth c E hr hlk hnm hsz hC hF ls hl
  subst hsz
  obtain ⟨hx, hb, -⟩ := id E
  have hA : ∀ q, (inA1 a s.heap.size) q → N0 ≤ q := fun q h => h.elim (fun z => z ▸ ha9) (fun z => Nat.le_trans hC.2.1 z)
  have hn : ∀ q, s.heap.size ≤ q → (inA1 a s.heap.size) q := fun q h => Or.inr h
  have hS : va_S (inA1 a s.heap.size) s.heap s.heap [] := va_S.rf
  have hl : lv_has ls 4 [(0, .ref a), (1, .ref y), (2, .ref b), (3, .int (nI n))] := hl
  obtain ⟨f0, fR, el, x9⟩ : c1 D a (.inr (7, [.int md, .ref b, .int (nI n)])) s.heap ∧ c1 D b (.inl (tk 4, n, .inr (.inr (.inr (.inr f))))) s.heap ∧ EL D ce n f vs s.heap ∧ xf D ce y 0 w s.heap := hF
  have g_f0 : (inA1 a s.heap.size) a := Or.inl rfl
  refine lv_iload_n (pc := 0) hx hb dJx4a65c_add_72be8_0 rfl (lv_at hl 3 rfl) ?_
  refine lv_aload_n (pc := 1) hx hb dJx4a65c_add_72be8_1 rfl (lv_at hl 2 rfl) ?_
  obtain ⟨x_1, ex_1⟩ : ∃ z9 : Int32, z9 = nI n := ⟨_, rfl⟩
  refine r_alen (pc := 2) E hC fR 4 rfl (v := x_1) ex_1.symm dJx4a65c_add_72be8_2 ?_
  refine lv_icmp_ne (pc := 3) (tgt := 11) hx hb dJx4a65c_add_72be8_3 (by decide) (fun c_2 => ?_) (fun c_2 => ?_)
  · exact absurd ex_1.symm c_2
  refine lv_aload_n (pc := 6) hx hb dJx4a65c_add_72be8_6 rfl (lv_at hl 0 rfl) ?_
  have hZ0_ := hS.1
  have t_f0 := f0.lt
  have t_fR := fR.lt
  have t_x9 := x9.lt
  refine k_r (pc := 7) (k_V E hC hS hA hl.1 (c1.recv hC f0 rfl) rfl (c_Jx4a65c_grow_d5877_G l D tk N0 sa s.heap.size a b n ce md f vs (hA _ g_f0) hce h2n hn9) kw_1442 kw_1444 kp_26 kw_8 kw_1445 (n := 0) (by decide +kernel) rfl ⟨⟨rfl, rfl⟩, ⟨Nat.le_of_ble_eq_true rfl, Nat.le_of_ble_eq_true rfl⟩, (by dsimp only; omega), (by dsimp only; omega)⟩ rfl (Nat.le_of_ble_eq_true rfl) ⟨f0, fR, el⟩ dJx4a65c_add_72be8_7) hS (inA1.to g_f0) hn (fun r_3 H locs hR hz hk hS => ?_)
  have fR := fR.kept (hk _ fR.lt (inA1.not (clA.ne fR.cla f0.cl (hC.ao 7 4 rfl rfl)) fR.lt))
  have x9 := x9.kept (hk _ x9.lt (inA1.not (clA.ne x9.cl f0.cl (hC.ceo hce 7 rfl (by decide))) x9.lt))
  obtain ⟨q4, f_4, hr9, z9_, f0, f4, el⟩ := hR
  rw [hr9]
  have s_f4 : s.heap.size ≤ q4 := Nat.le_trans hZ0_ z9_
  have g_f4 := hn _ s_f4
  have l_f0_f4 : a < q4 := Nat.lt_of_lt_of_le t_f0 z9_
  have l_fR_f4 : b < q4 := Nat.lt_of_lt_of_le t_fR z9_
  have l_x9_f4 : y < q4 := Nat.lt_of_lt_of_le t_x9 z9_
  refine lv_astore_n (pc := 10) (lv' := [(2, .ref q4), (0, .ref a), (1, .ref y), (3, .int (nI n))]) hx hb dJx4a65c_add_72be8_10 rfl hl (by decide) rfl (fun ls hl => ?_)
  refine lv_aload_n (pc := 11) hx hb dJx4a65c_add_72be8_11 rfl (lv_at hl 0 rfl) ?_
  refine lv_iload_n (pc := 12) hx hb dJx4a65c_add_72be8_12 rfl (lv_at hl 3 rfl) ?_
  refine lv_aload_n (pc := 13) hx hb dJx4a65c_add_72be8_13 rfl (lv_at hl 2 rfl) ?_
  refine r_aastM (pc := 14) E hC f4 (x9.any hC hce) hS g_f4 n rfl (by omega) (by omega) dJx4a65c_add_72be8_14 (fun H locs n_ ho hz hS => ?_)
  have f0 := f0.kept (ho _ (clA.ne f0.cl f4.cla (hC.oa 7 4 rfl rfl)))
  have fR := fR.kept (ho _ (Nat.ne_of_lt l_fR_f4))
  have x9 := x9.kept (ho _ (clA.ne x9.cl f4.cla (hC.cea hce 4 rfl)))
  have el := el.put ho (fun q9 h9 => clA.ne h9 f4.cla (hC.cea hce 4 rfl))
  have f4 := n_
  refine lv_aload_n (pc := 15) hx hb dJx4a65c_add_72be8_15 rfl (lv_at hl 1 rfl) ?_
  refine lv_iload_n (pc := 16) hx hb dJx4a65c_add_72be8_16 rfl (lv_at hl 3 rfl) ?_
  refine lv_iconst (pc := 17) (v := 1) hx hb dJx4a65c_add_72be8_17 (by decide) ?_
  refine lv_iadd (pc := 18) hx hb dJx4a65c_add_72be8_18 ?_
  refine r_put (pc := 19) E hC f0 hS g_f0 2 tyJx4a65c tyJx4a65c_ok nmJx4a65c rfl (by decide) (Nat.le_of_ble_eq_true rfl) uJx4a65c (List.mem_cons_of_mem _ kw_1187) (fun _ h => h) rfl rfl rfl dJx4a65c_add_72be8_19 (fun H locs n_ ho hz hS => ?_)
  have fR := fR.kept (ho _ (clA.ne fR.cla f0.cl (hC.ao 7 4 rfl rfl)))
  have x9 := x9.kept (ho _ (clA.ne x9.cl f0.cl (hC.ceo hce 7 rfl (by decide))))
  have f4 := f4.kept (ho _ (clA.ne f4.cla f0.cl (hC.ao 7 4 rfl rfl)))
  have el := el.put ho (fun q9 h9 => clA.ne h9 f0.cl (hC.ceo hce 7 rfl (by decide)))
  have f0 : c1 D a (.inr (7, [.int md, .ref q4, .int ((nI n) + 1)])) H := n_
  refine r_vret (pc := 22) E hr hlk hS (by omega) (by omega) ?_ dJx4a65c_add_72be8_22
  exact ⟨_, _, s_f4, (by have h9 := f0; rw [nI_1] at h9; exact h9), f4, el.add x9⟩
