set_option maxHeartbeats 4000000 in
set_option maxRecDepth 100000 in
/-- java/util/ArrayList.add(Ljava/lang/Object;)Z -/
theorem c_Jx4a65c_add_9ea2d_G (l : Launch) (D : va_G) (tk : Nat → ClassId) (N0 : Nat) (sa : Nat → Nat)  (sz : Nat) (a b n y ce : Nat) (md : Int32) (w : Value) (f : Nat → Option Nat) (vs : Nat → Value) (ha9 : N0 ≤ a) (hce : ce = 3 ∨ ce = 2) (h2n : 2 ≤ n) (hn9 : n ≤ 40000) : Met l yJx4a65c_add_9ea2d (wsy yJx4a65c_add_9ea2d cJx4a65c_add_9ea2d 2 (some .boolean)) ({ frames := 6, cells := 1, slots := n + n / 2, locals := 136 } : Room) (cP D tk N0 sa [.ref a, .ref y] sz (fun H => c1 D a (.inr (7, [.int md, .ref b, .int (nI n)])) H ∧ c1 D b (.inl (tk 4, n, .inr (.inr (.inr (.inr f))))) H ∧ EL D ce n f vs H ∧ xf D ce y 0 w H)) (kQi (fun r H => r = 1 ∧ ∃ q f1, sz ≤ q ∧ c1 D a (.inr (7, [.int (md + 1), .ref q, .int (nI (n + 1))])) H ∧ c1 D q (.inl (tk 4, n + n / 2, .inr (.inr (.inr (.inr f1))))) H ∧ EL D ce (n + 1) f1 (va_up vs n w) H) (inA1 a sz)) (1) (n + n / 2) (inA1 a sz) := by
  refine mStart RJx4a65c rfl (by decide +kernel) (Nat.le_of_ble_eq_true rfl) ?_
  intro p e s m args below meth c E hr hlk hnm hsz hC hF ls hl
  subst hsz
  obtain ⟨hx, hb, -⟩ := id E
  have hA : ∀ q, (inA1 a s.heap.size) q → N0 ≤ q := fun q h => h.elim (fun z => z ▸ ha9) (fun z => Nat.le_trans hC.2.1 z)
  have hn : ∀ q, s.heap.size ≤ q → (inA1 a s.heap.size) q := fun q h => Or.inr h
  have hS : va_S (inA1 a s.heap.size) s.heap s.heap [] := va_S.rf
  have hl : lv_has ls 2 [(0, .ref a), (1, .ref y)] := hl
  obtain ⟨f0, fR, el, x9⟩ : c1 D a (.inr (7, [.int md, .ref b, .int (nI n)])) s.heap ∧ c1 D b (.inl (tk 4, n, .inr (.inr (.inr (.inr f))))) s.heap ∧ EL D ce n f vs s.heap ∧ xf D ce y 0 w s.heap := hF
  have g_f0 : (inA1 a s.heap.size) a := Or.inl rfl
  refine lv_aload_n (pc := 0) hx hb dJx4a65c_add_9ea2d_0 rfl (lv_at hl 0 rfl) ?_
  refine lv_dup (pc := 1) hx hb dJx4a65c_add_9ea2d_1 rfl ?_
  refine r_get (pc := 2) E hC f0 0 (v := .int md) rfl rfl (by decide) uJx4a65c (List.mem_cons_of_mem _ kw_1191) (fun x9 h9 => u_same (E.2.2.2.2 _ (List.mem_cons_of_mem _ kw_1190)) x9 h9) dJx4a65c_add_9ea2d_2 ?_
  refine lv_iconst (pc := 5) (v := 1) hx hb dJx4a65c_add_9ea2d_5 (by decide) ?_
  refine lv_iadd (pc := 6) hx hb dJx4a65c_add_9ea2d_6 ?_
  refine r_put (pc := 7) E hC f0 hS g_f0 0 tyJx4a65c tyJx4a65c_ok nmJx4a65c rfl (by decide) (Nat.le_of_ble_eq_true rfl) uJx4a65c (List.mem_cons_of_mem _ kw_1191) (fun x9 h9 => u_same (E.2.2.2.2 _ (List.mem_cons_of_mem _ kw_1190)) x9 h9) rfl rfl rfl dJx4a65c_add_9ea2d_7 (fun H locs n_ ho hz hS => ?_)
  have fR := fR.kept (ho _ (clA.ne fR.cla f0.cl (hC.ao 7 4 rfl rfl)))
  have el := el.put ho (fun q9 h9 => clA.ne h9 f0.cl (hC.ceo hce 7 rfl (by decide)))
  have x9 := x9.kept (ho _ (clA.ne x9.cl f0.cl (hC.ceo hce 7 rfl (by decide))))
  have f0 : c1 D a (.inr (7, [.int (md + 1), .ref b, .int (nI n)])) H := n_
  refine lv_aload_n (pc := 10) hx hb dJx4a65c_add_9ea2d_10 rfl (lv_at hl 0 rfl) ?_
  refine lv_aload_n (pc := 11) hx hb dJx4a65c_add_9ea2d_11 rfl (lv_at hl 1 rfl) ?_
  refine lv_aload_n (pc := 12) hx hb dJx4a65c_add_9ea2d_12 rfl (lv_at hl 0 rfl) ?_
  refine r_get (pc := 13) E hC f0 1 (v := .ref b) rfl rfl (by decide) uJx4a65c (List.mem_cons_of_mem _ kw_1184) (fun _ h => h) dJx4a65c_add_9ea2d_13 ?_
  refine lv_aload_n (pc := 16) hx hb dJx4a65c_add_9ea2d_16 rfl (lv_at hl 0 rfl) ?_
  refine r_get (pc := 17) E hC f0 2 (v := .int (nI n)) rfl rfl (by decide) uJx4a65c (List.mem_cons_of_mem _ kw_1187) (fun _ h => h) dJx4a65c_add_9ea2d_17 ?_
  have hZ0_ := hS.1
  have t_f0 := f0.lt
  have t_fR := fR.lt
  have t_x9 := x9.lt
  refine k_v (pc := 20) (k_V E hC hS hA hl.1 (c1.recv hC f0 rfl) rfl (c_Jx4a65c_add_72be8_G l D tk N0 sa H.size a b n y ce (md + 1) w f vs (hA _ g_f0) hce h2n hn9) kw_1438 kw_1440 kp_25 kw_8 kw_1441 (n := 3) (by decide +kernel) rfl ⟨⟨rfl, rfl⟩, ⟨Nat.le_of_ble_eq_true rfl, Nat.le_of_ble_eq_true rfl⟩, (by dsimp only; omega), (by dsimp only; omega)⟩ rfl (Nat.le_of_ble_eq_true rfl) ⟨f0, fR, el, x9⟩ dJx4a65c_add_9ea2d_20) hS (inA1.to g_f0) hn (fun H locs hR hz hk hS => ?_)
  have fR := fR.kept (hk _ fR.lt (inA1.not (clA.ne fR.cla f0.cl (hC.ao 7 4 rfl rfl)) fR.lt))
  have x9 := x9.kept (hk _ x9.lt (inA1.not (clA.ne x9.cl f0.cl (hC.ceo hce 7 rfl (by decide))) x9.lt))
  obtain ⟨q2, f_2, z9_, f0, f2, el⟩ := hR
  have s_f2 : s.heap.size ≤ q2 := Nat.le_trans hZ0_ z9_
  have g_f2 := hn _ s_f2
  have l_f0_f2 : a < q2 := Nat.lt_of_lt_of_le t_f0 z9_
  have l_fR_f2 : b < q2 := Nat.lt_of_lt_of_le t_fR z9_
  have l_x9_f2 : y < q2 := Nat.lt_of_lt_of_le t_x9 z9_
  refine lv_iconst (pc := 23) (v := 1) hx hb dJx4a65c_add_9ea2d_23 (by decide) ?_
  refine r_zret (pc := 24) E hr hlk hS (by omega) (by omega) rfl ?_ dJx4a65c_add_9ea2d_24
  exact ⟨rfl, _, _, s_f2, f0, f2, el⟩
