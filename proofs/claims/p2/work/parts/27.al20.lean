set_option maxHeartbeats 4000000 in
set_option maxRecDepth 100000 in
/-- java/util/ArrayList.add(Ljava/lang/Object;)Z -/
theorem c_Jx4a65c_add_9ea2d (l : Launch) (D : va_G) (tk : Nat → ClassId) (N0 : Nat) (sa : Nat → Nat)  (sz : Nat) (a b n cap y ce : Nat) (md : Int32) (w : Value) (f : Nat → Option Nat) (vs : Nat → Value) (ha9 : N0 ≤ a) (hv9 : N0 ≤ b) (hce : ce = 3 ∨ ce = 2) (hnc : n < cap) (hcap : cap ≤ 100000) : Met l yJx4a65c_add_9ea2d (wsy yJx4a65c_add_9ea2d cJx4a65c_add_9ea2d 2 (some .boolean)) ({ frames := 1, cells := 0, slots := 0, locals := 23 } : Room) (cP D tk N0 sa [.ref a, .ref y] sz (fun H => c1 D a (.inr (7, [.int md, .ref b, .int (nI n)])) H ∧ c1 D b (.inl (tk 4, cap, .inr (.inr (.inr (.inr f))))) H ∧ EL D ce n f vs H ∧ xf D ce y 0 w H)) (kQi (fun r H => r = 1 ∧ c1 D a (.inr (7, [.int (md + 1), .ref b, .int (nI (n + 1))])) H ∧ c1 D b (.inl (tk 4, cap, .inr (.inr (.inr (.inr (va_up f n (some y))))))) H ∧ EL D ce (n + 1) (va_up f n (some y)) (va_up vs n w) H) (inA2 a b sz)) (0) (0) (inA2 a b sz) := by
  refine mStart RJx4a65c rfl (by decide +kernel) (Nat.le_of_ble_eq_true rfl) ?_
  intro p e s m args below meth c E hr hlk hnm hsz hC hF ls hl
  subst hsz
  obtain ⟨hx, hb, -⟩ := id E
  have hA : ∀ q, (inA2 a b s.heap.size) q → N0 ≤ q := fun q h => h.elim (fun z => z ▸ ha9) (fun z => z.elim (fun w => w ▸ hv9) (fun w => Nat.le_trans hC.2.1 w))
  have hn : ∀ q, s.heap.size ≤ q → (inA2 a b s.heap.size) q := fun q h => Or.inr (Or.inr h)
  have hS : va_S (inA2 a b s.heap.size) s.heap s.heap [] := va_S.rf
  have hl : lv_has ls 2 [(0, .ref a), (1, .ref y)] := hl
  obtain ⟨f0, fR, el, x9⟩ : c1 D a (.inr (7, [.int md, .ref b, .int (nI n)])) s.heap ∧ c1 D b (.inl (tk 4, cap, .inr (.inr (.inr (.inr f))))) s.heap ∧ EL D ce n f vs s.heap ∧ xf D ce y 0 w s.heap := hF
  have g_f0 : (inA2 a b s.heap.size) a := Or.inl rfl
  have g_fR : (inA2 a b s.heap.size) b := Or.inr (Or.inl rfl)
  refine lv_aload_n (pc := 0) hx hb dJx4a65c_add_9ea2d_0 rfl (lv_at hl 0 rfl) ?_
  refine lv_dup (pc := 1) hx hb dJx4a65c_add_9ea2d_1 rfl ?_
  refine r_get (pc := 2) E hC f0 0 (v := .int md) rfl rfl (by decide) uJx4a65c (List.mem_cons_of_mem _ kw_1191) (fun x9 h9 => u_same (E.2.2.2.2 _ (List.mem_cons_of_mem _ kw_1190)) x9 h9) dJx4a65c_add_9ea2d_2 ?_
  refine lv_iconst (pc := 5) (v := 1) hx hb dJx4a65c_add_9ea2d_5 (by decide) ?_
  refine lv_iadd (pc := 6) hx hb dJx4a65c_add_9ea2d_6 ?_
  refine r_put (pc := 7) E hC f0 hS g_f0 0 tyJx4a65c tyJx4a65c_ok nmJx4a65c rfl (by decide) (Nat.le_of_ble_eq_true rfl) uJx4a65c (List.mem_cons_of_mem _ kw_1191) (fun x9 h9 => u_same (E.2.2.2.2 _ (List.mem_cons_of_mem _ kw_1190)) x9 h9) rfl rfl rfl dJx4a65c_add_9ea2d_7 (fun H locs n_ ho hz hS => ?_)
  have fR := fR.kept (ho _ (clA.ne fR.cla f0.cl (hC.ao 7 4 rfl rfl)))
  have el := el.put ho (fun q9 h9 => clA.ne h9 f0.cl (hC.ceo hce 7 rfl (by decide)))
  have x9 := x9.kept (ho _ (clA.ne x9.cl f0.cl (hC.ceo hce 7 rfl (by decide))))
  have f0 : c1 D a (.inr (7, [.int (md + 1), .ref b, .int (nI n)])) H := n_
  refine lv_aload_n (pc := 10) hx hb dJx4a65c_add_9ea2d_10 rfl (lv_at hl 0 rfl) ?_
  refine lv_aload_n (pc := 11) hx hb dJx4a65c_add_9ea2d_11 rfl (lv_at hl 1 rfl) ?_
  refine lv_aload_n (pc := 12) hx hb dJx4a65c_add_9ea2d_12 rfl (lv_at hl 0 rfl) ?_
  refine r_get (pc := 13) E hC f0 1 (v := .ref b) rfl rfl (by decide) uJx4a65c (List.mem_cons_of_mem _ kw_1184) (fun _ h => h) dJx4a65c_add_9ea2d_13 ?_
  refine lv_aload_n (pc := 16) hx hb dJx4a65c_add_9ea2d_16 rfl (lv_at hl 0 rfl) ?_
  refine r_get (pc := 17) E hC f0 2 (v := .int (nI n)) rfl rfl (by decide) uJx4a65c (List.mem_cons_of_mem _ kw_1187) (fun _ h => h) dJx4a65c_add_9ea2d_17 ?_
  refine k_v (pc := 20) (k_V E hC hS hA hl.1 (c1.recv hC f0 rfl) rfl (c_Jx4a65c_add_72be8 l D tk N0 sa H.size a b n cap y ce (md + 1) w f vs (hA _ g_f0) (hA _ g_fR) hce hnc hcap) kw_1438 kw_1440 kp_25 kw_8 kw_1441 (n := 3) (by decide +kernel) rfl ⟨⟨rfl, rfl⟩, ⟨by decide, by decide⟩, by decide, by decide⟩ rfl (Nat.le_of_ble_eq_true rfl) ⟨f0, fR, el, x9⟩ dJx4a65c_add_9ea2d_20) hS (inA2.to g_f0 g_fR) hn (fun H locs hR hz hk hS => ?_)
  have x9 := x9.kept (hk _ x9.lt (inA2.not (clA.ne x9.cl f0.cl (hC.ceo hce 7 rfl (by decide))) (clA.ne x9.cl fR.cla (hC.cea hce 4 rfl)) x9.lt))
  obtain ⟨f0, fR, el⟩ := hR
  refine lv_iconst (pc := 23) (v := 1) hx hb dJx4a65c_add_9ea2d_23 (by decide) ?_
  refine r_zret (pc := 24) E hr hlk hS (by decide) (by decide) rfl ?_ dJx4a65c_add_9ea2d_24
  exact ⟨rfl, f0, fR, el⟩
