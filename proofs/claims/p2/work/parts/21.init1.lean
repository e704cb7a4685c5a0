set_option maxHeartbeats 4000000 in
set_option maxRecDepth 100000 in
/-- Bestratios$Terms.<init>()V -/
theorem c_X2_init (l : Launch) (D : va_G) (tk : Nat → ClassId) (N0 : Nat) (sa : Nat → Nat)  (sz : Nat) (a : Nat) (ha9 : N0 ≤ a) : Met l yX2_init (wsy yX2_init cX2_init 1 none) ({ frames := 1, cells := 1, slots := 64, locals := 20 } : Room) (cP D tk N0 sa [.ref a] sz (fun H => c1 D a (.inr (10, [.null, .int 0])) H)) (kQv (fun H => ∃ q, sz ≤ q ∧ c1 D a (.inr (10, [.ref q, .int 0])) H ∧ c1 D q (.inl (tk 0, 64, .inr (.inl (fun _ => 0)))) H) (inA1 a sz)) (1) (64) (inA1 a sz) := by
  refine mStart RX2 rfl (by decide +kernel) (Nat.le_of_ble_eq_true rfl) ?_
  intro p e s m args below meth c E hr hlk hnm hsz hC hF ls hl
  subst hsz
  obtain ⟨hx, hb, -⟩ := id E
  have hA : ∀ q, (inA1 a s.heap.size) q → N0 ≤ q := fun q h => h.elim (fun z => z ▸ ha9) (fun z => Nat.le_trans hC.2.1 z)
  have hn : ∀ q, s.heap.size ≤ q → (inA1 a s.heap.size) q := fun q h => Or.inr h
  have hS : va_S (inA1 a s.heap.size) s.heap s.heap [] := va_S.rf
  have hl : lv_has ls 1 [(0, .ref a)] := hl
  have f0 : c1 D a (.inr (10, [.null, .int 0])) s.heap := hF
  have g_f0 : (inA1 a s.heap.size) a := Or.inl rfl
  refine lv_aload_n (pc := 0) hx hb dX2_init_0 rfl (lv_at hl 0 rfl) ?_
  refine r_oinit (pc := 1) E hl.1 kw_66 (Nat.le_of_ble_eq_true rfl) (by decide) (by decide) dX2_init_1 ?_
  refine lv_aload_n (pc := 4) hx hb dX2_init_4 rfl (lv_at hl 0 rfl) ?_
  refine lv_bipush (pc := 5) (v := 64) hx hb dX2_init_5 (by decide) ?_
  have hS0_ := hS
  refine r_newl (pc := 7) E hC hS (N := 64) (by decide) (by decide) (by decide) (by decide) (by decide) dX2_init_7 (fun qf1 H zq_ n_ ho_ hS => ?_)
  have l_f0_f1 : a < qf1 := zq_ ▸ f0.lt
  have f0 := f0.kept (ho_ _ f0.lt)
  have f1 := n_
  have s_f1 : s.heap.size ≤ qf1 := zq_ ▸ hS0_.1
  have g_f1 := hn _ s_f1
  refine r_putF (pc := 9) E hC (hnm.trans rfl) f0 hS g_f0 0 tyX2 tyX2_ok nmX2 rfl (by decide) (Nat.le_of_ble_eq_true rfl) uX2 (List.mem_cons_of_mem _ kw_67) (fun _ h => h) rfl rfl rfl rfl dX2_init_9 (fun H locs n_ ho hz hS => ?_)
  have f0 : c1 D a (.inr (10, [.ref qf1, .int 0])) H := n_
  have f1 := f1.kept (ho _ (Nat.ne_of_gt l_f0_f1))
  refine lv_aload_n (pc := 12) hx hb dX2_init_12 rfl (lv_at hl 0 rfl) ?_
  refine lv_iconst (pc := 13) (v := 0) hx hb dX2_init_13 (by decide) ?_
  refine r_put (pc := 14) E hC f0 hS g_f0 1 tyX2 tyX2_ok nmX2 rfl (by decide) (Nat.le_of_ble_eq_true rfl) uX2 (List.mem_cons_of_mem _ kw_68) (fun _ h => h) rfl rfl rfl dX2_init_14 (fun H locs n_ ho hz hS => ?_)
  have f0 : c1 D a (.inr (10, [.ref qf1, .int 0])) H := n_
  have f1 := f1.kept (ho _ (Nat.ne_of_gt l_f0_f1))
  refine r_vret (pc := 17) E hr hlk hS (by decide) (by decide) ?_ dX2_init_17
  exact ⟨_, s_f1, f0, f1⟩
