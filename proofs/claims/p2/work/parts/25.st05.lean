set_option maxHeartbeats 4000000 in
set_option maxRecDepth 100000 in
/-- java/lang/String.<init>([BB)V -/
theorem c_J0_init_031fb (l : Launch) (D : va_G) (tk : Nat → ClassId) (N0 : Nat) (sa : Nat → Nat)  (sz : Nat) (t b n : Nat) (ha9 : N0 ≤ t) : Met l yJ0_init_031fb (wsy yJ0_init_031fb cJ0_init_031fb 3 none) ({ frames := 1, cells := 0, slots := 0, locals := 20 } : Room) (cP D tk N0 sa [.ref t, .ref b, .int 0] sz (fun H => c1 D t (.inr (0, [.null, .int 0, .int 0, .int 0])) H ∧ BA D tk b n H)) (kQv (fun H => SM D tk t b n H) (inA1 t sz)) (0) (0) (inA1 t sz) := by
  refine mStart RJ0 rfl (by decide +kernel) (Nat.le_of_ble_eq_true rfl) ?_
  intro p e s m args below meth c E hr hlk hnm hsz hC hF ls hl
  subst hsz
  obtain ⟨hx, hb, -⟩ := id E
  have hA : ∀ q, (inA1 t s.heap.size) q → N0 ≤ q := fun q h => h.elim (fun z => z ▸ ha9) (fun z => Nat.le_trans hC.2.1 z)
  have hn : ∀ q, s.heap.size ≤ q → (inA1 t s.heap.size) q := fun q h => Or.inr h
  have hS : va_S (inA1 t s.heap.size) s.heap s.heap [] := va_S.rf
  have hl : lv_has ls 3 [(0, .ref t), (1, .ref b), (2, .int 0)] := hl
  obtain ⟨fT, hB⟩ : c1 D t (.inr (0, [.null, .int 0, .int 0, .int 0])) s.heap ∧ BA D tk b n s.heap := hF
  have g_fT : (inA1 t s.heap.size) t := Or.inl rfl
  refine lv_aload_n (pc := 0) hx hb dJ0_init_031fb_0 rfl (lv_at hl 0 rfl) ?_
  refine r_oinit (pc := 1) E hl.1 kw_327 (Nat.le_of_ble_eq_true rfl) (by decide) (by decide) dJ0_init_031fb_1 ?_
  refine lv_aload_n (pc := 4) hx hb dJ0_init_031fb_4 rfl (lv_at hl 0 rfl) ?_
  refine lv_aload_n (pc := 5) hx hb dJ0_init_031fb_5 rfl (lv_at hl 1 rfl) ?_
  refine r_putF (pc := 6) E hC (hnm.trans rfl) fT hS g_fT 0 tyJ0 tyJ0_ok nmJ0 rfl (by decide) (Nat.le_of_ble_eq_true rfl) uJ0 (List.mem_cons_of_mem _ kw_475) (fun _ h => h) rfl rfl rfl rfl dJ0_init_031fb_6 (fun H locs n_ ho hz hS => ?_)
  have hB := hB.kept (ho _ (clA.ne hB.cl fT.cl (hC.ao 0 1 rfl rfl)))
  have fT : c1 D t (.inr (0, [.ref b, .int 0, .int 0, .int 0])) H := n_
  refine lv_aload_n (pc := 9) hx hb dJ0_init_031fb_9 rfl (lv_at hl 0 rfl) ?_
  refine lv_iload_n (pc := 10) hx hb dJ0_init_031fb_10 rfl (lv_at hl 2 rfl) ?_
  refine r_putF (pc := 11) E hC (hnm.trans rfl) fT hS g_fT 1 tyJ0 tyJ0_ok nmJ0 rfl (by decide) (Nat.le_of_ble_eq_true rfl) uJ0 (List.mem_cons_of_mem _ kw_476) (fun _ h => h) rfl rfl rfl rfl dJ0_init_031fb_11 (fun H locs n_ ho hz hS => ?_)
  have hB := hB.kept (ho _ (clA.ne hB.cl fT.cl (hC.ao 0 1 rfl rfl)))
  have fT : c1 D t (.inr (0, [.ref b, .int 0, .int 0, .int 0])) H := n_
  refine r_vret (pc := 14) E hr hlk hS (by decide) (by decide) ?_ dJ0_init_031fb_14
  exact ⟨fT, hB⟩
