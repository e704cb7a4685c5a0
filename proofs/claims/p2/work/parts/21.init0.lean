set_option maxHeartbeats 4000000 in
set_option maxRecDepth 100000 in
/-- Bestratios$Fraction.<init>()V -/
theorem c_X0_init (l : Launch) (D : va_G) (tk : Nat → ClassId) (N0 : Nat) (sa : Nat → Nat)  (sz : Nat) (a : Nat) (ha9 : N0 ≤ a) : Met l yX0_init (wsy yX0_init cX0_init 1 none) ({ frames := 1, cells := 0, slots := 0, locals := 20 } : Room) (cP D tk N0 sa [.ref a] sz (fun H => c1 D a (.inr (8, [.long 0, .long 0])) H)) (kQv (fun H => c1 D a (.inr (8, [.long 0, .long 1])) H) (inA1 a sz)) (0) (0) (inA1 a sz) := by
  refine mStart RX0 rfl (by decide +kernel) (Nat.le_of_ble_eq_true rfl) ?_
  intro p e s m args below meth c E hr hlk hnm hsz hC hF ls hl
  subst hsz
  obtain ⟨hx, hb, -⟩ := id E
  have hA : ∀ q, (inA1 a s.heap.size) q → N0 ≤ q := fun q h => h.elim (fun z => z ▸ ha9) (fun z => Nat.le_trans hC.2.1 z)
  have hn : ∀ q, s.heap.size ≤ q → (inA1 a s.heap.size) q := fun q h => Or.inr h
  have hS : va_S (inA1 a s.heap.size) s.heap s.heap [] := va_S.rf
  have hl : lv_has ls 1 [(0, .ref a)] := hl
  have f0 : c1 D a (.inr (8, [.long 0, .long 0])) s.heap := hF
  have g_f0 : (inA1 a s.heap.size) a := Or.inl rfl
  refine lv_aload_n (pc := 0) hx hb dX0_init_0 rfl (lv_at hl 0 rfl) ?_
  refine r_oinit (pc := 1) E hl.1 kw_49 (Nat.le_of_ble_eq_true rfl) (by decide) (by decide) dX0_init_1 ?_
  refine lv_aload_n (pc := 4) hx hb dX0_init_4 rfl (lv_at hl 0 rfl) ?_
  refine lv_lconst (pc := 5) (v := 0) hx hb dX0_init_5 (by decide) ?_
  refine r_put (pc := 6) E hC f0 hS g_f0 0 tyX0 tyX0_ok nmX0 rfl (by decide) (Nat.le_of_ble_eq_true rfl) uX0 (List.mem_cons_of_mem _ kw_50) (fun _ h => h) rfl rfl rfl dX0_init_6 (fun H locs n_ ho hz hS => ?_)
  have f0 : c1 D a (.inr (8, [.long 0, .long 0])) H := n_
  refine lv_aload_n (pc := 9) hx hb dX0_init_9 rfl (lv_at hl 0 rfl) ?_
  refine lv_lconst (pc := 10) (v := 1) hx hb dX0_init_10 (by decide) ?_
  refine r_put (pc := 11) E hC f0 hS g_f0 1 tyX0 tyX0_ok nmX0 rfl (by decide) (Nat.le_of_ble_eq_true rfl) uX0 (List.mem_cons_of_mem _ kw_53) (fun _ h => h) rfl rfl rfl dX0_init_11 (fun H locs n_ ho hz hS => ?_)
  have f0 : c1 D a (.inr (8, [.long 0, .long 1])) H := n_
  refine r_vret (pc := 14) E hr hlk hS (by decide) (by decide) ?_ dX0_init_14
  exact f0
