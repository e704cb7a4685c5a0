set_option maxHeartbeats 4000000 in
set_option maxRecDepth 100000 in
/-- java/util/ArrayList$Itr.<init>(Ljava/util/ArrayList;)V -/
theorem c_Jx35411_init_45d68 (l : Launch) (D : va_G) (tk : Nat → ClassId) (N0 : Nat) (sa : Nat → Nat)  (sz : Nat) (u a b n : Nat) (md : Int32) (ha9 : N0 ≤ u) : Met l yJx35411_init_45d68 (wsy yJx35411_init_45d68 cJx35411_init_45d68 2 none) ({ frames := 1, cells := 0, slots := 0, locals := 20 } : Room) (cP D tk N0 sa [.ref u, .ref a] sz (fun H => c1 D u (.inr (6, [.int 0, .int 0, .int 0, .null])) H ∧ c1 D a (.inr (7, [.int md, .ref b, .int (nI n)])) H)) (kQv (fun H => c1 D u (.inr (6, [.int 0, .int (-1), .int md, .ref a])) H) (inA1 u sz)) (0) (0) (inA1 u sz) := by
  refine mStart RJx35411 rfl (by decide +kernel) (Nat.le_of_ble_eq_true rfl) ?_
  intro p e s m args below meth c E hr hlk hnm hsz hC hF ls hl
  subst hsz
  obtain ⟨hx, hb, -⟩ := id E
  have hA : ∀ q, (inA1 u s.heap.size) q → N0 ≤ q := fun q h => h.elim (fun z => z ▸ ha9) (fun z => Nat.le_trans hC.2.1 z)
  have hn : ∀ q, s.heap.size ≤ q → (inA1 u s.heap.size) q := fun q h => Or.inr h
  have hS : va_S (inA1 u s.heap.size) s.heap s.heap [] := va_S.rf
  have hl : lv_has ls 2 [(0, .ref u), (1, .ref a)] := hl
  obtain ⟨fU, f0⟩ : c1 D u (.inr (6, [.int 0, .int 0, .int 0, .null])) s.heap ∧ c1 D a (.inr (7, [.int md, .ref b, .int (nI n)])) s.heap := hF
  have g_fU : (inA1 u s.heap.size) u := Or.inl rfl
  refine lv_aload_n (pc := 0) hx hb dJx35411_init_45d68_0 rfl (lv_at hl 0 rfl) ?_
  refine lv_aload_n (pc := 1) hx hb dJx35411_init_45d68_1 rfl (lv_at hl 1 rfl) ?_
  refine r_putF (pc := 2) E hC (hnm.trans rfl) fU hS g_fU 3 tyJx35411 tyJx35411_ok nmJx35411 rfl (by decide) (Nat.le_of_ble_eq_true rfl) uJx35411 (List.mem_cons_of_mem _ kw_1499) (fun _ h => h) rfl rfl rfl rfl dJx35411_init_45d68_2 (fun H locs n_ ho hz hS => ?_)
  have f0 := f0.kept (ho _ (clA.ne f0.cl fU.cl (hC.oo 7 6 rfl rfl (by decide))))
  have fU : c1 D u (.inr (6, [.int 0, .int 0, .int 0, .ref a])) H := n_
  refine lv_aload_n (pc := 5) hx hb dJx35411_init_45d68_5 rfl (lv_at hl 0 rfl) ?_
  refine r_oinit (pc := 6) E hl.1 kw_1495 (Nat.le_of_ble_eq_true rfl) (by decide) (by decide) dJx35411_init_45d68_6 ?_
  refine lv_aload_n (pc := 9) hx hb dJx35411_init_45d68_9 rfl (lv_at hl 0 rfl) ?_
  refine lv_iconst (pc := 10) (v := (-1)) hx hb dJx35411_init_45d68_10 (by decide) ?_
  refine r_put (pc := 11) E hC fU hS g_fU 1 tyJx35411 tyJx35411_ok nmJx35411 rfl (by decide) (Nat.le_of_ble_eq_true rfl) uJx35411 (List.mem_cons_of_mem _ kw_1497) (fun _ h => h) rfl rfl rfl dJx35411_init_45d68_11 (fun H locs n_ ho hz hS => ?_)
  have f0 := f0.kept (ho _ (clA.ne f0.cl fU.cl (hC.oo 7 6 rfl rfl (by decide))))
  have fU : c1 D u (.inr (6, [.int 0, .int ((-1)), .int 0, .ref a])) H := n_
  refine lv_aload_n (pc := 14) hx hb dJx35411_init_45d68_14 rfl (lv_at hl 0 rfl) ?_
  refine lv_aload_n (pc := 15) hx hb dJx35411_init_45d68_15 rfl (lv_at hl 0 rfl) ?_
  refine r_get (pc := 16) E hC fU 3 (v := .ref a) rfl rfl (by decide) uJx35411 (List.mem_cons_of_mem _ kw_1499) (fun _ h => h) dJx35411_init_45d68_16 ?_
  refine r_get (pc := 19) E hC f0 0 (v := .int md) rfl rfl (by decide) uJx4a65c (List.mem_cons_of_mem _ kw_1189) (fun x9 h9 => u_same (E.2.2.2.2 _ (List.mem_cons_of_mem _ kw_1190)) x9 h9) dJx35411_init_45d68_19 ?_
  refine r_put (pc := 22) E hC fU hS g_fU 2 tyJx35411 tyJx35411_ok nmJx35411 rfl (by decide) (Nat.le_of_ble_eq_true rfl) uJx35411 (List.mem_cons_of_mem _ kw_1498) (fun _ h => h) rfl rfl rfl dJx35411_init_45d68_22 (fun H locs n_ ho hz hS => ?_)
  have f0 := f0.kept (ho _ (clA.ne f0.cl fU.cl (hC.oo 7 6 rfl rfl (by decide))))
  have fU : c1 D u (.inr (6, [.int 0, .int ((-1)), .int md, .ref a])) H := n_
  refine r_vret (pc := 25) E hr hlk hS (by decide) (by decide) ?_ dJx35411_init_45d68_25
  exact fU
