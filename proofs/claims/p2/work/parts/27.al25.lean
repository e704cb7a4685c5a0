set_option maxHeartbeats 4000000 in
set_option maxRecDepth 100000 in
/-- java/util/ArrayList$Itr.checkForComodification()V -/
theorem c_Jx35411_checkForComodification_da8c8 (l : Launch) (D : va_G) (tk : Nat → ClassId) (N0 : Nat) (sa : Nat → Nat)  (sz : Nat) (u a b n i : Nat) (md lr : Int32) : Met l yJx35411_checkForComodification_da8c8 (wsy yJx35411_checkForComodification_da8c8 cJx35411_checkForComodification_da8c8 1 none) ({ frames := 0, cells := 0, slots := 0, locals := 0 } : Room) (cP D tk N0 sa [.ref u] sz (fun H => c1 D u (.inr (6, [.int (nI i), .int lr, .int md, .ref a])) H ∧ c1 D a (.inr (7, [.int md, .ref b, .int (nI n)])) H)) (kQv (fun H => True) (nwA sz)) (0) (0) (nwA sz) := by
  refine mStart RJx35411 rfl (by decide +kernel) (Nat.le_of_ble_eq_true rfl) ?_
  intro p e s m args below meth c E hr hlk hnm hsz hC hF ls hl
  subst hsz
  obtain ⟨hx, hb, -⟩ := id E
  have hA : ∀ q, (nwA s.heap.size) q → N0 ≤ q := fun q h => Nat.le_trans hC.2.1 h
  have hn : ∀ q, s.heap.size ≤ q → (nwA s.heap.size) q := fun q h => h
  have hS : va_S (nwA s.heap.size) s.heap s.heap [] := va_S.rf
  have hl : lv_has ls 1 [(0, .ref u)] := hl
  obtain ⟨fU, f0⟩ : c1 D u (.inr (6, [.int (nI i), .int lr, .int md, .ref a])) s.heap ∧ c1 D a (.inr (7, [.int md, .ref b, .int (nI n)])) s.heap := hF
  refine lv_aload_n (pc := 0) hx hb dJx35411_checkForComodification_da8c8_0 rfl (lv_at hl 0 rfl) ?_
  refine r_get (pc := 1) E hC fU 3 (v := .ref a) rfl rfl (by decide) uJx35411 (List.mem_cons_of_mem _ kw_1499) (fun _ h => h) dJx35411_checkForComodification_da8c8_1 ?_
  refine r_get (pc := 4) E hC f0 0 (v := .int md) rfl rfl (by decide) uJx4a65c (List.mem_cons_of_mem _ kw_1189) (fun x9 h9 => u_same (E.2.2.2.2 _ (List.mem_cons_of_mem _ kw_1190)) x9 h9) dJx35411_checkForComodification_da8c8_4 ?_
  refine lv_aload_n (pc := 7) hx hb dJx35411_checkForComodification_da8c8_7 rfl (lv_at hl 0 rfl) ?_
  refine r_get (pc := 8) E hC fU 2 (v := .int md) rfl rfl (by decide) uJx35411 (List.mem_cons_of_mem _ kw_1498) (fun _ h => h) dJx35411_checkForComodification_da8c8_8 ?_
  refine lv_icmp_eq (pc := 11) (tgt := 22) hx hb dJx35411_checkForComodification_da8c8_11 (by decide) (fun c_1 => ?_) (fun c_1 => ?_)
  rotate_left
  · exact absurd rfl c_1
  refine r_vret (pc := 22) E hr hlk hS (by decide) (by decide) ?_ dJx35411_checkForComodification_da8c8_22
  exact trivial
