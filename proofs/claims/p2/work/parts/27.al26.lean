set_option maxHeartbeats 4000000 in
set_option maxRecDepth 100000 in
/-- java/util/ArrayList$Itr.hasNext()Z -/
theorem c_Jx35411_hasNext_aae02 (l : Launch) (D : va_G) (tk : Nat → ClassId) (N0 : Nat) (sa : Nat → Nat)  (sz : Nat) (u a b n i : Nat) (md lr : Int32) (hi9 : i ≤ 100000) (hn9 : n ≤ 100000) : Met l yJx35411_hasNext_aae02 (wsy yJx35411_hasNext_aae02 cJx35411_hasNext_aae02 1 (some .boolean)) ({ frames := 0, cells := 0, slots := 0, locals := 0 } : Room) (cP D tk N0 sa [.ref u] sz (fun H => c1 D u (.inr (6, [.int (nI i), .int lr, .int md, .ref a])) H ∧ c1 D a (.inr (7, [.int md, .ref b, .int (nI n)])) H)) (kQi (fun r H => (r = 0 ∧ i = n) ∨ (r = 1 ∧ i ≠ n)) (nwA sz)) (0) (0) (nwA sz) := by
  refine mStart RJx35411 rfl (by decide +kernel) (Nat.le_of_ble_eq_true rfl) ?_
  intro p e s m args below meth c E hr hlk hnm hsz hC hF ls hl
  subst hsz
  obtain ⟨hx, hb, -⟩ := id E
  have hA : ∀ q, (nwA s.heap.size) q → N0 ≤ q := fun q h => Nat.le_trans hC.2.1 h
  have hn : ∀ q, s.heap.size ≤ q → (nwA s.heap.size) q := fun q h => h
  have hS : va_S (nwA s.heap.size) s.heap s.heap [] := va_S.rf
  have hl : lv_has ls 1 [(0, .ref u)] := hl
  obtain ⟨fU, f0⟩ : c1 D u (.inr (6, [.int (nI i), .int lr, .int md, .ref a])) s.heap ∧ c1 D a (.inr (7, [.int md, .ref b, .int (nI n)])) s.heap := hF
  refine lv_aload_n (pc := 0) hx hb dJx35411_hasNext_aae02_0 rfl (lv_at hl 0 rfl) ?_
  refine r_get (pc := 1) E hC fU 0 (v := .int (nI i)) rfl rfl (by decide) uJx35411 (List.mem_cons_of_mem _ kw_1496) (fun _ h => h) dJx35411_hasNext_aae02_1 ?_
  refine lv_aload_n (pc := 4) hx hb dJx35411_hasNext_aae02_4 rfl (lv_at hl 0 rfl) ?_
  refine r_get (pc := 5) E hC fU 3 (v := .ref a) rfl rfl (by decide) uJx35411 (List.mem_cons_of_mem _ kw_1499) (fun _ h => h) dJx35411_hasNext_aae02_5 ?_
  refine r_getN (pc := 8) "java/util/ArrayList" E hC f0 2 (v := .int (nI n)) rfl rfl (by decide) uJx4a65c kn_1186 (fun _ h => h) dJx35411_hasNext_aae02_8 ?_
  refine lv_icmp_eq (pc := 11) (tgt := 18) hx hb dJx35411_hasNext_aae02_11 (by decide) (fun c_1 => ?_) (fun c_1 => ?_)
  · refine lv_iconst (pc := 18) (v := 0) hx hb dJx35411_hasNext_aae02_18 (by decide) ?_
    refine r_zret (pc := 19) E hr hlk hS (by decide) (by decide) rfl ?_ dJx35411_hasNext_aae02_19
    exact Or.inl ⟨rfl, (nI_eq (by omega) (by omega)).mp c_1⟩
  · refine lv_iconst (pc := 14) (v := 1) hx hb dJx35411_hasNext_aae02_14 (by decide) ?_
    refine lv_goto (pc := 15) (tgt := 19) hx hb dJx35411_hasNext_aae02_15 (by decide) ?_
    refine r_zret (pc := 19) E hr hlk hS (by decide) (by decide) rfl ?_ dJx35411_hasNext_aae02_19
    exact Or.inr ⟨rfl, fun z9 => c_1 (by rw [z9])⟩
