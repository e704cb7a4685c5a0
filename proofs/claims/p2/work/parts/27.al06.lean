set_option maxHeartbeats 4000000 in
set_option maxRecDepth 100000 in
/-- java/util/ArrayList.elementData(I)Ljava/lang/Object; -/
theorem c_Jx4a65c_elementData_915e3 (l : Launch) (D : va_G) (tk : Nat → ClassId) (N0 : Nat) (sa : Nat → Nat)  (sz : Nat) (a b n cap i q : Nat) (md ix : Int32) (f : Nat → Option Nat) (hix : ix = nI i) (hin : i < n) (hnc : n ≤ cap) (hcap : cap ≤ 100000000) (hq : f i = some q) : Met l yJx4a65c_elementData_915e3 (wsy yJx4a65c_elementData_915e3 cJx4a65c_elementData_915e3 2 (some (.object "java/lang/Object"))) ({ frames := 0, cells := 0, slots := 0, locals := 0 } : Room) (cP D tk N0 sa [.ref a, .int ix] sz (fun H => c1 D a (.inr (7, [.int md, .ref b, .int (nI n)])) H ∧ c1 D b (.inl (tk 4, cap, .inr (.inr (.inr (.inr f))))) H)) (kQr (fun r H => r = q) (nwA sz)) (0) (0) (nwA sz) := by
  refine mStart RJx4a65c rfl (by decide +kernel) (Nat.le_of_ble_eq_true rfl) ?_
  intro p e s m args below meth c E hr hlk hnm hsz hC hF ls hl
  subst hsz
  obtain ⟨hx, hb, -⟩ := id E
  have hA : ∀ q, (nwA s.heap.size) q → N0 ≤ q := fun q h => Nat.le_trans hC.2.1 h
  have hn : ∀ q, s.heap.size ≤ q → (nwA s.heap.size) q := fun q h => h
  have hS : va_S (nwA s.heap.size) s.heap s.heap [] := va_S.rf
  have hl : lv_has ls 2 [(0, .ref a), (1, .int ix)] := hl
  obtain ⟨f0, fR⟩ : c1 D a (.inr (7, [.int md, .ref b, .int (nI n)])) s.heap ∧ c1 D b (.inl (tk 4, cap, .inr (.inr (.inr (.inr f))))) s.heap := hF
  refine lv_aload_n (pc := 0) hx hb dJx4a65c_elementData_915e3_0 rfl (lv_at hl 0 rfl) ?_
  refine r_get (pc := 1) E hC f0 1 (v := .ref b) rfl rfl (by decide) uJx4a65c (List.mem_cons_of_mem _ kw_1184) (fun _ h => h) dJx4a65c_elementData_915e3_1 ?_
  refine lv_iload_n (pc := 4) hx hb dJx4a65c_elementData_915e3_4 rfl (lv_at hl 1 rfl) ?_
  refine r_aaldM (pc := 5) E hC (t0 := 4) rfl fR i hix (by omega) (by omega) hq dJx4a65c_elementData_915e3_5 ?_
  refine r_aret (pc := 6) E hr (Or.inl ⟨_, rfl⟩) hlk hS (by decide) (by decide) ?_ dJx4a65c_elementData_915e3_6
  rfl
