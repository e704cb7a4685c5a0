set_option maxHeartbeats 4000000 in
set_option maxRecDepth 100000 in
/-- java/util/ArrayList.set(ILjava/lang/Object;)Ljava/lang/Object; -/
theorem c_Jx4a65c_set_bcc79 (l : Launch) (D : va_G) (tk : Nat → ClassId) (N0 : Nat) (sa : Nat → Nat)  (sz : Nat) (a b n cap i q y ce : Nat) (md ix : Int32) (f : Nat → Option Nat) (vs : Nat → Value) (w : Value) (ha9 : N0 ≤ b) (hce : ce = 3 ∨ ce = 2) (hix : ix = nI i) (hin : i < n) (hnc : n ≤ cap) (hcap : cap ≤ 100000000) (hq : f i = some q) : Met l yJx4a65c_set_bcc79 (wsy yJx4a65c_set_bcc79 cJx4a65c_set_bcc79 4 (some (.object "java/lang/Object"))) ({ frames := 2, cells := 0, slots := 0, locals := 43 } : Room) (cP D tk N0 sa [.ref a, .int ix, .ref y] sz (fun H => c1 D a (.inr (7, [.int md, .ref b, .int (nI n)])) H ∧ c1 D b (.inl (tk 4, cap, .inr (.inr (.inr (.inr f))))) H ∧ EL D ce n f vs H ∧ xf D ce y 0 w H)) (kQr (fun r H => c1 D a (.inr (7, [.int md, .ref b, .int (nI n)])) H ∧ c1 D b (.inl (tk 4, cap, .inr (.inr (.inr (.inr (va_up f i (some y))))))) H ∧ EL D ce n (va_up f i (some y)) (va_up vs i w) H) (inA1 b sz)) (0) (0) (inA1 b sz) := by
  refine mStart RJx4a65c rfl (by decide +kernel) (Nat.le_of_ble_eq_true rfl) ?_
  intro p e s m args below meth c E hr hlk hnm hsz hC hF ls hl
  subst hsz
  obtain ⟨hx, hb, -⟩ := id E
  have hA : ∀ q, (inA1 b s.heap.size) q → N0 ≤ q := fun q h => h.elim (fun z => z ▸ ha9) (fun z => Nat.le_trans hC.2.1 z)
  have hn : ∀ q, s.heap.size ≤ q → (inA1 b s.heap.size) q := fun q h => Or.inr h
  have hS : va_S (inA1 b s.heap.size) s.heap s.heap [] := va_S.rf
  have hl : lv_has ls 4 [(0, .ref a), (1, .int ix), (2, .ref y)] := hl
  obtain ⟨f0, fR, el, x9⟩ : c1 D a (.inr (7, [.int md, .ref b, .int (nI n)])) s.heap ∧ c1 D b (.inl (tk 4, cap, .inr (.inr (.inr (.inr f))))) s.heap ∧ EL D ce n f vs s.heap ∧ xf D ce y 0 w s.heap := hF
  have g_fR : (inA1 b s.heap.size) b := Or.inl rfl
  refine lv_iload_n (pc := 0) hx hb dJx4a65c_set_bcc79_0 rfl (lv_at hl 1 rfl) ?_
  refine lv_aload_n (pc := 1) hx hb dJx4a65c_set_bcc79_1 rfl (lv_at hl 0 rfl) ?_
  refine r_get (pc := 2) E hC f0 2 (v := .int (nI n)) rfl rfl (by decide) uJx4a65c (List.mem_cons_of_mem _ kw_1187) (fun _ h => h) dJx4a65c_set_bcc79_2 ?_
  refine k_i (pc := 5) (k_S E hC hS hA hl.1 (c_J15_checkIndex_7cf53 l D tk N0 sa s.heap.size ix (nI n) i n hix rfl hin (by omega)) kw_1554 kw_1555 kw_30 kw_1556 (n := 2) (by decide +kernel) rfl ⟨⟨rfl, rfl⟩, ⟨by decide, by decide⟩, by decide, by decide⟩ rfl (Nat.le_of_ble_eq_true rfl) trivial dJx4a65c_set_bcc79_5) hS (fun q z w => absurd w (Nat.not_le.mpr z)) hn (fun r_1 H locs hR hz hk hS => ?_)
  have f0 := f0.kept (hk _ f0.lt (Nat.not_le.mpr f0.lt))
  have fR := fR.kept (hk _ fR.lt (Nat.not_le.mpr fR.lt))
  have el := el.new hk
  have x9 := x9.kept (hk _ x9.lt (Nat.not_le.mpr x9.lt))
  rw [show r_1 = ix from hR]
  refine lv_pop (pc := 8) hx hb dJx4a65c_set_bcc79_8 rfl ?_
  refine lv_aload_n (pc := 9) hx hb dJx4a65c_set_bcc79_9 rfl (lv_at hl 0 rfl) ?_
  refine lv_iload_n (pc := 10) hx hb dJx4a65c_set_bcc79_10 rfl (lv_at hl 1 rfl) ?_
  refine k_r (pc := 11) (k_V E hC hS hA hl.1 (c1.recv hC f0 rfl) rfl (c_Jx4a65c_elementData_915e3 l D tk N0 sa H.size a b n cap i q md ix f hix hin hnc hcap hq) kw_1558 kw_1559 kw_1560 kw_8 kw_1561 (n := 1) (by decide +kernel) rfl ⟨⟨rfl, rfl⟩, ⟨by decide, by decide⟩, by decide, by decide⟩ rfl (Nat.le_of_ble_eq_true rfl) ⟨f0, fR⟩ dJx4a65c_set_bcc79_11) hS (fun q z w => absurd w (Nat.not_le.mpr z)) hn (fun r_2 H locs hR hz hk hS => ?_)
  have f0 := f0.kept (hk _ f0.lt (Nat.not_le.mpr f0.lt))
  have fR := fR.kept (hk _ fR.lt (Nat.not_le.mpr fR.lt))
  have el := el.new hk
  have x9 := x9.kept (hk _ x9.lt (Nat.not_le.mpr x9.lt))
  rw [show r_2 = q from hR]
  refine lv_astore_n (pc := 14) (lv' := [(3, .ref q), (0, .ref a), (1, .int ix), (2, .ref y)]) hx hb dJx4a65c_set_bcc79_14 rfl hl (by decide) rfl (fun ls hl => ?_)
  refine lv_aload_n (pc := 15) hx hb dJx4a65c_set_bcc79_15 rfl (lv_at hl 1 rfl) ?_
  refine r_get (pc := 16) E hC f0 1 (v := .ref b) rfl rfl (by decide) uJx4a65c (List.mem_cons_of_mem _ kw_1184) (fun _ h => h) dJx4a65c_set_bcc79_16 ?_
  refine lv_iload_n (pc := 19) hx hb dJx4a65c_set_bcc79_19 rfl (lv_at hl 2 rfl) ?_
  refine lv_aload_n (pc := 20) hx hb dJx4a65c_set_bcc79_20 rfl (lv_at hl 3 rfl) ?_
  refine r_aastM (pc := 21) E hC fR (x9.any hC hce) hS g_fR i hix (by omega) (by omega) dJx4a65c_set_bcc79_21 (fun H locs n_ ho hz hS => ?_)
  have f0 := f0.kept (ho _ (clA.ne f0.cl fR.cla (hC.oa 7 4 rfl rfl)))
  have el := el.put ho (fun q9 h9 => clA.ne h9 fR.cla (hC.cea hce 4 rfl))
  have x9 := x9.kept (ho _ (clA.ne x9.cl fR.cla (hC.cea hce 4 rfl)))
  have fR := n_
  refine lv_aload_n (pc := 22) hx hb dJx4a65c_set_bcc79_22 rfl (lv_at hl 0 rfl) ?_
  refine r_aret (pc := 23) E hr (Or.inl ⟨_, rfl⟩) hlk hS (by decide) (by decide) ?_ dJx4a65c_set_bcc79_23
  exact ⟨f0, fR, el.set x9⟩
