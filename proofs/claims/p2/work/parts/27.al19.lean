set_option maxHeartbeats 4000000 in
set_option maxRecDepth 100000 in
/-- java/util/ArrayList.add(Ljava/lang/Object;[Ljava/lang/Object;I)V -/
theorem c_Jx4a65c_add_72be8 (l : Launch) (D : va_G) (tk : Nat → ClassId) (N0 : Nat) (sa : Nat → Nat)  (sz : Nat) (a b n cap y ce : Nat) (md : Int32) (w : Value) (f : Nat → Option Nat) (vs : Nat → Value) (ha9 : N0 ≤ a) (hv9 : N0 ≤ b) (hce : ce = 3 ∨ ce = 2) (hnc : n < cap) (hcap : cap ≤ 100000) : Met l yJx4a65c_add_72be8 (wsy yJx4a65c_add_72be8 cJx4a65c_add_72be8 4 none) ({ frames := 0, cells := 0, slots := 0, locals := 0 } : Room) (cP D tk N0 sa [.ref a, .ref y, .ref b, .int (nI n)] sz (fun H => c1 D a (.inr (7, [.int md, .ref b, .int (nI n)])) H ∧ c1 D b (.inl (tk 4, cap, .inr (.inr (.inr (.inr f))))) H ∧ EL D ce n f vs H ∧ xf D ce y 0 w H)) (kQv (fun H => c1 D a (.inr (7, [.int md, .ref b, .int (nI (n + 1))])) H ∧ c1 D b (.inl (tk 4, cap, .inr (.inr (.inr (.inr (va_up f n (some y))))))) H ∧ EL D ce (n + 1) (va_up f n (some y)) (va_up vs n w) H) (inA2 a b sz)) (0) (0) (inA2 a b sz) := by
  refine mStart RJx4a65c rfl (by decide +kernel) (Nat.le_of_ble_eq_true rfl) ?_
  intro p e s m args below meth c E hr hlk hnm hsz hC hF ls hl
  subst hsz
  obtain ⟨hx, hb, -⟩ := id E
  have hA : ∀ q, (inA2 a b s.heap.size) q → N0 ≤ q := fun q h => h.elim (fun z => z ▸ ha9) (fun z => z.elim (fun w => w ▸ hv9) (fun w => Nat.le_trans hC.2.1 w))
  have hn : ∀ q, s.heap.size ≤ q → (inA2 a b s.heap.size) q := fun q h => Or.inr (Or.inr h)
  have hS : va_S (inA2 a b s.heap.size) s.heap s.heap [] := va_S.rf
  have hl : lv_has ls 4 [(0, .ref a), (1, .ref y), (2, .ref b), (3, .int (nI n))] := hl
  obtain ⟨f0, fR, el, x9⟩ : c1 D a (.inr (7, [.int md, .ref b, .int (nI n)])) s.heap ∧ c1 D b (.inl (tk 4, cap, .inr (.inr (.inr (.inr f))))) s.heap ∧ EL D ce n f vs s.heap ∧ xf D ce y 0 w s.heap := hF
  have g_f0 : (inA2 a b s.heap.size) a := Or.inl rfl
  have g_fR : (inA2 a b s.heap.size) b := Or.inr (Or.inl rfl)
  refine lv_iload_n (pc := 0) hx hb dJx4a65c_add_72be8_0 rfl (lv_at hl 3 rfl) ?_
  refine lv_aload_n (pc := 1) hx hb dJx4a65c_add_72be8_1 rfl (lv_at hl 2 rfl) ?_
  obtain ⟨x_1, ex_1⟩ : ∃ z9 : Int32, z9 = nI cap := ⟨_, rfl⟩
  refine r_alen (pc := 2) E hC fR 4 rfl (v := x_1) ex_1.symm dJx4a65c_add_72be8_2 ?_
  refine lv_icmp_ne (pc := 3) (tgt := 11) hx hb dJx4a65c_add_72be8_3 (by decide) (fun c_2 => ?_) (fun c_2 => ?_)
  rotate_left
  · exact absurd c_2 (by rw [ex_1]; exact nI_ne9 (by omega) (by omega) (by omega))
  refine lv_aload_n (pc := 11) hx hb dJx4a65c_add_72be8_11 rfl (lv_at hl 2 rfl) ?_
  refine lv_iload_n (pc := 12) hx hb dJx4a65c_add_72be8_12 rfl (lv_at hl 3 rfl) ?_
  refine lv_aload_n (pc := 13) hx hb dJx4a65c_add_72be8_13 rfl (lv_at hl 1 rfl) ?_
  refine r_aastM (pc := 14) E hC fR (x9.any hC hce) hS g_fR n rfl hnc (by omega) dJx4a65c_add_72be8_14 (fun H locs n_ ho hz hS => ?_)
  have f0 := f0.kept (ho _ (clA.ne f0.cl fR.cla (hC.oa 7 4 rfl rfl)))
  have el := el.put ho (fun q9 h9 => clA.ne h9 fR.cla (hC.cea hce 4 rfl))
  have x9 := x9.kept (ho _ (clA.ne x9.cl fR.cla (hC.cea hce 4 rfl)))
  have fR := n_
  refine lv_aload_n (pc := 15) hx hb dJx4a65c_add_72be8_15 rfl (lv_at hl 0 rfl) ?_
  refine lv_iload_n (pc := 16) hx hb dJx4a65c_add_72be8_16 rfl (lv_at hl 3 rfl) ?_
  refine lv_iconst (pc := 17) (v := 1) hx hb dJx4a65c_add_72be8_17 (by decide) ?_
  refine lv_iadd (pc := 18) hx hb dJx4a65c_add_72be8_18 ?_
  refine r_put (pc := 19) E hC f0 hS g_f0 2 tyJx4a65c tyJx4a65c_ok nmJx4a65c rfl (by decide) (Nat.le_of_ble_eq_true rfl) uJx4a65c (List.mem_cons_of_mem _ kw_1187) (fun _ h => h) rfl rfl rfl dJx4a65c_add_72be8_19 (fun H locs n_ ho hz hS => ?_)
  have fR := fR.kept (ho _ (clA.ne fR.cla f0.cl (hC.ao 7 4 rfl rfl)))
  have el := el.put ho (fun q9 h9 => clA.ne h9 f0.cl (hC.ceo hce 7 rfl (by decide)))
  have x9 := x9.kept (ho _ (clA.ne x9.cl f0.cl (hC.ceo hce 7 rfl (by decide))))
  have f0 : c1 D a (.inr (7, [.int md, .ref b, .int ((nI n) + 1)])) H := n_
  refine r_vret (pc := 22) E hr hlk hS (by decide) (by decide) ?_ dJx4a65c_add_72be8_22
  exact ⟨(by have h9 := f0; rw [nI_1] at h9; exact h9), fR, el.add x9⟩
