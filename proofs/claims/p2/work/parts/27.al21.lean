set_option maxHeartbeats 4000000 in
set_option maxRecDepth 100000 in
/-- java/util/ArrayList.fastRemove([Ljava/lang/Object;I)V -/
theorem c_Jx4a65c_fastRemove_b59b0 (l : Launch) (D : va_G) (tk : Nat → ClassId) (N0 : Nat) (sa : Nat → Nat)  (sz : Nat) (a b i cap ce q : Nat) (md ix : Int32) (f : Nat → Option Nat) (vs : Nat → Value) (ha9 : N0 ≤ a) (hv9 : N0 ≤ b) (hce : ce = 3 ∨ ce = 2) (hix : ix = nI i) (hin : i < cap) (hcap : cap ≤ 100000) (hq : f i = some q) : Met l yJx4a65c_fastRemove_b59b0 (wsy yJx4a65c_fastRemove_b59b0 cJx4a65c_fastRemove_b59b0 4 none) ({ frames := 0, cells := 0, slots := 0, locals := 0 } : Room) (cP D tk N0 sa [.ref a, .ref b, .int ix] sz (fun H => c1 D a (.inr (7, [.int md, .ref b, .int (nI (i + 1))])) H ∧ c1 D b (.inl (tk 4, cap, .inr (.inr (.inr (.inr f))))) H ∧ EL D ce (i + 1) f vs H)) (kQv (fun H => c1 D a (.inr (7, [.int (md + 1), .ref b, .int (nI i)])) H ∧ c1 D b (.inl (tk 4, cap, .inr (.inr (.inr (.inr (va_up f i none)))))) H ∧ EL D ce i (va_up f i none) vs H) (inA2 a b sz)) (0) (0) (inA2 a b sz) := by
  refine mStart RJx4a65c rfl (by decide +kernel) (Nat.le_of_ble_eq_true rfl) ?_
  intro p e s m args below meth c E hr hlk hnm hsz hC hF ls hl
  subst hsz
  obtain ⟨hx, hb, -⟩ := id E
  have hA : ∀ q, (inA2 a b s.heap.size) q → N0 ≤ q := fun q h => h.elim (fun z => z ▸ ha9) (fun z => z.elim (fun w => w ▸ hv9) (fun w => Nat.le_trans hC.2.1 w))
  have hn : ∀ q, s.heap.size ≤ q → (inA2 a b s.heap.size) q := fun q h => Or.inr (Or.inr h)
  have hS : va_S (inA2 a b s.heap.size) s.heap s.heap [] := va_S.rf
  have hl : lv_has ls 4 [(0, .ref a), (1, .ref b), (2, .int ix)] := hl
  obtain ⟨f0, fR, el⟩ : c1 D a (.inr (7, [.int md, .ref b, .int (nI (i + 1))])) s.heap ∧ c1 D b (.inl (tk 4, cap, .inr (.inr (.inr (.inr f))))) s.heap ∧ EL D ce (i + 1) f vs s.heap := hF
  have g_f0 : (inA2 a b s.heap.size) a := Or.inl rfl
  have g_fR : (inA2 a b s.heap.size) b := Or.inr (Or.inl rfl)
  refine lv_aload_n (pc := 0) hx hb dJx4a65c_fastRemove_b59b0_0 rfl (lv_at hl 0 rfl) ?_
  refine lv_dup (pc := 1) hx hb dJx4a65c_fastRemove_b59b0_1 rfl ?_
  refine r_get (pc := 2) E hC f0 0 (v := .int md) rfl rfl (by decide) uJx4a65c (List.mem_cons_of_mem _ kw_1191) (fun x9 h9 => u_same (E.2.2.2.2 _ (List.mem_cons_of_mem _ kw_1190)) x9 h9) dJx4a65c_fastRemove_b59b0_2 ?_
  refine lv_iconst (pc := 5) (v := 1) hx hb dJx4a65c_fastRemove_b59b0_5 (by decide) ?_
  refine lv_iadd (pc := 6) hx hb dJx4a65c_fastRemove_b59b0_6 ?_
  refine r_put (pc := 7) E hC f0 hS g_f0 0 tyJx4a65c tyJx4a65c_ok nmJx4a65c rfl (by decide) (Nat.le_of_ble_eq_true rfl) uJx4a65c (List.mem_cons_of_mem _ kw_1191) (fun x9 h9 => u_same (E.2.2.2.2 _ (List.mem_cons_of_mem _ kw_1190)) x9 h9) rfl rfl rfl dJx4a65c_fastRemove_b59b0_7 (fun H locs n_ ho hz hS => ?_)
  have fR := fR.kept (ho _ (clA.ne fR.cla f0.cl (hC.ao 7 4 rfl rfl)))
  have el := el.put ho (fun q9 h9 => clA.ne h9 f0.cl (hC.ceo hce 7 rfl (by decide)))
  have f0 : c1 D a (.inr (7, [.int (md + 1), .ref b, .int (nI (i + 1))])) H := n_
  refine lv_aload_n (pc := 10) hx hb dJx4a65c_fastRemove_b59b0_10 rfl (lv_at hl 0 rfl) ?_
  refine r_get (pc := 11) E hC f0 2 (v := .int (nI (i + 1))) rfl rfl (by decide) uJx4a65c (List.mem_cons_of_mem _ kw_1187) (fun _ h => h) dJx4a65c_fastRemove_b59b0_11 ?_
  refine lv_iconst (pc := 14) (v := 1) hx hb dJx4a65c_fastRemove_b59b0_14 (by decide) ?_
  refine lv_isub (pc := 15) hx hb dJx4a65c_fastRemove_b59b0_15 ?_
  refine lv_dup (pc := 16) hx hb dJx4a65c_fastRemove_b59b0_16 rfl ?_
  obtain ⟨x_1, ex_1⟩ : ∃ z9 : Int32, z9 = (nI (i + 1)) - 1 := ⟨_, rfl⟩
  rw [← ex_1]
  refine lv_istore_n (pc := 17) (lv' := [(3, .int x_1), (0, .ref a), (1, .ref b), (2, .int ix)]) hx hb dJx4a65c_fastRemove_b59b0_17 rfl hl (by decide) rfl (fun ls hl => ?_)
  have hx9 : x_1 = nI i := by rw [ex_1]; exact nI_pred i
  refine lv_iload_n (pc := 18) hx hb dJx4a65c_fastRemove_b59b0_18 rfl (lv_at hl 3 rfl) ?_
  refine lv_icmp_le (pc := 19) (tgt := 34) hx hb dJx4a65c_fastRemove_b59b0_19 (by decide) (fun c_2 => ?_) (fun c_2 => ?_)
  rotate_left
  · exact absurd (by rw [hx9, hix]; exact Int32.le_refl _) c_2
  refine lv_aload_n (pc := 34) hx hb dJx4a65c_fastRemove_b59b0_34 rfl (lv_at hl 2 rfl) ?_
  refine lv_aload_n (pc := 35) hx hb dJx4a65c_fastRemove_b59b0_35 rfl (lv_at hl 1 rfl) ?_
  refine lv_iload_n (pc := 36) hx hb dJx4a65c_fastRemove_b59b0_36 rfl (lv_at hl 0 rfl) ?_
  refine lv_dup_x1 (pc := 37) hx hb dJx4a65c_fastRemove_b59b0_37 rfl rfl ?_
  refine r_put (pc := 38) E hC f0 hS g_f0 2 tyJx4a65c tyJx4a65c_ok nmJx4a65c rfl (by decide) (Nat.le_of_ble_eq_true rfl) uJx4a65c (List.mem_cons_of_mem _ kw_1187) (fun _ h => h) rfl rfl rfl dJx4a65c_fastRemove_b59b0_38 (fun H locs n_ ho hz hS => ?_)
  have fR := fR.kept (ho _ (clA.ne fR.cla f0.cl (hC.ao 7 4 rfl rfl)))
  have el := el.put ho (fun q9 h9 => clA.ne h9 f0.cl (hC.ceo hce 7 rfl (by decide)))
  have f0 : c1 D a (.inr (7, [.int (md + 1), .ref b, .int x_1])) H := n_
  refine lv_null (pc := 41) hx hb dJx4a65c_fastRemove_b59b0_41 ?_
  refine r_aastNul (pc := 42) E hC fR hS g_fR i hx9 hin (by omega) dJx4a65c_fastRemove_b59b0_42 (fun H locs n_ ho hz hS => ?_)
  have f0 := f0.kept (ho _ (clA.ne f0.cl fR.cla (hC.oa 7 4 rfl rfl)))
  have el := el.put ho (fun q9 h9 => clA.ne h9 fR.cla (hC.cea hce 4 rfl))
  have fR := n_
  refine r_vret (pc := 43) E hr hlk hS (by decide) (by decide) ?_ dJx4a65c_fastRemove_b59b0_43
  exact ⟨(by have h9 := f0; rw [hx9] at h9; exact h9), fR, (el.le (Nat.le_succ i)).to (fun j hj => va_up_ne _ _ (by omega)) (fun _ _ => rfl)⟩
