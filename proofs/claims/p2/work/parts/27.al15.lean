set_option maxHeartbeats 4000000 in
set_option maxRecDepth 100000 in
/-- java/util/ArrayList.grow(I)[Ljava/lang/Object; -/
theorem c_Jx4a65c_grow_92f84_G (l : Launch) (D : va_G) (tk : Nat → ClassId) (N0 : Nat) (sa : Nat → Nat)  (sz : Nat) (a b n ce : Nat) (md ml : Int32) (f : Nat → Option Nat) (vs : Nat → Value) (ha9 : N0 ≤ a) (hce : ce = 3 ∨ ce = 2) (h2n : 2 ≤ n) (hn9 : n ≤ 40000) (hml : ml = nI (n + 1)) : Met l yJx4a65c_grow_92f84 (wsy yJx4a65c_grow_92f84 cJx4a65c_grow_92f84 4 (some (.array (.object "java/lang/Object")))) ({ frames := 3, cells := 1, slots := n + n / 2, locals := 70 } : Room) (cP D tk N0 sa [.ref a, .int ml] sz (fun H => c1 D a (.inr (7, [.int md, .ref b, .int (nI n)])) H ∧ c1 D b (.inl (tk 4, n, .inr (.inr (.inr (.inr f))))) H ∧ EL D ce n f vs H)) (kQr (fun r H => ∃ q f1, r = q ∧ sz ≤ q ∧ c1 D a (.inr (7, [.int md, .ref q, .int (nI n)])) H ∧ c1 D q (.inl (tk 4, n + n / 2, .inr (.inr (.inr (.inr f1))))) H ∧ EL D ce n f1 vs H) (inA1 a sz)) (1) (n + n / 2) (inA1 a sz) := by
  refine mStart RJx4a65c rfl (by decide +kernel) (Nat.le_of_ble_eq_true rfl) ?_
  intro p e s m args below meth c E hr hlk hnm hsz hC hF ls hl
  subst hsz
  obtain ⟨hx, hb, -⟩ := id E
  have hA : ∀ q, (inA1 a s.heap.size) q → N0 ≤ q := fun q h => h.elim (fun z => z ▸ ha9) (fun z => Nat.le_trans hC.2.1 z)
  have hn : ∀ q, s.heap.size ≤ q → (inA1 a s.heap.size) q := fun q h => Or.inr h
  have hS : va_S (inA1 a s.heap.size) s.heap s.heap [] := va_S.rf
  have hl : lv_has ls 4 [(0, .ref a), (1, .int ml)] := hl
  obtain ⟨f0, fR, el⟩ : c1 D a (.inr (7, [.int md, .ref b, .int (nI n)])) s.heap ∧ c1 D b (.inl (tk 4, n, .inr (.inr (.inr (.inr f))))) s.heap ∧ EL D ce n f vs s.heap := hF
  have g_f0 : (inA1 a s.heap.size) a := Or.inl rfl
  refine lv_aload_n (pc := 0) hx hb dJx4a65c_grow_92f84_0 rfl (lv_at hl 0 rfl) ?_
  refine r_get (pc := 1) E hC f0 1 (v := .ref b) rfl rfl (by decide) uJx4a65c (List.mem_cons_of_mem _ kw_1184) (fun _ h => h) dJx4a65c_grow_92f84_1 ?_
  obtain ⟨x_1, ex_1⟩ : ∃ z9 : Int32, z9 = nI n := ⟨_, rfl⟩
  refine r_alen (pc := 4) E hC fR 4 rfl (v := x_1) ex_1.symm dJx4a65c_grow_92f84_4 ?_
  refine lv_istore_n (pc := 5) (lv' := [(2, .int x_1), (0, .ref a), (1, .int ml)]) hx hb dJx4a65c_grow_92f84_5 rfl hl (by decide) rfl (fun ls hl => ?_)
  refine lv_iload_n (pc := 6) hx hb dJx4a65c_grow_92f84_6 rfl (lv_at hl 0 rfl) ?_
  refine lv_if_gt (pc := 7) (tgt := 20) hx hb dJx4a65c_grow_92f84_7 (by decide) (fun c_2 => ?_) (fun c_2 => ?_)
  rotate_left
  · exact absurd (by rw [ex_1]; exact nI_lt (a := 0) (by omega) (by omega)) c_2
  refine lv_iload_n (pc := 20) hx hb dJx4a65c_grow_92f84_20 rfl (lv_at hl 0 rfl) ?_
  refine lv_iload_n (pc := 21) hx hb dJx4a65c_grow_92f84_21 rfl (lv_at hl 2 rfl) ?_
  refine lv_iload_n (pc := 22) hx hb dJx4a65c_grow_92f84_22 rfl (lv_at hl 0 rfl) ?_
  refine lv_isub (pc := 23) hx hb dJx4a65c_grow_92f84_23 ?_
  refine lv_iload_n (pc := 24) hx hb dJx4a65c_grow_92f84_24 rfl (lv_at hl 0 rfl) ?_
  refine lv_iconst (pc := 25) (v := 1) hx hb dJx4a65c_grow_92f84_25 (by decide) ?_
  refine lv_ishr (pc := 26) hx hb dJx4a65c_grow_92f84_26 ?_
  have hgl : x_1 + f_max (ml - x_1) (x_1 >>> (1 &&& 31)) = nI (n + n / 2) := growlen ex_1 hml h2n hn9
  obtain ⟨hq1, hq2, hq3⟩ := nc_pos (k := n + n / 2) (by omega) (by omega)
  have hq4 : (0 : Int32) < x_1 + f_max (ml - x_1) (x_1 >>> (1 &&& 31)) := by rw [hgl]; exact hq1
  have hq5 : x_1 + f_max (ml - x_1) (x_1 >>> (1 &&& 31)) ≤ 2147483639 := by rw [hgl]; exact hq2
  refine k_i (pc := 27) (k_S E hC hS hA hl.1 (c_J8_newLength_cabcc l D tk N0 sa s.heap.size x_1 (ml - x_1) (x_1 >>> (1 &&& 31)) (by assumption) (by assumption)) kw_1450 kw_198 kw_23 kw_199 (n := 3) (by decide +kernel) rfl ⟨⟨rfl, rfl⟩, ⟨Nat.le_of_ble_eq_true rfl, Nat.le_of_ble_eq_true rfl⟩, (by dsimp only; omega), (by dsimp only; omega)⟩ rfl (Nat.le_of_ble_eq_true rfl) trivial dJx4a65c_grow_92f84_27) hS (fun q z w => absurd w (Nat.not_le.mpr z)) hn (fun r_3 H locs hR hz hk hS => ?_)
  have er_3 := hR
  have f0 := f0.kept (hk _ f0.lt (Nat.not_le.mpr f0.lt))
  have fR := fR.kept (hk _ fR.lt (Nat.not_le.mpr fR.lt))
  have el := el.new hk
  refine lv_istore_n (pc := 30) (lv' := [(3, .int r_3), (2, .int x_1), (0, .ref a), (1, .int ml)]) hx hb dJx4a65c_grow_92f84_30 rfl hl (by decide) rfl (fun ls hl => ?_)
  refine lv_aload_n (pc := 31) hx hb dJx4a65c_grow_92f84_31 rfl (lv_at hl 2 rfl) ?_
  refine lv_aload_n (pc := 32) hx hb dJx4a65c_grow_92f84_32 rfl (lv_at hl 2 rfl) ?_
  refine r_get (pc := 33) E hC f0 1 (v := .ref b) rfl rfl (by decide) uJx4a65c (List.mem_cons_of_mem _ kw_1184) (fun _ h => h) dJx4a65c_grow_92f84_33 ?_
  refine lv_iload_n (pc := 36) hx hb dJx4a65c_grow_92f84_36 rfl (lv_at hl 0 rfl) ?_
  have hZ0_ := hS.1
  have t_f0 := f0.lt
  have t_fR := fR.lt
  refine k_r (pc := 37) (k_S E hC hS hA hl.1 (c_J7_copyOf_1904c l D tk N0 sa H.size b n ((n + n / 2)) ce r_3 f vs hce (by rw [er_3, hgl]) (by omega) (by omega)) kw_1451 kw_1452 kw_24 kw_1453 (n := 2) (by decide +kernel) rfl ⟨⟨rfl, rfl⟩, ⟨Nat.le_of_ble_eq_true rfl, Nat.le_of_ble_eq_true rfl⟩, (by dsimp only; omega), (by dsimp only; omega)⟩ rfl (Nat.le_of_ble_eq_true rfl) ⟨fR, el⟩ dJx4a65c_grow_92f84_37) hS (fun q z w => absurd w (Nat.not_le.mpr z)) hn (fun r_5 H locs hR hz hk hS => ?_)
  have f0 := f0.kept (hk _ f0.lt (Nat.not_le.mpr f0.lt))
  have fR := fR.kept (hk _ fR.lt (Nat.not_le.mpr fR.lt))
  obtain ⟨f_6, z9_, f6, el⟩ := hR
  have s_f6 : s.heap.size ≤ r_5 := Nat.le_trans hZ0_ z9_
  have g_f6 := hn _ s_f6
  have l_f0_f6 : a < r_5 := Nat.lt_of_lt_of_le t_f0 z9_
  have l_fR_f6 : b < r_5 := Nat.lt_of_lt_of_le t_fR z9_
  refine lv_dup_x1 (pc := 40) hx hb dJx4a65c_grow_92f84_40 rfl rfl ?_
  refine r_put (pc := 41) E hC f0 hS g_f0 1 tyJx4a65c tyJx4a65c_ok nmJx4a65c rfl (by decide) (Nat.le_of_ble_eq_true rfl) uJx4a65c (List.mem_cons_of_mem _ kw_1184) (fun _ h => h) rfl rfl rfl dJx4a65c_grow_92f84_41 (fun H locs n_ ho hz hS => ?_)
  have fR := fR.kept (ho _ (clA.ne fR.cla f0.cl (hC.ao 7 4 rfl rfl)))
  have f6 := f6.kept (ho _ (clA.ne f6.cla f0.cl (hC.ao 7 4 rfl rfl)))
  have el := el.put ho (fun q9 h9 => clA.ne h9 f0.cl (hC.ceo hce 7 rfl (by decide)))
  have f0 : c1 D a (.inr (7, [.int md, .ref r_5, .int (nI n)])) H := n_
  refine r_aret (pc := 44) E hr (Or.inr ⟨_, rfl⟩) hlk hS (by omega) (by omega) ?_ dJx4a65c_grow_92f84_44
  exact ⟨_, _, rfl, s_f6, f0, f6, el⟩
