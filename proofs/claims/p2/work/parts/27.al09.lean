set_option maxHeartbeats 4000000 in
set_option maxRecDepth 100000 in
/-- java/util/Arrays.copyOf([Ljava/lang/Object;ILjava/lang/Class;)[Ljava/lang/Object; -/
theorem c_J7_copyOf_6403c (l : Launch) (D : va_G) (tk : Nat → ClassId) (N0 : Nat) (sa : Nat → Nat)  (sz : Nat) (b n k ce : Nat) (nl : Int32) (f : Nat → Option Nat) (vs : Nat → Value) (hce : ce = 3 ∨ ce = 2) (hnl : nl = nI k) (hlt : n < k) (hk9 : k ≤ 100000) : Met l yJ7_copyOf_6403c (wsy yJ7_copyOf_6403c cJ7_copyOf_6403c 4 (some (.array (.object "java/lang/Object")))) ({ frames := 1, cells := 1, slots := k, locals := 26 } : Room) (cP D tk N0 sa [.ref b, .int nl, .ref (sa 6)] sz (fun H => c1 D b (.inl (tk 4, n, .inr (.inr (.inr (.inr f))))) H ∧ EL D ce n f vs H)) (kQr (fun r H => ∃ f1, sz ≤ r ∧ c1 D r (.inl (tk 4, k, .inr (.inr (.inr (.inr f1))))) H ∧ EL D ce n f1 vs H) (nwA sz)) (1) (k) (nwA sz) := by
  refine mStart RJ7 rfl (by decide +kernel) (Nat.le_of_ble_eq_true rfl) ?_
  intro p e s m args below meth c E hr hlk hnm hsz hC hF ls hl
  subst hsz
  obtain ⟨hx, hb, -⟩ := id E
  have hA : ∀ q, (nwA s.heap.size) q → N0 ≤ q := fun q h => Nat.le_trans hC.2.1 h
  have hn : ∀ q, s.heap.size ≤ q → (nwA s.heap.size) q := fun q h => h
  have hS : va_S (nwA s.heap.size) s.heap s.heap [] := va_S.rf
  have hl : lv_has ls 4 [(0, .ref b), (1, .int nl), (2, .ref (sa 6))] := hl
  obtain ⟨fR, el⟩ : c1 D b (.inl (tk 4, n, .inr (.inr (.inr (.inr f))))) s.heap ∧ EL D ce n f vs s.heap := hF
  refine lv_aload_n (pc := 0) hx hb dJ7_copyOf_6403c_0 rfl (lv_at hl 2 rfl) ?_
  refine va_ldcM (pc := 1) hx hb E.2.2.2.1 (E.2.2.2.2 _ (List.mem_cons_of_mem _ kw_1478)) hC.xt.1 dJ7_copyOf_6403c_1 ?_
  refine lv_acmp_ne (pc := 3) (rx := (some (sa 6))) (ry := (some (sa 6))) (tgt := 13) hx hb dJ7_copyOf_6403c_3 (by decide) (fun c9 => absurd rfl c9) (fun _ => ?_)
  refine lv_iload_n (pc := 6) hx hb dJ7_copyOf_6403c_6 rfl (lv_at hl 1 rfl) ?_
  have hS0_ := hS
  refine r_anewO (pc := 7) E hC hS kw_1480 (N := k) (by rw [hnl]; exact nI_pos (by omega)) (by rw [hnl]; exact nI_clamp (by omega)) (by omega) (by dsimp only; omega) (by dsimp only; omega) dJ7_copyOf_6403c_7 (fun qf1 H zq_ n_ ho_ hS => ?_)
  have l_fR_f1 : b < qf1 := zq_ ▸ fR.lt
  have fR := fR.kept (ho_ _ fR.lt)
  have el := el.old ho_
  have f1 := n_
  have s_f1 : s.heap.size ≤ qf1 := zq_ ▸ hS0_.1
  have g_f1 := hn _ s_f1
  refine lv_goto (pc := 10) (tgt := 24) hx hb dJ7_copyOf_6403c_10 (by decide) ?_
  refine lv_astore_n (pc := 24) (lv' := [(3, .ref qf1), (0, .ref b), (1, .int nl), (2, .ref (sa 6))]) hx hb dJ7_copyOf_6403c_24 rfl hl (by decide) rfl (fun ls hl => ?_)
  refine lv_aload_n (pc := 25) hx hb dJ7_copyOf_6403c_25 rfl (lv_at hl 1 rfl) ?_
  refine lv_iconst (pc := 26) (v := 0) hx hb dJ7_copyOf_6403c_26 (by decide) ?_
  refine lv_aload_n (pc := 27) hx hb dJ7_copyOf_6403c_27 rfl (lv_at hl 0 rfl) ?_
  refine lv_iconst (pc := 28) (v := 0) hx hb dJ7_copyOf_6403c_28 (by decide) ?_
  refine lv_aload_n (pc := 29) hx hb dJ7_copyOf_6403c_29 rfl (lv_at hl 1 rfl) ?_
  obtain ⟨x_2, ex_2⟩ : ∃ z9 : Int32, z9 = nI n := ⟨_, rfl⟩
  refine r_alen (pc := 30) E hC fR 4 rfl (v := x_2) ex_2.symm dJ7_copyOf_6403c_30 ?_
  refine lv_iload_n (pc := 31) hx hb dJ7_copyOf_6403c_31 rfl (lv_at hl 2 rfl) ?_
  refine k_i (pc := 32) (k_S E hC hS hA hl.1 (c_J9_min_7cf53 l D tk N0 sa H.size x_2 nl ) kw_218 kw_219 kw_9 kw_220 (n := 2) (by decide +kernel) rfl ⟨⟨rfl, rfl⟩, ⟨Nat.le_of_ble_eq_true rfl, Nat.le_of_ble_eq_true rfl⟩, (by dsimp only; omega), (by dsimp only; omega)⟩ rfl (Nat.le_of_ble_eq_true rfl) trivial dJ7_copyOf_6403c_32) hS (fun q z w => absurd w (Nat.not_le.mpr z)) hn (fun r_3 H locs hR hz hk hS => ?_)
  have er_3 := hR
  have fR := fR.kept (hk _ fR.lt (Nat.not_le.mpr fR.lt))
  have el := el.new hk
  have f1 := f1.kept (hk _ f1.lt (Nat.not_le.mpr f1.lt))
  have hm9 : r_3 = nI n := by rw [er_3, hnl, ex_2]; exact f_min9 hlt (by omega)
  refine r_acpyQ (pc := 35) E hC hl.1 (N := n) hce fR el f1 hS g_f1 hm9 (by omega) (by omega) (by omega) kw_221 (by exact Nat.le_of_ble_eq_true rfl) (by decide) (by exact Nat.le_of_ble_eq_true rfl) dJ7_copyOf_6403c_35 (fun H locs n_ ho hz hS => ?_)
  have fR := fR.kept (ho _ (Nat.ne_of_lt l_fR_f1))
  have el := el.put ho (fun q9 h9 => clA.ne h9 f1.cla (hC.cea hce 4 rfl))
  have f1 := n_
  refine lv_aload_n (pc := 38) hx hb dJ7_copyOf_6403c_38 rfl (lv_at hl 0 rfl) ?_
  refine r_aret (pc := 39) E hr (Or.inr ⟨_, rfl⟩) hlk hS (by omega) (by omega) ?_ dJ7_copyOf_6403c_39
  exact ⟨_, s_f1, f1, el.to (fun i hi => by rw [pk_cpy_in (Nat.zero_le _) (by omega)]; congr 1; omega) (fun _ _ => rfl)⟩
