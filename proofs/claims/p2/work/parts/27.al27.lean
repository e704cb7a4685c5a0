set_option maxHeartbeats 4000000 in
set_option maxRecDepth 100000 in
/-- java/util/ArrayList$Itr.next()Ljava/lang/Object; -/
theorem c_Jx35411_next_0502b (l : Launch) (D : va_G) (tk : Nat → ClassId) (N0 : Nat) (sa : Nat → Nat)  (sz : Nat) (u a b n i cap q : Nat) (md lr : Int32) (f : Nat → Option Nat) (ha9 : N0 ≤ u) (hin : i < n) (hnc : n ≤ cap) (hcap : cap ≤ 100000) (hq : f i = some q) : Met l yJx35411_next_0502b (wsy yJx35411_next_0502b cJx35411_next_0502b 3 (some (.object "java/lang/Object"))) ({ frames := 1, cells := 0, slots := 0, locals := 20 } : Room) (cP D tk N0 sa [.ref u] sz (fun H => c1 D u (.inr (6, [.int (nI i), .int lr, .int md, .ref a])) H ∧ c1 D a (.inr (7, [.int md, .ref b, .int (nI n)])) H ∧ c1 D b (.inl (tk 4, cap, .inr (.inr (.inr (.inr f))))) H)) (kQr (fun r H => r = q ∧ c1 D u (.inr (6, [.int (nI (i + 1)), .int (nI i), .int md, .ref a])) H) (inA1 u sz)) (0) (0) (inA1 u sz) := by
  refine mStart RJx35411 rfl (by decide +kernel) (Nat.le_of_ble_eq_true rfl) ?_
  intro p e s m args below meth c E hr hlk hnm hsz hC hF ls hl
  subst hsz
  obtain ⟨hx, hb, -⟩ := id E
  have hA : ∀ q, (inA1 u s.heap.size) q → N0 ≤ q := fun q h => h.elim (fun z => z ▸ ha9) (fun z => Nat.le_trans hC.2.1 z)
  have hn : ∀ q, s.heap.size ≤ q → (inA1 u s.heap.size) q := fun q h => Or.inr h
  have hS : va_S (inA1 u s.heap.size) s.heap s.heap [] := va_S.rf
  have hl : lv_has ls 3 [(0, .ref u)] := hl
  obtain ⟨fU, f0, fR⟩ : c1 D u (.inr (6, [.int (nI i), .int lr, .int md, .ref a])) s.heap ∧ c1 D a (.inr (7, [.int md, .ref b, .int (nI n)])) s.heap ∧ c1 D b (.inl (tk 4, cap, .inr (.inr (.inr (.inr f))))) s.heap := hF
  have g_fU : (inA1 u s.heap.size) u := Or.inl rfl
  refine lv_aload_n (pc := 0) hx hb dJx35411_next_0502b_0 rfl (lv_at hl 0 rfl) ?_
  refine k_v (pc := 1) (k_V E hC hS hA hl.1 (c1.recv hC fU rfl) rfl (c_Jx35411_checkForComodification_da8c8 l D tk N0 sa s.heap.size u a b n i md lr) kw_1528 kw_1529 kw_1530 kw_29 kw_1531 (n := 0) (by decide +kernel) rfl ⟨⟨rfl, rfl⟩, ⟨by decide, by decide⟩, by decide, by decide⟩ rfl (Nat.le_of_ble_eq_true rfl) ⟨fU, f0⟩ dJx35411_next_0502b_1) hS (fun q z w => absurd w (Nat.not_le.mpr z)) hn (fun H locs hR hz hk hS => ?_)
  have f0 := f0.kept (hk _ f0.lt (Nat.not_le.mpr f0.lt))
  have fU := fU.kept (hk _ fU.lt (Nat.not_le.mpr fU.lt))
  have fR := fR.kept (hk _ fR.lt (Nat.not_le.mpr fR.lt))
  refine lv_aload_n (pc := 4) hx hb dJx35411_next_0502b_4 rfl (lv_at hl 0 rfl) ?_
  refine r_get (pc := 5) E hC fU 0 (v := .int (nI i)) rfl rfl (by decide) uJx35411 (List.mem_cons_of_mem _ kw_1496) (fun _ h => h) dJx35411_next_0502b_5 ?_
  obtain ⟨x_2, ex_2⟩ : ∃ z9 : Int32, z9 = nI i := ⟨_, rfl⟩
  rw [← ex_2]
  refine lv_istore_n (pc := 8) (lv' := [(1, .int x_2), (0, .ref u)]) hx hb dJx35411_next_0502b_8 rfl hl (by decide) rfl (fun ls hl => ?_)
  refine lv_iload_n (pc := 9) hx hb dJx35411_next_0502b_9 rfl (lv_at hl 0 rfl) ?_
  refine lv_aload_n (pc := 10) hx hb dJx35411_next_0502b_10 rfl (lv_at hl 1 rfl) ?_
  refine r_get (pc := 11) E hC fU 3 (v := .ref a) rfl rfl (by decide) uJx35411 (List.mem_cons_of_mem _ kw_1499) (fun _ h => h) dJx35411_next_0502b_11 ?_
  refine r_getN (pc := 14) "java/util/ArrayList" E hC f0 2 (v := .int (nI n)) rfl rfl (by decide) uJx4a65c kn_1186 (fun _ h => h) dJx35411_next_0502b_14 ?_
  refine lv_icmp_lt (pc := 17) (tgt := 28) hx hb dJx35411_next_0502b_17 (by decide) (fun c_3 => ?_) (fun c_3 => ?_)
  rotate_left
  · exact absurd (by rw [ex_2]; exact nI_lt hin (by omega)) c_3
  refine lv_aload_n (pc := 28) hx hb dJx35411_next_0502b_28 rfl (lv_at hl 1 rfl) ?_
  refine r_get (pc := 29) E hC fU 3 (v := .ref a) rfl rfl (by decide) uJx35411 (List.mem_cons_of_mem _ kw_1499) (fun _ h => h) dJx35411_next_0502b_29 ?_
  refine r_get (pc := 32) E hC f0 1 (v := .ref b) rfl rfl (by decide) uJx4a65c (List.mem_cons_of_mem _ kw_1185) (fun _ h => h) dJx35411_next_0502b_32 ?_
  refine lv_astore_n (pc := 35) (lv' := [(2, .ref b), (1, .int x_2), (0, .ref u)]) hx hb dJx35411_next_0502b_35 rfl hl (by decide) rfl (fun ls hl => ?_)
  refine lv_iload_n (pc := 36) hx hb dJx35411_next_0502b_36 rfl (lv_at hl 1 rfl) ?_
  refine lv_aload_n (pc := 37) hx hb dJx35411_next_0502b_37 rfl (lv_at hl 0 rfl) ?_
  obtain ⟨x_4, ex_4⟩ : ∃ z9 : Int32, z9 = nI cap := ⟨_, rfl⟩
  refine r_alen (pc := 38) E hC fR 4 rfl (v := x_4) ex_4.symm dJx35411_next_0502b_38 ?_
  refine lv_icmp_lt (pc := 39) (tgt := 50) hx hb dJx35411_next_0502b_39 (by decide) (fun c_5 => ?_) (fun c_5 => ?_)
  rotate_left
  · exact absurd (by rw [ex_2, ex_4]; exact nI_lt (by omega) (by omega)) c_5
  refine lv_aload_n (pc := 50) hx hb dJx35411_next_0502b_50 rfl (lv_at hl 2 rfl) ?_
  refine lv_iload_n (pc := 51) hx hb dJx35411_next_0502b_51 rfl (lv_at hl 1 rfl) ?_
  refine lv_iconst (pc := 52) (v := 1) hx hb dJx35411_next_0502b_52 (by decide) ?_
  refine lv_iadd (pc := 53) hx hb dJx35411_next_0502b_53 ?_
  refine r_put (pc := 54) E hC fU hS g_fU 0 tyJx35411 tyJx35411_ok nmJx35411 rfl (by decide) (Nat.le_of_ble_eq_true rfl) uJx35411 (List.mem_cons_of_mem _ kw_1496) (fun _ h => h) rfl rfl rfl dJx35411_next_0502b_54 (fun H locs n_ ho hz hS => ?_)
  have f0 := f0.kept (ho _ (clA.ne f0.cl fU.cl (hC.oo 7 6 rfl rfl (by decide))))
  have fR := fR.kept (ho _ (clA.ne fR.cla fU.cl (hC.ao 6 4 rfl rfl)))
  have fU : c1 D u (.inr (6, [.int (x_2 + 1), .int lr, .int md, .ref a])) H := n_
  refine lv_aload_n (pc := 57) hx hb dJx35411_next_0502b_57 rfl (lv_at hl 0 rfl) ?_
  refine lv_aload_n (pc := 58) hx hb dJx35411_next_0502b_58 rfl (lv_at hl 2 rfl) ?_
  refine lv_iload_n (pc := 59) hx hb dJx35411_next_0502b_59 rfl (lv_at hl 1 rfl) ?_
  refine lv_dup_x1 (pc := 60) hx hb dJx35411_next_0502b_60 rfl rfl ?_
  refine r_put (pc := 61) E hC fU hS g_fU 1 tyJx35411 tyJx35411_ok nmJx35411 rfl (by decide) (Nat.le_of_ble_eq_true rfl) uJx35411 (List.mem_cons_of_mem _ kw_1497) (fun _ h => h) rfl rfl rfl dJx35411_next_0502b_61 (fun H locs n_ ho hz hS => ?_)
  have f0 := f0.kept (ho _ (clA.ne f0.cl fU.cl (hC.oo 7 6 rfl rfl (by decide))))
  have fR := fR.kept (ho _ (clA.ne fR.cla fU.cl (hC.ao 6 4 rfl rfl)))
  have fU : c1 D u (.inr (6, [.int (x_2 + 1), .int x_2, .int md, .ref a])) H := n_
  refine r_aaldM (pc := 64) E hC (t0 := 4) rfl fR i ex_2 (by omega) (by omega) hq dJx35411_next_0502b_64 ?_
  refine r_aret (pc := 65) E hr (Or.inl ⟨_, rfl⟩) hlk hS (by decide) (by decide) ?_ dJx35411_next_0502b_65
  exact ⟨rfl, (by have h9 := fU; rw [ex_2, nI_1] at h9; rw [ex_2]; exact h9)⟩
