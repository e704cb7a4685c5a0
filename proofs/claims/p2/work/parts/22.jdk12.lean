set_option maxHeartbeats 4000000 in
set_option maxRecDepth 100000 in
/-- java/lang/AbstractStringBuilder.<init>(I)V -/
theorem c_J5_init_d00df (l : Launch) (D : va_G) (tk : Nat → ClassId) (N0 : Nat) (sa : Nat → Nat)  (sz : Nat) (a : Nat) (ha9 : N0 ≤ a) : Met l yJ5_init_d00df (wsy yJ5_init_d00df cJ5_init_d00df 2 none) ({ frames := 1, cells := 1, slots := 16, locals := 20 } : Room) (cP D tk N0 sa [.ref a, .int 16] sz (fun H => c1 D a (.inr (1, [.null, .int 0, .int 0, .int 0])) H)) (kQv (fun H => ∃ v, sz ≤ v ∧ SBo D a v 0 0 H ∧ BA D tk v 16 H) (inA1 a sz)) (1) (16) (inA1 a sz) := by
  refine mStart RJ5 rfl (by decide +kernel) (Nat.le_of_ble_eq_true rfl) ?_
  intro p e s m args below meth c E hr hlk hnm hsz hC hF ls hl
  subst hsz
  obtain ⟨hx, hb, -⟩ := id E
  have hA : ∀ q, (inA1 a s.heap.size) q → N0 ≤ q := fun q h => h.elim (fun z => z ▸ ha9) (fun z => Nat.le_trans hC.2.1 z)
  have hn : ∀ q, s.heap.size ≤ q → (inA1 a s.heap.size) q := fun q h => Or.inr h
  have hS : va_S (inA1 a s.heap.size) s.heap s.heap [] := va_S.rf
  have hl : lv_has ls 2 [(0, .ref a), (1, .int 16)] := hl
  have f0 : c1 D a (.inr (1, [.null, .int 0, .int 0, .int 0])) s.heap := hF
  have g_f0 : (inA1 a s.heap.size) a := Or.inl rfl
  refine lv_aload_n (pc := 0) hx hb dJ5_init_d00df_0 rfl (lv_at hl 0 rfl) ?_
  refine r_oinit (pc := 1) E hl.1 kw_157 (Nat.le_of_ble_eq_true rfl) (by decide) (by decide) dJ5_init_d00df_1 ?_
  refine va_gets (pc := 4) hx hb (hC.cs.narrow hA) hS E.2.2.2.1 (E.2.2.2.2 _ (List.mem_cons_of_mem _ kw_158)) (fun _ h => h) dJ5_init_d00df_4 ?_
  refine lv_if_eq (pc := 7) (tgt := 25) hx hb dJ5_init_d00df_7 (by decide) (fun c_1 => ?_) (fun c_1 => ?_)
  · exact absurd c_1 (by decide)
  refine lv_aload_n (pc := 10) hx hb dJ5_init_d00df_10 rfl (lv_at hl 0 rfl) ?_
  refine lv_iload_n (pc := 11) hx hb dJ5_init_d00df_11 rfl (lv_at hl 1 rfl) ?_
  have hS0_ := hS
  refine r_newb (pc := 12) E hC hS (N := 16) (by decide) (by decide) (by decide) (by decide) (by decide) dJ5_init_d00df_12 (fun qhB H zq_ n_ ho_ hS => ?_)
  have l_f0_hB : a < qhB := zq_ ▸ f0.lt
  have f0 := f0.kept (ho_ _ f0.lt)
  have hB := n_
  have s_hB : s.heap.size ≤ qhB := zq_ ▸ hS0_.1
  have g_hB := hn _ s_hB
  refine r_put (pc := 14) E hC f0 hS g_f0 0 tyJ4 tyJ4_ok nmJ4 rfl (by decide) (Nat.le_of_ble_eq_true rfl) uJ4 (List.mem_cons_of_mem _ kw_167) (fun _ h => h) rfl rfl rfl dJ5_init_d00df_14 (fun H locs n_ ho hz hS => ?_)
  have f0 : c1 D a (.inr (1, [.ref qhB, .int 0, .int 0, .int 0])) H := n_
  have hB := hB.kept (ho _ (Nat.ne_of_gt l_f0_hB))
  refine lv_aload_n (pc := 17) hx hb dJ5_init_d00df_17 rfl (lv_at hl 0 rfl) ?_
  refine lv_iconst (pc := 18) (v := 0) hx hb dJ5_init_d00df_18 (by decide) ?_
  refine r_put (pc := 19) E hC f0 hS g_f0 1 tyJ4 tyJ4_ok nmJ4 rfl (by decide) (Nat.le_of_ble_eq_true rfl) uJ4 (List.mem_cons_of_mem _ kw_168) (fun _ h => h) rfl rfl rfl dJ5_init_d00df_19 (fun H locs n_ ho hz hS => ?_)
  have f0 : c1 D a (.inr (1, [.ref qhB, .int 0, .int 0, .int 0])) H := n_
  have hB := hB.kept (ho _ (Nat.ne_of_gt l_f0_hB))
  refine lv_goto (pc := 22) (tgt := 38) hx hb dJ5_init_d00df_22 (by decide) ?_
  refine r_vret (pc := 38) E hr hlk hS (by decide) (by decide) ?_ dJ5_init_d00df_38
  exact ⟨_, s_hB, f0, hB⟩
