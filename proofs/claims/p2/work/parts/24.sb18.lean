set_option maxHeartbeats 4000000 in
set_option maxRecDepth 100000 in
/-- java/lang/AbstractStringBuilder.setLength(I)V -/
theorem c_J5_setLength_d00df (l : Launch) (D : va_G) (tk : Nat → ClassId) (N0 : Nat) (sa : Nat → Nat)  (sz : Nat) (a v cap n : Nat) (ml : Int32) (ha9 : N0 ≤ a) (hv9 : N0 ≤ v) (hn9 : n ≤ cap) (hcap : cap ≤ 500000) : Met l yJ5_setLength_d00df (wsy yJ5_setLength_d00df cJ5_setLength_d00df 2 none) ({ frames := 4, cells := sbK cap 0, slots := sbS cap 0, locals := 91 } : Room) (cP D tk N0 sa [.ref a, .int 0] sz (fun H => SBo D a v ml (nI n) H ∧ BA D tk v cap H)) (kQv (fun H => ∃ v1 ml1, (v1 = v ∨ sz ≤ v1) ∧ SBo D a v1 ml1 0 H ∧ BA D tk v1 (sbC cap 0) H) (inA2 a v sz)) (sbK cap 0) (sbS cap 0) (inA2 a v sz) := by
  refine mStart RJ5 rfl (by decide +kernel) (Nat.le_of_ble_eq_true rfl) ?_
  intro p e s m args below meth c E hr hlk hnm hsz hC hF ls hl
  subst hsz
  obtain ⟨hx, hb, -⟩ := id E
  have hA : ∀ q, (inA2 a v s.heap.size) q → N0 ≤ q := fun q h => h.elim (fun z => z ▸ ha9) (fun z => z.elim (fun w => w ▸ hv9) (fun w => Nat.le_trans hC.2.1 w))
  have hn : ∀ q, s.heap.size ≤ q → (inA2 a v s.heap.size) q := fun q h => Or.inr (Or.inr h)
  have hS : va_S (inA2 a v s.heap.size) s.heap s.heap [] := va_S.rf
  have hl : lv_has ls 2 [(0, .ref a), (1, .int 0)] := hl
  obtain ⟨f0, hB⟩ : SBo D a v ml (nI n) s.heap ∧ BA D tk v cap s.heap := hF
  have g_f0 : (inA2 a v s.heap.size) a := Or.inl rfl
  have g_hB : (inA2 a v s.heap.size) v := Or.inr (Or.inl rfl)
  refine lv_iload_n (pc := 0) hx hb dJ5_setLength_d00df_0 rfl (lv_at hl 1 rfl) ?_
  refine lv_if_ge (pc := 1) (tgt := 13) hx hb dJ5_setLength_d00df_1 (by decide) (fun c_1 => ?_) (fun c_1 => ?_)
  rotate_left
  · exact absurd (by decide) c_1
  refine lv_aload_n (pc := 13) hx hb dJ5_setLength_d00df_13 rfl (lv_at hl 0 rfl) ?_
  refine lv_iload_n (pc := 14) hx hb dJ5_setLength_d00df_14 rfl (lv_at hl 1 rfl) ?_
  have hZ0_ := hS.1
  have t_f0 := f0.lt
  have t_hB := hB.lt
  refine k_v (pc := 15) (k_U E hC hS hA hl.1 (c1.recv hC f0 rfl) (c_J5_ensureCapacityInternal_d00df l D tk N0 sa s.heap.size a v cap ml (nI n) 0 0 (hA _ g_f0) rfl (by omega) (by omega)) kw_189 kw_1810 kw_191 (selUp (n := 4) (E.2.2.2.2 _ (List.mem_cons_of_mem _ kw_150)) (va_Nw.use rfl (hC.2.2.2.1 _ kn_190 rfl)) (E.2.2.2.2 _ (List.mem_cons_of_mem _ kw_191)) (E.2.2.2.2 _ (List.mem_cons_of_mem _ kw_1810))) kw_18 kw_192 (n := 1) (by decide +kernel) rfl ⟨⟨rfl, rfl⟩, ⟨Nat.le_of_ble_eq_true rfl, Nat.le_of_ble_eq_true rfl⟩, (by dsimp only; omega), (by dsimp only; omega)⟩ rfl (Nat.le_of_ble_eq_true rfl) ⟨f0, hB⟩ dJ5_setLength_d00df_15) hS (inA1.to g_f0) hn (fun H locs hR hz hk hS => ?_)
  obtain ⟨v_3, hv_3, f0, hB⟩ := hR
  have g_hB := hv_3.elim (fun e9 => e9 ▸ g_hB) (fun z9 => hn _ (Nat.le_trans hZ0_ z9))
  have hv_3 := hv_3.imp_right (fun z9 => Nat.le_trans hZ0_ z9)
  refine lv_aload_n (pc := 18) hx hb dJ5_setLength_d00df_18 rfl (lv_at hl 0 rfl) ?_
  refine r_get (pc := 19) E hC f0 3 (v := .int (nI n)) rfl rfl (by decide) uJ4 (List.mem_cons_of_mem _ kw_171) (fun _ h => h) dJ5_setLength_d00df_19 ?_
  refine lv_iload_n (pc := 22) hx hb dJ5_setLength_d00df_22 rfl (lv_at hl 1 rfl) ?_
  refine lv_icmp_ge (pc := 23) (tgt := 63) hx hb dJ5_setLength_d00df_23 (by decide) (fun c_4 => ?_) (fun c_4 => ?_)
  rotate_left
  · exact absurd (nI_pos' (by omega)) c_4
  refine lv_aload_n (pc := 63) hx hb dJ5_setLength_d00df_63 rfl (lv_at hl 0 rfl) ?_
  refine r_get (pc := 64) E hC f0 3 (v := .int (nI n)) rfl rfl (by decide) uJ4 (List.mem_cons_of_mem _ kw_171) (fun _ h => h) dJ5_setLength_d00df_64 ?_
  refine lv_iload_n (pc := 67) hx hb dJ5_setLength_d00df_67 rfl (lv_at hl 1 rfl) ?_
  refine lv_icmp_le (pc := 68) (tgt := 76) hx hb dJ5_setLength_d00df_68 (by decide) (fun c_5 => ?_) (fun c_5 => ?_)
  · refine lv_aload_n (pc := 76) hx hb dJ5_setLength_d00df_76 rfl (lv_at hl 0 rfl) ?_
    refine lv_iload_n (pc := 77) hx hb dJ5_setLength_d00df_77 rfl (lv_at hl 1 rfl) ?_
    refine r_put (pc := 78) E hC f0 hS g_f0 3 tyJ4 tyJ4_ok nmJ4 rfl (by decide) (Nat.le_of_ble_eq_true rfl) uJ4 (List.mem_cons_of_mem _ kw_171) (fun _ h => h) rfl rfl rfl dJ5_setLength_d00df_78 (fun H locs n_ ho hz hS => ?_)
    have hB := hB.kept (ho _ (clA.ne hB.cl f0.cl (hC.ao 1 1 rfl rfl)))
    have f0 : c1 D a (.inr (1, [.ref v_3, .int 0, .int ml, .int 0])) H := n_
    refine r_vret (pc := 81) E hr hlk hS (by omega) (by omega) ?_ dJ5_setLength_d00df_81
    exact ⟨_, _, hv_3, f0, hB⟩
  · refine lv_aload_n (pc := 71) hx hb dJ5_setLength_d00df_71 rfl (lv_at hl 0 rfl) ?_
    refine lv_iconst (pc := 72) (v := 1) hx hb dJ5_setLength_d00df_72 (by decide) ?_
    refine r_put (pc := 73) E hC f0 hS g_f0 2 tyJ4 tyJ4_ok nmJ4 rfl (by decide) (Nat.le_of_ble_eq_true rfl) uJ4 (List.mem_cons_of_mem _ kw_169) (fun _ h => h) rfl rfl rfl dJ5_setLength_d00df_73 (fun H locs n_ ho hz hS => ?_)
    have hB := hB.kept (ho _ (clA.ne hB.cl f0.cl (hC.ao 1 1 rfl rfl)))
    have f0 : c1 D a (.inr (1, [.ref v_3, .int 0, .int 1, .int (nI n)])) H := n_
    refine lv_aload_n (pc := 76) hx hb dJ5_setLength_d00df_76 rfl (lv_at hl 0 rfl) ?_
    refine lv_iload_n (pc := 77) hx hb dJ5_setLength_d00df_77 rfl (lv_at hl 1 rfl) ?_
    refine r_put (pc := 78) E hC f0 hS g_f0 3 tyJ4 tyJ4_ok nmJ4 rfl (by decide) (Nat.le_of_ble_eq_true rfl) uJ4 (List.mem_cons_of_mem _ kw_171) (fun _ h => h) rfl rfl rfl dJ5_setLength_d00df_78 (fun H locs n_ ho hz hS => ?_)
    have hB := hB.kept (ho _ (clA.ne hB.cl f0.cl (hC.ao 1 1 rfl rfl)))
    have f0 : c1 D a (.inr (1, [.ref v_3, .int 0, .int 1, .int 0])) H := n_
    refine r_vret (pc := 81) E hr hlk hS (by omega) (by omega) ?_ dJ5_setLength_d00df_81
    exact ⟨_, _, hv_3, f0, hB⟩
