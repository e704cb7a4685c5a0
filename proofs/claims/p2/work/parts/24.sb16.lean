set_option maxHeartbeats 4000000 in
set_option maxRecDepth 100000 in
/-- java/lang/StringBuilder.append(Ljava/lang/String;)Ljava/lang/StringBuilder; -/
theorem c_J4_append_15ec4 (l : Launch) (D : va_G) (tk : Nat → ClassId) (N0 : Nat) (sa : Nat → Nat)  (sz : Nat) (a v cap n t k : Nat) (ml : Int32) (ha9 : N0 ≤ a) (hv9 : N0 ≤ v) (hn9 : n ≤ cap) (hcap : cap ≤ 500000) (hk9 : k ≤ 400000) : Met l yJ4_append_15ec4 (wsy yJ4_append_15ec4 cJ4_append_15ec4 2 (some (.object "java/lang/StringBuilder"))) ({ frames := 5, cells := sbK cap (n + k), slots := sbS cap (n + k), locals := 113 } : Room) (cP D tk N0 sa [.ref a, .ref t] sz (fun H => SBo D a v ml (nI n) H ∧ BA D tk v cap H ∧ SX D tk t k H)) (kQr (fun r H => r = a ∧ ∃ v1, (v1 = v ∨ sz ≤ v1) ∧ SBo D a v1 ml (nI (n + k)) H ∧ BA D tk v1 (sbC cap (n + k)) H) (inA2 a v sz)) (sbK cap (n + k)) (sbS cap (n + k)) (inA2 a v sz) := by
  refine mStart RJ4 rfl (by decide +kernel) (Nat.le_of_ble_eq_true rfl) ?_
  intro p e s m args below meth c E hr hlk hnm hsz hC hF ls hl
  subst hsz
  obtain ⟨hx, hb, -⟩ := id E
  have hA : ∀ q, (inA2 a v s.heap.size) q → N0 ≤ q := fun q h => h.elim (fun z => z ▸ ha9) (fun z => z.elim (fun w => w ▸ hv9) (fun w => Nat.le_trans hC.2.1 w))
  have hn : ∀ q, s.heap.size ≤ q → (inA2 a v s.heap.size) q := fun q h => Or.inr (Or.inr h)
  have hS : va_S (inA2 a v s.heap.size) s.heap s.heap [] := va_S.rf
  have hl : lv_has ls 2 [(0, .ref a), (1, .ref t)] := hl
  obtain ⟨f0, hB, st⟩ : SBo D a v ml (nI n) s.heap ∧ BA D tk v cap s.heap ∧ SX D tk t k s.heap := hF
  have g_f0 : (inA2 a v s.heap.size) a := Or.inl rfl
  have g_hB : (inA2 a v s.heap.size) v := Or.inr (Or.inl rfl)
  refine lv_aload_n (pc := 0) hx hb dJ4_append_15ec4_0 rfl (lv_at hl 0 rfl) ?_
  refine lv_aload_n (pc := 1) hx hb dJ4_append_15ec4_1 rfl (lv_at hl 1 rfl) ?_
  have hZ0_ := hS.1
  have t_f0 := f0.lt
  have t_hB := hB.lt
  have t_st := st.lt
  refine k_r (pc := 2) (k_SU (ci := 1) rfl E hC hS hA hl.1 (c1.recv hC f0 rfl) (c_J5_append_cf1ce l D tk N0 sa s.heap.size a v cap n t k ml (hA _ g_f0) (hA _ g_hB) hn9 hcap hk9) kw_402 kw_1815 kw_180 kw_403 kw_18 kw_404 (by decide) (n := 1) (by decide +kernel) rfl ⟨⟨rfl, rfl⟩, ⟨Nat.le_of_ble_eq_true rfl, Nat.le_of_ble_eq_true rfl⟩, (by dsimp only; omega), (by dsimp only; omega)⟩ rfl (Nat.le_of_ble_eq_true rfl) ⟨f0, hB, st⟩ dJ4_append_15ec4_2) hS (inA2.to g_f0 g_hB) hn (fun r_1 H locs hR hz hk hS => ?_)
  obtain ⟨er9, hR⟩ := hR
  rw [er9]
  obtain ⟨v_2, hv_2, f0, hB⟩ := hR
  have g_hB := hv_2.elim (fun e9 => e9 ▸ g_hB) (fun z9 => hn _ (Nat.le_trans hZ0_ z9))
  have hv_2 := hv_2.imp_right (fun z9 => Nat.le_trans hZ0_ z9)
  refine lv_pop (pc := 5) hx hb dJ4_append_15ec4_5 rfl ?_
  refine lv_aload_n (pc := 6) hx hb dJ4_append_15ec4_6 rfl (lv_at hl 0 rfl) ?_
  refine r_aret (pc := 7) E hr (Or.inl ⟨_, rfl⟩) hlk hS (by omega) (by omega) ?_ dJ4_append_15ec4_7
  exact ⟨rfl, _, hv_2, f0, hB⟩
