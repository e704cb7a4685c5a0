set_option maxHeartbeats 4000000 in
set_option maxRecDepth 100000 in
/-- java/lang/StringBuilder.append(C)Ljava/lang/StringBuilder; -/
theorem c_J4_append_cf468 (l : Launch) (D : va_G) (tk : Nat → ClassId) (N0 : Nat) (sa : Nat → Nat)  (sz : Nat) (a v cap n : Nat) (ml ch : Int32) (k9 : Nat) (ha9 : N0 ≤ a) (hv9 : N0 ≤ v) (hn9 : n ≤ cap) (hcap : cap ≤ 500000) (hch : ch = nI k9) (hk9 : k9 < 256) : Met l yJ4_append_cf468 (wsy yJ4_append_cf468 cJ4_append_cf468 2 (some (.object "java/lang/StringBuilder"))) ({ frames := 5, cells := sbK cap (n + 1), slots := sbS cap (n + 1), locals := 112 } : Room) (cP D tk N0 sa [.ref a, .int ch] sz (fun H => SBo D a v ml (nI n) H ∧ BA D tk v cap H)) (kQr (fun r H => r = a ∧ ∃ v1, (v1 = v ∨ sz ≤ v1) ∧ SBo D a v1 ml (nI (n + 1)) H ∧ BA D tk v1 (sbC cap (n + 1)) H) (inA2 a v sz)) (sbK cap (n + 1)) (sbS cap (n + 1)) (inA2 a v sz) := by
  refine mStart RJ4 rfl (by decide +kernel) (Nat.le_of_ble_eq_true rfl) ?_
  intro p e s m args below meth c E hr hlk hnm hsz hC hF ls hl
  subst hsz
  obtain ⟨hx, hb, -⟩ := id E
  have hA : ∀ q, (inA2 a v s.heap.size) q → N0 ≤ q := fun q h => h.elim (fun z => z ▸ ha9) (fun z => z.elim (fun w => w ▸ hv9) (fun w => Nat.le_trans hC.2.1 w))
  have hn : ∀ q, s.heap.size ≤ q → (inA2 a v s.heap.size) q := fun q h => Or.inr (Or.inr h)
  have hS : va_S (inA2 a v s.heap.size) s.heap s.heap [] := va_S.rf
  have hl : lv_has ls 2 [(0, .ref a), (1, .int ch)] := hl
  obtain ⟨f0, hB⟩ : SBo D a v ml (nI n) s.heap ∧ BA D tk v cap s.heap := hF
  have g_f0 : (inA2 a v s.heap.size) a := Or.inl rfl
  have g_hB : (inA2 a v s.heap.size) v := Or.inr (Or.inl rfl)
  refine lv_aload_n (pc := 0) hx hb dJ4_append_cf468_0 rfl (lv_at hl 0 rfl) ?_
  refine lv_iload_n (pc := 1) hx hb dJ4_append_cf468_1 rfl (lv_at hl 1 rfl) ?_
  have hZ0_ := hS.1
  have t_f0 := f0.lt
  have t_hB := hB.lt
  refine k_r (pc := 2) (k_SU (ci := 1) rfl E hC hS hA hl.1 (c1.recv hC f0 rfl) (c_J5_append_3fe6f l D tk N0 sa s.heap.size a v cap n ml ch k9 (hA _ g_f0) (hA _ g_hB) hn9 hcap hch hk9) kw_186 kw_1809 kw_180 kw_187 kw_18 kw_188 (by decide) (n := 1) (by decide +kernel) rfl ⟨⟨rfl, rfl⟩, ⟨Nat.le_of_ble_eq_true rfl, Nat.le_of_ble_eq_true rfl⟩, (by dsimp only; omega), (by dsimp only; omega)⟩ rfl (Nat.le_of_ble_eq_true rfl) ⟨f0, hB⟩ dJ4_append_cf468_2) hS (inA2.to g_f0 g_hB) hn (fun r_1 H locs hR hz hk hS => ?_)
  obtain ⟨er9, hR⟩ := hR
  rw [er9]
  obtain ⟨v_2, hv_2, f0, hB⟩ := hR
  have g_hB := hv_2.elim (fun e9 => e9 ▸ g_hB) (fun z9 => hn _ (Nat.le_trans hZ0_ z9))
  have hv_2 := hv_2.imp_right (fun z9 => Nat.le_trans hZ0_ z9)
  refine lv_pop (pc := 5) hx hb dJ4_append_cf468_5 rfl ?_
  refine lv_aload_n (pc := 6) hx hb dJ4_append_cf468_6 rfl (lv_at hl 0 rfl) ?_
  refine r_aret (pc := 7) E hr (Or.inl ⟨_, rfl⟩) hlk hS (by omega) (by omega) ?_ dJ4_append_cf468_7
  exact ⟨rfl, _, hv_2, f0, hB⟩
