set_option maxHeartbeats 4000000 in
set_option maxRecDepth 100000 in
/-- java/lang/String.isEmpty()Z -/
theorem c_J0_isEmpty_aae02 (l : Launch) (D : va_G) (tk : Nat → ClassId) (N0 : Nat) (sa : Nat → Nat)  (sz : Nat) (t k : Nat) (hk9 : k ≤ 100000000) : Met l yJ0_isEmpty_aae02 (wsy yJ0_isEmpty_aae02 cJ0_isEmpty_aae02 1 (some .boolean)) ({ frames := 0, cells := 0, slots := 0, locals := 0 } : Room) (cP D tk N0 sa [.ref t] sz (fun H => SX D tk t k H)) (kQi (fun r H => (r = 1 ∧ k = 0) ∨ (r = 0 ∧ 0 < k)) (nwA sz)) (0) (0) (nwA sz) := by
  refine mStart RJ0 rfl (by decide +kernel) (Nat.le_of_ble_eq_true rfl) ?_
  intro p e s m args below meth c E hr hlk hnm hsz hC hF ls hl
  subst hsz
  obtain ⟨hx, hb, -⟩ := id E
  have hA : ∀ q, (nwA s.heap.size) q → N0 ≤ q := fun q h => Nat.le_trans hC.2.1 h
  have hn : ∀ q, s.heap.size ≤ q → (nwA s.heap.size) q := fun q h => h
  have hS : va_S (nwA s.heap.size) s.heap s.heap [] := va_S.rf
  have hl : lv_has ls 1 [(0, .ref t)] := hl
  obtain ⟨b0, h0, h1, h2⟩ : SX D tk t k s.heap := hF
  refine lv_aload_n (pc := 0) hx hb dJ0_isEmpty_aae02_0 rfl (lv_at hl 0 rfl) ?_
  refine r_getX (pc := 1) E hC h0 rfl (by decide) uJ0 (List.mem_cons_of_mem _ kw_475) (fun _ h => h) dJ0_isEmpty_aae02_1 ?_
  obtain ⟨x_1, ex_1⟩ : ∃ z9 : Int32, z9 = nI k := ⟨_, rfl⟩
  refine r_alenX (pc := 4) E hC h2 (v := x_1) ex_1.symm dJ0_isEmpty_aae02_4 ?_
  refine lv_if_ne (pc := 5) (tgt := 12) hx hb dJ0_isEmpty_aae02_5 (by decide) (fun c_2 => ?_) (fun c_2 => ?_)
  · refine lv_iconst (pc := 12) (v := 0) hx hb dJ0_isEmpty_aae02_12 (by decide) ?_
    refine r_zret (pc := 13) E hr hlk hS (by decide) (by decide) rfl ?_ dJ0_isEmpty_aae02_13
    exact Or.inr ⟨rfl, Nat.pos_of_ne_zero (fun z9 => c_2 (by rw [ex_1, z9]; rfl))⟩
  · refine lv_iconst (pc := 8) (v := 1) hx hb dJ0_isEmpty_aae02_8 (by decide) ?_
    refine lv_goto (pc := 9) (tgt := 13) hx hb dJ0_isEmpty_aae02_9 (by decide) ?_
    refine r_zret (pc := 13) E hr hlk hS (by decide) (by decide) rfl ?_ dJ0_isEmpty_aae02_13
    exact Or.inl ⟨rfl, (nI_eq (b := 0) (by omega) (by decide)).mp (ex_1.symm.trans c_2)⟩
