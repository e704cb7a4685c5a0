set_option maxHeartbeats 4000000 in
set_option maxRecDepth 100000 in
/-- java/lang/AbstractStringBuilder.getValue()[B -/
theorem c_J5_getValue_6d5f1 (l : Launch) (D : va_G) (tk : Nat → ClassId) (N0 : Nat) (sa : Nat → Nat)  (sz : Nat) (a v cap : Nat) (ml cn : Int32) : Met l yJ5_getValue_6d5f1 (wsy yJ5_getValue_6d5f1 cJ5_getValue_6d5f1 1 (some (.array .byte))) ({ frames := 0, cells := 0, slots := 0, locals := 0 } : Room) (cP D tk N0 sa [.ref a] sz (fun H => SBo D a v ml cn H ∧ BA D tk v cap H)) (kQr (fun r H => r = v) (nwA sz)) (0) (0) (nwA sz) := by
  refine mStart RJ5 rfl (by decide +kernel) (Nat.le_of_ble_eq_true rfl) ?_
  intro p e s m args below meth c E hr hlk hnm hsz hC hF ls hl
  subst hsz
  obtain ⟨hx, hb, -⟩ := id E
  have hA : ∀ q, (nwA s.heap.size) q → N0 ≤ q := fun q h => Nat.le_trans hC.2.1 h
  have hn : ∀ q, s.heap.size ≤ q → (nwA s.heap.size) q := fun q h => h
  have hS : va_S (nwA s.heap.size) s.heap s.heap [] := va_S.rf
  have hl : lv_has ls 1 [(0, .ref a)] := hl
  obtain ⟨f0, hB⟩ : SBo D a v ml cn s.heap ∧ BA D tk v cap s.heap := hF
  refine lv_aload_n (pc := 0) hx hb dJ5_getValue_6d5f1_0 rfl (lv_at hl 0 rfl) ?_
  refine r_get (pc := 1) E hC f0 0 (v := .ref v) rfl rfl (by decide) uJ4 (List.mem_cons_of_mem _ kw_167) (fun _ h => h) dJ5_getValue_6d5f1_1 ?_
  refine r_aret (pc := 4) E hr (Or.inr ⟨_, rfl⟩) hlk hS (by decide) (by decide) ?_ dJ5_getValue_6d5f1_4
  rfl
