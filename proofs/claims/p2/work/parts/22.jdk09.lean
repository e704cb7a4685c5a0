set_option maxHeartbeats 4000000 in
set_option maxRecDepth 100000 in
/-- java/lang/AbstractStringBuilder.isLatin1()Z -/
theorem c_J5_isLatin1_aae02 (l : Launch) (D : va_G) (tk : Nat → ClassId) (N0 : Nat) (sa : Nat → Nat)  (sz : Nat) (a v cap : Nat) (ml cn : Int32)  : Met l yJ5_isLatin1_aae02 (wsy yJ5_isLatin1_aae02 cJ5_isLatin1_aae02 1 (some .boolean)) ({ frames := 0, cells := 0, slots := 0, locals := 0 } : Room) (cP D tk N0 sa [.ref a] sz (fun H => SBo D a v ml cn H ∧ BA D tk v cap H)) (kQi (fun r H => r = 1) (nwA sz)) (0) (0) (nwA sz) := by
  refine mStart RJ5 rfl (by decide +kernel) (Nat.le_of_ble_eq_true rfl) ?_
  intro p e s m args below meth c E hr hlk hnm hsz hC hF ls hl
  subst hsz
  obtain ⟨hx, hb, -⟩ := id E
  have hA : ∀ q, (nwA s.heap.size) q → N0 ≤ q := fun q h => Nat.le_trans hC.2.1 h
  have hn : ∀ q, s.heap.size ≤ q → (nwA s.heap.size) q := fun q h => h
  have hS : va_S (nwA s.heap.size) s.heap s.heap [] := va_S.rf
  have hl : lv_has ls 1 [(0, .ref a)] := hl
  obtain ⟨f0, hB⟩ : SBo D a v ml cn s.heap ∧ BA D tk v cap s.heap := hF
  refine va_gets (pc := 0) hx hb (hC.cs.narrow hA) hS E.2.2.2.1 (E.2.2.2.2 _ (List.mem_cons_of_mem _ kw_158)) (fun _ h => h) dJ5_isLatin1_aae02_0 ?_
  refine lv_if_eq (pc := 3) (tgt := 17) hx hb dJ5_isLatin1_aae02_3 (by decide) (fun c_1 => ?_) (fun c_1 => ?_)
  · exact absurd c_1 (by decide)
  refine lv_aload_n (pc := 6) hx hb dJ5_isLatin1_aae02_6 rfl (lv_at hl 0 rfl) ?_
  refine r_get (pc := 7) E hC f0 1 (v := .int 0) rfl rfl (by decide) uJ4 (List.mem_cons_of_mem _ kw_168) (fun _ h => h) dJ5_isLatin1_aae02_7 ?_
  refine lv_if_ne (pc := 10) (tgt := 17) hx hb dJ5_isLatin1_aae02_10 (by decide) (fun c_2 => ?_) (fun c_2 => ?_)
  · exact absurd (by decide) c_2
  refine lv_iconst (pc := 13) (v := 1) hx hb dJ5_isLatin1_aae02_13 (by decide) ?_
  refine lv_goto (pc := 14) (tgt := 18) hx hb dJ5_isLatin1_aae02_14 (by decide) ?_
  refine r_zret (pc := 18) E hr hlk hS (by decide) (by decide) rfl ?_ dJ5_isLatin1_aae02_18
  rfl
