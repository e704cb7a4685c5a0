set_option maxHeartbeats 4000000 in
set_option maxRecDepth 100000 in
/-- java/lang/String.<init>(Ljava/lang/AbstractStringBuilder;Ljava/lang/Void;)V -/
theorem c_J0_init_db425 (l : Launch) (D : va_G) (tk : Nat → ClassId) (N0 : Nat) (sa : Nat → Nat)  (sz : Nat) (t a v cap n : Nat) (ml : Int32) (ha9 : N0 ≤ t) (hn9 : n ≤ cap) (hcap : cap ≤ 100000000) : Met l yJ0_init_db425 (wsy yJ0_init_db425 cJ0_init_db425 5 none) ({ frames := 3, cells := 1, slots := n, locals := 72 } : Room) (cP D tk N0 sa [.ref t, .ref a, .null] sz (fun H => c1 D t (.inr (0, [.null, .int 0, .int 0, .int 0])) H ∧ SBo D a v ml (nI n) H ∧ BA D tk v cap H)) (kQv (fun H => ∃ q, sz ≤ q ∧ SM D tk t q n H) (inA1 t sz)) (1) (n) (inA1 t sz) := by
  refine mStart RJ0 rfl (by decide +kernel) (Nat.le_of_ble_eq_true rfl) ?_
  intro p e s m args below meth c E hr hlk hnm hsz hC hF ls hl
  subst hsz
  obtain ⟨hx, hb, -⟩ := id E
  have hA : ∀ q, (inA1 t s.heap.size) q → N0 ≤ q := fun q h => h.elim (fun z => z ▸ ha9) (fun z => Nat.le_trans hC.2.1 z)
  have hn : ∀ q, s.heap.size ≤ q → (inA1 t s.heap.size) q := fun q h => Or.inr h
  have hS : va_S (inA1 t s.heap.size) s.heap s.heap [] := va_S.rf
  have hl : lv_has ls 5 [(0, .ref t), (1, .ref a), (2, .null)] := hl
  obtain ⟨fT, f0, hB⟩ : c1 D t (.inr (0, [.null, .int 0, .int 0, .int 0])) s.heap ∧ SBo D a v ml (nI n) s.heap ∧ BA D tk v cap s.heap := hF
  have g_fT : (inA1 t s.heap.size) t := Or.inl rfl
  refine lv_aload_n (pc := 0) hx hb dJ0_init_db425_0 rfl (lv_at hl 0 rfl) ?_
  refine r_oinit (pc := 1) E hl.1 kw_327 (Nat.le_of_ble_eq_true rfl) (by exact Nat.le_of_ble_eq_true rfl) (by exact Nat.le_of_ble_eq_true rfl) dJ0_init_db425_1 ?_
  refine lv_aload_n (pc := 4) hx hb dJ0_init_db425_4 rfl (lv_at hl 1 rfl) ?_
  refine k_r (pc := 5) (k_U E hC hS hA hl.1 (c1.recv hC f0 rfl) (c_J5_getValue_6d5f1 l D tk N0 sa s.heap.size a v cap ml (nI n)) kw_328 kw_330 kw_329 (E.2.2.2.2 _ (List.mem_cons_of_mem _ kw_331)) kw_18 kw_332 (n := 0) (by decide +kernel) rfl ⟨⟨rfl, rfl⟩, ⟨Nat.le_of_ble_eq_true rfl, Nat.le_of_ble_eq_true rfl⟩, (by dsimp only; omega), (by dsimp only; omega)⟩ rfl (Nat.le_of_ble_eq_true rfl) ⟨f0, hB⟩ dJ0_init_db425_5) hS (fun q z w => absurd w (Nat.not_le.mpr z)) hn (fun r_1 H locs hR hz hk hS => ?_)
  have fT := fT.kept (hk _ fT.lt (Nat.not_le.mpr fT.lt))
  have f0 := f0.kept (hk _ f0.lt (Nat.not_le.mpr f0.lt))
  have hB := hB.kept (hk _ hB.lt (Nat.not_le.mpr hB.lt))
  rw [show r_1 = v from hR]
  refine lv_astore_n (pc := 8) (lv' := [(3, .ref v), (0, .ref t), (1, .ref a), (2, .null)]) hx hb dJ0_init_db425_8 rfl hl (by decide) rfl (fun ls hl => ?_)
  refine lv_aload_n (pc := 9) hx hb dJ0_init_db425_9 rfl (lv_at hl 2 rfl) ?_
  refine k_i (pc := 10) (k_UO E hC hS hA hl.1 (c1.recv hC f0 rfl) (c_J4_length_8abf5 l D tk N0 sa H.size a v cap ml (nI n)) kw_333 kw_335 kw_334 kw_340 kw_337 kw_336 kw_19 kw_338 (n := 0) (by decide +kernel) rfl ⟨⟨rfl, rfl⟩, ⟨Nat.le_of_ble_eq_true rfl, Nat.le_of_ble_eq_true rfl⟩, (by dsimp only; omega), (by dsimp only; omega)⟩ rfl (Nat.le_of_ble_eq_true rfl) ⟨f0, hB⟩ dJ0_init_db425_10) hS (fun q z w => absurd w (Nat.not_le.mpr z)) hn (fun r_2 H locs hR hz hk hS => ?_)
  have fT := fT.kept (hk _ fT.lt (Nat.not_le.mpr fT.lt))
  have f0 := f0.kept (hk _ f0.lt (Nat.not_le.mpr f0.lt))
  have hB := hB.kept (hk _ hB.lt (Nat.not_le.mpr hB.lt))
  rw [show r_2 = nI n from hR]
  obtain ⟨x_3, ex_3⟩ : ∃ z9 : Int32, z9 = nI n := ⟨_, rfl⟩
  rw [← ex_3]
  refine lv_istore (pc := 13) (lv' := [(4, .int x_3), (3, .ref v), (0, .ref t), (1, .ref a), (2, .null)]) hx hb dJ0_init_db425_13 hl (by decide) rfl (fun ls hl => ?_)
  refine lv_aload_n (pc := 15) hx hb dJ0_init_db425_15 rfl (lv_at hl 3 rfl) ?_
  refine k_i (pc := 16) (k_U E hC hS hA hl.1 (c1.recv hC f0 rfl) (c_J5_isLatin1_aae02 l D tk N0 sa H.size a v cap ml (nI n)) kw_341 kw_226 kw_225 (E.2.2.2.2 _ (List.mem_cons_of_mem _ kw_227)) kw_18 kw_228 (n := 0) (by decide +kernel) rfl ⟨⟨rfl, rfl⟩, ⟨Nat.le_of_ble_eq_true rfl, Nat.le_of_ble_eq_true rfl⟩, (by dsimp only; omega), (by dsimp only; omega)⟩ rfl (Nat.le_of_ble_eq_true rfl) ⟨f0, hB⟩ dJ0_init_db425_16) hS (fun q z w => absurd w (Nat.not_le.mpr z)) hn (fun r_4 H locs hR hz hk hS => ?_)
  have fT := fT.kept (hk _ fT.lt (Nat.not_le.mpr fT.lt))
  have f0 := f0.kept (hk _ f0.lt (Nat.not_le.mpr f0.lt))
  have hB := hB.kept (hk _ hB.lt (Nat.not_le.mpr hB.lt))
  rw [show r_4 = 1 from hR]
  refine lv_if_eq (pc := 19) (tgt := 41) hx hb dJ0_init_db425_19 (by decide) (fun c_5 => ?_) (fun c_5 => ?_)
  · exact absurd c_5 (by decide)
  refine lv_aload_n (pc := 22) hx hb dJ0_init_db425_22 rfl (lv_at hl 2 rfl) ?_
  refine lv_iconst (pc := 23) (v := 0) hx hb dJ0_init_db425_23 (by decide) ?_
  refine r_putF (pc := 24) E hC (hnm.trans rfl) fT hS g_fT 1 tyJ0 tyJ0_ok nmJ0 rfl (by decide) (Nat.le_of_ble_eq_true rfl) uJ0 (List.mem_cons_of_mem _ kw_476) (fun _ h => h) rfl rfl rfl rfl dJ0_init_db425_24 (fun H locs n_ ho hz hS => ?_)
  have f0 := f0.kept (ho _ (clA.ne f0.cl fT.cl (hC.oo 1 0 rfl rfl (by decide))))
  have hB := hB.kept (ho _ (clA.ne hB.cl fT.cl (hC.ao 0 1 rfl rfl)))
  have fT : c1 D t (.inr (0, [.null, .int 0, .int 0, .int 0])) H := n_
  refine lv_aload_n (pc := 27) hx hb dJ0_init_db425_27 rfl (lv_at hl 2 rfl) ?_
  refine lv_aload_n (pc := 28) hx hb dJ0_init_db425_28 rfl (lv_at hl 1 rfl) ?_
  refine lv_iconst (pc := 29) (v := 0) hx hb dJ0_init_db425_29 (by decide) ?_
  refine lv_iload (pc := 30) hx hb dJ0_init_db425_30 (lv_at hl 0 rfl) ?_
  have hZ0_ := hS.1
  have t_fT := fT.lt
  have t_f0 := f0.lt
  have t_hB := hB.lt
  refine k_r (pc := 32) (k_S E hC hS hA hl.1 (c_J7_copyOfRange_39247 l D tk N0 sa H.size v cap 0 n 0 x_3 nI_0.symm ex_3 (Nat.zero_le _) (by omega) hn9 hcap) kw_342 kw_343 kw_24 kw_344 (n := 3) (by decide +kernel) rfl ⟨⟨rfl, rfl⟩, ⟨Nat.le_of_ble_eq_true rfl, Nat.le_of_ble_eq_true rfl⟩, (by dsimp only; omega), (by dsimp only; omega)⟩ rfl (Nat.le_of_ble_eq_true rfl) hB dJ0_init_db425_32) hS (fun q z w => absurd w (Nat.not_le.mpr z)) hn (fun r_6 H locs hR hz hk hS => ?_)
  have fT := fT.kept (hk _ fT.lt (Nat.not_le.mpr fT.lt))
  have f0 := f0.kept (hk _ f0.lt (Nat.not_le.mpr f0.lt))
  have hB := hB.kept (hk _ hB.lt (Nat.not_le.mpr hB.lt))
  obtain ⟨z9_, f7⟩ := hR
  have s_f7 : s.heap.size ≤ r_6 := Nat.le_trans hZ0_ z9_
  have g_f7 := hn _ s_f7
  have l_fT_f7 : t < r_6 := Nat.lt_of_lt_of_le t_fT z9_
  have l_f0_f7 : a < r_6 := Nat.lt_of_lt_of_le t_f0 z9_
  have l_hB_f7 : v < r_6 := Nat.lt_of_lt_of_le t_hB z9_
  refine r_putF (pc := 35) E hC (hnm.trans rfl) fT hS g_fT 0 tyJ0 tyJ0_ok nmJ0 rfl (by decide) (Nat.le_of_ble_eq_true rfl) uJ0 (List.mem_cons_of_mem _ kw_475) (fun _ h => h) rfl rfl rfl rfl dJ0_init_db425_35 (fun H locs n_ ho hz hS => ?_)
  have f0 := f0.kept (ho _ (clA.ne f0.cl fT.cl (hC.oo 1 0 rfl rfl (by decide))))
  have hB := hB.kept (ho _ (clA.ne hB.cl fT.cl (hC.ao 0 1 rfl rfl)))
  have f7 := f7.kept (ho _ (clA.ne f7.cl fT.cl (hC.ao 0 1 rfl rfl)))
  have fT : c1 D t (.inr (0, [.ref r_6, .int 0, .int 0, .int 0])) H := n_
  refine lv_goto (pc := 38) (tgt := 97) hx hb dJ0_init_db425_38 (by decide) ?_
  refine r_vret (pc := 97) E hr hlk hS (by omega) (by omega) ?_ dJ0_init_db425_97
  exact ⟨_, s_f7, fT, f7⟩
