set_option maxHeartbeats 4000000 in
set_option maxRecDepth 100000 in
theorem g4_X5_digest {p : Program} {l : Launch} {e : Env} {s : State} {m : MethodId} {args : Array Value} {below : List Frame} {meth : Method} {c : Code} {Q : State → Prop} {D : va_G} {tk : Nat → ClassId} {N0 : Nat} {sa : Nat → Nat} {P : Nat → Prop} (E : CallFix p m c cX5_digest 5 s args (wsy yX5_digest cX5_digest 5 (some .long)) RX5) (hC : Ctx D tk N0 sa s) (hA : ∀ q, (P) q → N0 ≤ q) (hn : ∀ q, s.heap.size ≤ q → (P) q) (hr : meth.sig.returnType = (some .long)) (hlk : meth.locks = false) (hPN : ∀ q, P q → N0 ≤ q) (hPs : ∀ q, s.heap.size ≤ q → P q) (mo : Nat) (n9 : Nat) (kn : Int32) (th : Int32) (tt : Nat → Int64) (bb : Nat → Int64) (eT : Int64) (eB : Int64) (oT : Int64) (oB : Int64) (pk : Nat) (ca : Int32) (rf : Int32) (vs : Nat → Value) (hQ : Q = MQ below (kQl (fun r H => ∃ th1, MI D tk sa P mo tt bb eT eB oT oB pk ca rf vs kn n9 th1 H) (P)) args s (3869) (94998) (P)) (ra : Nat) (rl : Nat) (ex : Nat) (ro : Nat) (rt : Nat → Nat) (hPm : P mo) (hPa : P ra) (hPl : P rl) (hPe : P ex) (hPr : P ro) (hPk : ∀ k, k < 6 → P (rt k)) (hFk : ∀ k, k < 6 → m_F (tt k) (bb k)) (hFe : m_F eT eB) (hFr : m_F oT oB ∧ m_D4 oB) (hpk : pk ≤ 4) (hn9 : n9 ≤ 16) (d9 : Int64) (H : Heap) (locs : List Loc) (ls : Array Slot) (hS : va_S (P) s.heap H locs) (fo : c1 D mo (.inr (13, [.ref ra, .ref rl, .ref ex, .ref ro, .int (nI pk), .int ca, .int rf, .int kn, .int 0])) H) (fj : c1 D ra (.inl (tk 3, 6, .inr (.inr (.inr (.inr (fun k => some (rt k))))))) H) (fk : MK D tk rt tt bb H) (fe : L2 D tk ex eT eB H) (fr : L2 D tk ro oT oB H) (fw : RW D tk sa P rl n9 vs H) (hl : lv_has ls 5 [(0, .ref mo), (1, .long d9)]) : W p l e ({ frames := 9, cells := 3869, slots := 94998, locals := 212 } : Room) s m args below meth c H locs (3821 + 1 + 0) (94303 + 4 + 0) Q (F0 m 256 ls []) := by
  obtain ⟨hx, hb, -⟩ := id E
  have g_fo := hPm
  have g_fj := hPa
  refine lv_lload_n (pc := 256) hx hb dX5_digest_256 rfl (lv_at hl 1 rfl) ?_
  refine lv_aload_n (pc := 257) hx hb dX5_digest_257 rfl (lv_at hl 0 rfl) ?_
  refine r_get (pc := 258) E hC fo 2 (v := .ref ex) rfl rfl (by decide) uX5 (List.mem_cons_of_mem _ kw_1211) (fun _ h => h) dX5_digest_258 ?_
  have hZ0_ := hS.1
  have t_fo := fo.lt
  have t_fj := fj.lt
  have t_fk := fun k (hk9 : k < 6) => (fk k hk9).lt
  have t_fe := fe.lt
  have t_fr := fr.lt
  refine k_r (pc := 261) (k_S E hC hS hA hl.1 (c_X5_text l D tk N0 sa H.size ex eT eB) kw_1348 kw_1349 kw_5 kw_1350 (n := 1) (by decide +kernel) rfl ⟨⟨rfl, rfl⟩, ⟨Nat.le_of_ble_eq_true rfl, Nat.le_of_ble_eq_true rfl⟩, (by dsimp only; omega), (by dsimp only; omega)⟩ rfl (Nat.le_of_ble_eq_true rfl) fe dX5_digest_261) hS (fun q z w => absurd w (Nat.not_le.mpr z)) hn (fun r_29 H locs hR hz hk hS => ?_)
  have fw := fw.new hk
  have fo := fo.kept (hk _ fo.lt (Nat.not_le.mpr fo.lt))
  have fj := fj.kept (hk _ fj.lt (Nat.not_le.mpr fj.lt))
  have fk := fk.new hk
  have fe := fe.kept (hk _ fe.lt (Nat.not_le.mpr fe.lt))
  have fr := fr.kept (hk _ fr.lt (Nat.not_le.mpr fr.lt))
  obtain ⟨n_f30, hn_f30, z9_, f30⟩ := hR
  refine k_i (pc := 264) (k_V E hC hS hA hl.1 (f30.recv hC) rfl (c_J0_length_8abf5 l D tk N0 sa H.size r_29 n_f30) kw_1710 kw_413 kw_414 kw_20 kw_415 (n := 0) (by decide +kernel) rfl ⟨⟨rfl, rfl⟩, ⟨Nat.le_of_ble_eq_true rfl, Nat.le_of_ble_eq_true rfl⟩, (by dsimp only; omega), (by dsimp only; omega)⟩ rfl (Nat.le_of_ble_eq_true rfl) f30 dX5_digest_264) hS (fun q z w => absurd w (Nat.not_le.mpr z)) hn (fun r_31 H locs hR hz hk hS => ?_)
  have fw := fw.new hk
  have fo := fo.kept (hk _ fo.lt (Nat.not_le.mpr fo.lt))
  have fj := fj.kept (hk _ fj.lt (Nat.not_le.mpr fj.lt))
  have fk := fk.new hk
  have fe := fe.kept (hk _ fe.lt (Nat.not_le.mpr fe.lt))
  have fr := fr.kept (hk _ fr.lt (Nat.not_le.mpr fr.lt))
  have f30 := f30.new hk
  rw [show r_31 = nI n_f30 from hR]
  refine lv_i2l (pc := 267) (v := (nI n_f30).toInt64) hx hb dX5_digest_267 rfl ?_
  refine k_l (pc := 268) (k_S E hC hS hA hl.1 (c_X5_add l D tk N0 sa H.size d9 ((nI n_f30).toInt64) ) kw_1805 kw_1806 kw_5 kw_1807 (n := 2) (by decide +kernel) rfl ⟨⟨rfl, rfl⟩, ⟨Nat.le_of_ble_eq_true rfl, Nat.le_of_ble_eq_true rfl⟩, (by dsimp only; omega), (by dsimp only; omega)⟩ rfl (Nat.le_of_ble_eq_true rfl) trivial dX5_digest_268) hS (fun q z w => absurd w (Nat.not_le.mpr z)) hn (fun r_32 H locs hR hz hk hS => ?_)
  have er_32 := hR
  have fw := fw.new hk
  have fo := fo.kept (hk _ fo.lt (Nat.not_le.mpr fo.lt))
  have fj := fj.kept (hk _ fj.lt (Nat.not_le.mpr fj.lt))
  have fk := fk.new hk
  have fe := fe.kept (hk _ fe.lt (Nat.not_le.mpr fe.lt))
  have fr := fr.kept (hk _ fr.lt (Nat.not_le.mpr fr.lt))
  have f30 := f30.new hk
  refine lv_aload_n (pc := 271) hx hb dX5_digest_271 rfl (lv_at hl 0 rfl) ?_
  have hZ0_ := hS.1
  have t_fo := fo.lt
  have t_fj := fj.lt
  have t_fk := fun k (hk9 : k < 6) => (fk k hk9).lt
  have t_fe := fe.lt
  have t_fr := fr.lt
  have t_f30 := f30.lt
  refine k_r (pc := 272) (k_V E hC hS hA hl.1 (c1.recv hC fo rfl) rfl (c_X5_roundedNow l D tk N0 sa H.size P hPN mo n9 kn 0 tt bb eT eB oT oB pk ca rf vs  ) kw_1771 kw_1773 kp_33 kw_5 kw_1774 (n := 0) (by decide +kernel) rfl ⟨⟨rfl, rfl⟩, ⟨Nat.le_of_ble_eq_true rfl, Nat.le_of_ble_eq_true rfl⟩, (by dsimp only; omega), (by dsimp only; omega)⟩ rfl (Nat.le_of_ble_eq_true rfl) ⟨_, _, _, _, _, fo, fj, fk, fe, fr, fw, ⟨hPm, hPa, hPl, hPe, hPr, hPk⟩, hFk, hFe, hFr, hpk, hn9⟩ dX5_digest_272) hS (fun q z w => absurd w (Nat.not_le.mpr z)) hn (fun r_34 H locs hR hz hk hS => ?_)
  have fw := fw.new hk
  have fo := fo.kept (hk _ fo.lt (Nat.not_le.mpr fo.lt))
  have fj := fj.kept (hk _ fj.lt (Nat.not_le.mpr fj.lt))
  have fk := fk.new hk
  have fe := fe.kept (hk _ fe.lt (Nat.not_le.mpr fe.lt))
  have fr := fr.kept (hk _ fr.lt (Nat.not_le.mpr fr.lt))
  have f30 := f30.new hk
  obtain ⟨n_f35, hn_f35, f35⟩ := hR
  refine k_i (pc := 275) (k_V E hC hS hA hl.1 (f35.recv hC) rfl (c_J0_length_8abf5 l D tk N0 sa H.size r_34 n_f35) kw_1710 kw_413 kw_414 kw_20 kw_415 (n := 0) (by decide +kernel) rfl ⟨⟨rfl, rfl⟩, ⟨Nat.le_of_ble_eq_true rfl, Nat.le_of_ble_eq_true rfl⟩, (by dsimp only; omega), (by dsimp only; omega)⟩ rfl (Nat.le_of_ble_eq_true rfl) f35 dX5_digest_275) hS (fun q z w => absurd w (Nat.not_le.mpr z)) hn (fun r_36 H locs hR hz hk hS => ?_)
  have fw := fw.new hk
  have fo := fo.kept (hk _ fo.lt (Nat.not_le.mpr fo.lt))
  have fj := fj.kept (hk _ fj.lt (Nat.not_le.mpr fj.lt))
  have fk := fk.new hk
  have fe := fe.kept (hk _ fe.lt (Nat.not_le.mpr fe.lt))
  have fr := fr.kept (hk _ fr.lt (Nat.not_le.mpr fr.lt))
  have f30 := f30.new hk
  have f35 := f35.new hk
  rw [show r_36 = nI n_f35 from hR]
  refine lv_i2l (pc := 278) (v := (nI n_f35).toInt64) hx hb dX5_digest_278 rfl ?_
  refine k_l (pc := 279) (k_S E hC hS hA hl.1 (c_X5_add l D tk N0 sa H.size r_32 ((nI n_f35).toInt64) ) kw_1805 kw_1806 kw_5 kw_1807 (n := 2) (by decide +kernel) rfl ⟨⟨rfl, rfl⟩, ⟨Nat.le_of_ble_eq_true rfl, Nat.le_of_ble_eq_true rfl⟩, (by dsimp only; omega), (by dsimp only; omega)⟩ rfl (Nat.le_of_ble_eq_true rfl) trivial dX5_digest_279) hS (fun q z w => absurd w (Nat.not_le.mpr z)) hn (fun r_37 H locs hR hz hk hS => ?_)
  have er_37 := hR
  have fw := fw.new hk
  have fo := fo.kept (hk _ fo.lt (Nat.not_le.mpr fo.lt))
  have fj := fj.kept (hk _ fj.lt (Nat.not_le.mpr fj.lt))
  have fk := fk.new hk
  have fe := fe.kept (hk _ fe.lt (Nat.not_le.mpr fe.lt))
  have fr := fr.kept (hk _ fr.lt (Nat.not_le.mpr fr.lt))
  have f30 := f30.new hk
  have f35 := f35.new hk
  refine lv_aload_n (pc := 282) hx hb dX5_digest_282 rfl (lv_at hl 0 rfl) ?_
  have hZ0_ := hS.1
  have t_fo := fo.lt
  have t_fj := fj.lt
  have t_fk := fun k (hk9 : k < 6) => (fk k hk9).lt
  have t_fe := fe.lt
  have t_fr := fr.lt
  have t_f30 := f30.lt
  have t_f35 := f35.lt
  refine k_r (pc := 283) (k_V E hC hS hA hl.1 (c1.recv hC fo rfl) rfl (c_X5_errorNow l D tk N0 sa H.size P hPN mo n9 kn 0 tt bb eT eB oT oB pk ca rf vs  ) kw_1779 kw_1781 kp_34 kw_5 kw_1782 (n := 0) (by decide +kernel) rfl ⟨⟨rfl, rfl⟩, ⟨Nat.le_of_ble_eq_true rfl, Nat.le_of_ble_eq_true rfl⟩, (by dsimp only; omega), (by dsimp only; omega)⟩ rfl (Nat.le_of_ble_eq_true rfl) ⟨_, _, _, _, _, fo, fj, fk, fe, fr, fw, ⟨hPm, hPa, hPl, hPe, hPr, hPk⟩, hFk, hFe, hFr, hpk, hn9⟩ dX5_digest_283) hS (fun q z w => absurd w (Nat.not_le.mpr z)) hn (fun r_39 H locs hR hz hk hS => ?_)
  have fw := fw.new hk
  have fo := fo.kept (hk _ fo.lt (Nat.not_le.mpr fo.lt))
  have fj := fj.kept (hk _ fj.lt (Nat.not_le.mpr fj.lt))
  have fk := fk.new hk
  have fe := fe.kept (hk _ fe.lt (Nat.not_le.mpr fe.lt))
  have fr := fr.kept (hk _ fr.lt (Nat.not_le.mpr fr.lt))
  have f30 := f30.new hk
  have f35 := f35.new hk
  obtain ⟨n_f40, hn_f40, f40⟩ := hR
  refine k_i (pc := 286) (k_V E hC hS hA hl.1 (f40.recv hC) rfl (c_J0_length_8abf5 l D tk N0 sa H.size r_39 n_f40) kw_1710 kw_413 kw_414 kw_20 kw_415 (n := 0) (by decide +kernel) rfl ⟨⟨rfl, rfl⟩, ⟨Nat.le_of_ble_eq_true rfl, Nat.le_of_ble_eq_true rfl⟩, (by dsimp only; omega), (by dsimp only; omega)⟩ rfl (Nat.le_of_ble_eq_true rfl) f40 dX5_digest_286) hS (fun q z w => absurd w (Nat.not_le.mpr z)) hn (fun r_41 H locs hR hz hk hS => ?_)
  have fw := fw.new hk
  have fo := fo.kept (hk _ fo.lt (Nat.not_le.mpr fo.lt))
  have fj := fj.kept (hk _ fj.lt (Nat.not_le.mpr fj.lt))
  have fk := fk.new hk
  have fe := fe.kept (hk _ fe.lt (Nat.not_le.mpr fe.lt))
  have fr := fr.kept (hk _ fr.lt (Nat.not_le.mpr fr.lt))
  have f30 := f30.new hk
  have f35 := f35.new hk
  have f40 := f40.new hk
  rw [show r_41 = nI n_f40 from hR]
  refine lv_i2l (pc := 289) (v := (nI n_f40).toInt64) hx hb dX5_digest_289 rfl ?_
  refine k_l (pc := 290) (k_S E hC hS hA hl.1 (c_X5_add l D tk N0 sa H.size r_37 ((nI n_f40).toInt64) ) kw_1805 kw_1806 kw_5 kw_1807 (n := 2) (by decide +kernel) rfl ⟨⟨rfl, rfl⟩, ⟨Nat.le_of_ble_eq_true rfl, Nat.le_of_ble_eq_true rfl⟩, (by dsimp only; omega), (by dsimp only; omega)⟩ rfl (Nat.le_of_ble_eq_true rfl) trivial dX5_digest_290) hS (fun q z w => absurd w (Nat.not_le.mpr z)) hn (fun r_42 H locs hR hz hk hS => ?_)
  have er_42 := hR
  have fw := fw.new hk
  have fo := fo.kept (hk _ fo.lt (Nat.not_le.mpr fo.lt))
  have fj := fj.kept (hk _ fj.lt (Nat.not_le.mpr fj.lt))
  have fk := fk.new hk
  have fe := fe.kept (hk _ fe.lt (Nat.not_le.mpr fe.lt))
  have fr := fr.kept (hk _ fr.lt (Nat.not_le.mpr fr.lt))
  have f30 := f30.new hk
  have f35 := f35.new hk
  have f40 := f40.new hk
  refine lv_lstore_n (pc := 293) (lv' := [(1, .long r_42), (0, .ref mo)]) hx hb dX5_digest_293 rfl hl (by decide) rfl (fun ls hl => ?_)
  refine lv_lload_n (pc := 294) hx hb dX5_digest_294 rfl (lv_at hl 0 rfl) ?_
  refine lv_lconst (pc := 295) (v := 1) hx hb dX5_digest_295 (by decide) ?_
  refine k_l (pc := 296) (k_S E hC hS hA hl.1 (c_X5_add l D tk N0 sa H.size r_42 1 ) kw_1805 kw_1806 kw_5 kw_1807 (n := 2) (by decide +kernel) rfl ⟨⟨rfl, rfl⟩, ⟨Nat.le_of_ble_eq_true rfl, Nat.le_of_ble_eq_true rfl⟩, (by dsimp only; omega), (by dsimp only; omega)⟩ rfl (Nat.le_of_ble_eq_true rfl) trivial dX5_digest_296) hS (fun q z w => absurd w (Nat.not_le.mpr z)) hn (fun r_44 H locs hR hz hk hS => ?_)
  have er_44 := hR
  have fw := fw.new hk
  have fo := fo.kept (hk _ fo.lt (Nat.not_le.mpr fo.lt))
  have fj := fj.kept (hk _ fj.lt (Nat.not_le.mpr fj.lt))
  have fk := fk.new hk
  have fe := fe.kept (hk _ fe.lt (Nat.not_le.mpr fe.lt))
  have fr := fr.kept (hk _ fr.lt (Nat.not_le.mpr fr.lt))
  have f30 := f30.new hk
  have f35 := f35.new hk
  have f40 := f40.new hk
  try rw [hQ]
  refine r_lret (pc := 299) E hr hlk hS (by omega) (by omega) ?_ dX5_digest_299
  exact ⟨_, ⟨_, _, _, _, _, fo, fj, fk, fe, fr, fw, ⟨hPm, hPa, hPl, hPe, hPr, hPk⟩, hFk, hFe, hFr, hpk, hn9⟩⟩
set_option maxHeartbeats 4000000 in
set_option maxRecDepth 100000 in
theorem g5_X5_digest {p : Program} {l : Launch} {e : Env} {s : State} {m : MethodId} {args : Array Value} {below : List Frame} {meth : Method} {c : Code} {Q : State → Prop} {D : va_G} {tk : Nat → ClassId} {N0 : Nat} {sa : Nat → Nat} {P : Nat → Prop} (E : CallFix p m c cX5_digest 5 s args (wsy yX5_digest cX5_digest 5 (some .long)) RX5) (hC : Ctx D tk N0 sa s) (hA : ∀ q, (P) q → N0 ≤ q) (hn : ∀ q, s.heap.size ≤ q → (P) q) (hr : meth.sig.returnType = (some .long)) (hlk : meth.locks = false) (hPN : ∀ q, P q → N0 ≤ q) (hPs : ∀ q, s.heap.size ≤ q → P q) (mo : Nat) (n9 : Nat) (kn : Int32) (th : Int32) (tt : Nat → Int64) (bb : Nat → Int64) (eT : Int64) (eB : Int64) (oT : Int64) (oB : Int64) (pk : Nat) (ca : Int32) (rf : Int32) (vs : Nat → Value) (hQ : Q = MQ below (kQl (fun r H => ∃ th1, MI D tk sa P mo tt bb eT eB oT oB pk ca rf vs kn n9 th1 H) (P)) args s (3869) (94998) (P)) (ra : Nat) (rl : Nat) (ex : Nat) (ro : Nat) (rt : Nat → Nat) (hPm : P mo) (hPa : P ra) (hPl : P rl) (hPe : P ex) (hPr : P ro) (hPk : ∀ k, k < 6 → P (rt k)) (hFk : ∀ k, k < 6 → m_F (tt k) (bb k)) (hFe : m_F eT eB) (hFr : m_F oT oB ∧ m_D4 oB) (hpk : pk ≤ 4) (hn9 : n9 ≤ 16) (d9 : Int64) (H : Heap) (locs : List Loc) (ls : Array Slot) (hS : va_S (P) s.heap H locs) (fo : c1 D mo (.inr (13, [.ref ra, .ref rl, .ref ex, .ref ro, .int (nI pk), .int ca, .int rf, .int kn, .int 0])) H) (fj : c1 D ra (.inl (tk 3, 6, .inr (.inr (.inr (.inr (fun k => some (rt k))))))) H) (fk : MK D tk rt tt bb H) (fe : L2 D tk ex eT eB H) (fr : L2 D tk ro oT oB H) (fw : RW D tk sa P rl n9 vs H) (hl : lv_has ls 5 [(0, .ref mo), (1, .long d9)]) : W p l e ({ frames := 9, cells := 3869, slots := 94998, locals := 212 } : Room) s m args below meth c H locs (3822 + 0) (94307 + 0) Q (F0 m 256 ls []) := by
  obtain ⟨hx, hb, -⟩ := id E
  have g_fo := hPm
  have g_fj := hPa
  refine lv_lload_n (pc := 256) hx hb dX5_digest_256 rfl (lv_at hl 1 rfl) ?_
  refine lv_aload_n (pc := 257) hx hb dX5_digest_257 rfl (lv_at hl 0 rfl) ?_
  refine r_get (pc := 258) E hC fo 2 (v := .ref ex) rfl rfl (by decide) uX5 (List.mem_cons_of_mem _ kw_1211) (fun _ h => h) dX5_digest_258 ?_
  have hZ0_ := hS.1
  have t_fo := fo.lt
  have t_fj := fj.lt
  have t_fk := fun k (hk9 : k < 6) => (fk k hk9).lt
  have t_fe := fe.lt
  have t_fr := fr.lt
  refine k_r (pc := 261) (k_S E hC hS hA hl.1 (c_X5_text l D tk N0 sa H.size ex eT eB) kw_1348 kw_1349 kw_5 kw_1350 (n := 1) (by decide +kernel) rfl ⟨⟨rfl, rfl⟩, ⟨Nat.le_of_ble_eq_true rfl, Nat.le_of_ble_eq_true rfl⟩, (by dsimp only; omega), (by dsimp only; omega)⟩ rfl (Nat.le_of_ble_eq_true rfl) fe dX5_digest_261) hS (fun q z w => absurd w (Nat.not_le.mpr z)) hn (fun r_50 H locs hR hz hk hS => ?_)
  have fw := fw.new hk
  have fo := fo.kept (hk _ fo.lt (Nat.not_le.mpr fo.lt))
  have fj := fj.kept (hk _ fj.lt (Nat.not_le.mpr fj.lt))
  have fk := fk.new hk
  have fe := fe.kept (hk _ fe.lt (Nat.not_le.mpr fe.lt))
  have fr := fr.kept (hk _ fr.lt (Nat.not_le.mpr fr.lt))
  obtain ⟨n_f51, hn_f51, z9_, f51⟩ := hR
  refine k_i (pc := 264) (k_V E hC hS hA hl.1 (f51.recv hC) rfl (c_J0_length_8abf5 l D tk N0 sa H.size r_50 n_f51) kw_1710 kw_413 kw_414 kw_20 kw_415 (n := 0) (by decide +kernel) rfl ⟨⟨rfl, rfl⟩, ⟨Nat.le_of_ble_eq_true rfl, Nat.le_of_ble_eq_true rfl⟩, (by dsimp only; omega), (by dsimp only; omega)⟩ rfl (Nat.le_of_ble_eq_true rfl) f51 dX5_digest_264) hS (fun q z w => absurd w (Nat.not_le.mpr z)) hn (fun r_52 H locs hR hz hk hS => ?_)
  have fw := fw.new hk
  have fo := fo.kept (hk _ fo.lt (Nat.not_le.mpr fo.lt))
  have fj := fj.kept (hk _ fj.lt (Nat.not_le.mpr fj.lt))
  have fk := fk.new hk
  have fe := fe.kept (hk _ fe.lt (Nat.not_le.mpr fe.lt))
  have fr := fr.kept (hk _ fr.lt (Nat.not_le.mpr fr.lt))
  have f51 := f51.new hk
  rw [show r_52 = nI n_f51 from hR]
  refine lv_i2l (pc := 267) (v := (nI n_f51).toInt64) hx hb dX5_digest_267 rfl ?_
  refine k_l (pc := 268) (k_S E hC hS hA hl.1 (c_X5_add l D tk N0 sa H.size d9 ((nI n_f51).toInt64) ) kw_1805 kw_1806 kw_5 kw_1807 (n := 2) (by decide +kernel) rfl ⟨⟨rfl, rfl⟩, ⟨Nat.le_of_ble_eq_true rfl, Nat.le_of_ble_eq_true rfl⟩, (by dsimp only; omega), (by dsimp only; omega)⟩ rfl (Nat.le_of_ble_eq_true rfl) trivial dX5_digest_268) hS (fun q z w => absurd w (Nat.not_le.mpr z)) hn (fun r_53 H locs hR hz hk hS => ?_)
  have er_53 := hR
  have fw := fw.new hk
  have fo := fo.kept (hk _ fo.lt (Nat.not_le.mpr fo.lt))
  have fj := fj.kept (hk _ fj.lt (Nat.not_le.mpr fj.lt))
  have fk := fk.new hk
  have fe := fe.kept (hk _ fe.lt (Nat.not_le.mpr fe.lt))
  have fr := fr.kept (hk _ fr.lt (Nat.not_le.mpr fr.lt))
  have f51 := f51.new hk
  refine lv_aload_n (pc := 271) hx hb dX5_digest_271 rfl (lv_at hl 0 rfl) ?_
  have hZ0_ := hS.1
  have t_fo := fo.lt
  have t_fj := fj.lt
  have t_fk := fun k (hk9 : k < 6) => (fk k hk9).lt
  have t_fe := fe.lt
  have t_fr := fr.lt
  have t_f51 := f51.lt
  refine k_r (pc := 272) (k_V E hC hS hA hl.1 (c1.recv hC fo rfl) rfl (c_X5_roundedNow l D tk N0 sa H.size P hPN mo n9 kn 0 tt bb eT eB oT oB pk ca rf vs  ) kw_1771 kw_1773 kp_33 kw_5 kw_1774 (n := 0) (by decide +kernel) rfl ⟨⟨rfl, rfl⟩, ⟨Nat.le_of_ble_eq_true rfl, Nat.le_of_ble_eq_true rfl⟩, (by dsimp only; omega), (by dsimp only; omega)⟩ rfl (Nat.le_of_ble_eq_true rfl) ⟨_, _, _, _, _, fo, fj, fk, fe, fr, fw, ⟨hPm, hPa, hPl, hPe, hPr, hPk⟩, hFk, hFe, hFr, hpk, hn9⟩ dX5_digest_272) hS (fun q z w => absurd w (Nat.not_le.mpr z)) hn (fun r_55 H locs hR hz hk hS => ?_)
  have fw := fw.new hk
  have fo := fo.kept (hk _ fo.lt (Nat.not_le.mpr fo.lt))
  have fj := fj.kept (hk _ fj.lt (Nat.not_le.mpr fj.lt))
  have fk := fk.new hk
  have fe := fe.kept (hk _ fe.lt (Nat.not_le.mpr fe.lt))
  have fr := fr.kept (hk _ fr.lt (Nat.not_le.mpr fr.lt))
  have f51 := f51.new hk
  obtain ⟨n_f56, hn_f56, f56⟩ := hR
  refine k_i (pc := 275) (k_V E hC hS hA hl.1 (f56.recv hC) rfl (c_J0_length_8abf5 l D tk N0 sa H.size r_55 n_f56) kw_1710 kw_413 kw_414 kw_20 kw_415 (n := 0) (by decide +kernel) rfl ⟨⟨rfl, rfl⟩, ⟨Nat.le_of_ble_eq_true rfl, Nat.le_of_ble_eq_true rfl⟩, (by dsimp only; omega), (by dsimp only; omega)⟩ rfl (Nat.le_of_ble_eq_true rfl) f56 dX5_digest_275) hS (fun q z w => absurd w (Nat.not_le.mpr z)) hn (fun r_57 H locs hR hz hk hS => ?_)
  have fw := fw.new hk
  have fo := fo.kept (hk _ fo.lt (Nat.not_le.mpr fo.lt))
  have fj := fj.kept (hk _ fj.lt (Nat.not_le.mpr fj.lt))
  have fk := fk.new hk
  have fe := fe.kept (hk _ fe.lt (Nat.not_le.mpr fe.lt))
  have fr := fr.kept (hk _ fr.lt (Nat.not_le.mpr fr.lt))
  have f51 := f51.new hk
  have f56 := f56.new hk
  rw [show r_57 = nI n_f56 from hR]
  refine lv_i2l (pc := 278) (v := (nI n_f56).toInt64) hx hb dX5_digest_278 rfl ?_
  refine k_l (pc := 279) (k_S E hC hS hA hl.1 (c_X5_add l D tk N0 sa H.size r_53 ((nI n_f56).toInt64) ) kw_1805 kw_1806 kw_5 kw_1807 (n := 2) (by decide +kernel) rfl ⟨⟨rfl, rfl⟩, ⟨Nat.le_of_ble_eq_true rfl, Nat.le_of_ble_eq_true rfl⟩, (by dsimp only; omega), (by dsimp only; omega)⟩ rfl (Nat.le_of_ble_eq_true rfl) trivial dX5_digest_279) hS (fun q z w => absurd w (Nat.not_le.mpr z)) hn (fun r_58 H locs hR hz hk hS => ?_)
  have er_58 := hR
  have fw := fw.new hk
  have fo := fo.kept (hk _ fo.lt (Nat.not_le.mpr fo.lt))
  have fj := fj.kept (hk _ fj.lt (Nat.not_le.mpr fj.lt))
  have fk := fk.new hk
  have fe := fe.kept (hk _ fe.lt (Nat.not_le.mpr fe.lt))
  have fr := fr.kept (hk _ fr.lt (Nat.not_le.mpr fr.lt))
  have f51 := f51.new hk
  have f56 := f56.new hk
  refine lv_aload_n (pc := 282) hx hb dX5_digest_282 rfl (lv_at hl 0 rfl) ?_
  have hZ0_ := hS.1
  have t_fo := fo.lt
  have t_fj := fj.lt
  have t_fk := fun k (hk9 : k < 6) => (fk k hk9).lt
  have t_fe := fe.lt
  have t_fr := fr.lt
  have t_f51 := f51.lt
  have t_f56 := f56.lt
  refine k_r (pc := 283) (k_V E hC hS hA hl.1 (c1.recv hC fo rfl) rfl (c_X5_errorNow l D tk N0 sa H.size P hPN mo n9 kn 0 tt bb eT eB oT oB pk ca rf vs  ) kw_1779 kw_1781 kp_34 kw_5 kw_1782 (n := 0) (by decide +kernel) rfl ⟨⟨rfl, rfl⟩, ⟨Nat.le_of_ble_eq_true rfl, Nat.le_of_ble_eq_true rfl⟩, (by dsimp only; omega), (by dsimp only; omega)⟩ rfl (Nat.le_of_ble_eq_true rfl) ⟨_, _, _, _, _, fo, fj, fk, fe, fr, fw, ⟨hPm, hPa, hPl, hPe, hPr, hPk⟩, hFk, hFe, hFr, hpk, hn9⟩ dX5_digest_283) hS (fun q z w => absurd w (Nat.not_le.mpr z)) hn (fun r_60 H locs hR hz hk hS => ?_)
  have fw := fw.new hk
  have fo := fo.kept (hk _ fo.lt (Nat.not_le.mpr fo.lt))
  have fj := fj.kept (hk _ fj.lt (Nat.not_le.mpr fj.lt))
  have fk := fk.new hk
  have fe := fe.kept (hk _ fe.lt (Nat.not_le.mpr fe.lt))
  have fr := fr.kept (hk _ fr.lt (Nat.not_le.mpr fr.lt))
  have f51 := f51.new hk
  have f56 := f56.new hk
  obtain ⟨n_f61, hn_f61, f61⟩ := hR
  refine k_i (pc := 286) (k_V E hC hS hA hl.1 (f61.recv hC) rfl (c_J0_length_8abf5 l D tk N0 sa H.size r_60 n_f61) kw_1710 kw_413 kw_414 kw_20 kw_415 (n := 0) (by decide +kernel) rfl ⟨⟨rfl, rfl⟩, ⟨Nat.le_of_ble_eq_true rfl, Nat.le_of_ble_eq_true rfl⟩, (by dsimp only; omega), (by dsimp only; omega)⟩ rfl (Nat.le_of_ble_eq_true rfl) f61 dX5_digest_286) hS (fun q z w => absurd w (Nat.not_le.mpr z)) hn (fun r_62 H locs hR hz hk hS => ?_)
  have fw := fw.new hk
  have fo := fo.kept (hk _ fo.lt (Nat.not_le.mpr fo.lt))
  have fj := fj.kept (hk _ fj.lt (Nat.not_le.mpr fj.lt))
  have fk := fk.new hk
  have fe := fe.kept (hk _ fe.lt (Nat.not_le.mpr fe.lt))
  have fr := fr.kept (hk _ fr.lt (Nat.not_le.mpr fr.lt))
  have f51 := f51.new hk
  have f56 := f56.new hk
  have f61 := f61.new hk
  rw [show r_62 = nI n_f61 from hR]
  refine lv_i2l (pc := 289) (v := (nI n_f61).toInt64) hx hb dX5_digest_289 rfl ?_
  refine k_l (pc := 290) (k_S E hC hS hA hl.1 (c_X5_add l D tk N0 sa H.size r_58 ((nI n_f61).toInt64) ) kw_1805 kw_1806 kw_5 kw_1807 (n := 2) (by decide +kernel) rfl ⟨⟨rfl, rfl⟩, ⟨Nat.le_of_ble_eq_true rfl, Nat.le_of_ble_eq_true rfl⟩, (by dsimp only; omega), (by dsimp only; omega)⟩ rfl (Nat.le_of_ble_eq_true rfl) trivial dX5_digest_290) hS (fun q z w => absurd w (Nat.not_le.mpr z)) hn (fun r_63 H locs hR hz hk hS => ?_)
  have er_63 := hR
  have fw := fw.new hk
  have fo := fo.kept (hk _ fo.lt (Nat.not_le.mpr fo.lt))
  have fj := fj.kept (hk _ fj.lt (Nat.not_le.mpr fj.lt))
  have fk := fk.new hk
  have fe := fe.kept (hk _ fe.lt (Nat.not_le.mpr fe.lt))
  have fr := fr.kept (hk _ fr.lt (Nat.not_le.mpr fr.lt))
  have f51 := f51.new hk
  have f56 := f56.new hk
  have f61 := f61.new hk
  refine lv_lstore_n (pc := 293) (lv' := [(1, .long r_63), (0, .ref mo)]) hx hb dX5_digest_293 rfl hl (by decide) rfl (fun ls hl => ?_)
  refine lv_lload_n (pc := 294) hx hb dX5_digest_294 rfl (lv_at hl 0 rfl) ?_
  refine lv_lconst (pc := 295) (v := 1) hx hb dX5_digest_295 (by decide) ?_
  refine k_l (pc := 296) (k_S E hC hS hA hl.1 (c_X5_add l D tk N0 sa H.size r_63 1 ) kw_1805 kw_1806 kw_5 kw_1807 (n := 2) (by decide +kernel) rfl ⟨⟨rfl, rfl⟩, ⟨Nat.le_of_ble_eq_true rfl, Nat.le_of_ble_eq_true rfl⟩, (by dsimp only; omega), (by dsimp only; omega)⟩ rfl (Nat.le_of_ble_eq_true rfl) trivial dX5_digest_296) hS (fun q z w => absurd w (Nat.not_le.mpr z)) hn (fun r_65 H locs hR hz hk hS => ?_)
  have er_65 := hR
  have fw := fw.new hk
  have fo := fo.kept (hk _ fo.lt (Nat.not_le.mpr fo.lt))
  have fj := fj.kept (hk _ fj.lt (Nat.not_le.mpr fj.lt))
  have fk := fk.new hk
  have fe := fe.kept (hk _ fe.lt (Nat.not_le.mpr fe.lt))
  have fr := fr.kept (hk _ fr.lt (Nat.not_le.mpr fr.lt))
  have f51 := f51.new hk
  have f56 := f56.new hk
  have f61 := f61.new hk
  try rw [hQ]
  refine r_lret (pc := 299) E hr hlk hS (by omega) (by omega) ?_ dX5_digest_299
  exact ⟨_, ⟨_, _, _, _, _, fo, fj, fk, fe, fr, fw, ⟨hPm, hPa, hPl, hPe, hPr, hPk⟩, hFk, hFe, hFr, hpk, hn9⟩⟩
set_option maxHeartbeats 4000000 in
set_option maxRecDepth 100000 in
theorem g3_X5_digest {p : Program} {l : Launch} {e : Env} {s : State} {m : MethodId} {args : Array Value} {below : List Frame} {meth : Method} {c : Code} {Q : State → Prop} {D : va_G} {tk : Nat → ClassId} {N0 : Nat} {sa : Nat → Nat} {P : Nat → Prop} (E : CallFix p m c cX5_digest 5 s args (wsy yX5_digest cX5_digest 5 (some .long)) RX5) (hC : Ctx D tk N0 sa s) (hA : ∀ q, (P) q → N0 ≤ q) (hn : ∀ q, s.heap.size ≤ q → (P) q) (hr : meth.sig.returnType = (some .long)) (hlk : meth.locks = false) (hPN : ∀ q, P q → N0 ≤ q) (hPs : ∀ q, s.heap.size ≤ q → P q) (mo : Nat) (n9 : Nat) (kn : Int32) (th : Int32) (tt : Nat → Int64) (bb : Nat → Int64) (eT : Int64) (eB : Int64) (oT : Int64) (oB : Int64) (pk : Nat) (ca : Int32) (rf : Int32) (vs : Nat → Value) (hQ : Q = MQ below (kQl (fun r H => ∃ th1, MI D tk sa P mo tt bb eT eB oT oB pk ca rf vs kn n9 th1 H) (P)) args s (3869) (94998) (P)) (ra : Nat) (rl : Nat) (ex : Nat) (ro : Nat) (rt : Nat → Nat) (hPm : P mo) (hPa : P ra) (hPl : P rl) (hPe : P ex) (hPr : P ro) (hPk : ∀ k, k < 6 → P (rt k)) (hFk : ∀ k, k < 6 → m_F (tt k) (bb k)) (hFe : m_F eT eB) (hFr : m_F oT oB ∧ m_D4 oB) (hpk : pk ≤ 4) (hn9 : n9 ≤ 16) (d9 : Int64) (H : Heap) (locs : List Loc) (ls : Array Slot) (hS : va_S (P) s.heap H locs) (fo : c1 D mo (.inr (13, [.ref ra, .ref rl, .ref ex, .ref ro, .int (nI pk), .int ca, .int rf, .int kn, .int 0])) H) (fj : c1 D ra (.inl (tk 3, 6, .inr (.inr (.inr (.inr (fun k => some (rt k))))))) H) (fk : MK D tk rt tt bb H) (fe : L2 D tk ex eT eB H) (fr : L2 D tk ro oT oB H) (fw : RW D tk sa P rl n9 vs H) (hl : lv_has ls 5 [(0, .ref mo), (1, .long d9)]) : W p l e ({ frames := 9, cells := 3869, slots := 94998, locals := 212 } : Room) s m args below meth c H locs (3821) (94303) Q (F0 m 214 ls []) := by
  obtain ⟨hx, hb, -⟩ := id E
  have g_fo := hPm
  have g_fj := hPa
  refine lv_aload_n (pc := 214) hx hb dX5_digest_214 rfl (lv_at hl 0 rfl) ?_
  rcases Nat.eq_zero_or_pos n9 with h0r | h0r
  · obtain ⟨mdr, br, f0w⟩ := (show RW D tk sa P rl 0 vs H from h0r ▸ fw).obj
    refine r_get (pc := 215) E hC fo 1 (v := .ref rl) rfl rfl (by decide) uX5 (List.mem_cons_of_mem _ kw_1210) (fun _ h => h) dX5_digest_215 ?_
    obtain ⟨md_24, b_24, fz24⟩ := fw.obj
    have hZ0_ := hS.1
    have t_fo := fo.lt
    have t_fj := fj.lt
    have t_fk := fun k (hk9 : k < 6) => (fk k hk9).lt
    have t_fe := fe.lt
    have t_fr := fr.lt
    have t_f0w := f0w.lt
    have t_fz24 := fz24.lt
    refine k_r (pc := 218) (k_V E hC hS hA hl.1 (c1.recv hC fz24 rfl) rfl (c_Jx4a65c_iterator_32c93 l D tk N0 sa H.size rl b_24 n9 md_24) kw_1486 kw_1487 kw_1488 kw_8 kw_1489 (n := 0) (by decide +kernel) rfl ⟨⟨rfl, rfl⟩, ⟨Nat.le_of_ble_eq_true rfl, Nat.le_of_ble_eq_true rfl⟩, (by dsimp only; omega), (by dsimp only; omega)⟩ rfl (Nat.le_of_ble_eq_true rfl) fz24 dX5_digest_218) hS (fun q z w => absurd w (Nat.not_le.mpr z)) hn (fun r_25 H locs hR hz hk hS => ?_)
    have fw := fw.new hk
    have fo := fo.kept (hk _ fo.lt (Nat.not_le.mpr fo.lt))
    have fj := fj.kept (hk _ fj.lt (Nat.not_le.mpr fj.lt))
    have fk := fk.new hk
    have fe := fe.kept (hk _ fe.lt (Nat.not_le.mpr fe.lt))
    have fr := fr.kept (hk _ fr.lt (Nat.not_le.mpr fr.lt))
    have f0w := f0w.kept (hk _ f0w.lt (Nat.not_le.mpr f0w.lt))
    have fz24 := fz24.kept (hk _ fz24.lt (Nat.not_le.mpr fz24.lt))
    obtain ⟨z9_, f26⟩ := hR
    have s_f26 : s.heap.size ≤ r_25 := Nat.le_trans hZ0_ z9_
    have g_f26 := hn _ s_f26
    have l_fo_f26 : mo < r_25 := Nat.lt_of_lt_of_le t_fo z9_
    have l_fj_f26 : ra < r_25 := Nat.lt_of_lt_of_le t_fj z9_
    have nW_f26 : ∀ k, k < 6 → rt k ≠ r_25 := fun k hk9 => Nat.ne_of_lt (Nat.lt_of_lt_of_le (t_fk k hk9) z9_)
    have l_fe_f26 : ex < r_25 := Nat.lt_of_lt_of_le t_fe z9_
    have l_fr_f26 : ro < r_25 := Nat.lt_of_lt_of_le t_fr z9_
    have l_f0w_f26 : rl < r_25 := Nat.lt_of_lt_of_le t_f0w z9_
    have l_fz24_f26 : rl < r_25 := Nat.lt_of_lt_of_le t_fz24 z9_
    refine lv_astore_n (pc := 221) (lv' := [(3, .ref r_25), (0, .ref mo), (1, .long d9)]) hx hb dX5_digest_221 rfl hl (by decide) rfl (fun ls hl => ?_)
    refine lv_aload_n (pc := 222) hx hb dX5_digest_222 rfl (lv_at hl 0 rfl) ?_
    refine k5_i (pc := 223) (k_F (ci := 6) rfl hC.xt.2.2.2.1 E hC hS hA hl.1 (c1.recv hC f26 rfl) (c_Jx35411_hasNext_aae02 l D tk N0 sa H.size r_25 rl b_24 n9 0 md_24 ((-1)) (by omega) (by omega)) kw_1510 kw_1516 kw_1514 kw_29 kw_1518 (n := 0) (by decide +kernel) rfl ⟨⟨rfl, rfl⟩, ⟨Nat.le_of_ble_eq_true rfl, Nat.le_of_ble_eq_true rfl⟩, (by dsimp only; omega), (by dsimp only; omega)⟩ rfl (Nat.le_of_ble_eq_true rfl) ⟨f26, fz24⟩ dX5_digest_223) hS (fun q z w => absurd w (Nat.not_le.mpr z)) hn (fun r_27 H locs hR hz hk hS => ?_)
    have fw := fw.new hk
    have fo := fo.kept (hk _ fo.lt (Nat.not_le.mpr fo.lt))
    have fj := fj.kept (hk _ fj.lt (Nat.not_le.mpr fj.lt))
    have fk := fk.new hk
    have fe := fe.kept (hk _ fe.lt (Nat.not_le.mpr fe.lt))
    have fr := fr.kept (hk _ fr.lt (Nat.not_le.mpr fr.lt))
    have f0w := f0w.kept (hk _ f0w.lt (Nat.not_le.mpr f0w.lt))
    have fz24 := fz24.kept (hk _ fz24.lt (Nat.not_le.mpr fz24.lt))
    have f26 := f26.kept (hk _ f26.lt (Nat.not_le.mpr f26.lt))
    have hn_r_27 := hR
    refine lv_if_eq (pc := 228) (tgt := 256) hx hb dX5_digest_228 (by decide) (fun c_28 => ?_) (fun c_28 => ?_)
    rotate_left
    · exact absurd (hn_r_27.elim (fun z9 => z9.1) (fun z9 => absurd h0r.symm z9.2)) c_28
    exact g4_X5_digest E hC hA hn hr hlk hPN hPs mo n9 kn th tt bb eT eB oT oB pk ca rf vs hQ ra rl ex ro rt hPm hPa hPl hPe hPr hPk hFk hFe hFr hpk hn9 d9 _ _ _ hS fo fj fk fe fr fw (lv_sub hl [1, 2] rfl)
  · rcases id fw with ⟨h1r, -⟩ | ⟨mdr, br, capr, fnr, hPb, f0w, fRw, elw, hPI, hncr, hmcr⟩
    · exact absurd h1r (by omega)
    have g_f0w := hPl
    have nW_f0w : ∀ k, k < 6 → rt k ≠ rl := fun k hk9 => clA.ne (fk k hk9).cla f0w.cl (hC.ao 7 0 rfl rfl)
    have g_fRw := hPb
    have nW_fRw : ∀ k, k < 6 → rt k ≠ br := fun k hk9 => clA.ne (fk k hk9).cla fRw.cla (hC.aa 0 4 rfl rfl (by dsimp only; decide))
    have hcbr := m_acB hmcr
    refine r_get (pc := 215) E hC fo 1 (v := .ref rl) rfl rfl (by decide) uX5 (List.mem_cons_of_mem _ kw_1210) (fun _ h => h) dX5_digest_215 ?_
    have hZ0_ := hS.1
    have t_fo := fo.lt
    have t_fj := fj.lt
    have t_fk := fun k (hk9 : k < 6) => (fk k hk9).lt
    have t_fe := fe.lt
    have t_fr := fr.lt
    have t_f0w := f0w.lt
    have t_fRw := fRw.lt
    refine k_r (pc := 218) (k_V E hC hS hA hl.1 (c1.recv hC f0w rfl) rfl (c_Jx4a65c_iterator_32c93 l D tk N0 sa H.size rl br n9 mdr) kw_1486 kw_1487 kw_1488 kw_8 kw_1489 (n := 0) (by decide +kernel) rfl ⟨⟨rfl, rfl⟩, ⟨Nat.le_of_ble_eq_true rfl, Nat.le_of_ble_eq_true rfl⟩, (by dsimp only; omega), (by dsimp only; omega)⟩ rfl (Nat.le_of_ble_eq_true rfl) f0w dX5_digest_218) hS (fun q z w => absurd w (Nat.not_le.mpr z)) hn (fun r_46 H locs hR hz hk hS => ?_)
    have fw := fw.new hk
    have fo := fo.kept (hk _ fo.lt (Nat.not_le.mpr fo.lt))
    have fj := fj.kept (hk _ fj.lt (Nat.not_le.mpr fj.lt))
    have fk := fk.new hk
    have fe := fe.kept (hk _ fe.lt (Nat.not_le.mpr fe.lt))
    have fr := fr.kept (hk _ fr.lt (Nat.not_le.mpr fr.lt))
    have f0w := f0w.kept (hk _ f0w.lt (Nat.not_le.mpr f0w.lt))
    have fRw := fRw.kept (hk _ fRw.lt (Nat.not_le.mpr fRw.lt))
    have elw := elw.new hk
    obtain ⟨z9_, f47⟩ := hR
    have s_f47 : s.heap.size ≤ r_46 := Nat.le_trans hZ0_ z9_
    have g_f47 := hn _ s_f47
    have l_fo_f47 : mo < r_46 := Nat.lt_of_lt_of_le t_fo z9_
    have l_fj_f47 : ra < r_46 := Nat.lt_of_lt_of_le t_fj z9_
    have nW_f47 : ∀ k, k < 6 → rt k ≠ r_46 := fun k hk9 => Nat.ne_of_lt (Nat.lt_of_lt_of_le (t_fk k hk9) z9_)
    have l_fe_f47 : ex < r_46 := Nat.lt_of_lt_of_le t_fe z9_
    have l_fr_f47 : ro < r_46 := Nat.lt_of_lt_of_le t_fr z9_
    have l_f0w_f47 : rl < r_46 := Nat.lt_of_lt_of_le t_f0w z9_
    have l_fRw_f47 : br < r_46 := Nat.lt_of_lt_of_le t_fRw z9_
    refine lv_astore_n (pc := 221) (lv' := [(3, .ref r_46), (0, .ref mo), (1, .long d9)]) hx hb dX5_digest_221 rfl hl (by decide) rfl (fun ls hl => ?_)
    have loop_222 : ∀ (n : Nat) (k : Nat) (lr : Int32)(d9 : Int64), 17 - k < n → k ≤ n9 → ∀ (H : Heap) (locs : List Loc) (ls : Array Slot), va_S (P) s.heap H locs → c1 D mo (.inr (13, [.ref ra, .ref rl, .ref ex, .ref ro, .int (nI pk), .int ca, .int rf, .int kn, .int 0])) H → c1 D ra (.inl (tk 3, 6, .inr (.inr (.inr (.inr (fun k => some (rt k))))))) H → MK D tk rt tt bb H → L2 D tk ex eT eB H → L2 D tk ro oT oB H → RW D tk sa P rl n9 vs H → c1 D rl (.inr (7, [.int mdr, .ref br, .int (nI n9)])) H → c1 D br (.inl (tk 4, capr, .inr (.inr (.inr (.inr (fnr)))))) H → EL D 2 n9 fnr vs H → c1 D r_46 (.inr (6, [.int (nI k), .int lr, .int mdr, .ref rl])) H → lv_has ls 5 [(0, .ref mo), (1, .long d9), (3, .ref r_46)] → W p l e ({ frames := 9, cells := 3869, slots := 94998, locals := 212 } : Room) s m args below meth c H locs (3822) (94307) Q (F0 m 222 ls []) := by
      intro n
      induction n with
      | zero =>
        intro k lr d9 hf9 hk9 H locs ls hS fo fj fk fe fr fw f0w fRw elw f47 hl
        omega
      | succ n ih_222 =>
        intro k lr d9 hf9 hk9 H locs ls hS fo fj fk fe fr fw f0w fRw elw f47 hl
        refine lv_aload_n (pc := 222) hx hb dX5_digest_222 rfl (lv_at hl 2 rfl) ?_
        refine k5_i (pc := 223) (k_F (ci := 6) rfl hC.xt.2.2.2.1 E hC hS hA hl.1 (c1.recv hC f47 rfl) (c_Jx35411_hasNext_aae02 l D tk N0 sa H.size r_46 rl br n9 k mdr lr (by omega) (by omega)) kw_1510 kw_1516 kw_1514 kw_29 kw_1518 (n := 0) (by decide +kernel) rfl ⟨⟨rfl, rfl⟩, ⟨Nat.le_of_ble_eq_true rfl, Nat.le_of_ble_eq_true rfl⟩, (by dsimp only; omega), (by dsimp only; omega)⟩ rfl (Nat.le_of_ble_eq_true rfl) ⟨f47, f0w⟩ dX5_digest_223) hS (fun q z w => absurd w (Nat.not_le.mpr z)) hn (fun r_48 H locs hR hz hk hS => ?_)
        have fw := fw.new hk
        have fo := fo.kept (hk _ fo.lt (Nat.not_le.mpr fo.lt))
        have fj := fj.kept (hk _ fj.lt (Nat.not_le.mpr fj.lt))
        have fk := fk.new hk
        have fe := fe.kept (hk _ fe.lt (Nat.not_le.mpr fe.lt))
        have fr := fr.kept (hk _ fr.lt (Nat.not_le.mpr fr.lt))
        have f0w := f0w.kept (hk _ f0w.lt (Nat.not_le.mpr f0w.lt))
        have fRw := fRw.kept (hk _ fRw.lt (Nat.not_le.mpr fRw.lt))
        have elw := elw.new hk
        have f47 := f47.kept (hk _ f47.lt (Nat.not_le.mpr f47.lt))
        have hn_r_48 := hR
        refine lv_if_eq (pc := 228) (tgt := 256) hx hb dX5_digest_228 (by decide) (fun c_49 => ?_) (fun c_49 => ?_)
        · exact g5_X5_digest E hC hA hn hr hlk hPN hPs mo n9 kn th tt bb eT eB oT oB pk ca rf vs hQ ra rl ex ro rt hPm hPa hPl hPe hPr hPk hFk hFe hFr hpk hn9 d9 _ _ _ hS fo fj fk fe fr fw (lv_sub hl [0, 1] rfl)
        · have hkn : k < n9 := by
            rcases hn_r_48 with ⟨h9, _⟩ | ⟨_, h9⟩
            · exact absurd h9 c_49
            · omega
          refine lv_aload_n (pc := 231) hx hb dX5_digest_231 rfl (lv_at hl 2 rfl) ?_
          obtain ⟨qe67, hq67, he67⟩ := elw k hkn
          obtain ⟨xe67, ev67, pv67⟩ := hPI k hkn
          rw [ev67] at he67
          refine k5_r (pc := 232) (k_F (ci := 6) rfl hC.xt.2.2.2.2 E hC hS hA hl.1 (c1.recv hC f47 rfl) (c_Jx35411_next_0502b l D tk N0 sa H.size r_46 rl br n9 k capr qe67 mdr lr fnr (hA _ g_f47) hkn hncr (by omega) hq67) kw_1520 kw_1525 kw_1523 kw_29 kw_1527 (n := 0) (by decide +kernel) rfl ⟨⟨rfl, rfl⟩, ⟨Nat.le_of_ble_eq_true rfl, Nat.le_of_ble_eq_true rfl⟩, (by dsimp only; omega), (by dsimp only; omega)⟩ rfl (Nat.le_of_ble_eq_true rfl) ⟨f47, f0w, fRw⟩ dX5_digest_232) hS (inA1.to g_f47) hn (fun r_68 H locs hR hz hk hS => ?_)
          have fw := fw.keep1 hk (fun q9 h9 => clA.ne h9 f47.cl (hC.oo 7 6 rfl rfl (by decide))) (fun q9 h9 => clA.ne h9 f47.cl (hC.ao 6 4 rfl rfl)) (fun q9 h9 => clA.ne h9 f47.cl (hC.ceo (Or.inr rfl) 6 rfl (by decide)))
          have fo := fo.kept (hk _ fo.lt (inA1.not (clA.ne fo.cl f47.cl (hC.oo 13 6 rfl rfl (by decide))) fo.lt))
          have fj := fj.kept (hk _ fj.lt (inA1.not (clA.ne fj.cla f47.cl (hC.ao 6 3 rfl rfl)) fj.lt))
          have fk := fk.kept (fun k hk9 => hk _ (fk k hk9).lt (inA1.not (nW_f47 k hk9) (fk k hk9).lt))
          have fe := fe.kept (hk _ fe.lt (inA1.not (clA.ne fe.cla f47.cl (hC.ao 6 0 rfl rfl)) fe.lt))
          have fr := fr.kept (hk _ fr.lt (inA1.not (clA.ne fr.cla f47.cl (hC.ao 6 0 rfl rfl)) fr.lt))
          have f0w := f0w.kept (hk _ f0w.lt (inA1.not (clA.ne f0w.cl f47.cl (hC.oo 7 6 rfl rfl (by decide))) f0w.lt))
          have fRw := fRw.kept (hk _ fRw.lt (inA1.not (clA.ne fRw.cla f47.cl (hC.ao 6 4 rfl rfl)) fRw.lt))
          have elw := elw.keep1 hk (fun q9 h9 => clA.ne h9 f47.cl (hC.ceo (Or.inr rfl) 6 rfl (by decide)))
          have he67 := he67.kept (hk _ he67.lt (inA1.not (clA.ne he67.cl f47.cl (hC.oo 2 6 rfl rfl (by decide))) he67.lt))
          obtain ⟨hr9, f47⟩ := hR
          rw [hr9]
          refine r_castO (pc := 237) E hC he67 rfl kw_1614 dX5_digest_237 ?_
          refine k_i (pc := 240) (k_V E hC hS hA hl.1 (xf.recv hC he67 rfl) rfl (c_J6_intValue_8abf5 l D tk N0 sa H.size qe67 xe67) kw_1615 kw_1616 kw_1617 kw_22 kw_1618 (n := 0) (by decide +kernel) rfl ⟨⟨rfl, rfl⟩, ⟨Nat.le_of_ble_eq_true rfl, Nat.le_of_ble_eq_true rfl⟩, (by dsimp only; omega), (by dsimp only; omega)⟩ rfl (Nat.le_of_ble_eq_true rfl) he67 dX5_digest_240) hS (fun q z w => absurd w (Nat.not_le.mpr z)) hn (fun r_69 H locs hR hz hk hS => ?_)
          have fw := fw.new hk
          have fo := fo.kept (hk _ fo.lt (Nat.not_le.mpr fo.lt))
          have fj := fj.kept (hk _ fj.lt (Nat.not_le.mpr fj.lt))
          have fk := fk.new hk
          have fe := fe.kept (hk _ fe.lt (Nat.not_le.mpr fe.lt))
          have fr := fr.kept (hk _ fr.lt (Nat.not_le.mpr fr.lt))
          have f0w := f0w.kept (hk _ f0w.lt (Nat.not_le.mpr f0w.lt))
          have fRw := fRw.kept (hk _ fRw.lt (Nat.not_le.mpr fRw.lt))
          have elw := elw.new hk
          have f47 := f47.kept (hk _ f47.lt (Nat.not_le.mpr f47.lt))
          have he67 := he67.kept (hk _ he67.lt (Nat.not_le.mpr he67.lt))
          have er_69 : r_69 = xe67 := hR
          refine lv_istore (pc := 243) (lv' := [(4, .int r_69), (0, .ref mo), (1, .long d9), (3, .ref r_46)]) hx hb dX5_digest_243 hl (by decide) rfl (fun ls hl => ?_)
          refine lv_lload_n (pc := 245) hx hb dX5_digest_245 rfl (lv_at hl 2 rfl) ?_
          refine lv_iload (pc := 246) hx hb dX5_digest_246 (lv_at hl 0 rfl) ?_
          refine lv_i2l (pc := 248) (v := r_69.toInt64) hx hb dX5_digest_248 rfl ?_
          refine k_l (pc := 249) (k_S E hC hS hA hl.1 (c_X5_add l D tk N0 sa H.size d9 r_69.toInt64 ) kw_1805 kw_1806 kw_5 kw_1807 (n := 2) (by decide +kernel) rfl ⟨⟨rfl, rfl⟩, ⟨Nat.le_of_ble_eq_true rfl, Nat.le_of_ble_eq_true rfl⟩, (by dsimp only; omega), (by dsimp only; omega)⟩ rfl (Nat.le_of_ble_eq_true rfl) trivial dX5_digest_249) hS (fun q z w => absurd w (Nat.not_le.mpr z)) hn (fun r_70 H locs hR hz hk hS => ?_)
          have er_70 := hR
          have fw := fw.new hk
          have fo := fo.kept (hk _ fo.lt (Nat.not_le.mpr fo.lt))
          have fj := fj.kept (hk _ fj.lt (Nat.not_le.mpr fj.lt))
          have fk := fk.new hk
          have fe := fe.kept (hk _ fe.lt (Nat.not_le.mpr fe.lt))
          have fr := fr.kept (hk _ fr.lt (Nat.not_le.mpr fr.lt))
          have f0w := f0w.kept (hk _ f0w.lt (Nat.not_le.mpr f0w.lt))
          have fRw := fRw.kept (hk _ fRw.lt (Nat.not_le.mpr fRw.lt))
          have elw := elw.new hk
          have f47 := f47.kept (hk _ f47.lt (Nat.not_le.mpr f47.lt))
          have he67 := he67.kept (hk _ he67.lt (Nat.not_le.mpr he67.lt))
          refine lv_lstore_n (pc := 252) (lv' := [(1, .long r_70), (4, .int r_69), (0, .ref mo), (3, .ref r_46)]) hx hb dX5_digest_252 rfl hl (by decide) rfl (fun ls hl => ?_)
          refine lv_goto (pc := 253) (tgt := 222) hx hb dX5_digest_253 (by decide) ?_
          refine W.widen (k := 3822) (n := 94307) (by omega) (by omega) ?_
          exact ih_222  (k + 1) _  r_70 (by omega) (by omega) _ _ _ hS fo fj fk fe fr fw f0w fRw elw f47 (lv_sub hl [2, 0, 3] rfl)
    refine W.widen (k := 3822) (n := 94307) (by omega) (by omega) ?_
    exact loop_222 18 0 _  d9 (by omega) (Nat.zero_le _) _ _ _ hS fo fj fk fe fr fw f0w fRw elw f47 (lv_sub hl [1, 2, 0] rfl)
set_option maxHeartbeats 4000000 in
set_option maxRecDepth 100000 in
theorem g2_X5_digest {p : Program} {l : Launch} {e : Env} {s : State} {m : MethodId} {args : Array Value} {below : List Frame} {meth : Method} {c : Code} {Q : State → Prop} {D : va_G} {tk : Nat → ClassId} {N0 : Nat} {sa : Nat → Nat} {P : Nat → Prop} (E : CallFix p m c cX5_digest 5 s args (wsy yX5_digest cX5_digest 5 (some .long)) RX5) (hC : Ctx D tk N0 sa s) (hA : ∀ q, (P) q → N0 ≤ q) (hn : ∀ q, s.heap.size ≤ q → (P) q) (hr : meth.sig.returnType = (some .long)) (hlk : meth.locks = false) (hPN : ∀ q, P q → N0 ≤ q) (hPs : ∀ q, s.heap.size ≤ q → P q) (mo : Nat) (n9 : Nat) (kn : Int32) (th : Int32) (tt : Nat → Int64) (bb : Nat → Int64) (eT : Int64) (eB : Int64) (oT : Int64) (oB : Int64) (pk : Nat) (ca : Int32) (rf : Int32) (vs : Nat → Value) (hQ : Q = MQ below (kQl (fun r H => ∃ th1, MI D tk sa P mo tt bb eT eB oT oB pk ca rf vs kn n9 th1 H) (P)) args s (3869) (94998) (P)) (ra : Nat) (rl : Nat) (ex : Nat) (ro : Nat) (rt : Nat → Nat) (hPm : P mo) (hPa : P ra) (hPl : P rl) (hPe : P ex) (hPr : P ro) (hPk : ∀ k, k < 6 → P (rt k)) (hFk : ∀ k, k < 6 → m_F (tt k) (bb k)) (hFe : m_F eT eB) (hFr : m_F oT oB ∧ m_D4 oB) (hpk : pk ≤ 4) (hn9 : n9 ≤ 16) (d9 : Int64) (H : Heap) (locs : List Loc) (ls : Array Slot) (hS : va_S (P) s.heap H locs) (fo : c1 D mo (.inr (13, [.ref ra, .ref rl, .ref ex, .ref ro, .int (nI pk), .int ca, .int rf, .int kn, .int 0])) H) (fj : c1 D ra (.inl (tk 3, 6, .inr (.inr (.inr (.inr (fun k => some (rt k))))))) H) (fk : MK D tk rt tt bb H) (fe : L2 D tk ex eT eB H) (fr : L2 D tk ro oT oB H) (fw : RW D tk sa P rl n9 vs H) (hl : lv_has ls 5 [(0, .ref mo), (1, .long d9)]) : W p l e ({ frames := 9, cells := 3869, slots := 94998, locals := 212 } : Room) s m args below meth c H locs (3821) (94303) Q (F0 m 146 ls []) := by
  obtain ⟨hx, hb, -⟩ := id E
  have g_fo := hPm
  have g_fj := hPa
  refine lv_iconst (pc := 146) (v := 0) hx hb dX5_digest_146 (by decide) ?_
  refine lv_istore_n (pc := 147) (lv' := [(3, .int 0), (0, .ref mo), (1, .long d9)]) hx hb dX5_digest_147 rfl hl (by decide) rfl (fun ls hl => ?_)
  have loop_148 : ∀ (n : Nat) (k : Nat)(d9 : Int64) (y9 : Int32), 7 - k < n → k ≤ 6 → y9 = nI k → ∀ (H : Heap) (locs : List Loc) (ls : Array Slot), va_S (P) s.heap H locs → c1 D mo (.inr (13, [.ref ra, .ref rl, .ref ex, .ref ro, .int (nI pk), .int ca, .int rf, .int kn, .int 0])) H → c1 D ra (.inl (tk 3, 6, .inr (.inr (.inr (.inr (fun k => some (rt k))))))) H → MK D tk rt tt bb H → L2 D tk ex eT eB H → L2 D tk ro oT oB H → RW D tk sa P rl n9 vs H → lv_has ls 5 [(0, .ref mo), (1, .long d9), (3, .int y9)] → W p l e ({ frames := 9, cells := 3869, slots := 94998, locals := 212 } : Room) s m args below meth c H locs (3821) (94303) Q (F0 m 148 ls []) := by
    intro n
    induction n with
    | zero =>
      intro k d9 y9 hf9 hk9 hx9 H locs ls hS fo fj fk fe fr fw hl
      omega
    | succ n ih_148 =>
      intro k d9 y9 hf9 hk9 hx9 H locs ls hS fo fj fk fe fr fw hl
      refine lv_iload_n (pc := 148) hx hb dX5_digest_148 rfl (lv_at hl 2 rfl) ?_
      refine lv_bipush (pc := 149) (v := 6) hx hb dX5_digest_149 (by decide) ?_
      refine lv_icmp_ge (pc := 151) (tgt := 214) hx hb dX5_digest_151 (by decide) (fun c_23 => ?_) (fun c_23 => ?_)
      · exact g3_X5_digest E hC hA hn hr hlk hPN hPs mo n9 kn th tt bb eT eB oT oB pk ca rf vs hQ ra rl ex ro rt hPm hPa hPl hPe hPr hPk hFk hFe hFr hpk hn9 d9 _ _ _ hS fo fj fk fe fr fw (lv_sub hl [0, 1] rfl)
      · have hkn : k < 6 := Nat.not_le.mp (fun z9 => c_23 (by rw [hx9]; exact nI_le (a := 6) z9 (by omega)))
        refine lv_iload_n (pc := 154) hx hb dX5_digest_154 rfl (lv_at hl 2 rfl) ?_
        refine lv_iconst (pc := 155) (v := 1) hx hb dX5_digest_155 (by decide) ?_
        refine lv_iadd (pc := 156) hx hb dX5_digest_156 ?_
        have hz0 : y9 + 1 = nI (k + 1) := by rw [hx9]; exact nI_1 k
        obtain ⟨x_72, ex_72⟩ : ∃ z9 : Int32, z9 = y9 + 1 := ⟨_, rfl⟩
        rw [← ex_72]
        refine lv_istore (pc := 157) (lv' := [(4, .int x_72), (0, .ref mo), (1, .long d9), (3, .int y9)]) hx hb dX5_digest_157 hl (by decide) rfl (fun ls hl => ?_)
        have loop_159 : ∀ (n : Nat) (j : Nat)(d9 : Int64) (u9 : Int32), 7 - j < n → j ≤ 6 → u9 = nI j → ∀ (H : Heap) (locs : List Loc) (ls : Array Slot), va_S (P) s.heap H locs → c1 D mo (.inr (13, [.ref ra, .ref rl, .ref ex, .ref ro, .int (nI pk), .int ca, .int rf, .int kn, .int 0])) H → c1 D ra (.inl (tk 3, 6, .inr (.inr (.inr (.inr (fun k => some (rt k))))))) H → MK D tk rt tt bb H → L2 D tk ex eT eB H → L2 D tk ro oT oB H → RW D tk sa P rl n9 vs H → lv_has ls 5 [(0, .ref mo), (1, .long d9), (3, .int y9), (4, .int u9)] → W p l e ({ frames := 9, cells := 3869, slots := 94998, locals := 212 } : Room) s m args below meth c H locs (3821) (94303) Q (F0 m 159 ls []) := by
          intro n
          induction n with
          | zero =>
            intro j d9 u9 hf8 hj8 hj9 H locs ls hS fo fj fk fe fr fw hl
            omega
          | succ n ih_159 =>
            intro j d9 u9 hf8 hj8 hj9 H locs ls hS fo fj fk fe fr fw hl
            refine lv_iload (pc := 159) hx hb dX5_digest_159 (lv_at hl 3 rfl) ?_
            refine lv_bipush (pc := 161) (v := 6) hx hb dX5_digest_161 (by decide) ?_
            refine lv_icmp_ge (pc := 163) (tgt := 208) hx hb dX5_digest_163 (by decide) (fun c_73 => ?_) (fun c_73 => ?_)
            · obtain ⟨x_74, ex_74⟩ : ∃ z9 : Int32, z9 = y9 + 1 := ⟨_, rfl⟩
              refine lv_iinc (pc := 208) (v := x_74) (lv' := [(3, .int x_74), (0, .ref mo), (1, .long d9), (4, .int u9)]) hx hb dX5_digest_208 hl (k := 2) rfl (by rw [ex_74]; rfl) (by decide) rfl (fun ls hl => ?_)
              refine lv_goto (pc := 211) (tgt := 148) hx hb dX5_digest_211 (by decide) ?_
              refine W.widen (k := 3821) (n := 94303) (by omega) (by omega) ?_
              exact ih_148  (k + 1)  d9 x_74 (by omega) (by omega) (i_up hx9 ex_74) _ _ _ hS fo fj fk fe fr fw (lv_sub hl [1, 2, 0] rfl)
            · have hjn : j < 6 := Nat.not_le.mp (fun z8 => c_73 (by rw [hj9]; exact nI_le (a := 6) z8 (by omega)))
              refine lv_lload_n (pc := 166) hx hb dX5_digest_166 rfl (lv_at hl 1 rfl) ?_
              refine lv_aload_n (pc := 167) hx hb dX5_digest_167 rfl (lv_at hl 0 rfl) ?_
              refine r_get (pc := 168) E hC fo 0 (v := .ref ra) rfl rfl (by decide) uX5 (List.mem_cons_of_mem _ kw_1209) (fun _ h => h) dX5_digest_168 ?_
              refine lv_iload_n (pc := 171) hx hb dX5_digest_171 rfl (lv_at hl 2 rfl) ?_
              refine r_aaldJ (pc := 172) E hC fj k hx9 hkn (by decide) rfl dX5_digest_172 ?_
              have fL75 := fk k hkn
              have mF_fL75 := hFk k hkn
              have Pq_fL75 := hPk k hkn
              refine lv_aload_n (pc := 173) hx hb dX5_digest_173 rfl (lv_at hl 0 rfl) ?_
              refine r_get (pc := 174) E hC fo 0 (v := .ref ra) rfl rfl (by decide) uX5 (List.mem_cons_of_mem _ kw_1209) (fun _ h => h) dX5_digest_174 ?_
              refine lv_iload (pc := 177) hx hb dX5_digest_177 (lv_at hl 3 rfl) ?_
              refine r_aaldJ (pc := 179) E hC fj j hj9 hjn (by decide) rfl dX5_digest_179 ?_
              have fL76 := fk j hjn
              have mF_fL76 := hFk j hjn
              have Pq_fL76 := hPk j hjn
              have hZ0_ := hS.1
              have t_fo := fo.lt
              have t_fj := fj.lt
              have t_fk := fun k (hk9 : k < 6) => (fk k hk9).lt
              have t_fe := fe.lt
              have t_fr := fr.lt
              have t_fL75 := fL75.lt
              have t_fL76 := fL76.lt
              refine k_i (pc := 180) (k_S E hC hS hA hl.1 (c_X5_order l D tk N0 sa H.size (rt k) (tt k) (bb k) (rt j) (tt j) (bb j) ) kw_1268 kw_1269 kw_5 kw_1270 (n := 2) (by decide +kernel) rfl ⟨⟨rfl, rfl⟩, ⟨Nat.le_of_ble_eq_true rfl, Nat.le_of_ble_eq_true rfl⟩, (by dsimp only; omega), (by dsimp only; omega)⟩ rfl (Nat.le_of_ble_eq_true rfl) ⟨fL75, fL76⟩ dX5_digest_180) hS (fun q z w => absurd w (Nat.not_le.mpr z)) hn (fun r_77 H locs hR hz hk hS => ?_)
              have fw := fw.new hk
              have fo := fo.kept (hk _ fo.lt (Nat.not_le.mpr fo.lt))
              have fj := fj.kept (hk _ fj.lt (Nat.not_le.mpr fj.lt))
              have fk := fk.new hk
              have fe := fe.kept (hk _ fe.lt (Nat.not_le.mpr fe.lt))
              have fr := fr.kept (hk _ fr.lt (Nat.not_le.mpr fr.lt))
              have fL75 := fL75.kept (hk _ fL75.lt (Nat.not_le.mpr fL75.lt))
              have fL76 := fL76.kept (hk _ fL76.lt (Nat.not_le.mpr fL76.lt))
              have er_77 := hR
              refine lv_i2l (pc := 183) (v := r_77.toInt64) hx hb dX5_digest_183 rfl ?_
              refine k_l (pc := 184) (k_S E hC hS hA hl.1 (c_X5_add l D tk N0 sa H.size d9 r_77.toInt64 ) kw_1805 kw_1806 kw_5 kw_1807 (n := 2) (by decide +kernel) rfl ⟨⟨rfl, rfl⟩, ⟨Nat.le_of_ble_eq_true rfl, Nat.le_of_ble_eq_true rfl⟩, (by dsimp only; omega), (by dsimp only; omega)⟩ rfl (Nat.le_of_ble_eq_true rfl) trivial dX5_digest_184) hS (fun q z w => absurd w (Nat.not_le.mpr z)) hn (fun r_78 H locs hR hz hk hS => ?_)
              have er_78 := hR
              have fw := fw.new hk
              have fo := fo.kept (hk _ fo.lt (Nat.not_le.mpr fo.lt))
              have fj := fj.kept (hk _ fj.lt (Nat.not_le.mpr fj.lt))
              have fk := fk.new hk
              have fe := fe.kept (hk _ fe.lt (Nat.not_le.mpr fe.lt))
              have fr := fr.kept (hk _ fr.lt (Nat.not_le.mpr fr.lt))
              have fL75 := fL75.kept (hk _ fL75.lt (Nat.not_le.mpr fL75.lt))
              have fL76 := fL76.kept (hk _ fL76.lt (Nat.not_le.mpr fL76.lt))
              refine lv_aload_n (pc := 187) hx hb dX5_digest_187 rfl (lv_at hl 0 rfl) ?_
              refine lv_iload_n (pc := 188) hx hb dX5_digest_188 rfl (lv_at hl 2 rfl) ?_
              refine lv_iload (pc := 189) hx hb dX5_digest_189 (lv_at hl 3 rfl) ?_
              have hZ0_ := hS.1
              have t_fo := fo.lt
              have t_fj := fj.lt
              have t_fk := fun k (hk9 : k < 6) => (fk k hk9).lt
              have t_fe := fe.lt
              have t_fr := fr.lt
              have t_fL75 := fL75.lt
              have t_fL76 := fL76.lt
              refine k_i (pc := 191) (k_V E hC hS hA hl.1 (c1.recv hC fo rfl) rfl (c_X5_areNextNow l D tk N0 sa H.size P hPN mo n9 kn 0 tt bb eT eB oT oB pk ca rf vs y9 k hx9 hkn u9 j hj9 hjn ) kw_1403 kw_1405 kp_24 kw_5 kw_1406 (n := 2) (by decide +kernel) rfl ⟨⟨rfl, rfl⟩, ⟨Nat.le_of_ble_eq_true rfl, Nat.le_of_ble_eq_true rfl⟩, (by dsimp only; omega), (by dsimp only; omega)⟩ rfl (Nat.le_of_ble_eq_true rfl) ⟨_, _, _, _, _, fo, fj, fk, fe, fr, fw, ⟨hPm, hPa, hPl, hPe, hPr, hPk⟩, hFk, hFe, hFr, hpk, hn9⟩ dX5_digest_191) hS (fun q z w => absurd w (Nat.not_le.mpr z)) hn (fun r_80 H locs hR hz hk hS => ?_)
              have fw := fw.new hk
              have fo := fo.kept (hk _ fo.lt (Nat.not_le.mpr fo.lt))
              have fj := fj.kept (hk _ fj.lt (Nat.not_le.mpr fj.lt))
              have fk := fk.new hk
              have fe := fe.kept (hk _ fe.lt (Nat.not_le.mpr fe.lt))
              have fr := fr.kept (hk _ fr.lt (Nat.not_le.mpr fr.lt))
              have fL75 := fL75.kept (hk _ fL75.lt (Nat.not_le.mpr fL75.lt))
              have fL76 := fL76.kept (hk _ fL76.lt (Nat.not_le.mpr fL76.lt))
              have er_80 := hR
              refine k_i (pc := 194) (k_S E hC hS hA hl.1 (c_X5_bit l D tk N0 sa H.size r_80 ) kw_1271 kw_1272 kw_5 kw_1273 (n := 1) (by decide +kernel) rfl ⟨⟨rfl, rfl⟩, ⟨Nat.le_of_ble_eq_true rfl, Nat.le_of_ble_eq_true rfl⟩, (by dsimp only; omega), (by dsimp only; omega)⟩ rfl (Nat.le_of_ble_eq_true rfl) trivial dX5_digest_194) hS (fun q z w => absurd w (Nat.not_le.mpr z)) hn (fun r_81 H locs hR hz hk hS => ?_)
              have er_81 := hR
              have fw := fw.new hk
              have fo := fo.kept (hk _ fo.lt (Nat.not_le.mpr fo.lt))
              have fj := fj.kept (hk _ fj.lt (Nat.not_le.mpr fj.lt))
              have fk := fk.new hk
              have fe := fe.kept (hk _ fe.lt (Nat.not_le.mpr fe.lt))
              have fr := fr.kept (hk _ fr.lt (Nat.not_le.mpr fr.lt))
              have fL75 := fL75.kept (hk _ fL75.lt (Nat.not_le.mpr fL75.lt))
              have fL76 := fL76.kept (hk _ fL76.lt (Nat.not_le.mpr fL76.lt))
              refine lv_i2l (pc := 197) (v := r_81.toInt64) hx hb dX5_digest_197 rfl ?_
              refine k_l (pc := 198) (k_S E hC hS hA hl.1 (c_X5_add l D tk N0 sa H.size r_78 r_81.toInt64 ) kw_1805 kw_1806 kw_5 kw_1807 (n := 2) (by decide +kernel) rfl ⟨⟨rfl, rfl⟩, ⟨Nat.le_of_ble_eq_true rfl, Nat.le_of_ble_eq_true rfl⟩, (by dsimp only; omega), (by dsimp only; omega)⟩ rfl (Nat.le_of_ble_eq_true rfl) trivial dX5_digest_198) hS (fun q z w => absurd w (Nat.not_le.mpr z)) hn (fun r_83 H locs hR hz hk hS => ?_)
              have er_83 := hR
              have fw := fw.new hk
              have fo := fo.kept (hk _ fo.lt (Nat.not_le.mpr fo.lt))
              have fj := fj.kept (hk _ fj.lt (Nat.not_le.mpr fj.lt))
              have fk := fk.new hk
              have fe := fe.kept (hk _ fe.lt (Nat.not_le.mpr fe.lt))
              have fr := fr.kept (hk _ fr.lt (Nat.not_le.mpr fr.lt))
              have fL75 := fL75.kept (hk _ fL75.lt (Nat.not_le.mpr fL75.lt))
              have fL76 := fL76.kept (hk _ fL76.lt (Nat.not_le.mpr fL76.lt))
              refine lv_lstore_n (pc := 201) (lv' := [(1, .long r_83), (0, .ref mo), (3, .int y9), (4, .int u9)]) hx hb dX5_digest_201 rfl hl (by decide) rfl (fun ls hl => ?_)
              obtain ⟨x_85, ex_85⟩ : ∃ z9 : Int32, z9 = u9 + 1 := ⟨_, rfl⟩
              refine lv_iinc (pc := 202) (v := x_85) (lv' := [(4, .int x_85), (1, .long r_83), (0, .ref mo), (3, .int y9)]) hx hb dX5_digest_202 hl (k := 3) rfl (by rw [ex_85]; rfl) (by decide) rfl (fun ls hl => ?_)
              refine lv_goto (pc := 205) (tgt := 159) hx hb dX5_digest_205 (by decide) ?_
              refine W.widen (k := 3821) (n := 94303) (by omega) (by omega) ?_
              exact ih_159  (j + 1)  r_83 x_85 (by omega) (by omega) (i_up hj9 ex_85) _ _ _ hS fo fj fk fe fr fw (lv_sub hl [2, 1, 3, 0] rfl)
        refine W.widen (k := 3821) (n := 94303) (by omega) (by omega) ?_
        exact loop_159 8 (k + 1)  d9 x_72 (by omega) (by omega) (ex_72.trans hz0) _ _ _ hS fo fj fk fe fr fw (lv_sub hl [1, 2, 3, 0] rfl)
  refine W.widen (k := 3821) (n := 94303) (by omega) (by omega) ?_
  exact loop_148 8 0  d9 0 (by omega) (Nat.zero_le _) nI_0.symm _ _ _ hS fo fj fk fe fr fw (lv_sub hl [1, 2, 0] rfl)
set_option maxHeartbeats 4000000 in
set_option maxRecDepth 100000 in
theorem g7_X5_digest {p : Program} {l : Launch} {e : Env} {s : State} {m : MethodId} {args : Array Value} {below : List Frame} {meth : Method} {c : Code} {Q : State → Prop} {D : va_G} {tk : Nat → ClassId} {N0 : Nat} {sa : Nat → Nat} {P : Nat → Prop} (E : CallFix p m c cX5_digest 5 s args (wsy yX5_digest cX5_digest 5 (some .long)) RX5) (hC : Ctx D tk N0 sa s) (hA : ∀ q, (P) q → N0 ≤ q) (hn : ∀ q, s.heap.size ≤ q → (P) q) (hr : meth.sig.returnType = (some .long)) (hlk : meth.locks = false) (hPN : ∀ q, P q → N0 ≤ q) (hPs : ∀ q, s.heap.size ≤ q → P q) (mo : Nat) (n9 : Nat) (kn : Int32) (th : Int32) (tt : Nat → Int64) (bb : Nat → Int64) (eT : Int64) (eB : Int64) (oT : Int64) (oB : Int64) (pk : Nat) (ca : Int32) (rf : Int32) (vs : Nat → Value) (ra : Nat) (rl : Nat) (ex : Nat) (ro : Nat) (rt : Nat → Nat) (hPm : P mo) (hPa : P ra) (hPl : P rl) (hPe : P ex) (hPr : P ro) (hPk : ∀ k, k < 6 → P (rt k)) (hFk : ∀ k, k < 6 → m_F (tt k) (bb k)) (hFe : m_F eT eB) (hFr : m_F oT oB ∧ m_D4 oB) (hpk : pk ≤ 4) (hn9 : n9 ≤ 16) (r_115 : Int64) (n : Nat) (k : Nat) (d9 : Int64) (y9 : Int32) (hf9 : 7 - k < n + 1) (hk9 : k ≤ 6) (hx9 : y9 = nI k) (ih_35 : ∀ (k : Nat)(d9 : Int64) (y9 : Int32), 7 - k < n → k ≤ 6 → y9 = nI k → ∀ (H : Heap) (locs : List Loc) (ls : Array Slot), va_S (P) s.heap H locs → c1 D mo (.inr (13, [.ref ra, .ref rl, .ref ex, .ref ro, .int (nI pk), .int ca, .int rf, .int kn, .int 0])) H → c1 D ra (.inl (tk 3, 6, .inr (.inr (.inr (.inr (fun k => some (rt k))))))) H → MK D tk rt tt bb H → L2 D tk ex eT eB H → L2 D tk ro oT oB H → RW D tk sa P rl n9 vs H → lv_has ls 5 [(0, .ref mo), (1, .long d9), (3, .int y9)] → W p l e ({ frames := 9, cells := 3869, slots := 94998, locals := 212 } : Room) s m args below meth c H locs (5 + 636 * k) (25 + 15713 * k) Q (F0 m 35 ls [])) (hkn : k < 6) (H : Heap) (locs : List Loc) (ls : Array Slot) (hS : va_S (P) s.heap H locs) (fo : c1 D mo (.inr (13, [.ref ra, .ref rl, .ref ex, .ref ro, .int (nI pk), .int ca, .int rf, .int kn, .int 0])) H) (fj : c1 D ra (.inl (tk 3, 6, .inr (.inr (.inr (.inr (fun k => some (rt k))))))) H) (fk : MK D tk rt tt bb H) (fe : L2 D tk ex eT eB H) (fr : L2 D tk ro oT oB H) (fw : RW D tk sa P rl n9 vs H) (hl : lv_has ls 5 [(1, .long r_115), (0, .ref mo), (3, .int y9)]) : W p l e ({ frames := 9, cells := 3869, slots := 94998, locals := 212 } : Room) s m args below meth c H locs (5 + 636 * k + 1 + 0 + 1 + 0 + 1 + 0 + 1 + 0 + 49 + 0 + 0 + 50 + 0 + 393 + 0 + 0) (25 + 15713 * k + 4 + 0 + 4 + 0 + 4 + 0 + 4 + 0 + 175 + 0 + 0 + 179 + 0 + 14193 + 0 + 0) Q (F0 m 108 ls []) := by
  obtain ⟨hx, hb, -⟩ := id E
  have g_fo := hPm
  have g_fj := hPa
  refine lv_iconst (pc := 108) (v := 0) hx hb dX5_digest_108 (by decide) ?_
  refine lv_istore (pc := 109) (lv' := [(4, .int 0), (1, .long r_115), (0, .ref mo), (3, .int y9)]) hx hb dX5_digest_109 hl (by decide) rfl (fun ls hl => ?_)
  refine lv_iload (pc := 111) hx hb dX5_digest_111 (lv_at hl 0 rfl) ?_
  refine lv_iconst (pc := 113) (v := 5) hx hb dX5_digest_113 (by decide) ?_
  refine lv_icmp_ge (pc := 114) (tgt := 140) hx hb dX5_digest_114 (by decide) (fun c_117 => ?_) (fun c_117 => ?_)
  · exact absurd c_117 (by decide)
  refine lv_lload_n (pc := 117) hx hb dX5_digest_117 rfl (lv_at hl 1 rfl) ?_
  refine lv_aload_n (pc := 118) hx hb dX5_digest_118 rfl (lv_at hl 2 rfl) ?_
  refine lv_iload_n (pc := 119) hx hb dX5_digest_119 rfl (lv_at hl 3 rfl) ?_
  refine lv_iconst (pc := 120) (v := 3) hx hb dX5_digest_120 (by decide) ?_
  refine lv_iload (pc := 121) hx hb dX5_digest_121 (lv_at hl 0 rfl) ?_
  have hdG := (m_dG1 13).1 (by decide)
  have hZ0_ := hS.1
  have t_fo := fo.lt
  have t_fj := fj.lt
  have t_fk := fun k (hk9 : k < 6) => (fk k hk9).lt
  have t_fe := fe.lt
  have t_fr := fr.lt
  refine k_r (pc := 123) (k_V E hC hS hA hl.1 (c1.recv hC fo rfl) rfl (c_X5_cutNow l D tk N0 sa H.size P hPN mo n9 kn 0 tt bb eT eB oT oB pk ca rf vs y9 k hx9 hkn 3 0 3 13 rfl (by decide) (by decide) (by decide) (fun t b h9 => m_dg13 (m_cut3B h9 _))) kw_1700 kw_1702 kp_32 kw_5 kw_1703 (n := 3) (by decide +kernel) rfl ⟨⟨rfl, rfl⟩, ⟨Nat.le_of_ble_eq_true rfl, Nat.le_of_ble_eq_true rfl⟩, (by dsimp only; omega), (by dsimp only; omega)⟩ rfl (Nat.le_of_ble_eq_true rfl) ⟨_, _, _, _, _, fo, fj, fk, fe, fr, fw, ⟨hPm, hPa, hPl, hPe, hPr, hPk⟩, hFk, hFe, hFr, hpk, hn9⟩ dX5_digest_123) hS (fun q z w => absurd w (Nat.not_le.mpr z)) hn (fun r_118 H locs hR hz hk hS => ?_)
  have fw := fw.new hk
  have fo := fo.kept (hk _ fo.lt (Nat.not_le.mpr fo.lt))
  have fj := fj.kept (hk _ fj.lt (Nat.not_le.mpr fj.lt))
  have fk := fk.new hk
  have fe := fe.kept (hk _ fe.lt (Nat.not_le.mpr fe.lt))
  have fr := fr.kept (hk _ fr.lt (Nat.not_le.mpr fr.lt))
  obtain ⟨n_f119, hn_f119, f119⟩ := hR
  refine k_i (pc := 126) (k_V E hC hS hA hl.1 (f119.recv hC) rfl (c_J0_length_8abf5 l D tk N0 sa H.size r_118 n_f119) kw_1710 kw_413 kw_414 kw_20 kw_415 (n := 0) (by decide +kernel) rfl ⟨⟨rfl, rfl⟩, ⟨Nat.le_of_ble_eq_true rfl, Nat.le_of_ble_eq_true rfl⟩, (by dsimp only; omega), (by dsimp only; omega)⟩ rfl (Nat.le_of_ble_eq_true rfl) f119 dX5_digest_126) hS (fun q z w => absurd w (Nat.not_le.mpr z)) hn (fun r_120 H locs hR hz hk hS => ?_)
  have fw := fw.new hk
  have fo := fo.kept (hk _ fo.lt (Nat.not_le.mpr fo.lt))
  have fj := fj.kept (hk _ fj.lt (Nat.not_le.mpr fj.lt))
  have fk := fk.new hk
  have fe := fe.kept (hk _ fe.lt (Nat.not_le.mpr fe.lt))
  have fr := fr.kept (hk _ fr.lt (Nat.not_le.mpr fr.lt))
  have f119 := f119.new hk
  rw [show r_120 = nI n_f119 from hR]
  refine lv_i2l (pc := 129) (v := (nI n_f119).toInt64) hx hb dX5_digest_129 rfl ?_
  refine k_l (pc := 130) (k_S E hC hS hA hl.1 (c_X5_add l D tk N0 sa H.size r_115 ((nI n_f119).toInt64) ) kw_1805 kw_1806 kw_5 kw_1807 (n := 2) (by decide +kernel) rfl ⟨⟨rfl, rfl⟩, ⟨Nat.le_of_ble_eq_true rfl, Nat.le_of_ble_eq_true rfl⟩, (by dsimp only; omega), (by dsimp only; omega)⟩ rfl (Nat.le_of_ble_eq_true rfl) trivial dX5_digest_130) hS (fun q z w => absurd w (Nat.not_le.mpr z)) hn (fun r_121 H locs hR hz hk hS => ?_)
  have er_121 := hR
  have fw := fw.new hk
  have fo := fo.kept (hk _ fo.lt (Nat.not_le.mpr fo.lt))
  have fj := fj.kept (hk _ fj.lt (Nat.not_le.mpr fj.lt))
  have fk := fk.new hk
  have fe := fe.kept (hk _ fe.lt (Nat.not_le.mpr fe.lt))
  have fr := fr.kept (hk _ fr.lt (Nat.not_le.mpr fr.lt))
  have f119 := f119.new hk
  refine lv_lstore_n (pc := 133) (lv' := [(1, .long r_121), (4, .int 0), (0, .ref mo), (3, .int y9)]) hx hb dX5_digest_133 rfl hl (by decide) rfl (fun ls hl => ?_)
  refine lv_iinc (pc := 134) (v := 1) (lv' := [(4, .int 1), (1, .long r_121), (0, .ref mo), (3, .int y9)]) hx hb dX5_digest_134 hl (k := 1) rfl (by decide) (by decide) rfl (fun ls hl => ?_)
  refine lv_goto (pc := 137) (tgt := 111) hx hb dX5_digest_137 (by decide) ?_
  refine lv_iload (pc := 111) hx hb dX5_digest_111 (lv_at hl 0 rfl) ?_
  refine lv_iconst (pc := 113) (v := 5) hx hb dX5_digest_113 (by decide) ?_
  refine lv_icmp_ge (pc := 114) (tgt := 140) hx hb dX5_digest_114 (by decide) (fun c_123 => ?_) (fun c_123 => ?_)
  · exact absurd c_123 (by decide)
  refine lv_lload_n (pc := 117) hx hb dX5_digest_117 rfl (lv_at hl 1 rfl) ?_
  refine lv_aload_n (pc := 118) hx hb dX5_digest_118 rfl (lv_at hl 2 rfl) ?_
  refine lv_iload_n (pc := 119) hx hb dX5_digest_119 rfl (lv_at hl 3 rfl) ?_
  refine lv_iconst (pc := 120) (v := 3) hx hb dX5_digest_120 (by decide) ?_
  refine lv_iload (pc := 121) hx hb dX5_digest_121 (lv_at hl 0 rfl) ?_
  have hdG := (m_dG1 13).1 (by decide)
  have hZ0_ := hS.1
  have t_fo := fo.lt
  have t_fj := fj.lt
  have t_fk := fun k (hk9 : k < 6) => (fk k hk9).lt
  have t_fe := fe.lt
  have t_fr := fr.lt
  have t_f119 := f119.lt
  refine k_r (pc := 123) (k_V E hC hS hA hl.1 (c1.recv hC fo rfl) rfl (c_X5_cutNow l D tk N0 sa H.size P hPN mo n9 kn 0 tt bb eT eB oT oB pk ca rf vs y9 k hx9 hkn 3 1 3 13 rfl (by decide) (by decide) (by decide) (fun t b h9 => m_dg13 (m_cut3B h9 _))) kw_1700 kw_1702 kp_32 kw_5 kw_1703 (n := 3) (by decide +kernel) rfl ⟨⟨rfl, rfl⟩, ⟨Nat.le_of_ble_eq_true rfl, Nat.le_of_ble_eq_true rfl⟩, (by dsimp only; omega), (by dsimp only; omega)⟩ rfl (Nat.le_of_ble_eq_true rfl) ⟨_, _, _, _, _, fo, fj, fk, fe, fr, fw, ⟨hPm, hPa, hPl, hPe, hPr, hPk⟩, hFk, hFe, hFr, hpk, hn9⟩ dX5_digest_123) hS (fun q z w => absurd w (Nat.not_le.mpr z)) hn (fun r_124 H locs hR hz hk hS => ?_)
  have fw := fw.new hk
  have fo := fo.kept (hk _ fo.lt (Nat.not_le.mpr fo.lt))
  have fj := fj.kept (hk _ fj.lt (Nat.not_le.mpr fj.lt))
  have fk := fk.new hk
  have fe := fe.kept (hk _ fe.lt (Nat.not_le.mpr fe.lt))
  have fr := fr.kept (hk _ fr.lt (Nat.not_le.mpr fr.lt))
  have f119 := f119.new hk
  obtain ⟨n_f125, hn_f125, f125⟩ := hR
  refine k_i (pc := 126) (k_V E hC hS hA hl.1 (f125.recv hC) rfl (c_J0_length_8abf5 l D tk N0 sa H.size r_124 n_f125) kw_1710 kw_413 kw_414 kw_20 kw_415 (n := 0) (by decide +kernel) rfl ⟨⟨rfl, rfl⟩, ⟨Nat.le_of_ble_eq_true rfl, Nat.le_of_ble_eq_true rfl⟩, (by dsimp only; omega), (by dsimp only; omega)⟩ rfl (Nat.le_of_ble_eq_true rfl) f125 dX5_digest_126) hS (fun q z w => absurd w (Nat.not_le.mpr z)) hn (fun r_126 H locs hR hz hk hS => ?_)
  have fw := fw.new hk
  have fo := fo.kept (hk _ fo.lt (Nat.not_le.mpr fo.lt))
  have fj := fj.kept (hk _ fj.lt (Nat.not_le.mpr fj.lt))
  have fk := fk.new hk
  have fe := fe.kept (hk _ fe.lt (Nat.not_le.mpr fe.lt))
  have fr := fr.kept (hk _ fr.lt (Nat.not_le.mpr fr.lt))
  have f119 := f119.new hk
  have f125 := f125.new hk
  rw [show r_126 = nI n_f125 from hR]
  refine lv_i2l (pc := 129) (v := (nI n_f125).toInt64) hx hb dX5_digest_129 rfl ?_
  refine k_l (pc := 130) (k_S E hC hS hA hl.1 (c_X5_add l D tk N0 sa H.size r_121 ((nI n_f125).toInt64) ) kw_1805 kw_1806 kw_5 kw_1807 (n := 2) (by decide +kernel) rfl ⟨⟨rfl, rfl⟩, ⟨Nat.le_of_ble_eq_true rfl, Nat.le_of_ble_eq_true rfl⟩, (by dsimp only; omega), (by dsimp only; omega)⟩ rfl (Nat.le_of_ble_eq_true rfl) trivial dX5_digest_130) hS (fun q z w => absurd w (Nat.not_le.mpr z)) hn (fun r_127 H locs hR hz hk hS => ?_)
  have er_127 := hR
  have fw := fw.new hk
  have fo := fo.kept (hk _ fo.lt (Nat.not_le.mpr fo.lt))
  have fj := fj.kept (hk _ fj.lt (Nat.not_le.mpr fj.lt))
  have fk := fk.new hk
  have fe := fe.kept (hk _ fe.lt (Nat.not_le.mpr fe.lt))
  have fr := fr.kept (hk _ fr.lt (Nat.not_le.mpr fr.lt))
  have f119 := f119.new hk
  have f125 := f125.new hk
  refine lv_lstore_n (pc := 133) (lv' := [(1, .long r_127), (4, .int 1), (0, .ref mo), (3, .int y9)]) hx hb dX5_digest_133 rfl hl (by decide) rfl (fun ls hl => ?_)
  refine lv_iinc (pc := 134) (v := 2) (lv' := [(4, .int 2), (1, .long r_127), (0, .ref mo), (3, .int y9)]) hx hb dX5_digest_134 hl (k := 1) rfl (by decide) (by decide) rfl (fun ls hl => ?_)
  refine lv_goto (pc := 137) (tgt := 111) hx hb dX5_digest_137 (by decide) ?_
  refine lv_iload (pc := 111) hx hb dX5_digest_111 (lv_at hl 0 rfl) ?_
  refine lv_iconst (pc := 113) (v := 5) hx hb dX5_digest_113 (by decide) ?_
  refine lv_icmp_ge (pc := 114) (tgt := 140) hx hb dX5_digest_114 (by decide) (fun c_129 => ?_) (fun c_129 => ?_)
  · exact absurd c_129 (by decide)
  refine lv_lload_n (pc := 117) hx hb dX5_digest_117 rfl (lv_at hl 1 rfl) ?_
  refine lv_aload_n (pc := 118) hx hb dX5_digest_118 rfl (lv_at hl 2 rfl) ?_
  refine lv_iload_n (pc := 119) hx hb dX5_digest_119 rfl (lv_at hl 3 rfl) ?_
  refine lv_iconst (pc := 120) (v := 3) hx hb dX5_digest_120 (by decide) ?_
  refine lv_iload (pc := 121) hx hb dX5_digest_121 (lv_at hl 0 rfl) ?_
  have hdG := (m_dG1 13).1 (by decide)
  have hZ0_ := hS.1
  have t_fo := fo.lt
  have t_fj := fj.lt
  have t_fk := fun k (hk9 : k < 6) => (fk k hk9).lt
  have t_fe := fe.lt
  have t_fr := fr.lt
  have t_f119 := f119.lt
  have t_f125 := f125.lt
  refine k_r (pc := 123) (k_V E hC hS hA hl.1 (c1.recv hC fo rfl) rfl (c_X5_cutNow l D tk N0 sa H.size P hPN mo n9 kn 0 tt bb eT eB oT oB pk ca rf vs y9 k hx9 hkn 3 2 3 13 rfl (by decide) (by decide) (by decide) (fun t b h9 => m_dg13 (m_cut3B h9 _))) kw_1700 kw_1702 kp_32 kw_5 kw_1703 (n := 3) (by decide +kernel) rfl ⟨⟨rfl, rfl⟩, ⟨Nat.le_of_ble_eq_true rfl, Nat.le_of_ble_eq_true rfl⟩, (by dsimp only; omega), (by dsimp only; omega)⟩ rfl (Nat.le_of_ble_eq_true rfl) ⟨_, _, _, _, _, fo, fj, fk, fe, fr, fw, ⟨hPm, hPa, hPl, hPe, hPr, hPk⟩, hFk, hFe, hFr, hpk, hn9⟩ dX5_digest_123) hS (fun q z w => absurd w (Nat.not_le.mpr z)) hn (fun r_130 H locs hR hz hk hS => ?_)
  have fw := fw.new hk
  have fo := fo.kept (hk _ fo.lt (Nat.not_le.mpr fo.lt))
  have fj := fj.kept (hk _ fj.lt (Nat.not_le.mpr fj.lt))
  have fk := fk.new hk
  have fe := fe.kept (hk _ fe.lt (Nat.not_le.mpr fe.lt))
  have fr := fr.kept (hk _ fr.lt (Nat.not_le.mpr fr.lt))
  have f119 := f119.new hk
  have f125 := f125.new hk
  obtain ⟨n_f131, hn_f131, f131⟩ := hR
  refine k_i (pc := 126) (k_V E hC hS hA hl.1 (f131.recv hC) rfl (c_J0_length_8abf5 l D tk N0 sa H.size r_130 n_f131) kw_1710 kw_413 kw_414 kw_20 kw_415 (n := 0) (by decide +kernel) rfl ⟨⟨rfl, rfl⟩, ⟨Nat.le_of_ble_eq_true rfl, Nat.le_of_ble_eq_true rfl⟩, (by dsimp only; omega), (by dsimp only; omega)⟩ rfl (Nat.le_of_ble_eq_true rfl) f131 dX5_digest_126) hS (fun q z w => absurd w (Nat.not_le.mpr z)) hn (fun r_132 H locs hR hz hk hS => ?_)
  have fw := fw.new hk
  have fo := fo.kept (hk _ fo.lt (Nat.not_le.mpr fo.lt))
  have fj := fj.kept (hk _ fj.lt (Nat.not_le.mpr fj.lt))
  have fk := fk.new hk
  have fe := fe.kept (hk _ fe.lt (Nat.not_le.mpr fe.lt))
  have fr := fr.kept (hk _ fr.lt (Nat.not_le.mpr fr.lt))
  have f119 := f119.new hk
  have f125 := f125.new hk
  have f131 := f131.new hk
  rw [show r_132 = nI n_f131 from hR]
  refine lv_i2l (pc := 129) (v := (nI n_f131).toInt64) hx hb dX5_digest_129 rfl ?_
  refine k_l (pc := 130) (k_S E hC hS hA hl.1 (c_X5_add l D tk N0 sa H.size r_127 ((nI n_f131).toInt64) ) kw_1805 kw_1806 kw_5 kw_1807 (n := 2) (by decide +kernel) rfl ⟨⟨rfl, rfl⟩, ⟨Nat.le_of_ble_eq_true rfl, Nat.le_of_ble_eq_true rfl⟩, (by dsimp only; omega), (by dsimp only; omega)⟩ rfl (Nat.le_of_ble_eq_true rfl) trivial dX5_digest_130) hS (fun q z w => absurd w (Nat.not_le.mpr z)) hn (fun r_133 H locs hR hz hk hS => ?_)
  have er_133 := hR
  have fw := fw.new hk
  have fo := fo.kept (hk _ fo.lt (Nat.not_le.mpr fo.lt))
  have fj := fj.kept (hk _ fj.lt (Nat.not_le.mpr fj.lt))
  have fk := fk.new hk
  have fe := fe.kept (hk _ fe.lt (Nat.not_le.mpr fe.lt))
  have fr := fr.kept (hk _ fr.lt (Nat.not_le.mpr fr.lt))
  have f119 := f119.new hk
  have f125 := f125.new hk
  have f131 := f131.new hk
  refine lv_lstore_n (pc := 133) (lv' := [(1, .long r_133), (4, .int 2), (0, .ref mo), (3, .int y9)]) hx hb dX5_digest_133 rfl hl (by decide) rfl (fun ls hl => ?_)
  refine lv_iinc (pc := 134) (v := 3) (lv' := [(4, .int 3), (1, .long r_133), (0, .ref mo), (3, .int y9)]) hx hb dX5_digest_134 hl (k := 1) rfl (by decide) (by decide) rfl (fun ls hl => ?_)
  refine lv_goto (pc := 137) (tgt := 111) hx hb dX5_digest_137 (by decide) ?_
  refine lv_iload (pc := 111) hx hb dX5_digest_111 (lv_at hl 0 rfl) ?_
  refine lv_iconst (pc := 113) (v := 5) hx hb dX5_digest_113 (by decide) ?_
  refine lv_icmp_ge (pc := 114) (tgt := 140) hx hb dX5_digest_114 (by decide) (fun c_135 => ?_) (fun c_135 => ?_)
  · exact absurd c_135 (by decide)
  refine lv_lload_n (pc := 117) hx hb dX5_digest_117 rfl (lv_at hl 1 rfl) ?_
  refine lv_aload_n (pc := 118) hx hb dX5_digest_118 rfl (lv_at hl 2 rfl) ?_
  refine lv_iload_n (pc := 119) hx hb dX5_digest_119 rfl (lv_at hl 3 rfl) ?_
  refine lv_iconst (pc := 120) (v := 3) hx hb dX5_digest_120 (by decide) ?_
  refine lv_iload (pc := 121) hx hb dX5_digest_121 (lv_at hl 0 rfl) ?_
  have hdG := (m_dG1 13).1 (by decide)
  have hZ0_ := hS.1
  have t_fo := fo.lt
  have t_fj := fj.lt
  have t_fk := fun k (hk9 : k < 6) => (fk k hk9).lt
  have t_fe := fe.lt
  have t_fr := fr.lt
  have t_f119 := f119.lt
  have t_f125 := f125.lt
  have t_f131 := f131.lt
  refine k_r (pc := 123) (k_V E hC hS hA hl.1 (c1.recv hC fo rfl) rfl (c_X5_cutNow l D tk N0 sa H.size P hPN mo n9 kn 0 tt bb eT eB oT oB pk ca rf vs y9 k hx9 hkn 3 3 3 13 rfl (by decide) (by decide) (by decide) (fun t b h9 => m_dg13 (m_cut3B h9 _))) kw_1700 kw_1702 kp_32 kw_5 kw_1703 (n := 3) (by decide +kernel) rfl ⟨⟨rfl, rfl⟩, ⟨Nat.le_of_ble_eq_true rfl, Nat.le_of_ble_eq_true rfl⟩, (by dsimp only; omega), (by dsimp only; omega)⟩ rfl (Nat.le_of_ble_eq_true rfl) ⟨_, _, _, _, _, fo, fj, fk, fe, fr, fw, ⟨hPm, hPa, hPl, hPe, hPr, hPk⟩, hFk, hFe, hFr, hpk, hn9⟩ dX5_digest_123) hS (fun q z w => absurd w (Nat.not_le.mpr z)) hn (fun r_136 H locs hR hz hk hS => ?_)
  have fw := fw.new hk
  have fo := fo.kept (hk _ fo.lt (Nat.not_le.mpr fo.lt))
  have fj := fj.kept (hk _ fj.lt (Nat.not_le.mpr fj.lt))
  have fk := fk.new hk
  have fe := fe.kept (hk _ fe.lt (Nat.not_le.mpr fe.lt))
  have fr := fr.kept (hk _ fr.lt (Nat.not_le.mpr fr.lt))
  have f119 := f119.new hk
  have f125 := f125.new hk
  have f131 := f131.new hk
  obtain ⟨n_f137, hn_f137, f137⟩ := hR
  refine k_i (pc := 126) (k_V E hC hS hA hl.1 (f137.recv hC) rfl (c_J0_length_8abf5 l D tk N0 sa H.size r_136 n_f137) kw_1710 kw_413 kw_414 kw_20 kw_415 (n := 0) (by decide +kernel) rfl ⟨⟨rfl, rfl⟩, ⟨Nat.le_of_ble_eq_true rfl, Nat.le_of_ble_eq_true rfl⟩, (by dsimp only; omega), (by dsimp only; omega)⟩ rfl (Nat.le_of_ble_eq_true rfl) f137 dX5_digest_126) hS (fun q z w => absurd w (Nat.not_le.mpr z)) hn (fun r_138 H locs hR hz hk hS => ?_)
  have fw := fw.new hk
  have fo := fo.kept (hk _ fo.lt (Nat.not_le.mpr fo.lt))
  have fj := fj.kept (hk _ fj.lt (Nat.not_le.mpr fj.lt))
  have fk := fk.new hk
  have fe := fe.kept (hk _ fe.lt (Nat.not_le.mpr fe.lt))
  have fr := fr.kept (hk _ fr.lt (Nat.not_le.mpr fr.lt))
  have f119 := f119.new hk
  have f125 := f125.new hk
  have f131 := f131.new hk
  have f137 := f137.new hk
  rw [show r_138 = nI n_f137 from hR]
  refine lv_i2l (pc := 129) (v := (nI n_f137).toInt64) hx hb dX5_digest_129 rfl ?_
  refine k_l (pc := 130) (k_S E hC hS hA hl.1 (c_X5_add l D tk N0 sa H.size r_133 ((nI n_f137).toInt64) ) kw_1805 kw_1806 kw_5 kw_1807 (n := 2) (by decide +kernel) rfl ⟨⟨rfl, rfl⟩, ⟨Nat.le_of_ble_eq_true rfl, Nat.le_of_ble_eq_true rfl⟩, (by dsimp only; omega), (by dsimp only; omega)⟩ rfl (Nat.le_of_ble_eq_true rfl) trivial dX5_digest_130) hS (fun q z w => absurd w (Nat.not_le.mpr z)) hn (fun r_139 H locs hR hz hk hS => ?_)
  have er_139 := hR
  have fw := fw.new hk
  have fo := fo.kept (hk _ fo.lt (Nat.not_le.mpr fo.lt))
  have fj := fj.kept (hk _ fj.lt (Nat.not_le.mpr fj.lt))
  have fk := fk.new hk
  have fe := fe.kept (hk _ fe.lt (Nat.not_le.mpr fe.lt))
  have fr := fr.kept (hk _ fr.lt (Nat.not_le.mpr fr.lt))
  have f119 := f119.new hk
  have f125 := f125.new hk
  have f131 := f131.new hk
  have f137 := f137.new hk
  refine lv_lstore_n (pc := 133) (lv' := [(1, .long r_139), (4, .int 3), (0, .ref mo), (3, .int y9)]) hx hb dX5_digest_133 rfl hl (by decide) rfl (fun ls hl => ?_)
  refine lv_iinc (pc := 134) (v := 4) (lv' := [(4, .int 4), (1, .long r_139), (0, .ref mo), (3, .int y9)]) hx hb dX5_digest_134 hl (k := 1) rfl (by decide) (by decide) rfl (fun ls hl => ?_)
  refine lv_goto (pc := 137) (tgt := 111) hx hb dX5_digest_137 (by decide) ?_
  refine lv_iload (pc := 111) hx hb dX5_digest_111 (lv_at hl 0 rfl) ?_
  refine lv_iconst (pc := 113) (v := 5) hx hb dX5_digest_113 (by decide) ?_
  refine lv_icmp_ge (pc := 114) (tgt := 140) hx hb dX5_digest_114 (by decide) (fun c_141 => ?_) (fun c_141 => ?_)
  · exact absurd c_141 (by decide)
  refine lv_lload_n (pc := 117) hx hb dX5_digest_117 rfl (lv_at hl 1 rfl) ?_
  refine lv_aload_n (pc := 118) hx hb dX5_digest_118 rfl (lv_at hl 2 rfl) ?_
  refine lv_iload_n (pc := 119) hx hb dX5_digest_119 rfl (lv_at hl 3 rfl) ?_
  refine lv_iconst (pc := 120) (v := 3) hx hb dX5_digest_120 (by decide) ?_
  refine lv_iload (pc := 121) hx hb dX5_digest_121 (lv_at hl 0 rfl) ?_
  have hdG := (m_dG1 13).1 (by decide)
  have hZ0_ := hS.1
  have t_fo := fo.lt
  have t_fj := fj.lt
  have t_fk := fun k (hk9 : k < 6) => (fk k hk9).lt
  have t_fe := fe.lt
  have t_fr := fr.lt
  have t_f119 := f119.lt
  have t_f125 := f125.lt
  have t_f131 := f131.lt
  have t_f137 := f137.lt
  refine k_r (pc := 123) (k_V E hC hS hA hl.1 (c1.recv hC fo rfl) rfl (c_X5_cutNow l D tk N0 sa H.size P hPN mo n9 kn 0 tt bb eT eB oT oB pk ca rf vs y9 k hx9 hkn 3 4 3 13 rfl (by decide) (by decide) (by decide) (fun t b h9 => m_dg13 (m_cut3B h9 _))) kw_1700 kw_1702 kp_32 kw_5 kw_1703 (n := 3) (by decide +kernel) rfl ⟨⟨rfl, rfl⟩, ⟨Nat.le_of_ble_eq_true rfl, Nat.le_of_ble_eq_true rfl⟩, (by dsimp only; omega), (by dsimp only; omega)⟩ rfl (Nat.le_of_ble_eq_true rfl) ⟨_, _, _, _, _, fo, fj, fk, fe, fr, fw, ⟨hPm, hPa, hPl, hPe, hPr, hPk⟩, hFk, hFe, hFr, hpk, hn9⟩ dX5_digest_123) hS (fun q z w => absurd w (Nat.not_le.mpr z)) hn (fun r_142 H locs hR hz hk hS => ?_)
  have fw := fw.new hk
  have fo := fo.kept (hk _ fo.lt (Nat.not_le.mpr fo.lt))
  have fj := fj.kept (hk _ fj.lt (Nat.not_le.mpr fj.lt))
  have fk := fk.new hk
  have fe := fe.kept (hk _ fe.lt (Nat.not_le.mpr fe.lt))
  have fr := fr.kept (hk _ fr.lt (Nat.not_le.mpr fr.lt))
  have f119 := f119.new hk
  have f125 := f125.new hk
  have f131 := f131.new hk
  have f137 := f137.new hk
  obtain ⟨n_f143, hn_f143, f143⟩ := hR
  refine k_i (pc := 126) (k_V E hC hS hA hl.1 (f143.recv hC) rfl (c_J0_length_8abf5 l D tk N0 sa H.size r_142 n_f143) kw_1710 kw_413 kw_414 kw_20 kw_415 (n := 0) (by decide +kernel) rfl ⟨⟨rfl, rfl⟩, ⟨Nat.le_of_ble_eq_true rfl, Nat.le_of_ble_eq_true rfl⟩, (by dsimp only; omega), (by dsimp only; omega)⟩ rfl (Nat.le_of_ble_eq_true rfl) f143 dX5_digest_126) hS (fun q z w => absurd w (Nat.not_le.mpr z)) hn (fun r_144 H locs hR hz hk hS => ?_)
  have fw := fw.new hk
  have fo := fo.kept (hk _ fo.lt (Nat.not_le.mpr fo.lt))
  have fj := fj.kept (hk _ fj.lt (Nat.not_le.mpr fj.lt))
  have fk := fk.new hk
  have fe := fe.kept (hk _ fe.lt (Nat.not_le.mpr fe.lt))
  have fr := fr.kept (hk _ fr.lt (Nat.not_le.mpr fr.lt))
  have f119 := f119.new hk
  have f125 := f125.new hk
  have f131 := f131.new hk
  have f137 := f137.new hk
  have f143 := f143.new hk
  rw [show r_144 = nI n_f143 from hR]
  refine lv_i2l (pc := 129) (v := (nI n_f143).toInt64) hx hb dX5_digest_129 rfl ?_
  refine k_l (pc := 130) (k_S E hC hS hA hl.1 (c_X5_add l D tk N0 sa H.size r_139 ((nI n_f143).toInt64) ) kw_1805 kw_1806 kw_5 kw_1807 (n := 2) (by decide +kernel) rfl ⟨⟨rfl, rfl⟩, ⟨Nat.le_of_ble_eq_true rfl, Nat.le_of_ble_eq_true rfl⟩, (by dsimp only; omega), (by dsimp only; omega)⟩ rfl (Nat.le_of_ble_eq_true rfl) trivial dX5_digest_130) hS (fun q z w => absurd w (Nat.not_le.mpr z)) hn (fun r_145 H locs hR hz hk hS => ?_)
  have er_145 := hR
  have fw := fw.new hk
  have fo := fo.kept (hk _ fo.lt (Nat.not_le.mpr fo.lt))
  have fj := fj.kept (hk _ fj.lt (Nat.not_le.mpr fj.lt))
  have fk := fk.new hk
  have fe := fe.kept (hk _ fe.lt (Nat.not_le.mpr fe.lt))
  have fr := fr.kept (hk _ fr.lt (Nat.not_le.mpr fr.lt))
  have f119 := f119.new hk
  have f125 := f125.new hk
  have f131 := f131.new hk
  have f137 := f137.new hk
  have f143 := f143.new hk
  refine lv_lstore_n (pc := 133) (lv' := [(1, .long r_145), (4, .int 4), (0, .ref mo), (3, .int y9)]) hx hb dX5_digest_133 rfl hl (by decide) rfl (fun ls hl => ?_)
  refine lv_iinc (pc := 134) (v := 5) (lv' := [(4, .int 5), (1, .long r_145), (0, .ref mo), (3, .int y9)]) hx hb dX5_digest_134 hl (k := 1) rfl (by decide) (by decide) rfl (fun ls hl => ?_)
  refine lv_goto (pc := 137) (tgt := 111) hx hb dX5_digest_137 (by decide) ?_
  refine lv_iload (pc := 111) hx hb dX5_digest_111 (lv_at hl 0 rfl) ?_
  refine lv_iconst (pc := 113) (v := 5) hx hb dX5_digest_113 (by decide) ?_
  refine lv_icmp_ge (pc := 114) (tgt := 140) hx hb dX5_digest_114 (by decide) (fun c_147 => ?_) (fun c_147 => ?_)
  rotate_left
  · exact absurd (by decide) c_147
  obtain ⟨x_148, ex_148⟩ : ∃ z9 : Int32, z9 = y9 + 1 := ⟨_, rfl⟩
  refine lv_iinc (pc := 140) (v := x_148) (lv' := [(3, .int x_148), (4, .int 5), (1, .long r_145), (0, .ref mo)]) hx hb dX5_digest_140 hl (k := 3) rfl (by rw [ex_148]; rfl) (by decide) rfl (fun ls hl => ?_)
  refine lv_goto (pc := 143) (tgt := 35) hx hb dX5_digest_143 (by decide) ?_
  refine W.widen (k := 5 + 636 * (k + 1)) (n := 25 + 15713 * (k + 1)) (by omega) (by omega) ?_
  exact ih_35  (k + 1)  r_145 x_148 (by omega) (by omega) (i_up hx9 ex_148) _ _ _ hS fo fj fk fe fr fw (lv_sub hl [3, 2, 0] rfl)
set_option maxHeartbeats 4000000 in
set_option maxRecDepth 100000 in
theorem g6_X5_digest {p : Program} {l : Launch} {e : Env} {s : State} {m : MethodId} {args : Array Value} {below : List Frame} {meth : Method} {c : Code} {Q : State → Prop} {D : va_G} {tk : Nat → ClassId} {N0 : Nat} {sa : Nat → Nat} {P : Nat → Prop} (E : CallFix p m c cX5_digest 5 s args (wsy yX5_digest cX5_digest 5 (some .long)) RX5) (hC : Ctx D tk N0 sa s) (hA : ∀ q, (P) q → N0 ≤ q) (hn : ∀ q, s.heap.size ≤ q → (P) q) (hr : meth.sig.returnType = (some .long)) (hlk : meth.locks = false) (hPN : ∀ q, P q → N0 ≤ q) (hPs : ∀ q, s.heap.size ≤ q → P q) (mo : Nat) (n9 : Nat) (kn : Int32) (th : Int32) (tt : Nat → Int64) (bb : Nat → Int64) (eT : Int64) (eB : Int64) (oT : Int64) (oB : Int64) (pk : Nat) (ca : Int32) (rf : Int32) (vs : Nat → Value) (ra : Nat) (rl : Nat) (ex : Nat) (ro : Nat) (rt : Nat → Nat) (hPm : P mo) (hPa : P ra) (hPl : P rl) (hPe : P ex) (hPr : P ro) (hPk : ∀ k, k < 6 → P (rt k)) (hFk : ∀ k, k < 6 → m_F (tt k) (bb k)) (hFe : m_F eT eB) (hFr : m_F oT oB ∧ m_D4 oB) (hpk : pk ≤ 4) (hn9 : n9 ≤ 16) (r_100 : Int64) (n : Nat) (k : Nat) (d9 : Int64) (y9 : Int32) (hf9 : 7 - k < n + 1) (hk9 : k ≤ 6) (hx9 : y9 = nI k) (ih_35 : ∀ (k : Nat)(d9 : Int64) (y9 : Int32), 7 - k < n → k ≤ 6 → y9 = nI k → ∀ (H : Heap) (locs : List Loc) (ls : Array Slot), va_S (P) s.heap H locs → c1 D mo (.inr (13, [.ref ra, .ref rl, .ref ex, .ref ro, .int (nI pk), .int ca, .int rf, .int kn, .int 0])) H → c1 D ra (.inl (tk 3, 6, .inr (.inr (.inr (.inr (fun k => some (rt k))))))) H → MK D tk rt tt bb H → L2 D tk ex eT eB H → L2 D tk ro oT oB H → RW D tk sa P rl n9 vs H → lv_has ls 5 [(0, .ref mo), (1, .long d9), (3, .int y9)] → W p l e ({ frames := 9, cells := 3869, slots := 94998, locals := 212 } : Room) s m args below meth c H locs (5 + 636 * k) (25 + 15713 * k) Q (F0 m 35 ls [])) (hkn : k < 6) (H : Heap) (locs : List Loc) (ls : Array Slot) (hS : va_S (P) s.heap H locs) (fo : c1 D mo (.inr (13, [.ref ra, .ref rl, .ref ex, .ref ro, .int (nI pk), .int ca, .int rf, .int kn, .int 0])) H) (fj : c1 D ra (.inl (tk 3, 6, .inr (.inr (.inr (.inr (fun k => some (rt k))))))) H) (fk : MK D tk rt tt bb H) (fe : L2 D tk ex eT eB H) (fr : L2 D tk ro oT oB H) (fw : RW D tk sa P rl n9 vs H) (hl : lv_has ls 5 [(1, .long r_100), (0, .ref mo), (3, .int y9)]) : W p l e ({ frames := 9, cells := 3869, slots := 94998, locals := 212 } : Room) s m args below meth c H locs (5 + 636 * k + 1 + 0 + 1 + 0 + 1 + 0 + 1 + 0) (25 + 15713 * k + 4 + 0 + 4 + 0 + 4 + 0 + 4 + 0) Q (F0 m 69 ls []) := by
  obtain ⟨hx, hb, -⟩ := id E
  have g_fo := hPm
  have g_fj := hPa
  refine lv_lload_n (pc := 69) hx hb dX5_digest_69 rfl (lv_at hl 0 rfl) ?_
  refine lv_aload_n (pc := 70) hx hb dX5_digest_70 rfl (lv_at hl 1 rfl) ?_
  refine r_get (pc := 71) E hC fo 0 (v := .ref ra) rfl rfl (by decide) uX5 (List.mem_cons_of_mem _ kw_1209) (fun _ h => h) dX5_digest_71 ?_
  refine lv_iload_n (pc := 74) hx hb dX5_digest_74 rfl (lv_at hl 2 rfl) ?_
  refine r_aaldJ (pc := 75) E hC fj k hx9 hkn (by decide) rfl dX5_digest_75 ?_
  have fL103 := fk k hkn
  have mF_fL103 := hFk k hkn
  have Pq_fL103 := hPk k hkn
  have hZ0_ := hS.1
  have t_fo := fo.lt
  have t_fj := fj.lt
  have t_fk := fun k (hk9 : k < 6) => (fk k hk9).lt
  have t_fe := fe.lt
  have t_fr := fr.lt
  have t_fL103 := fL103.lt
  refine k_r (pc := 76) (k_S E hC hS hA hl.1 (c_X5_termsOf l D tk N0 sa H.size (rt k) (tt k) (bb k) mF_fL103) kw_1411 kw_1412 kw_5 kw_1413 (n := 1) (by decide +kernel) rfl ⟨⟨rfl, rfl⟩, ⟨Nat.le_of_ble_eq_true rfl, Nat.le_of_ble_eq_true rfl⟩, (by dsimp only; omega), (by dsimp only; omega)⟩ rfl (Nat.le_of_ble_eq_true rfl) fL103 dX5_digest_76) hS (fun q z w => absurd w (Nat.not_le.mpr z)) hn (fun r_104 H locs hR hz hk hS => ?_)
  have fw := fw.new hk
  have fo := fo.kept (hk _ fo.lt (Nat.not_le.mpr fo.lt))
  have fj := fj.kept (hk _ fj.lt (Nat.not_le.mpr fj.lt))
  have fk := fk.new hk
  have fe := fe.kept (hk _ fe.lt (Nat.not_le.mpr fe.lt))
  have fr := fr.kept (hk _ fr.lt (Nat.not_le.mpr fr.lt))
  have fL103 := fL103.kept (hk _ fL103.lt (Nat.not_le.mpr fL103.lt))
  obtain ⟨nl105, bb105, cap105, ff105, ww105, md105, zr9_, zb9_, fl105, fR105, el105, hPT105, hln105, hlm105, hlc105, hlp105, ⟨hTL105, hTA105⟩, gg105, hEU105⟩ := hR
  have hcb105 := m_acB hlp105
  have s_fl105 : s.heap.size ≤ r_104 := Nat.le_trans hZ0_ zr9_
  have g_fl105 := hn _ s_fl105
  have l_fo_fl105 : mo < r_104 := Nat.lt_of_lt_of_le t_fo zr9_
  have l_fj_fl105 : ra < r_104 := Nat.lt_of_lt_of_le t_fj zr9_
  have nW_fl105 : ∀ k, k < 6 → rt k ≠ r_104 := fun k hk9 => Nat.ne_of_lt (Nat.lt_of_lt_of_le (t_fk k hk9) zr9_)
  have l_fe_fl105 : ex < r_104 := Nat.lt_of_lt_of_le t_fe zr9_
  have l_fr_fl105 : ro < r_104 := Nat.lt_of_lt_of_le t_fr zr9_
  have l_fL103_fl105 : rt k < r_104 := Nat.lt_of_lt_of_le t_fL103 zr9_
  have s_fR105 : s.heap.size ≤ bb105 := Nat.le_trans hZ0_ zb9_
  have g_fR105 := hn _ s_fR105
  have l_fo_fR105 : mo < bb105 := Nat.lt_of_lt_of_le t_fo zb9_
  have l_fj_fR105 : ra < bb105 := Nat.lt_of_lt_of_le t_fj zb9_
  have nW_fR105 : ∀ k, k < 6 → rt k ≠ bb105 := fun k hk9 => Nat.ne_of_lt (Nat.lt_of_lt_of_le (t_fk k hk9) zb9_)
  have l_fe_fR105 : ex < bb105 := Nat.lt_of_lt_of_le t_fe zb9_
  have l_fr_fR105 : ro < bb105 := Nat.lt_of_lt_of_le t_fr zb9_
  have l_fL103_fR105 : rt k < bb105 := Nat.lt_of_lt_of_le t_fL103 zb9_
  refine k_i (pc := 79) (k_V E hC hS hA hl.1 (c1.recv hC fl105 rfl) rfl (c_Jx4a65c_size_8abf5 l D tk N0 sa H.size r_104 bb105 nl105 md105) kw_1546 kw_1547 kw_1548 kw_8 kw_1549 (n := 0) (by decide +kernel) rfl ⟨⟨rfl, rfl⟩, ⟨Nat.le_of_ble_eq_true rfl, Nat.le_of_ble_eq_true rfl⟩, (by dsimp only; omega), (by dsimp only; omega)⟩ rfl (Nat.le_of_ble_eq_true rfl) fl105 dX5_digest_79) hS (fun q z w => absurd w (Nat.not_le.mpr z)) hn (fun r_106 H locs hR hz hk hS => ?_)
  have fw := fw.new hk
  have fo := fo.kept (hk _ fo.lt (Nat.not_le.mpr fo.lt))
  have fj := fj.kept (hk _ fj.lt (Nat.not_le.mpr fj.lt))
  have fk := fk.new hk
  have fe := fe.kept (hk _ fe.lt (Nat.not_le.mpr fe.lt))
  have fr := fr.kept (hk _ fr.lt (Nat.not_le.mpr fr.lt))
  have fL103 := fL103.kept (hk _ fL103.lt (Nat.not_le.mpr fL103.lt))
  have fR105 := fR105.kept (hk _ fR105.lt (Nat.not_le.mpr fR105.lt))
  have fl105 := fl105.kept (hk _ fl105.lt (Nat.not_le.mpr fl105.lt))
  have el105 := el105.new hk
  rw [show r_106 = nI nl105 from hR]
  refine lv_i2l (pc := 82) (v := (nI nl105).toInt64) hx hb dX5_digest_82 rfl ?_
  refine k_l (pc := 83) (k_S E hC hS hA hl.1 (c_X5_add l D tk N0 sa H.size r_100 ((nI nl105).toInt64) ) kw_1805 kw_1806 kw_5 kw_1807 (n := 2) (by decide +kernel) rfl ⟨⟨rfl, rfl⟩, ⟨Nat.le_of_ble_eq_true rfl, Nat.le_of_ble_eq_true rfl⟩, (by dsimp only; omega), (by dsimp only; omega)⟩ rfl (Nat.le_of_ble_eq_true rfl) trivial dX5_digest_83) hS (fun q z w => absurd w (Nat.not_le.mpr z)) hn (fun r_107 H locs hR hz hk hS => ?_)
  have er_107 := hR
  have fw := fw.new hk
  have fo := fo.kept (hk _ fo.lt (Nat.not_le.mpr fo.lt))
  have fj := fj.kept (hk _ fj.lt (Nat.not_le.mpr fj.lt))
  have fk := fk.new hk
  have fe := fe.kept (hk _ fe.lt (Nat.not_le.mpr fe.lt))
  have fr := fr.kept (hk _ fr.lt (Nat.not_le.mpr fr.lt))
  have fL103 := fL103.kept (hk _ fL103.lt (Nat.not_le.mpr fL103.lt))
  have fR105 := fR105.kept (hk _ fR105.lt (Nat.not_le.mpr fR105.lt))
  have fl105 := fl105.kept (hk _ fl105.lt (Nat.not_le.mpr fl105.lt))
  have el105 := el105.new hk
  refine lv_aload_n (pc := 86) hx hb dX5_digest_86 rfl (lv_at hl 1 rfl) ?_
  refine lv_iload_n (pc := 87) hx hb dX5_digest_87 rfl (lv_at hl 2 rfl) ?_
  have hZ0_ := hS.1
  have t_fo := fo.lt
  have t_fj := fj.lt
  have t_fk := fun k (hk9 : k < 6) => (fk k hk9).lt
  have t_fe := fe.lt
  have t_fr := fr.lt
  have t_fL103 := fL103.lt
  have t_fR105 := fR105.lt
  have t_fl105 := fl105.lt
  refine k_i (pc := 88) (k_V E hC hS hA hl.1 (c1.recv hC fo rfl) rfl (c_X5_depthNow l D tk N0 sa H.size P hPN mo n9 kn 0 tt bb eT eB oT oB pk ca rf vs y9 k hx9 hkn ) kw_1670 kw_1672 kp_30 kw_5 kw_1673 (n := 1) (by decide +kernel) rfl ⟨⟨rfl, rfl⟩, ⟨Nat.le_of_ble_eq_true rfl, Nat.le_of_ble_eq_true rfl⟩, (by dsimp only; omega), (by dsimp only; omega)⟩ rfl (Nat.le_of_ble_eq_true rfl) ⟨_, _, _, _, _, fo, fj, fk, fe, fr, fw, ⟨hPm, hPa, hPl, hPe, hPr, hPk⟩, hFk, hFe, hFr, hpk, hn9⟩ dX5_digest_88) hS (fun q z w => absurd w (Nat.not_le.mpr z)) hn (fun r_109 H locs hR hz hk hS => ?_)
  have fw := fw.new hk
  have fo := fo.kept (hk _ fo.lt (Nat.not_le.mpr fo.lt))
  have fj := fj.kept (hk _ fj.lt (Nat.not_le.mpr fj.lt))
  have fk := fk.new hk
  have fe := fe.kept (hk _ fe.lt (Nat.not_le.mpr fe.lt))
  have fr := fr.kept (hk _ fr.lt (Nat.not_le.mpr fr.lt))
  have fL103 := fL103.kept (hk _ fL103.lt (Nat.not_le.mpr fL103.lt))
  have fR105 := fR105.kept (hk _ fR105.lt (Nat.not_le.mpr fR105.lt))
  have fl105 := fl105.kept (hk _ fl105.lt (Nat.not_le.mpr fl105.lt))
  have el105 := el105.new hk
  have er_109 := hR
  refine lv_i2l (pc := 91) (v := r_109.toInt64) hx hb dX5_digest_91 rfl ?_
  refine k_l (pc := 92) (k_S E hC hS hA hl.1 (c_X5_add l D tk N0 sa H.size r_107 r_109.toInt64 ) kw_1805 kw_1806 kw_5 kw_1807 (n := 2) (by decide +kernel) rfl ⟨⟨rfl, rfl⟩, ⟨Nat.le_of_ble_eq_true rfl, Nat.le_of_ble_eq_true rfl⟩, (by dsimp only; omega), (by dsimp only; omega)⟩ rfl (Nat.le_of_ble_eq_true rfl) trivial dX5_digest_92) hS (fun q z w => absurd w (Nat.not_le.mpr z)) hn (fun r_110 H locs hR hz hk hS => ?_)
  have er_110 := hR
  have fw := fw.new hk
  have fo := fo.kept (hk _ fo.lt (Nat.not_le.mpr fo.lt))
  have fj := fj.kept (hk _ fj.lt (Nat.not_le.mpr fj.lt))
  have fk := fk.new hk
  have fe := fe.kept (hk _ fe.lt (Nat.not_le.mpr fe.lt))
  have fr := fr.kept (hk _ fr.lt (Nat.not_le.mpr fr.lt))
  have fL103 := fL103.kept (hk _ fL103.lt (Nat.not_le.mpr fL103.lt))
  have fR105 := fR105.kept (hk _ fR105.lt (Nat.not_le.mpr fR105.lt))
  have fl105 := fl105.kept (hk _ fl105.lt (Nat.not_le.mpr fl105.lt))
  have el105 := el105.new hk
  refine lv_aload_n (pc := 95) hx hb dX5_digest_95 rfl (lv_at hl 1 rfl) ?_
  refine lv_iload_n (pc := 96) hx hb dX5_digest_96 rfl (lv_at hl 2 rfl) ?_
  have hZ0_ := hS.1
  have t_fo := fo.lt
  have t_fj := fj.lt
  have t_fk := fun k (hk9 : k < 6) => (fk k hk9).lt
  have t_fe := fe.lt
  have t_fr := fr.lt
  have t_fL103 := fL103.lt
  have t_fR105 := fR105.lt
  have t_fl105 := fl105.lt
  refine k_r (pc := 97) (k_V E hC hS hA hl.1 (c1.recv hC fo rfl) rfl (c_X5_wayNow l D tk N0 sa H.size P hPN mo n9 kn 0 tt bb eT eB oT oB pk ca rf vs y9 k hx9 hkn ) kw_1678 kw_1680 kp_31 kw_5 kw_1681 (n := 1) (by decide +kernel) rfl ⟨⟨rfl, rfl⟩, ⟨Nat.le_of_ble_eq_true rfl, Nat.le_of_ble_eq_true rfl⟩, (by dsimp only; omega), (by dsimp only; omega)⟩ rfl (Nat.le_of_ble_eq_true rfl) ⟨_, _, _, _, _, fo, fj, fk, fe, fr, fw, ⟨hPm, hPa, hPl, hPe, hPr, hPk⟩, hFk, hFe, hFr, hpk, hn9⟩ dX5_digest_97) hS (fun q z w => absurd w (Nat.not_le.mpr z)) hn (fun r_112 H locs hR hz hk hS => ?_)
  have fw := fw.new hk
  have fo := fo.kept (hk _ fo.lt (Nat.not_le.mpr fo.lt))
  have fj := fj.kept (hk _ fj.lt (Nat.not_le.mpr fj.lt))
  have fk := fk.new hk
  have fe := fe.kept (hk _ fe.lt (Nat.not_le.mpr fe.lt))
  have fr := fr.kept (hk _ fr.lt (Nat.not_le.mpr fr.lt))
  have fL103 := fL103.kept (hk _ fL103.lt (Nat.not_le.mpr fL103.lt))
  have fR105 := fR105.kept (hk _ fR105.lt (Nat.not_le.mpr fR105.lt))
  have fl105 := fl105.kept (hk _ fl105.lt (Nat.not_le.mpr fl105.lt))
  have el105 := el105.new hk
  obtain ⟨n_f113, hn_f113, f113⟩ := hR
  refine k_i (pc := 100) (k_V E hC hS hA hl.1 (f113.recv hC) rfl (c_J0_length_8abf5 l D tk N0 sa H.size r_112 n_f113) kw_1710 kw_413 kw_414 kw_20 kw_415 (n := 0) (by decide +kernel) rfl ⟨⟨rfl, rfl⟩, ⟨Nat.le_of_ble_eq_true rfl, Nat.le_of_ble_eq_true rfl⟩, (by dsimp only; omega), (by dsimp only; omega)⟩ rfl (Nat.le_of_ble_eq_true rfl) f113 dX5_digest_100) hS (fun q z w => absurd w (Nat.not_le.mpr z)) hn (fun r_114 H locs hR hz hk hS => ?_)
  have fw := fw.new hk
  have fo := fo.kept (hk _ fo.lt (Nat.not_le.mpr fo.lt))
  have fj := fj.kept (hk _ fj.lt (Nat.not_le.mpr fj.lt))
  have fk := fk.new hk
  have fe := fe.kept (hk _ fe.lt (Nat.not_le.mpr fe.lt))
  have fr := fr.kept (hk _ fr.lt (Nat.not_le.mpr fr.lt))
  have fL103 := fL103.kept (hk _ fL103.lt (Nat.not_le.mpr fL103.lt))
  have fR105 := fR105.kept (hk _ fR105.lt (Nat.not_le.mpr fR105.lt))
  have fl105 := fl105.kept (hk _ fl105.lt (Nat.not_le.mpr fl105.lt))
  have el105 := el105.new hk
  have f113 := f113.new hk
  rw [show r_114 = nI n_f113 from hR]
  refine lv_i2l (pc := 103) (v := (nI n_f113).toInt64) hx hb dX5_digest_103 rfl ?_
  refine k_l (pc := 104) (k_S E hC hS hA hl.1 (c_X5_add l D tk N0 sa H.size r_110 ((nI n_f113).toInt64) ) kw_1805 kw_1806 kw_5 kw_1807 (n := 2) (by decide +kernel) rfl ⟨⟨rfl, rfl⟩, ⟨Nat.le_of_ble_eq_true rfl, Nat.le_of_ble_eq_true rfl⟩, (by dsimp only; omega), (by dsimp only; omega)⟩ rfl (Nat.le_of_ble_eq_true rfl) trivial dX5_digest_104) hS (fun q z w => absurd w (Nat.not_le.mpr z)) hn (fun r_115 H locs hR hz hk hS => ?_)
  have er_115 := hR
  have fw := fw.new hk
  have fo := fo.kept (hk _ fo.lt (Nat.not_le.mpr fo.lt))
  have fj := fj.kept (hk _ fj.lt (Nat.not_le.mpr fj.lt))
  have fk := fk.new hk
  have fe := fe.kept (hk _ fe.lt (Nat.not_le.mpr fe.lt))
  have fr := fr.kept (hk _ fr.lt (Nat.not_le.mpr fr.lt))
  have fL103 := fL103.kept (hk _ fL103.lt (Nat.not_le.mpr fL103.lt))
  have fR105 := fR105.kept (hk _ fR105.lt (Nat.not_le.mpr fR105.lt))
  have fl105 := fl105.kept (hk _ fl105.lt (Nat.not_le.mpr fl105.lt))
  have el105 := el105.new hk
  have f113 := f113.new hk
  refine lv_lstore_n (pc := 107) (lv' := [(1, .long r_115), (0, .ref mo), (3, .int y9)]) hx hb dX5_digest_107 rfl hl (by decide) rfl (fun ls hl => ?_)
  exact g7_X5_digest E hC hA hn hr hlk hPN hPs mo n9 kn th tt bb eT eB oT oB pk ca rf vs ra rl ex ro rt hPm hPa hPl hPe hPr hPk hFk hFe hFr hpk hn9 r_115 n k d9 y9 hf9 hk9 hx9 ih_35 hkn _ _ _ hS fo fj fk fe fr fw hl
set_option maxHeartbeats 4000000 in
set_option maxRecDepth 100000 in
theorem g1_X5_digest {p : Program} {l : Launch} {e : Env} {s : State} {m : MethodId} {args : Array Value} {below : List Frame} {meth : Method} {c : Code} {Q : State → Prop} {D : va_G} {tk : Nat → ClassId} {N0 : Nat} {sa : Nat → Nat} {P : Nat → Prop} (E : CallFix p m c cX5_digest 5 s args (wsy yX5_digest cX5_digest 5 (some .long)) RX5) (hC : Ctx D tk N0 sa s) (hA : ∀ q, (P) q → N0 ≤ q) (hn : ∀ q, s.heap.size ≤ q → (P) q) (hr : meth.sig.returnType = (some .long)) (hlk : meth.locks = false) (hPN : ∀ q, P q → N0 ≤ q) (hPs : ∀ q, s.heap.size ≤ q → P q) (mo : Nat) (n9 : Nat) (kn : Int32) (th : Int32) (tt : Nat → Int64) (bb : Nat → Int64) (eT : Int64) (eB : Int64) (oT : Int64) (oB : Int64) (pk : Nat) (ca : Int32) (rf : Int32) (vs : Nat → Value) (hQ : Q = MQ below (kQl (fun r H => ∃ th1, MI D tk sa P mo tt bb eT eB oT oB pk ca rf vs kn n9 th1 H) (P)) args s (3869) (94998) (P)) (ra : Nat) (rl : Nat) (ex : Nat) (ro : Nat) (rt : Nat → Nat) (hPm : P mo) (hPa : P ra) (hPl : P rl) (hPe : P ex) (hPr : P ro) (hPk : ∀ k, k < 6 → P (rt k)) (hFk : ∀ k, k < 6 → m_F (tt k) (bb k)) (hFe : m_F eT eB) (hFr : m_F oT oB ∧ m_D4 oB) (hpk : pk ≤ 4) (hn9 : n9 ≤ 16) (r_19 : Int64) (H : Heap) (locs : List Loc) (ls : Array Slot) (hS : va_S (P) s.heap H locs) (fo : c1 D mo (.inr (13, [.ref ra, .ref rl, .ref ex, .ref ro, .int (nI pk), .int ca, .int rf, .int kn, .int 0])) H) (fj : c1 D ra (.inl (tk 3, 6, .inr (.inr (.inr (.inr (fun k => some (rt k))))))) H) (fk : MK D tk rt tt bb H) (fe : L2 D tk ex eT eB H) (fr : L2 D tk ro oT oB H) (fw : RW D tk sa P rl n9 vs H) (hl : lv_has ls 5 [(1, .long r_19), (0, .ref mo)]) : W p l e ({ frames := 9, cells := 3869, slots := 94998, locals := 212 } : Room) s m args below meth c H locs (0 + 1 + 0 + 1 + 0 + 1 + 0 + 1 + 0 + 1 + 0) (0 + 5 + 0 + 5 + 0 + 5 + 0 + 5 + 0 + 5 + 0) Q (F0 m 33 ls []) := by
  obtain ⟨hx, hb, -⟩ := id E
  have g_fo := hPm
  have g_fj := hPa
  refine lv_iconst (pc := 33) (v := 0) hx hb dX5_digest_33 (by decide) ?_
  refine lv_istore_n (pc := 34) (lv' := [(3, .int 0), (1, .long r_19), (0, .ref mo)]) hx hb dX5_digest_34 rfl hl (by decide) rfl (fun ls hl => ?_)
  have loop_35 : ∀ (n : Nat) (k : Nat)(d9 : Int64) (y9 : Int32), 7 - k < n → k ≤ 6 → y9 = nI k → ∀ (H : Heap) (locs : List Loc) (ls : Array Slot), va_S (P) s.heap H locs → c1 D mo (.inr (13, [.ref ra, .ref rl, .ref ex, .ref ro, .int (nI pk), .int ca, .int rf, .int kn, .int 0])) H → c1 D ra (.inl (tk 3, 6, .inr (.inr (.inr (.inr (fun k => some (rt k))))))) H → MK D tk rt tt bb H → L2 D tk ex eT eB H → L2 D tk ro oT oB H → RW D tk sa P rl n9 vs H → lv_has ls 5 [(0, .ref mo), (1, .long d9), (3, .int y9)] → W p l e ({ frames := 9, cells := 3869, slots := 94998, locals := 212 } : Room) s m args below meth c H locs (5 + 636 * k) (25 + 15713 * k) Q (F0 m 35 ls []) := by
    intro n
    induction n with
    | zero =>
      intro k d9 y9 hf9 hk9 hx9 H locs ls hS fo fj fk fe fr fw hl
      omega
    | succ n ih_35 =>
      intro k d9 y9 hf9 hk9 hx9 H locs ls hS fo fj fk fe fr fw hl
      refine lv_iload_n (pc := 35) hx hb dX5_digest_35 rfl (lv_at hl 2 rfl) ?_
      refine lv_bipush (pc := 36) (v := 6) hx hb dX5_digest_36 (by decide) ?_
      refine lv_icmp_ge (pc := 38) (tgt := 146) hx hb dX5_digest_38 (by decide) (fun c_22 => ?_) (fun c_22 => ?_)
      · refine W.widen (k := 3821) (n := 94303) (by omega) (by omega) ?_
        exact g2_X5_digest E hC hA hn hr hlk hPN hPs mo n9 kn th tt bb eT eB oT oB pk ca rf vs hQ ra rl ex ro rt hPm hPa hPl hPe hPr hPk hFk hFe hFr hpk hn9 d9 _ _ _ hS fo fj fk fe fr fw (lv_sub hl [0, 1] rfl)
      · have hkn : k < 6 := Nat.not_le.mp (fun z9 => c_22 (by rw [hx9]; exact nI_le (a := 6) z9 (by omega)))
        refine lv_iconst (pc := 41) (v := 0) hx hb dX5_digest_41 (by decide) ?_
        refine lv_istore (pc := 42) (lv' := [(4, .int 0), (0, .ref mo), (1, .long d9), (3, .int y9)]) hx hb dX5_digest_42 hl (by decide) rfl (fun ls hl => ?_)
        refine lv_iload (pc := 44) hx hb dX5_digest_44 (lv_at hl 0 rfl) ?_
        refine lv_iconst (pc := 46) (v := 4) hx hb dX5_digest_46 (by decide) ?_
        refine lv_icmp_ge (pc := 47) (tgt := 69) hx hb dX5_digest_47 (by decide) (fun c_86 => ?_) (fun c_86 => ?_)
        · exact absurd c_86 (by decide)
        refine lv_lload_n (pc := 50) hx hb dX5_digest_50 rfl (lv_at hl 2 rfl) ?_
        refine lv_aload_n (pc := 51) hx hb dX5_digest_51 rfl (lv_at hl 1 rfl) ?_
        refine lv_iload_n (pc := 52) hx hb dX5_digest_52 rfl (lv_at hl 3 rfl) ?_
        refine lv_iload (pc := 53) hx hb dX5_digest_53 (lv_at hl 0 rfl) ?_
        have hZ0_ := hS.1
        have t_fo := fo.lt
        have t_fj := fj.lt
        have t_fk := fun k (hk9 : k < 6) => (fk k hk9).lt
        have t_fe := fe.lt
        have t_fr := fr.lt
        refine k_i (pc := 55) (k_V E hC hS hA hl.1 (c1.recv hC fo rfl) rfl (c_X5_partNow l D tk N0 sa H.size P hPN mo n9 kn 0 tt bb eT eB oT oB pk ca rf vs y9 k hx9 hkn 0 0 rfl (by decide)) kw_1387 kw_1389 kp_23 kw_5 kw_1390 (n := 2) (by decide +kernel) rfl ⟨⟨rfl, rfl⟩, ⟨Nat.le_of_ble_eq_true rfl, Nat.le_of_ble_eq_true rfl⟩, (by dsimp only; omega), (by dsimp only; omega)⟩ rfl (Nat.le_of_ble_eq_true rfl) ⟨_, _, _, _, _, fo, fj, fk, fe, fr, fw, ⟨hPm, hPa, hPl, hPe, hPr, hPk⟩, hFk, hFe, hFr, hpk, hn9⟩ dX5_digest_55) hS (fun q z w => absurd w (Nat.not_le.mpr z)) hn (fun r_87 H locs hR hz hk hS => ?_)
        have fw := fw.new hk
        have fo := fo.kept (hk _ fo.lt (Nat.not_le.mpr fo.lt))
        have fj := fj.kept (hk _ fj.lt (Nat.not_le.mpr fj.lt))
        have fk := fk.new hk
        have fe := fe.kept (hk _ fe.lt (Nat.not_le.mpr fe.lt))
        have fr := fr.kept (hk _ fr.lt (Nat.not_le.mpr fr.lt))
        have er_87 := hR
        refine lv_i2l (pc := 58) (v := r_87.toInt64) hx hb dX5_digest_58 rfl ?_
        refine k_l (pc := 59) (k_S E hC hS hA hl.1 (c_X5_add l D tk N0 sa H.size d9 r_87.toInt64 ) kw_1805 kw_1806 kw_5 kw_1807 (n := 2) (by decide +kernel) rfl ⟨⟨rfl, rfl⟩, ⟨Nat.le_of_ble_eq_true rfl, Nat.le_of_ble_eq_true rfl⟩, (by dsimp only; omega), (by dsimp only; omega)⟩ rfl (Nat.le_of_ble_eq_true rfl) trivial dX5_digest_59) hS (fun q z w => absurd w (Nat.not_le.mpr z)) hn (fun r_88 H locs hR hz hk hS => ?_)
        have er_88 := hR
        have fw := fw.new hk
        have fo := fo.kept (hk _ fo.lt (Nat.not_le.mpr fo.lt))
        have fj := fj.kept (hk _ fj.lt (Nat.not_le.mpr fj.lt))
        have fk := fk.new hk
        have fe := fe.kept (hk _ fe.lt (Nat.not_le.mpr fe.lt))
        have fr := fr.kept (hk _ fr.lt (Nat.not_le.mpr fr.lt))
        refine lv_lstore_n (pc := 62) (lv' := [(1, .long r_88), (4, .int 0), (0, .ref mo), (3, .int y9)]) hx hb dX5_digest_62 rfl hl (by decide) rfl (fun ls hl => ?_)
        refine lv_iinc (pc := 63) (v := 1) (lv' := [(4, .int 1), (1, .long r_88), (0, .ref mo), (3, .int y9)]) hx hb dX5_digest_63 hl (k := 1) rfl (by decide) (by decide) rfl (fun ls hl => ?_)
        refine lv_goto (pc := 66) (tgt := 44) hx hb dX5_digest_66 (by decide) ?_
        refine lv_iload (pc := 44) hx hb dX5_digest_44 (lv_at hl 0 rfl) ?_
        refine lv_iconst (pc := 46) (v := 4) hx hb dX5_digest_46 (by decide) ?_
        refine lv_icmp_ge (pc := 47) (tgt := 69) hx hb dX5_digest_47 (by decide) (fun c_90 => ?_) (fun c_90 => ?_)
        · exact absurd c_90 (by decide)
        refine lv_lload_n (pc := 50) hx hb dX5_digest_50 rfl (lv_at hl 1 rfl) ?_
        refine lv_aload_n (pc := 51) hx hb dX5_digest_51 rfl (lv_at hl 2 rfl) ?_
        refine lv_iload_n (pc := 52) hx hb dX5_digest_52 rfl (lv_at hl 3 rfl) ?_
        refine lv_iload (pc := 53) hx hb dX5_digest_53 (lv_at hl 0 rfl) ?_
        have hZ0_ := hS.1
        have t_fo := fo.lt
        have t_fj := fj.lt
        have t_fk := fun k (hk9 : k < 6) => (fk k hk9).lt
        have t_fe := fe.lt
        have t_fr := fr.lt
        refine k_i (pc := 55) (k_V E hC hS hA hl.1 (c1.recv hC fo rfl) rfl (c_X5_partNow l D tk N0 sa H.size P hPN mo n9 kn 0 tt bb eT eB oT oB pk ca rf vs y9 k hx9 hkn 1 1 rfl (by decide)) kw_1387 kw_1389 kp_23 kw_5 kw_1390 (n := 2) (by decide +kernel) rfl ⟨⟨rfl, rfl⟩, ⟨Nat.le_of_ble_eq_true rfl, Nat.le_of_ble_eq_true rfl⟩, (by dsimp only; omega), (by dsimp only; omega)⟩ rfl (Nat.le_of_ble_eq_true rfl) ⟨_, _, _, _, _, fo, fj, fk, fe, fr, fw, ⟨hPm, hPa, hPl, hPe, hPr, hPk⟩, hFk, hFe, hFr, hpk, hn9⟩ dX5_digest_55) hS (fun q z w => absurd w (Nat.not_le.mpr z)) hn (fun r_91 H locs hR hz hk hS => ?_)
        have fw := fw.new hk
        have fo := fo.kept (hk _ fo.lt (Nat.not_le.mpr fo.lt))
        have fj := fj.kept (hk _ fj.lt (Nat.not_le.mpr fj.lt))
        have fk := fk.new hk
        have fe := fe.kept (hk _ fe.lt (Nat.not_le.mpr fe.lt))
        have fr := fr.kept (hk _ fr.lt (Nat.not_le.mpr fr.lt))
        have er_91 := hR
        refine lv_i2l (pc := 58) (v := r_91.toInt64) hx hb dX5_digest_58 rfl ?_
        refine k_l (pc := 59) (k_S E hC hS hA hl.1 (c_X5_add l D tk N0 sa H.size r_88 r_91.toInt64 ) kw_1805 kw_1806 kw_5 kw_1807 (n := 2) (by decide +kernel) rfl ⟨⟨rfl, rfl⟩, ⟨Nat.le_of_ble_eq_true rfl, Nat.le_of_ble_eq_true rfl⟩, (by dsimp only; omega), (by dsimp only; omega)⟩ rfl (Nat.le_of_ble_eq_true rfl) trivial dX5_digest_59) hS (fun q z w => absurd w (Nat.not_le.mpr z)) hn (fun r_92 H locs hR hz hk hS => ?_)
        have er_92 := hR
        have fw := fw.new hk
        have fo := fo.kept (hk _ fo.lt (Nat.not_le.mpr fo.lt))
        have fj := fj.kept (hk _ fj.lt (Nat.not_le.mpr fj.lt))
        have fk := fk.new hk
        have fe := fe.kept (hk _ fe.lt (Nat.not_le.mpr fe.lt))
        have fr := fr.kept (hk _ fr.lt (Nat.not_le.mpr fr.lt))
        refine lv_lstore_n (pc := 62) (lv' := [(1, .long r_92), (4, .int 1), (0, .ref mo), (3, .int y9)]) hx hb dX5_digest_62 rfl hl (by decide) rfl (fun ls hl => ?_)
        refine lv_iinc (pc := 63) (v := 2) (lv' := [(4, .int 2), (1, .long r_92), (0, .ref mo), (3, .int y9)]) hx hb dX5_digest_63 hl (k := 1) rfl (by decide) (by decide) rfl (fun ls hl => ?_)
        refine lv_goto (pc := 66) (tgt := 44) hx hb dX5_digest_66 (by decide) ?_
        refine lv_iload (pc := 44) hx hb dX5_digest_44 (lv_at hl 0 rfl) ?_
        refine lv_iconst (pc := 46) (v := 4) hx hb dX5_digest_46 (by decide) ?_
        refine lv_icmp_ge (pc := 47) (tgt := 69) hx hb dX5_digest_47 (by decide) (fun c_94 => ?_) (fun c_94 => ?_)
        · exact absurd c_94 (by decide)
        refine lv_lload_n (pc := 50) hx hb dX5_digest_50 rfl (lv_at hl 1 rfl) ?_
        refine lv_aload_n (pc := 51) hx hb dX5_digest_51 rfl (lv_at hl 2 rfl) ?_
        refine lv_iload_n (pc := 52) hx hb dX5_digest_52 rfl (lv_at hl 3 rfl) ?_
        refine lv_iload (pc := 53) hx hb dX5_digest_53 (lv_at hl 0 rfl) ?_
        have hZ0_ := hS.1
        have t_fo := fo.lt
        have t_fj := fj.lt
        have t_fk := fun k (hk9 : k < 6) => (fk k hk9).lt
        have t_fe := fe.lt
        have t_fr := fr.lt
        refine k_i (pc := 55) (k_V E hC hS hA hl.1 (c1.recv hC fo rfl) rfl (c_X5_partNow l D tk N0 sa H.size P hPN mo n9 kn 0 tt bb eT eB oT oB pk ca rf vs y9 k hx9 hkn 2 2 rfl (by decide)) kw_1387 kw_1389 kp_23 kw_5 kw_1390 (n := 2) (by decide +kernel) rfl ⟨⟨rfl, rfl⟩, ⟨Nat.le_of_ble_eq_true rfl, Nat.le_of_ble_eq_true rfl⟩, (by dsimp only; omega), (by dsimp only; omega)⟩ rfl (Nat.le_of_ble_eq_true rfl) ⟨_, _, _, _, _, fo, fj, fk, fe, fr, fw, ⟨hPm, hPa, hPl, hPe, hPr, hPk⟩, hFk, hFe, hFr, hpk, hn9⟩ dX5_digest_55) hS (fun q z w => absurd w (Nat.not_le.mpr z)) hn (fun r_95 H locs hR hz hk hS => ?_)
        have fw := fw.new hk
        have fo := fo.kept (hk _ fo.lt (Nat.not_le.mpr fo.lt))
        have fj := fj.kept (hk _ fj.lt (Nat.not_le.mpr fj.lt))
        have fk := fk.new hk
        have fe := fe.kept (hk _ fe.lt (Nat.not_le.mpr fe.lt))
        have fr := fr.kept (hk _ fr.lt (Nat.not_le.mpr fr.lt))
        have er_95 := hR
        refine lv_i2l (pc := 58) (v := r_95.toInt64) hx hb dX5_digest_58 rfl ?_
        refine k_l (pc := 59) (k_S E hC hS hA hl.1 (c_X5_add l D tk N0 sa H.size r_92 r_95.toInt64 ) kw_1805 kw_1806 kw_5 kw_1807 (n := 2) (by decide +kernel) rfl ⟨⟨rfl, rfl⟩, ⟨Nat.le_of_ble_eq_true rfl, Nat.le_of_ble_eq_true rfl⟩, (by dsimp only; omega), (by dsimp only; omega)⟩ rfl (Nat.le_of_ble_eq_true rfl) trivial dX5_digest_59) hS (fun q z w => absurd w (Nat.not_le.mpr z)) hn (fun r_96 H locs hR hz hk hS => ?_)
        have er_96 := hR
        have fw := fw.new hk
        have fo := fo.kept (hk _ fo.lt (Nat.not_le.mpr fo.lt))
        have fj := fj.kept (hk _ fj.lt (Nat.not_le.mpr fj.lt))
        have fk := fk.new hk
        have fe := fe.kept (hk _ fe.lt (Nat.not_le.mpr fe.lt))
        have fr := fr.kept (hk _ fr.lt (Nat.not_le.mpr fr.lt))
        refine lv_lstore_n (pc := 62) (lv' := [(1, .long r_96), (4, .int 2), (0, .ref mo), (3, .int y9)]) hx hb dX5_digest_62 rfl hl (by decide) rfl (fun ls hl => ?_)
        refine lv_iinc (pc := 63) (v := 3) (lv' := [(4, .int 3), (1, .long r_96), (0, .ref mo), (3, .int y9)]) hx hb dX5_digest_63 hl (k := 1) rfl (by decide) (by decide) rfl (fun ls hl => ?_)
        refine lv_goto (pc := 66) (tgt := 44) hx hb dX5_digest_66 (by decide) ?_
        refine lv_iload (pc := 44) hx hb dX5_digest_44 (lv_at hl 0 rfl) ?_
        refine lv_iconst (pc := 46) (v := 4) hx hb dX5_digest_46 (by decide) ?_
        refine lv_icmp_ge (pc := 47) (tgt := 69) hx hb dX5_digest_47 (by decide) (fun c_98 => ?_) (fun c_98 => ?_)
        · exact absurd c_98 (by decide)
        refine lv_lload_n (pc := 50) hx hb dX5_digest_50 rfl (lv_at hl 1 rfl) ?_
        refine lv_aload_n (pc := 51) hx hb dX5_digest_51 rfl (lv_at hl 2 rfl) ?_
        refine lv_iload_n (pc := 52) hx hb dX5_digest_52 rfl (lv_at hl 3 rfl) ?_
        refine lv_iload (pc := 53) hx hb dX5_digest_53 (lv_at hl 0 rfl) ?_
        have hZ0_ := hS.1
        have t_fo := fo.lt
        have t_fj := fj.lt
        have t_fk := fun k (hk9 : k < 6) => (fk k hk9).lt
        have t_fe := fe.lt
        have t_fr := fr.lt
        refine k_i (pc := 55) (k_V E hC hS hA hl.1 (c1.recv hC fo rfl) rfl (c_X5_partNow l D tk N0 sa H.size P hPN mo n9 kn 0 tt bb eT eB oT oB pk ca rf vs y9 k hx9 hkn 3 3 rfl (by decide)) kw_1387 kw_1389 kp_23 kw_5 kw_1390 (n := 2) (by decide +kernel) rfl ⟨⟨rfl, rfl⟩, ⟨Nat.le_of_ble_eq_true rfl, Nat.le_of_ble_eq_true rfl⟩, (by dsimp only; omega), (by dsimp only; omega)⟩ rfl (Nat.le_of_ble_eq_true rfl) ⟨_, _, _, _, _, fo, fj, fk, fe, fr, fw, ⟨hPm, hPa, hPl, hPe, hPr, hPk⟩, hFk, hFe, hFr, hpk, hn9⟩ dX5_digest_55) hS (fun q z w => absurd w (Nat.not_le.mpr z)) hn (fun r_99 H locs hR hz hk hS => ?_)
        have fw := fw.new hk
        have fo := fo.kept (hk _ fo.lt (Nat.not_le.mpr fo.lt))
        have fj := fj.kept (hk _ fj.lt (Nat.not_le.mpr fj.lt))
        have fk := fk.new hk
        have fe := fe.kept (hk _ fe.lt (Nat.not_le.mpr fe.lt))
        have fr := fr.kept (hk _ fr.lt (Nat.not_le.mpr fr.lt))
        have er_99 := hR
        refine lv_i2l (pc := 58) (v := r_99.toInt64) hx hb dX5_digest_58 rfl ?_
        refine k_l (pc := 59) (k_S E hC hS hA hl.1 (c_X5_add l D tk N0 sa H.size r_96 r_99.toInt64 ) kw_1805 kw_1806 kw_5 kw_1807 (n := 2) (by decide +kernel) rfl ⟨⟨rfl, rfl⟩, ⟨Nat.le_of_ble_eq_true rfl, Nat.le_of_ble_eq_true rfl⟩, (by dsimp only; omega), (by dsimp only; omega)⟩ rfl (Nat.le_of_ble_eq_true rfl) trivial dX5_digest_59) hS (fun q z w => absurd w (Nat.not_le.mpr z)) hn (fun r_100 H locs hR hz hk hS => ?_)
        have er_100 := hR
        have fw := fw.new hk
        have fo := fo.kept (hk _ fo.lt (Nat.not_le.mpr fo.lt))
        have fj := fj.kept (hk _ fj.lt (Nat.not_le.mpr fj.lt))
        have fk := fk.new hk
        have fe := fe.kept (hk _ fe.lt (Nat.not_le.mpr fe.lt))
        have fr := fr.kept (hk _ fr.lt (Nat.not_le.mpr fr.lt))
        refine lv_lstore_n (pc := 62) (lv' := [(1, .long r_100), (4, .int 3), (0, .ref mo), (3, .int y9)]) hx hb dX5_digest_62 rfl hl (by decide) rfl (fun ls hl => ?_)
        refine lv_iinc (pc := 63) (v := 4) (lv' := [(4, .int 4), (1, .long r_100), (0, .ref mo), (3, .int y9)]) hx hb dX5_digest_63 hl (k := 1) rfl (by decide) (by decide) rfl (fun ls hl => ?_)
        refine lv_goto (pc := 66) (tgt := 44) hx hb dX5_digest_66 (by decide) ?_
        refine lv_iload (pc := 44) hx hb dX5_digest_44 (lv_at hl 0 rfl) ?_
        refine lv_iconst (pc := 46) (v := 4) hx hb dX5_digest_46 (by decide) ?_
        refine lv_icmp_ge (pc := 47) (tgt := 69) hx hb dX5_digest_47 (by decide) (fun c_102 => ?_) (fun c_102 => ?_)
        rotate_left
        · exact absurd (by decide) c_102
        exact g6_X5_digest E hC hA hn hr hlk hPN hPs mo n9 kn th tt bb eT eB oT oB pk ca rf vs ra rl ex ro rt hPm hPa hPl hPe hPr hPk hFk hFe hFr hpk hn9 r_100 n k d9 y9 hf9 hk9 hx9 ih_35 hkn _ _ _ hS fo fj fk fe fr fw (lv_sub hl [1, 2, 3] rfl)
  refine W.widen (k := 5 + 636 * 0) (n := 25 + 15713 * 0) (by omega) (by omega) ?_
  exact loop_35 8 0  r_19 0 (by omega) (Nat.zero_le _) nI_0.symm _ _ _ hS fo fj fk fe fr fw (lv_sub hl [2, 1, 0] rfl)
set_option maxHeartbeats 4000000 in
set_option maxRecDepth 100000 in
/-- BestratiosModel.digest()J -/
theorem c_X5_digest (l : Launch) (D : va_G) (tk : Nat → ClassId) (N0 : Nat) (sa : Nat → Nat)  (sz : Nat) (P : Nat → Prop) (hPN : ∀ q, P q → N0 ≤ q) (hPs : ∀ q, sz ≤ q → P q) (mo n9 : Nat) (kn th : Int32) (tt bb : Nat → Int64) (eT eB oT oB : Int64) (pk : Nat) (ca rf : Int32) (vs : Nat → Value)  : Met l yX5_digest (wsy yX5_digest cX5_digest 5 (some .long)) ({ frames := 9, cells := 3869, slots := 94998, locals := 212 } : Room) (cP D tk N0 sa [.ref mo] sz (fun H => MI D tk sa P mo tt bb eT eB oT oB pk ca rf vs kn n9 th H)) (kQl (fun r H => ∃ th1, MI D tk sa P mo tt bb eT eB oT oB pk ca rf vs kn n9 th1 H) (P)) (3869) (94998) (P) := by
  refine mStart RX5 rfl (by decide +kernel) (Nat.le_of_ble_eq_true rfl) ?_
  intro p e s m args below meth c E hr hlk hnm hsz hC hF ls hl
  subst hsz
  obtain ⟨hx, hb, -⟩ := id E
  have hA : ∀ q, (P) q → N0 ≤ q := hPN
  have hn : ∀ q, s.heap.size ≤ q → (P) q := hPs
  have hS : va_S (P) s.heap s.heap [] := va_S.rf
  have hl : lv_has ls 5 [(0, .ref mo)] := hl
  obtain ⟨Q, hQ⟩ : ∃ Q, Q = MQ below (kQl (fun r H => ∃ th1, MI D tk sa P mo tt bb eT eB oT oB pk ca rf vs kn n9 th1 H) (P)) args s (3869) (94998) (P) := ⟨_, rfl⟩
  rw [← hQ]
  have hM : MI D tk sa P mo tt bb eT eB oT oB pk ca rf vs kn n9 th s.heap := hF
  obtain ⟨ra, rl, ex, ro, rt, fo, fj, fk, fe, fr, fw, ⟨hPm, hPa, hPl, hPe, hPr, hPk⟩, hFk, hFe, hFr, hpk, hn9⟩ := hM
  have g_fo := hPm
  have g_fj := hPa
  refine lv_aload_n (pc := 0) hx hb dX5_digest_0 rfl (lv_at hl 0 rfl) ?_
  refine lv_iconst (pc := 1) (v := 0) hx hb dX5_digest_1 (by decide) ?_
  refine r_put (pc := 2) E hC fo hS g_fo 8 tyX5 tyX5_ok nmX5 rfl (by decide) (Nat.le_of_ble_eq_true rfl) uX5 (List.mem_cons_of_mem _ kw_1217) (fun _ h => h) rfl rfl rfl dX5_digest_2 (fun H locs n_ ho hz hS => ?_)
  have fw := fw.put ho (fun q9 h9 => clA.ne h9 fo.cl (hC.oo 7 13 rfl rfl (by decide))) (fun q9 h9 => clA.ne h9 fo.cl (hC.ao 13 4 rfl rfl)) (fun q9 h9 => clA.ne h9 fo.cl (hC.ceo (Or.inr rfl) 13 rfl (by decide)))
  have nW_fo : ∀ k, k < 6 → rt k ≠ mo := fun k hk9 => clA.ne (fk k hk9).cla fo.cl (hC.ao 13 0 rfl rfl)
  have fj := fj.kept (ho _ (clA.ne fj.cla fo.cl (hC.ao 13 3 rfl rfl)))
  have fk := fk.kept (fun k hk9 => ho _ (nW_fo k hk9))
  have fe := fe.kept (ho _ (clA.ne fe.cla fo.cl (hC.ao 13 0 rfl rfl)))
  have fr := fr.kept (ho _ (clA.ne fr.cla fo.cl (hC.ao 13 0 rfl rfl)))
  have fo : c1 D mo (.inr (13, [.ref ra, .ref rl, .ref ex, .ref ro, .int (nI pk), .int ca, .int rf, .int kn, .int 0])) H := n_
  refine lv_ldc2 (pc := 5) (v := 7846) hx hb E.2.2.2.1 (E.2.2.2.2 _ (List.mem_cons_of_mem _ kw_1804)) dX5_digest_5 ?_
  refine lv_lstore_n (pc := 8) (lv' := [(1, .long 7846), (0, .ref mo)]) hx hb dX5_digest_8 rfl hl (by decide) rfl (fun ls hl => ?_)
  refine lv_iconst (pc := 9) (v := 0) hx hb dX5_digest_9 (by decide) ?_
  refine lv_istore_n (pc := 10) (lv' := [(3, .int 0), (1, .long 7846), (0, .ref mo)]) hx hb dX5_digest_10 rfl hl (by decide) rfl (fun ls hl => ?_)
  refine lv_iload_n (pc := 11) hx hb dX5_digest_11 rfl (lv_at hl 0 rfl) ?_
  refine lv_iconst (pc := 12) (v := 5) hx hb dX5_digest_12 (by decide) ?_
  refine lv_icmp_ge (pc := 13) (tgt := 33) hx hb dX5_digest_13 (by decide) (fun c_1 => ?_) (fun c_1 => ?_)
  · exact absurd c_1 (by decide)
  refine lv_lload_n (pc := 16) hx hb dX5_digest_16 rfl (lv_at hl 1 rfl) ?_
  refine lv_aload_n (pc := 17) hx hb dX5_digest_17 rfl (lv_at hl 2 rfl) ?_
  refine lv_iload_n (pc := 18) hx hb dX5_digest_18 rfl (lv_at hl 0 rfl) ?_
  have hZ0_ := hS.1
  have t_fo := fo.lt
  have t_fj := fj.lt
  have t_fk := fun k (hk9 : k < 6) => (fk k hk9).lt
  have t_fe := fe.lt
  have t_fr := fr.lt
  refine k_i (pc := 19) (k_V E hC hS hA hl.1 (c1.recv hC fo rfl) rfl (c_X5_houseNow l D tk N0 sa H.size P hPN mo n9 kn 0 tt bb eT eB oT oB pk ca rf vs 0 0 rfl (by decide)) kw_1791 kw_1793 kp_35 kw_5 kw_1794 (n := 1) (by decide +kernel) rfl ⟨⟨rfl, rfl⟩, ⟨Nat.le_of_ble_eq_true rfl, Nat.le_of_ble_eq_true rfl⟩, (by dsimp only; omega), (by dsimp only; omega)⟩ rfl (Nat.le_of_ble_eq_true rfl) ⟨_, _, _, _, _, fo, fj, fk, fe, fr, fw, ⟨hPm, hPa, hPl, hPe, hPr, hPk⟩, hFk, hFe, hFr, hpk, hn9⟩ dX5_digest_19) hS (fun q z w => absurd w (Nat.not_le.mpr z)) hn (fun r_2 H locs hR hz hk hS => ?_)
  have fw := fw.new hk
  have fo := fo.kept (hk _ fo.lt (Nat.not_le.mpr fo.lt))
  have fj := fj.kept (hk _ fj.lt (Nat.not_le.mpr fj.lt))
  have fk := fk.new hk
  have fe := fe.kept (hk _ fe.lt (Nat.not_le.mpr fe.lt))
  have fr := fr.kept (hk _ fr.lt (Nat.not_le.mpr fr.lt))
  have er_2 := hR
  refine lv_i2l (pc := 22) (v := r_2.toInt64) hx hb dX5_digest_22 rfl ?_
  refine k_l (pc := 23) (k_S E hC hS hA hl.1 (c_X5_add l D tk N0 sa H.size 7846 r_2.toInt64 ) kw_1805 kw_1806 kw_5 kw_1807 (n := 2) (by decide +kernel) rfl ⟨⟨rfl, rfl⟩, ⟨Nat.le_of_ble_eq_true rfl, Nat.le_of_ble_eq_true rfl⟩, (by dsimp only; omega), (by dsimp only; omega)⟩ rfl (Nat.le_of_ble_eq_true rfl) trivial dX5_digest_23) hS (fun q z w => absurd w (Nat.not_le.mpr z)) hn (fun r_3 H locs hR hz hk hS => ?_)
  have er_3 := hR
  have fw := fw.new hk
  have fo := fo.kept (hk _ fo.lt (Nat.not_le.mpr fo.lt))
  have fj := fj.kept (hk _ fj.lt (Nat.not_le.mpr fj.lt))
  have fk := fk.new hk
  have fe := fe.kept (hk _ fe.lt (Nat.not_le.mpr fe.lt))
  have fr := fr.kept (hk _ fr.lt (Nat.not_le.mpr fr.lt))
  refine lv_lstore_n (pc := 26) (lv' := [(1, .long r_3), (3, .int 0), (0, .ref mo)]) hx hb dX5_digest_26 rfl hl (by decide) rfl (fun ls hl => ?_)
  refine lv_iinc (pc := 27) (v := 1) (lv' := [(3, .int 1), (1, .long r_3), (0, .ref mo)]) hx hb dX5_digest_27 hl (k := 1) rfl (by decide) (by decide) rfl (fun ls hl => ?_)
  refine lv_goto (pc := 30) (tgt := 11) hx hb dX5_digest_30 (by decide) ?_
  refine lv_iload_n (pc := 11) hx hb dX5_digest_11 rfl (lv_at hl 0 rfl) ?_
  refine lv_iconst (pc := 12) (v := 5) hx hb dX5_digest_12 (by decide) ?_
  refine lv_icmp_ge (pc := 13) (tgt := 33) hx hb dX5_digest_13 (by decide) (fun c_5 => ?_) (fun c_5 => ?_)
  · exact absurd c_5 (by decide)
  refine lv_lload_n (pc := 16) hx hb dX5_digest_16 rfl (lv_at hl 1 rfl) ?_
  refine lv_aload_n (pc := 17) hx hb dX5_digest_17 rfl (lv_at hl 2 rfl) ?_
  refine lv_iload_n (pc := 18) hx hb dX5_digest_18 rfl (lv_at hl 0 rfl) ?_
  have hZ0_ := hS.1
  have t_fo := fo.lt
  have t_fj := fj.lt
  have t_fk := fun k (hk9 : k < 6) => (fk k hk9).lt
  have t_fe := fe.lt
  have t_fr := fr.lt
  refine k_i (pc := 19) (k_V E hC hS hA hl.1 (c1.recv hC fo rfl) rfl (c_X5_houseNow l D tk N0 sa H.size P hPN mo n9 kn 0 tt bb eT eB oT oB pk ca rf vs 1 1 rfl (by decide)) kw_1791 kw_1793 kp_35 kw_5 kw_1794 (n := 1) (by decide +kernel) rfl ⟨⟨rfl, rfl⟩, ⟨Nat.le_of_ble_eq_true rfl, Nat.le_of_ble_eq_true rfl⟩, (by dsimp only; omega), (by dsimp only; omega)⟩ rfl (Nat.le_of_ble_eq_true rfl) ⟨_, _, _, _, _, fo, fj, fk, fe, fr, fw, ⟨hPm, hPa, hPl, hPe, hPr, hPk⟩, hFk, hFe, hFr, hpk, hn9⟩ dX5_digest_19) hS (fun q z w => absurd w (Nat.not_le.mpr z)) hn (fun r_6 H locs hR hz hk hS => ?_)
  have fw := fw.new hk
  have fo := fo.kept (hk _ fo.lt (Nat.not_le.mpr fo.lt))
  have fj := fj.kept (hk _ fj.lt (Nat.not_le.mpr fj.lt))
  have fk := fk.new hk
  have fe := fe.kept (hk _ fe.lt (Nat.not_le.mpr fe.lt))
  have fr := fr.kept (hk _ fr.lt (Nat.not_le.mpr fr.lt))
  have er_6 := hR
  refine lv_i2l (pc := 22) (v := r_6.toInt64) hx hb dX5_digest_22 rfl ?_
  refine k_l (pc := 23) (k_S E hC hS hA hl.1 (c_X5_add l D tk N0 sa H.size r_3 r_6.toInt64 ) kw_1805 kw_1806 kw_5 kw_1807 (n := 2) (by decide +kernel) rfl ⟨⟨rfl, rfl⟩, ⟨Nat.le_of_ble_eq_true rfl, Nat.le_of_ble_eq_true rfl⟩, (by dsimp only; omega), (by dsimp only; omega)⟩ rfl (Nat.le_of_ble_eq_true rfl) trivial dX5_digest_23) hS (fun q z w => absurd w (Nat.not_le.mpr z)) hn (fun r_7 H locs hR hz hk hS => ?_)
  have er_7 := hR
  have fw := fw.new hk
  have fo := fo.kept (hk _ fo.lt (Nat.not_le.mpr fo.lt))
  have fj := fj.kept (hk _ fj.lt (Nat.not_le.mpr fj.lt))
  have fk := fk.new hk
  have fe := fe.kept (hk _ fe.lt (Nat.not_le.mpr fe.lt))
  have fr := fr.kept (hk _ fr.lt (Nat.not_le.mpr fr.lt))
  refine lv_lstore_n (pc := 26) (lv' := [(1, .long r_7), (3, .int 1), (0, .ref mo)]) hx hb dX5_digest_26 rfl hl (by decide) rfl (fun ls hl => ?_)
  refine lv_iinc (pc := 27) (v := 2) (lv' := [(3, .int 2), (1, .long r_7), (0, .ref mo)]) hx hb dX5_digest_27 hl (k := 1) rfl (by decide) (by decide) rfl (fun ls hl => ?_)
  refine lv_goto (pc := 30) (tgt := 11) hx hb dX5_digest_30 (by decide) ?_
  refine lv_iload_n (pc := 11) hx hb dX5_digest_11 rfl (lv_at hl 0 rfl) ?_
  refine lv_iconst (pc := 12) (v := 5) hx hb dX5_digest_12 (by decide) ?_
  refine lv_icmp_ge (pc := 13) (tgt := 33) hx hb dX5_digest_13 (by decide) (fun c_9 => ?_) (fun c_9 => ?_)
  · exact absurd c_9 (by decide)
  refine lv_lload_n (pc := 16) hx hb dX5_digest_16 rfl (lv_at hl 1 rfl) ?_
  refine lv_aload_n (pc := 17) hx hb dX5_digest_17 rfl (lv_at hl 2 rfl) ?_
  refine lv_iload_n (pc := 18) hx hb dX5_digest_18 rfl (lv_at hl 0 rfl) ?_
  have hZ0_ := hS.1
  have t_fo := fo.lt
  have t_fj := fj.lt
  have t_fk := fun k (hk9 : k < 6) => (fk k hk9).lt
  have t_fe := fe.lt
  have t_fr := fr.lt
  refine k_i (pc := 19) (k_V E hC hS hA hl.1 (c1.recv hC fo rfl) rfl (c_X5_houseNow l D tk N0 sa H.size P hPN mo n9 kn 0 tt bb eT eB oT oB pk ca rf vs 2 2 rfl (by decide)) kw_1791 kw_1793 kp_35 kw_5 kw_1794 (n := 1) (by decide +kernel) rfl ⟨⟨rfl, rfl⟩, ⟨Nat.le_of_ble_eq_true rfl, Nat.le_of_ble_eq_true rfl⟩, (by dsimp only; omega), (by dsimp only; omega)⟩ rfl (Nat.le_of_ble_eq_true rfl) ⟨_, _, _, _, _, fo, fj, fk, fe, fr, fw, ⟨hPm, hPa, hPl, hPe, hPr, hPk⟩, hFk, hFe, hFr, hpk, hn9⟩ dX5_digest_19) hS (fun q z w => absurd w (Nat.not_le.mpr z)) hn (fun r_10 H locs hR hz hk hS => ?_)
  have fw := fw.new hk
  have fo := fo.kept (hk _ fo.lt (Nat.not_le.mpr fo.lt))
  have fj := fj.kept (hk _ fj.lt (Nat.not_le.mpr fj.lt))
  have fk := fk.new hk
  have fe := fe.kept (hk _ fe.lt (Nat.not_le.mpr fe.lt))
  have fr := fr.kept (hk _ fr.lt (Nat.not_le.mpr fr.lt))
  have er_10 := hR
  refine lv_i2l (pc := 22) (v := r_10.toInt64) hx hb dX5_digest_22 rfl ?_
  refine k_l (pc := 23) (k_S E hC hS hA hl.1 (c_X5_add l D tk N0 sa H.size r_7 r_10.toInt64 ) kw_1805 kw_1806 kw_5 kw_1807 (n := 2) (by decide +kernel) rfl ⟨⟨rfl, rfl⟩, ⟨Nat.le_of_ble_eq_true rfl, Nat.le_of_ble_eq_true rfl⟩, (by dsimp only; omega), (by dsimp only; omega)⟩ rfl (Nat.le_of_ble_eq_true rfl) trivial dX5_digest_23) hS (fun q z w => absurd w (Nat.not_le.mpr z)) hn (fun r_11 H locs hR hz hk hS => ?_)
  have er_11 := hR
  have fw := fw.new hk
  have fo := fo.kept (hk _ fo.lt (Nat.not_le.mpr fo.lt))
  have fj := fj.kept (hk _ fj.lt (Nat.not_le.mpr fj.lt))
  have fk := fk.new hk
  have fe := fe.kept (hk _ fe.lt (Nat.not_le.mpr fe.lt))
  have fr := fr.kept (hk _ fr.lt (Nat.not_le.mpr fr.lt))
  refine lv_lstore_n (pc := 26) (lv' := [(1, .long r_11), (3, .int 2), (0, .ref mo)]) hx hb dX5_digest_26 rfl hl (by decide) rfl (fun ls hl => ?_)
  refine lv_iinc (pc := 27) (v := 3) (lv' := [(3, .int 3), (1, .long r_11), (0, .ref mo)]) hx hb dX5_digest_27 hl (k := 1) rfl (by decide) (by decide) rfl (fun ls hl => ?_)
  refine lv_goto (pc := 30) (tgt := 11) hx hb dX5_digest_30 (by decide) ?_
  refine lv_iload_n (pc := 11) hx hb dX5_digest_11 rfl (lv_at hl 0 rfl) ?_
  refine lv_iconst (pc := 12) (v := 5) hx hb dX5_digest_12 (by decide) ?_
  refine lv_icmp_ge (pc := 13) (tgt := 33) hx hb dX5_digest_13 (by decide) (fun c_13 => ?_) (fun c_13 => ?_)
  · exact absurd c_13 (by decide)
  refine lv_lload_n (pc := 16) hx hb dX5_digest_16 rfl (lv_at hl 1 rfl) ?_
  refine lv_aload_n (pc := 17) hx hb dX5_digest_17 rfl (lv_at hl 2 rfl) ?_
  refine lv_iload_n (pc := 18) hx hb dX5_digest_18 rfl (lv_at hl 0 rfl) ?_
  have hZ0_ := hS.1
  have t_fo := fo.lt
  have t_fj := fj.lt
  have t_fk := fun k (hk9 : k < 6) => (fk k hk9).lt
  have t_fe := fe.lt
  have t_fr := fr.lt
  refine k_i (pc := 19) (k_V E hC hS hA hl.1 (c1.recv hC fo rfl) rfl (c_X5_houseNow l D tk N0 sa H.size P hPN mo n9 kn 0 tt bb eT eB oT oB pk ca rf vs 3 3 rfl (by decide)) kw_1791 kw_1793 kp_35 kw_5 kw_1794 (n := 1) (by decide +kernel) rfl ⟨⟨rfl, rfl⟩, ⟨Nat.le_of_ble_eq_true rfl, Nat.le_of_ble_eq_true rfl⟩, (by dsimp only; omega), (by dsimp only; omega)⟩ rfl (Nat.le_of_ble_eq_true rfl) ⟨_, _, _, _, _, fo, fj, fk, fe, fr, fw, ⟨hPm, hPa, hPl, hPe, hPr, hPk⟩, hFk, hFe, hFr, hpk, hn9⟩ dX5_digest_19) hS (fun q z w => absurd w (Nat.not_le.mpr z)) hn (fun r_14 H locs hR hz hk hS => ?_)
  have fw := fw.new hk
  have fo := fo.kept (hk _ fo.lt (Nat.not_le.mpr fo.lt))
  have fj := fj.kept (hk _ fj.lt (Nat.not_le.mpr fj.lt))
  have fk := fk.new hk
  have fe := fe.kept (hk _ fe.lt (Nat.not_le.mpr fe.lt))
  have fr := fr.kept (hk _ fr.lt (Nat.not_le.mpr fr.lt))
  have er_14 := hR
  refine lv_i2l (pc := 22) (v := r_14.toInt64) hx hb dX5_digest_22 rfl ?_
  refine k_l (pc := 23) (k_S E hC hS hA hl.1 (c_X5_add l D tk N0 sa H.size r_11 r_14.toInt64 ) kw_1805 kw_1806 kw_5 kw_1807 (n := 2) (by decide +kernel) rfl ⟨⟨rfl, rfl⟩, ⟨Nat.le_of_ble_eq_true rfl, Nat.le_of_ble_eq_true rfl⟩, (by dsimp only; omega), (by dsimp only; omega)⟩ rfl (Nat.le_of_ble_eq_true rfl) trivial dX5_digest_23) hS (fun q z w => absurd w (Nat.not_le.mpr z)) hn (fun r_15 H locs hR hz hk hS => ?_)
  have er_15 := hR
  have fw := fw.new hk
  have fo := fo.kept (hk _ fo.lt (Nat.not_le.mpr fo.lt))
  have fj := fj.kept (hk _ fj.lt (Nat.not_le.mpr fj.lt))
  have fk := fk.new hk
  have fe := fe.kept (hk _ fe.lt (Nat.not_le.mpr fe.lt))
  have fr := fr.kept (hk _ fr.lt (Nat.not_le.mpr fr.lt))
  refine lv_lstore_n (pc := 26) (lv' := [(1, .long r_15), (3, .int 3), (0, .ref mo)]) hx hb dX5_digest_26 rfl hl (by decide) rfl (fun ls hl => ?_)
  refine lv_iinc (pc := 27) (v := 4) (lv' := [(3, .int 4), (1, .long r_15), (0, .ref mo)]) hx hb dX5_digest_27 hl (k := 1) rfl (by decide) (by decide) rfl (fun ls hl => ?_)
  refine lv_goto (pc := 30) (tgt := 11) hx hb dX5_digest_30 (by decide) ?_
  refine lv_iload_n (pc := 11) hx hb dX5_digest_11 rfl (lv_at hl 0 rfl) ?_
  refine lv_iconst (pc := 12) (v := 5) hx hb dX5_digest_12 (by decide) ?_
  refine lv_icmp_ge (pc := 13) (tgt := 33) hx hb dX5_digest_13 (by decide) (fun c_17 => ?_) (fun c_17 => ?_)
  · exact absurd c_17 (by decide)
  refine lv_lload_n (pc := 16) hx hb dX5_digest_16 rfl (lv_at hl 1 rfl) ?_
  refine lv_aload_n (pc := 17) hx hb dX5_digest_17 rfl (lv_at hl 2 rfl) ?_
  refine lv_iload_n (pc := 18) hx hb dX5_digest_18 rfl (lv_at hl 0 rfl) ?_
  have hZ0_ := hS.1
  have t_fo := fo.lt
  have t_fj := fj.lt
  have t_fk := fun k (hk9 : k < 6) => (fk k hk9).lt
  have t_fe := fe.lt
  have t_fr := fr.lt
  refine k_i (pc := 19) (k_V E hC hS hA hl.1 (c1.recv hC fo rfl) rfl (c_X5_houseNow l D tk N0 sa H.size P hPN mo n9 kn 0 tt bb eT eB oT oB pk ca rf vs 4 4 rfl (by decide)) kw_1791 kw_1793 kp_35 kw_5 kw_1794 (n := 1) (by decide +kernel) rfl ⟨⟨rfl, rfl⟩, ⟨Nat.le_of_ble_eq_true rfl, Nat.le_of_ble_eq_true rfl⟩, (by dsimp only; omega), (by dsimp only; omega)⟩ rfl (Nat.le_of_ble_eq_true rfl) ⟨_, _, _, _, _, fo, fj, fk, fe, fr, fw, ⟨hPm, hPa, hPl, hPe, hPr, hPk⟩, hFk, hFe, hFr, hpk, hn9⟩ dX5_digest_19) hS (fun q z w => absurd w (Nat.not_le.mpr z)) hn (fun r_18 H locs hR hz hk hS => ?_)
  have fw := fw.new hk
  have fo := fo.kept (hk _ fo.lt (Nat.not_le.mpr fo.lt))
  have fj := fj.kept (hk _ fj.lt (Nat.not_le.mpr fj.lt))
  have fk := fk.new hk
  have fe := fe.kept (hk _ fe.lt (Nat.not_le.mpr fe.lt))
  have fr := fr.kept (hk _ fr.lt (Nat.not_le.mpr fr.lt))
  have er_18 := hR
  refine lv_i2l (pc := 22) (v := r_18.toInt64) hx hb dX5_digest_22 rfl ?_
  refine k_l (pc := 23) (k_S E hC hS hA hl.1 (c_X5_add l D tk N0 sa H.size r_15 r_18.toInt64 ) kw_1805 kw_1806 kw_5 kw_1807 (n := 2) (by decide +kernel) rfl ⟨⟨rfl, rfl⟩, ⟨Nat.le_of_ble_eq_true rfl, Nat.le_of_ble_eq_true rfl⟩, (by dsimp only; omega), (by dsimp only; omega)⟩ rfl (Nat.le_of_ble_eq_true rfl) trivial dX5_digest_23) hS (fun q z w => absurd w (Nat.not_le.mpr z)) hn (fun r_19 H locs hR hz hk hS => ?_)
  have er_19 := hR
  have fw := fw.new hk
  have fo := fo.kept (hk _ fo.lt (Nat.not_le.mpr fo.lt))
  have fj := fj.kept (hk _ fj.lt (Nat.not_le.mpr fj.lt))
  have fk := fk.new hk
  have fe := fe.kept (hk _ fe.lt (Nat.not_le.mpr fe.lt))
  have fr := fr.kept (hk _ fr.lt (Nat.not_le.mpr fr.lt))
  refine lv_lstore_n (pc := 26) (lv' := [(1, .long r_19), (3, .int 4), (0, .ref mo)]) hx hb dX5_digest_26 rfl hl (by decide) rfl (fun ls hl => ?_)
  refine lv_iinc (pc := 27) (v := 5) (lv' := [(3, .int 5), (1, .long r_19), (0, .ref mo)]) hx hb dX5_digest_27 hl (k := 1) rfl (by decide) (by decide) rfl (fun ls hl => ?_)
  refine lv_goto (pc := 30) (tgt := 11) hx hb dX5_digest_30 (by decide) ?_
  refine lv_iload_n (pc := 11) hx hb dX5_digest_11 rfl (lv_at hl 0 rfl) ?_
  refine lv_iconst (pc := 12) (v := 5) hx hb dX5_digest_12 (by decide) ?_
  refine lv_icmp_ge (pc := 13) (tgt := 33) hx hb dX5_digest_13 (by decide) (fun c_21 => ?_) (fun c_21 => ?_)
  rotate_left
  · exact absurd (by decide) c_21
  exact g1_X5_digest E hC hA hn hr hlk hPN hPs mo n9 kn th tt bb eT eB oT oB pk ca rf vs hQ ra rl ex ro rt hPm hPa hPl hPe hPr hPk hFk hFe hFr hpk hn9 r_19 _ _ _ hS fo fj fk fe fr fw (lv_sub hl [1, 2] rfl)
set_option maxHeartbeats 4000000 in
set_option maxRecDepth 100000 in
/-- BestratiosModel.thrown()I -/
theorem c_X5_thrown (l : Launch) (D : va_G) (tk : Nat → ClassId) (N0 : Nat) (sa : Nat → Nat)  (sz : Nat) (P : Nat → Prop) (hPN : ∀ q, P q → N0 ≤ q) (mo n9 : Nat) (kn th : Int32) (tt bb : Nat → Int64) (eT eB oT oB : Int64) (pk : Nat) (ca rf : Int32) (vs : Nat → Value)  : Met l yX5_thrown (wsy yX5_thrown cX5_thrown 1 (some .int)) ({ frames := 0, cells := 0, slots := 0, locals := 0 } : Room) (cP D tk N0 sa [.ref mo] sz (fun H => MI D tk sa P mo tt bb eT eB oT oB pk ca rf vs kn n9 th H)) (kQi (fun r H => r = th) (nwA sz)) (0) (0) (nwA sz) := by
  refine mStart RX5 rfl (by decide +kernel) (Nat.le_of_ble_eq_true rfl) ?_
  intro p e s m args below meth c E hr hlk hnm hsz hC hF ls hl
  subst hsz
  obtain ⟨hx, hb, -⟩ := id E
  have hA : ∀ q, (nwA s.heap.size) q → N0 ≤ q := fun q h => Nat.le_trans hC.2.1 h
  have hn : ∀ q, s.heap.size ≤ q → (nwA s.heap.size) q := fun q h => h
  have hS : va_S (nwA s.heap.size) s.heap s.heap [] := va_S.rf
  have hl : lv_has ls 1 [(0, .ref mo)] := hl
  have hM : MI D tk sa P mo tt bb eT eB oT oB pk ca rf vs kn n9 th s.heap := hF
  obtain ⟨ra, rl, ex, ro, rt, fo, fj, fk, fe, fr, fw, ⟨hPm, hPa, hPl, hPe, hPr, hPk⟩, hFk, hFe, hFr, hpk, hn9⟩ := hM
  refine lv_aload_n (pc := 0) hx hb dX5_thrown_0 rfl (lv_at hl 0 rfl) ?_
  refine r_get (pc := 1) E hC fo 8 (v := .int th) rfl rfl (by decide) uX5 (List.mem_cons_of_mem _ kw_1217) (fun _ h => h) dX5_thrown_1 ?_
  refine r_iret (pc := 4) E hr hlk hS (by omega) (by omega) ?_ dX5_thrown_4
  rfl
/-! ===== the start of the reference, and the class's state over the law's calls ===== -/
theorem m_F00 : m_F 0 1 := ⟨by decide +kernel, by decide +kernel, by decide +kernel⟩
theorem m_D00 : m_D4 1 := by
  have e : (1 : Int64).toInt.natAbs = 1 := by decide +kernel
  unfold m_D4
  rw [e]
  exact Nat.one_dvd _
/-! what all calls of the class leave as it is: the tops of the RATIOS and of ROUNDED, the ROW's count, the knocks, the places -/
def lk (g g1 : CS) : Prop := (∀ i, i < 6 ∨ i = 10 → tT g1 i = tT g i) ∧ tC g1 0 = tC g 0 ∧ tI g1 1 = tI g 1 ∧ tI g1 3 = tI g 3
theorem lk_rf (g : CS) : lk g g := ⟨fun _ _ => rfl, rfl, rfl, rfl⟩
theorem lk.tr {a b c : CS} (h : lk a b) (k : lk b c) : lk a c := ⟨fun i hi => (k.1 i hi).trans (h.1 i hi), k.2.1.trans h.2.1, k.2.2.1.trans h.2.2.1, k.2.2.2.trans h.2.2.2⟩
theorem lk_ite {g a b : CS} {w : Prop} {d : Decidable w} (h : lk g a) (k : lk g b) : lk g (@ite CS w d a b) := by
  cases d with
  | isTrue _ => exact h
  | isFalse _ => exact k
theorem lk_it2 {g : CS} {a b : Int32 × CS} {w : Prop} {d : Decidable w} (h : lk g a.2) (k : lk g b.2) : lk g (@ite (Int32 × CS) w d a b).2 := by
  cases d with
  | isTrue _ => exact h
  | isFalse _ => exact k
theorem lk_p0 {g x : CS} {r : Int32} (h : lk g x) : lk g (r, x).2 := h
theorem lk_sm {g g1 : CS} (h : tx_sm g g1) : lk g g1 := ⟨fun i _ => by rw [h.1], h.2.2.1, by rw [h.2.2.2.1], by rw [h.2.2.2.1]⟩
def lks (i : Nat) : Prop := 6 ≤ i ∧ i ≠ 10
theorem lks_ne {i : Nat} (h : lks i) {k : Nat} (hk : k < 6 ∨ k = 10) : k ≠ i := by
  unfold lks at h
  omega
theorem lk_T (g : CS) {i : Nat} (hi : lks i) (v : Int64) : lk g (uT g i v) := ⟨fun k hk => va_up_ne _ _ (lks_ne hi hk), rfl, rfl, rfl⟩
theorem lk_B (g : CS) (i : Nat) (v : Int64) : lk g (uB g i v) := ⟨fun _ _ => rfl, rfl, rfl, rfl⟩
theorem lk_I (g : CS) {j : Nat} (h1 : 1 ≠ j) (h3 : 3 ≠ j) (v : Int32) : lk g (uI g j v) := ⟨fun _ _ => rfl, rfl, va_up_ne _ _ h1, va_up_ne _ _ h3⟩
theorem lk_bec (g : CS) {i : Nat} (hi : lks i) (t b : Int64) : lk g (f_become g i t b) := by
  unfold f_become
  exact lk_ite (lk_rf g) ((lk_T g hi _).tr (lk_B _ i _))
theorem lk_asg (g : CS) {i : Nat} (hi : lks i) (j : Nat) : lk g (f_assign g i j) := (lk_T g hi _).tr (lk_B _ i _)
theorem lk_ref (g : CS) : lk g (f_refW g) := lk_I g (by decide) (by decide) _
theorem lk_gat (g : CS) {i : Nat} (hi : lks i) (t b u v : Int64) : lk g (f_gather g i t b u v) := lk_bec g hi _ _
theorem lk_sum (g : CS) {i : Nat} (hi : lks i) (j k : Nat) : lk g (f_sum g i j k) := lk_gat g hi _ _ _ _
theorem lk_dif (g : CS) {i : Nat} (hi : lks i) (j k : Nat) : lk g (f_dif g i j k) := lk_gat g hi _ _ _ _
theorem lk_mul (g : CS) {i : Nat} (hi : lks i) (j k : Nat) : lk g (f_mul g i j k) := lk_bec g hi _ _
theorem lk_quo (g : CS) {i : Nat} (hi : lks i) (j k : Nat) : lk g (f_quo g i j k) := lk_bec g hi _ _
theorem lk_med (g : CS) {i : Nat} (hi : lks i) (j k : Nat) : lk g (f_med g i j k) := lk_bec g hi _ _
theorem lk_foll (g : CS) {i : Nat} (hi : lks i) (j : Nat) : lk g (f_foll g i j) := lk_bec g hi _ _
theorem lk_fore (g : CS) {i : Nat} (hi : lks i) (j : Nat) : lk g (f_fore g i j) := lk_bec g hi _ _
theorem lk_nb (g : CS) {i : Nat} (hi : lks i) (j : Nat) (bd sd : Int32) : lk g (f_nb g i j bd sd) := lk_bec g hi _ _
theorem lk_pow (g : CS) {i : Nat} (hi : lks i) (j : Nat) (x : Int32) : lk g (f_power g i j x) := by
  unfold f_power
  exact lk_ite (lk_bec g hi _ _) (lk_bec g hi _ _)
theorem lk_last (g : CS) (v : Int64) : lk g (f_addLast g 1 v) := lk_sm (tx_smL g v)
theorem lk_add (g : CS) (v : Int64) : lk g (f_addTo g 1 v) := lk_sm (tx_smA g v)
theorem lk_apt (g : CS) (i : Nat) : lk g (f_apart g 1 i) := lk_sm (tx_smp g i)
theorem lk_keep (g : CS) (k : Int32) : lk g (f_keep g 1 k) := by
  unfold f_keep
  exact lk_ite (lk_rf g) (lk_ite (lk_rf g) (lk_sm (tx_smC g k)))
theorem lk_fw (g : CS) (j : Nat) {i : Nat} (hi : lks i) : lk g (f_foldW g j i) := by
  unfold f_foldW
  split
  · exact lk_rf g
  · exact lk_bec g hi _ _
theorem lks6 : lks 6 := ⟨by decide, by decide⟩
theorem lks7 : lks 7 := ⟨by decide, by decide⟩
theorem lks8 : lks 8 := ⟨by decide, by decide⟩
theorem lk_upW (g : CS) (i : Nat) : lk g (f_upW g i) := (lk_apt g i).tr (lk_add _ _)
theorem lk_stU (g : CS) (i : Nat) : lk g (f_stUW g i) := (lk_upW g i).tr (lk_fw _ 1 lks6)
theorem lk_dnG (g : CS) (b : Int32) : lk g (f_dnG g b) := by
  unfold f_dnG
  exact lk_ite (lk_ite (lk_add g 1) ((lk_add g (-1)).tr (lk_last _ 2))) (lk_ite (lk_add g 1) ((lk_add g (-1)).tr (lk_last _ 2)))
theorem lk_stD (g : CS) (i : Nat) (b : Int32) : lk g (f_stDW g i b) := ((lk_apt g i).tr (lk_dnG _ b)).tr (lk_fw _ 1 lks6)
theorem lk_depW (g : CS) (i : Nat) : lk g (f_depW g i) := lk_sm (tx_smD g i)
theorem lk_bestG (g : CS) (j : Nat) (n : Int32) : lk g (f_bestG g j n) := (lk_nb g lks7 j n 1).tr (lk_nb _ lks8 j n (-1))
theorem lk_best (g : CS) (j : Nat) (n : Int32) : lk g (f_best g j n) := by
  unfold f_best
  exact lk_ite ((lk_bestG g j n).tr (lk_asg _ lks6 8)) ((lk_bestG g j n).tr (lk_asg _ lks6 7))
theorem lk_smp (g : CS) (j : Nat) (pl md : Int32) : lk g (f_sm g 6 j pl md) := by
  unfold f_sm
  split
  · exact lk_rf g
  · exact lk_bec g lks6 _ _
/-! soundness -/
theorem lk_fsnd (g : CS) (i : Nat) : lk g (f_fsndW g i) := by
  unfold f_fsndW
  exact lk_ite ((lk_apt g i).tr (lk_fw _ 1 lks6)) (lk_apt g i)
theorem lk_nsG (g : CS) (i k : Nat) : lk g (f_nsG g i k) := (lk_nb g lks7 i _ 1).tr (lk_nb _ lks8 i _ (-1))
theorem lk_nsL (i : Nat) : ∀ (n k : Nat) (g : CS), lk g (nsL i n k g).2 := by
  intro n
  induction n with
  | zero => intro k g; exact lk_rf g
  | succ n ih =>
    intro k g
    unfold nsL
    exact lk_it2 ((lk_nsG g i k).tr (ih _ _)) (lk_nsG g i k)
theorem lk_ts1 (g : CS) (i : Nat) (b : Int32) : lk g (f_ts1 g i b).2 := by
  have h1 := lk_stD g i b
  have h2 := (h1.tr (lk_asg _ lks7 6)).tr (lk_stU _ 7)
  unfold f_ts1
  refine lk_it2 (lk_p0 h1) ?_
  refine lk_it2 (lk_p0 h2) ?_
  exact lk_it2 (lk_p0 h2) (lk_p0 h2)
theorem lk_ts2 (g : CS) (i : Nat) : lk g (f_ts2 g i).2 := (lk_foll g lks7 i).tr (lk_fore _ lks6 7)
theorem lk_tree (g : CS) (i : Nat) : lk g (f_tree g i).2 := by
  have h1 := lk_ts1 g i 0
  have h2 := h1.tr (lk_ts1 (f_ts1 g i 0).2 i 1)
  unfold f_tree
  exact lk_it2 (lk_it2 h1 (lk_it2 h2 (h2.tr (lk_ts2 _ i)))) (lk_rf g)
theorem lk_pr1 (g : CS) (a b : Nat) : lk g (f_pr1 g a b).2 := (lk_sum g lks7 a b).tr (lk_dif _ lks6 7 b)
theorem lk_inL (a : Nat) : ∀ (n b : Nat) (g : CS), lk g (inL a n b g).2 := by
  intro n
  induction n with
  | zero => intro b g; exact lk_rf g
  | succ n ih =>
    intro b g
    unfold inL
    exact lk_it2 (lk_pr1 g a b) ((lk_pr1 g a b).tr (ih _ _))
theorem lk_ouL : ∀ (n a : Nat) (g : CS), lk g (ouL n a g).2 := by
  intro n
  induction n with
  | zero => intro a g; exact lk_rf g
  | succ n ih =>
    intro a g
    unfold ouL
    exact lk_it2 (lk_inL a _ _ g) ((lk_inL a _ _ g).tr (ih _ _))
theorem lk_pairs (g : CS) : lk g (f_pairs g).2 := lk_ouL 6 0 g
theorem lk_snd1 (g : CS) (k : Nat) : lk g (f_snd1 g k).2 := by
  have h1 := lk_fsnd g k
  have h2 := h1.tr (lk_nsL k 12 1 (f_fsndW g k))
  have h3 := h2.tr (lk_tree (f_nsnd (f_fsndW g k) k).2 k)
  unfold f_snd1
  refine lk_it2 (lk_p0 h1) ?_
  refine lk_it2 (lk_p0 h2) ?_
  refine lk_it2 (lk_p0 h2) ?_
  refine lk_it2 (lk_p0 h2) ?_
  exact lk_it2 (lk_p0 h3) (lk_p0 h3)
theorem lk_sdL : ∀ (n k : Nat) (g : CS), lk g (sdL n k g).2 := by
  intro n
  induction n with
  | zero => intro k g; exact lk_rf g
  | succ n ih =>
    intro k g
    unfold sdL
    exact lk_it2 (lk_snd1 g k) ((lk_snd1 g k).tr (ih _ _))
theorem lk_fin (g : CS) : lk g (f_fin g).2 := by
  have h1 := lk_pairs g
  have h2 := h1.tr (lk_sum (f_pairs g).2 lks6 10 11)
  unfold f_fin
  refine lk_it2 (lk_p0 h1) ?_
  exact lk_it2 (lk_p0 h2) (lk_p0 h2)
theorem lk_isS (g : CS) : lk g (f_isS g).2 := by
  have h1 := lk_sdL 6 0 g
  unfold f_isS
  exact lk_it2 h1 (h1.tr (lk_fin _))
theorem lk_dgL : ∀ (n k : Nat) (g : CS), lk g (tx_dgL n k g) := by
  intro n
  induction n with
  | zero => intro k g; exact lk_rf g
  | succ n ih =>
    intro k g
    unfold tx_dgL
    exact (lk_sm (tx_smR g k)).tr (ih _ _)
theorem lk_dgW (g : CS) : lk g (tx_dgW g) := (lk_dgL 6 0 g).tr (lk_isS _)
/-! the state: what FITS, the ROW's count, the knocks, the places -/
def CI (g : CS) (kn : Int32) : Prop := (∀ i, i < 6 ∨ i = 10 → (tT g i).toInt.natAbs ≤ 1000000000) ∧ (0 ≤ tC g 0 ∧ tC g 0 ≤ 16) ∧ tI g 1 = kn ∧ ∃ kp : Nat, kp ≤ 4 ∧ tI g 3 = nI kp
theorem CI_0 : CI cs0 0 := ⟨fun _ _ => Nat.le_of_ble_eq_true rfl, ⟨by decide, by decide⟩, rfl, 0, by decide, rfl⟩
theorem CI_lk {g g1 : CS} {kn : Int32} (h : CI g kn) (k : lk g g1) : CI g1 kn := by
  refine ⟨fun i hi => by rw [k.1 i hi]; exact h.1 i hi, by rw [k.2.1]; exact h.2.1, k.2.2.1.trans h.2.2.1, ?_⟩
  obtain ⟨kp, h1, h2⟩ := h.2.2.2
  exact ⟨kp, h1, k.2.2.2.trans h2⟩
theorem CI_ite {a b : CS} {kn : Int32} {w : Prop} {d : Decidable w} (h : w → CI a kn) (k : ¬ w → CI b kn) : CI (@ite CS w d a b) kn := by
  cases d with
  | isTrue z => exact h z
  | isFalse z => exact k z
theorem fit_T {t b : Int64} (h : ¬ f_fit t b = 0) : t.toInt.natAbs ≤ 1000000000 := by
  have e1 : (1000000000 : Int64).toInt = 1000000000 := by decide
  have e2 : (-1000000000 : Int64).toInt = -1000000000 := by decide
  unfold f_fit at h
  by_cases h1 : t < -1000000000
  · rw [if_pos h1] at h
    exact absurd rfl h
  · rw [if_neg h1] at h
    by_cases h2 : 1000000000 < t
    · rw [if_pos h2] at h
      exact absurd rfl h
    · have a := Int64.le_iff_toInt_le.mp (Int64.not_lt.mp h1)
      have b := Int64.le_iff_toInt_le.mp (Int64.not_lt.mp h2)
      omega
theorem CI_T {g : CS} {kn : Int32} (h : CI g kn) (i : Nat) {t : Int64} (ht : t.toInt.natAbs ≤ 1000000000) (b : Int64) : CI (uB (uT g i t) i b) kn := by
  refine ⟨fun k hk => ?_, h.2.1, h.2.2.1, h.2.2.2⟩
  show (va_up g.1 i t k).toInt.natAbs ≤ 1000000000
  by_cases e : k = i
  · rw [e, va_up_self]; exact ht
  · rw [va_up_ne _ _ e]; exact h.1 k hk
theorem CI_asg {g : CS} {kn : Int32} (h : CI g kn) (i j : Nat) (ht : (tT g j).toInt.natAbs ≤ 1000000000) : CI (f_assign g i j) kn := CI_T h i ht _
theorem CI_set {g : CS} {kn : Int32} (h : CI g kn) (i : Nat) : CI (f_setW g i) kn := by
  unfold f_setW
  exact CI_ite (fun _ => CI_lk h (lk_ref g)) (fun z => CI_ite (fun _ => CI_asg h i 6 (fit_T z)) (fun _ => h))
theorem CI_ref {g : CS} {kn : Int32} (h : CI g kn) : CI (f_refW g) kn := CI_lk h (lk_ref g)
theorem CI_swap {g : CS} {kn : Int32} (h : CI g kn) {i k : Nat} (hi : i < 6) (hk : k < 6) : CI (f_swap g i k) kn := by
  have h1 := CI_asg h 6 k (h.1 k (Or.inl hk))
  exact CI_asg h1 k i (h1.1 i (Or.inl hi))
theorem CI_over {g : CS} {kn : Int32} (h : CI g kn) (i j k : Nat) : CI (f_overW g i j k) kn := by
  unfold f_overW
  exact CI_ite (fun _ => CI_ref h) (fun _ => CI_set (CI_lk h (lk_quo g lks6 j k)) i)
theorem CI_inv {g : CS} {kn : Int32} (h : CI g kn) (i : Nat) : CI (f_invW g i) kn := by
  unfold f_invW
  exact CI_ite (fun _ => CI_ref h) (fun _ => CI_set (CI_lk h (lk_bec g lks6 _ _)) i)
theorem CI_rai {g : CS} {kn : Int32} (h : CI g kn) (i : Nat) (x : Int32) : CI (f_raiW g i x) kn := by
  have h1 := CI_set (CI_lk h (lk_pow g lks6 i x)) i
  unfold f_raiW
  exact CI_ite (fun _ => h1) (fun _ => CI_ite (fun _ => CI_ref h) (fun _ => h1))
theorem CI_fs {g : CS} {kn : Int32} (h : CI g kn) (j i : Nat) : CI (f_fsW g j i) kn := by
  have h1 := CI_lk h (lk_fw g j lks6)
  unfold f_fsW
  exact CI_ite (fun _ => CI_ref h1) (fun _ => CI_set h1 i)
theorem CI_con {g : CS} {kn : Int32} (h : CI g kn) (i : Nat) (k : Int32) : CI (f_conW g i k) kn := by
  unfold f_conW
  exact CI_ite (fun _ => CI_ref h) (fun _ => CI_fs (CI_lk h (lk_keep g (k + 1))) 1 i)
theorem CI_up {g : CS} {kn : Int32} (h : CI g kn) (i : Nat) : CI (f_upX g i) kn := by
  have h1 := CI_lk h (lk_stU g i)
  unfold f_upX
  exact CI_ite (fun _ => CI_ref h) (fun _ => CI_ite (fun _ => CI_ite (fun _ => CI_ref h1) (fun _ => CI_set h1 i)) (fun _ => CI_ref h))
theorem CI_dn {g : CS} {kn : Int32} (h : CI g kn) (i : Nat) (b : Int32) : CI (f_dnX g i b) kn := by
  have h1 := CI_lk h (lk_stD g i b)
  unfold f_dnX
  exact CI_ite (fun _ => CI_ref h) (fun _ => CI_ite (fun _ => CI_ref h1) (fun _ => CI_set h1 i))
theorem CI_bef {g : CS} {kn : Int32} (h : CI g kn) (i : Nat) : CI (f_befW g i) kn := by
  have h1 := CI_set (CI_lk h (lk_fore g lks6 i)) i
  unfold f_befW
  exact CI_ite (fun _ => CI_ref h) (fun _ => CI_ite (fun _ => h1) (fun _ => CI_ref h))
theorem CI_nxL {kn : Int32} (i : Nat) : ∀ (n : Nat) (g : CS), CI g kn → CI (f_nxW (nxL n g) i) kn := by
  intro n
  induction n with
  | zero => intro g h; exact CI_set h i
  | succ n ih =>
    intro g h
    have h1 := CI_lk h (lk_foll g lks6 6)
    unfold nxL
    by_cases e : f_fit (tT (f_foll g 6 6) 6) (tB (f_foll g 6 6) 6) = 0
    · rw [if_pos e]; exact CI_ref h1
    · rw [if_neg e]; exact ih _ h1
theorem CI_next {g : CS} {kn : Int32} (h : CI g kn) (i : Nat) (m : Int32) : CI (f_nextW g i m) kn := by
  unfold f_nextW
  exact CI_ite (fun _ => CI_nxL i _ _ (CI_lk h (lk_asg g lks6 i))) (fun _ => CI_ref h)
theorem CI_say {g : CS} {kn : Int32} (h : CI g kn) (v : Int64) (hn : tC g 0 < 16) : CI (f_addLast g 0 v) kn := by
  unfold f_addLast
  refine CI_ite (fun _ => h) (fun z => CI_ite (fun _ => h) (fun _ => ⟨h.1, ?_, h.2.2.1, h.2.2.2⟩))
  show 0 ≤ va_up (tC g) 0 (tC g 0 + 1) 0 ∧ va_up (tC g) 0 (tC g 0 + 1) 0 ≤ 16
  rw [va_up_self]
  obtain ⟨j, hj, e⟩ := nI_of2 (M := 16) (n := 16) (by decide) z h.2.1.2
  rw [e] at hn ⊢
  have h1 := (nI_ltI (a := j) (b := 16) (by omega) (by decide)).mp hn
  rw [nI_1]
  exact ⟨nI_le (a := 0) (Nat.zero_le _) (by omega), nI_le (b := 16) (by omega) (by decide)⟩
theorem CI_kp {g : CS} {kn : Int32} (h : CI g kn) (k : Int32) : CI (f_keep g 0 k) kn := by
  unfold f_keep
  refine CI_ite (fun _ => h) (fun z => CI_ite (fun _ => h) (fun y => ⟨h.1, ?_, h.2.2.1, h.2.2.2⟩))
  show 0 ≤ va_up (tC g) 0 k 0 ∧ va_up (tC g) 0 k 0 ≤ 16
  rw [va_up_self]
  exact ⟨Int32.not_lt.mp z, Int32.le_trans (Int32.le_of_lt (Int32.not_le.mp y)) h.2.1.2⟩
theorem CI_uns {g : CS} {kn : Int32} (h : CI g kn) (x : Int32) : CI (f_uns g x) kn := by
  unfold f_uns
  exact CI_ite (fun _ => CI_kp h _) (fun _ => CI_kp h _)
theorem CI_I3 {g : CS} {kn : Int32} (h : CI g kn) {z : Nat} (hz : z ≤ 4) : CI (uI g 3 (nI z)) kn := ⟨h.1, h.2.1, (va_up_ne (k := 3) (j := 1) (tI g) (nI z) (by decide)).trans h.2.2.1, z, hz, va_up_self (tI g) 3 _⟩
theorem CI_b0 {g : CS} {kn : Int32} (h : CI g kn) (i : Nat) : CI (f_become g i 0 1) kn := by
  unfold f_become
  exact CI_ite (fun _ => h) (fun _ => CI_T h i (by decide +kernel) _)
theorem CI_clr {g : CS} {kn : Int32} (h : CI g kn) : CI (f_clr g) kn := CI_I3 (z := 0) (CI_lk (CI_b0 (CI_b0 (CI_b0 h 9) 10) 11) (lk_I _ (by decide) (by decide) 0)) (by decide)
theorem CI_kno {g : CS} {kn : Int32} (h : CI g kn) : CI (uI g 1 (tI g 1 + 1)) (kn + 1) := by
  refine ⟨h.1, h.2.1, ?_, ?_⟩
  · show va_up (tI g) 1 (tI g 1 + 1) 1 = kn + 1
    rw [va_up_self, h.2.2.1]
  · obtain ⟨kp, h1, h2⟩ := h.2.2.2
    exact ⟨kp, h1, (va_up_ne (k := 1) (j := 3) (tI g) (tI g 1 + 1) (by decide)).trans h2⟩
theorem lks12 : lks 12 := ⟨by decide, by decide⟩
theorem lks13 : lks 13 := ⟨by decide, by decide⟩
theorem lks14 : lks 14 := ⟨by decide, by decide⟩
theorem CI_tk1 {g : CS} {kn : Int32} (h : CI g kn) (i : Nat) (np md : Int32) : CI (f_tk1 g i np md) kn := CI_lk h ((lk_sum g lks12 9 i).tr (lk_gat _ lks13 _ _ _ _))
theorem dif_T (g : CS) (j k : Nat) : tT (f_dif g 14 j k) 13 = tT g 13 := by
  unfold f_dif f_gather f_become
  split
  · rfl
  · rfl
theorem CI_tk3 {g : CS} {kn : Int32} (h : CI g kn) (h13 : (tT g 13).toInt.natAbs ≤ 1000000000) {np : Int32} (hnp : bW np 0 4 = 0) : CI (f_tk3 g np) kn := by
  have h4 : CI (f_tk4 g) kn := by
    have k1 := CI_lk h (lk_asg g (i := 9) ⟨by decide, by decide⟩ 12)
    have k2 := CI_asg k1 10 13 h13
    exact CI_lk k2 (lk_asg _ (i := 11) ⟨by decide, by decide⟩ 14)
  obtain ⟨kp, q1, q2⟩ := h4.2.2.2
  obtain ⟨n1, n2⟩ := bW_k (k := 4) (by decide) hnp
  obtain ⟨z, z1, z2⟩ := m_max (a := kp) (b := nn np) (by omega) (by omega)
  unfold f_tk3
  have e : f_max (tI (f_tk4 g) 3) np = nI z := by rw [q2, n1]; exact z1
  rw [e]
  exact CI_lk (CI_I3 h4 (z := z) (by omega)) (lk_I _ (by decide) (by decide) _)
theorem CI_tk2 {g : CS} {kn : Int32} (h : CI g kn) {np : Int32} (hnp : bW np 0 4 = 0) : CI (f_tk2W g np) kn := by
  have h1 := CI_lk h (lk_dif g lks14 12 13)
  unfold f_tk2W
  exact CI_ite (fun _ => h) (fun _ => CI_ite (fun _ => h) (fun z => CI_ite (fun _ => h1) (fun _ => CI_tk3 h1 (by rw [dif_T]; exact fit_T z) hnp)))
theorem CI_tal {g : CS} {kn : Int32} (h : CI g kn) (i : Nat) {np : Int32} (hnp : bW np 0 4 = 0) (md : Int32) : CI (f_talW g i np md) kn := by
  have h1 := CI_tk2 (CI_tk1 h i np md) hnp
  unfold f_talW
  exact CI_ite (fun _ => CI_ref h1) (fun _ => h1)
/-! what the SIMPLEST and the decimals ask -/
theorem fl_B {x d : Int64} {B : Nat} (hx : x.toInt.natAbs ≤ B) (hB : B < 4611686018427387904) : (f_floorOf x d).toInt.natAbs ≤ B + 1 := by
  have q : (x / d).toInt.natAbs ≤ B := by
    rw [Int64.toInt_div]
    have h1 : (x.toInt.tdiv d.toInt).natAbs = x.toInt.natAbs / d.toInt.natAbs := Int.natAbs_tdiv _ _
    have h2 : x.toInt.natAbs / d.toInt.natAbs ≤ x.toInt.natAbs := Nat.div_le_self _ _
    generalize x.toInt.tdiv d.toInt = z at *
    simp only [Int.bmod]
    split <;> omega
  have e1 : (1 : Int64).toInt = 1 := rfl
  have e0 : (0 : Int64).toInt = 0 := rfl
  have h2 : (x / d - 1).toInt.natAbs ≤ B + 1 := by
    rw [Int64.toInt_sub, e1]
    generalize (x / d).toInt = z at *
    simp only [Int.bmod]
    split <;> omega
  unfold f_floorOf fdv
  split
  · rw [e0]; exact Nat.zero_le _
  · split
    · omega
    · split <;> omega
theorem CI_sm {g : CS} {kn : Int32} (h : CI g kn) : ∀ i, i < 6 → smOk g i := by
  intro i hi k hk
  have e : (lN k).toInt.natAbs ≤ 1000000000 := by rw [pk_lT (by omega)]; omega
  have h1 := (m_mulB (h.1 i (Or.inl hi)) e (by decide)).2
  have h2 := fl_B (d := tB g i) h1 (by decide)
  omega
theorem x_nn {a d : Int64} (ha : 0 ≤ a.toInt) (hd : 0 ≤ d.toInt) : 0 ≤ a ^^^ d := by
  have h1 := a.toInt_lt
  have h2 := d.toInt_lt
  have ea : a = lN a.toInt.toNat := Int64.toInt_inj.mp (by rw [pk_lT (by omega)]; omega)
  have ed : d = lN d.toInt.toNat := Int64.toInt_inj.mp (by rw [pk_lT (by omega)]; omega)
  have e : lN a.toInt.toNat ^^^ lN d.toInt.toNat = lN (a.toInt.toNat ^^^ d.toInt.toNat) := by
    apply Int64.toBitVec_inj.mp
    rw [Int64.toBitVec_xor]
    show BitVec.ofNat 64 a.toInt.toNat ^^^ BitVec.ofNat 64 d.toInt.toNat = BitVec.ofNat 64 (a.toInt.toNat ^^^ d.toInt.toNat)
    apply BitVec.eq_of_getLsbD_eq
    intro i hi
    simp [BitVec.getLsbD_ofNat, Nat.testBit_xor, hi]
  have h3 : a.toInt.toNat ^^^ d.toInt.toNat < 2 ^ 63 := Nat.xor_lt_two_pow (by omega) (by omega)
  rw [ea, ed, e, Int64.le_iff_toInt_le, pk_lT h3]
  exact Int.natCast_nonneg _
theorem fl_nn {a d : Int64} (ha : 0 ≤ a.toInt) (hd : 1 ≤ d.toInt) : 0 ≤ f_floorOf a d := by
  have h1 := (m_tdv (x := a) (y := d) (by omega) hd).1
  unfold f_floorOf fdv
  split
  · exact Int64.le_refl _
  · rw [if_pos (x_nn ha (by omega)), Int64.le_iff_toInt_le, h1]
    show (0 : Int) ≤ _
    rw [Int.tdiv_eq_ediv_of_nonneg ha]
    exact Int.ediv_nonneg ha (by omega)
theorem txD_of {x : Int64} (hx : -9223372036854775808 < x.toInt) (kp : Nat) : txD x kp := by
  intro k _
  have e : 0 ≤ (absL x).toInt := by
    have h := m_abs (a := x) hx
    have e9 : absL x = f_absJ x := rfl
    rw [e9, h]
    omega
  exact fl_nn e (f_p10_bd (nI k)).1
theorem CI_tx {g : CS} {kn : Int32} (h : CI g kn) {i : Nat} (hi : i < 6 ∨ i = 10) (pl md : Int32) (kp : Nat) : txD (f_cutNum (tT g i) (tB g i) pl md) kp := by
  have hp := f_p10_bd pl
  have h1 := (m_mulB (y := f_p10 pl) (C := 1000000000) (h.1 i hi) (by omega) (by decide)).2
  have h2 := fl_B (d := tB g i) h1 (by decide)
  have e1 : (1 : Int64).toInt = 1 := rfl
  apply txD_of
  unfold f_cutNum
  generalize f_floorOf (tT g i * f_p10 pl) (tB g i) = w at *
  have h3 : (w + 1).toInt = w.toInt + 1 := by
    rw [Int64.toInt_add, e1]
    simp only [Int.bmod]
    split <;> omega
  unfold f_cut2
  split
  · omega
  · split
    · omega
    · rw [h3]; omega
