set_option maxHeartbeats 4000000 in
set_option maxRecDepth 100000 in
/-- java/util/ArrayList.remove(I)Ljava/lang/Object; -/
theorem c_Jx4a65c_remove_915e3 (l : Launch) (D : va_G) (tk : Nat → ClassId) (N0 : Nat) (sa : Nat → Nat)  (sz : Nat) (a b i cap ce q : Nat) (md ix : Int32) (f : Nat → Option Nat) (vs : Nat → Value) (ha9 : N0 ≤ a) (hv9 : N0 ≤ b) (hce : ce = 3 ∨ ce = 2) (hix : ix = nI i) (hin : i < cap) (hcap : cap ≤ 100000) (hq : f i = some q) : Met l yJx4a65c_remove_915e3 (wsy yJx4a65c_remove_915e3 cJx4a65c_remove_915e3 4 (some (.object "java/lang/Object"))) ({ frames := 2, cells := 0, slots := 0, locals := 43 } : Room) (cP D tk N0 sa [.ref a, .int ix] sz (fun H => c1 D a (.inr (7, [.int md, .ref b, .int (nI (i + 1))])) H ∧ c1 D b (.inl (tk 4, cap, .inr (.inr (.inr (.inr f))))) H ∧ EL D ce (i + 1) f vs H)) (kQr (fun r H => r = q ∧ c1 D a (.inr (7, [.int (md + 1), .ref b, .int (nI i)])) H ∧ c1 D b (.inl (tk 4, cap, .inr (.inr (.inr (.inr (va_up f i none)))))) H ∧ EL D ce i (va_up f i none) vs H) (inA2 a b sz)) (0) (0) (inA2 a b sz) := by
  refine mStart RJx4a65c rfl (by decide +kernel) (Nat.le_of_ble_eq_true rfl) ?_
  intro p e s m args below meth c E hr hlk hnm hsz hC hF ls hl
  subst hsz
  obtain ⟨hx, hb, -⟩ := id E
  have hA : ∀ q, (inA2 a b s.heap.size) q → N0 ≤ q := fun q h => h.elim (fun z => z ▸ ha9) (fun z => z.elim (fun w => w ▸ hv9) (fun w => Nat.le_trans hC.2.1 w))
  have hn : ∀ q, s.heap.size ≤ q → (inA2 a b s.heap.size) q := fun q h => Or.inr (Or.inr h)
  have hS : va_S (inA2 a b s.heap.size) s.heap s.heap [] := va_S.rf
  have hl : lv_has ls 4 [(0, .ref a), (1, .int ix)] := hl
  obtain ⟨f0, fR, el⟩ : c1 D a (.inr (7, [.int md, .ref b, .int (nI (i + 1))])) s.heap ∧ c1 D b (.inl (tk 4, cap, .inr (.inr (.inr (.inr f))))) s.heap ∧ EL D ce (i + 1) f vs s.heap := hF
  have g_f0 : (inA2 a b s.heap.size) a := Or.inl rfl
  have g_fR : (inA2 a b s.heap.size) b := Or.inr (Or.inl rfl)
  refine lv_iload_n (pc := 0) hx hb dJx4a65c_remove_915e3_0 rfl (lv_at hl 1 rfl) ?_
  refine lv_aload_n (pc := 1) hx hb dJx4a65c_remove_915e3_1 rfl (lv_at hl 0 rfl) ?_
  refine r_get (pc := 2) E hC f0 2 (v := .int (nI (i + 1))) rfl rfl (by decide) uJx4a65c (List.mem_cons_of_mem _ kw_1187) (fun _ h => h) dJx4a65c_remove_915e3_2 ?_
  refine k_i (pc := 5) (k_S E hC hS hA hl.1 (c_J15_checkIndex_7cf53 l D tk N0 sa s.heap.size ix (nI (i + 1)) i (i + 1) hix rfl (by omega) (by omega)) kw_1554 kw_1555 kw_30 kw_1556 (n := 2) (by decide +kernel) rfl ⟨⟨rfl, rfl⟩, ⟨by decide, by decide⟩, by decide, by decide⟩ rfl (Nat.le_of_ble_eq_true rfl) trivial dJx4a65c_remove_915e3_5) hS (fun q z w => absurd w (Nat.not_le.mpr z)) hn (fun r_1 H locs hR hz hk hS => ?_)
  have f0 := f0.kept (hk _ f0.lt (Nat.not_le.mpr f0.lt))
  have fR := fR.kept (hk _ fR.lt (Nat.not_le.mpr fR.lt))
  have el := el.new hk
  rw [show r_1 = ix from hR]
  refine lv_pop (pc := 8) hx hb dJx4a65c_remove_915e3_8 rfl ?_
  refine lv_aload_n (pc := 9) hx hb dJx4a65c_remove_915e3_9 rfl (lv_at hl 0 rfl) ?_
  refine r_get (pc := 10) E hC f0 1 (v := .ref b) rfl rfl (by decide) uJx4a65c (List.mem_cons_of_mem _ kw_1184) (fun _ h => h) dJx4a65c_remove_915e3_10 ?_
  refine lv_astore_n (pc := 13) (lv' := [(2, .ref b), (0, .ref a), (1, .int ix)]) hx hb dJx4a65c_remove_915e3_13 rfl hl (by decide) rfl (fun ls hl => ?_)
  refine lv_aload_n (pc := 14) hx hb dJx4a65c_remove_915e3_14 rfl (lv_at hl 0 rfl) ?_
  refine lv_iload_n (pc := 15) hx hb dJx4a65c_remove_915e3_15 rfl (lv_at hl 2 rfl) ?_
  refine r_aaldM (pc := 16) E hC (t0 := 4) rfl fR i hix hin (by omega) hq dJx4a65c_remove_915e3_16 ?_
  refine lv_astore_n (pc := 17) (lv' := [(3, .ref q), (2, .ref b), (0, .ref a), (1, .int ix)]) hx hb dJx4a65c_remove_915e3_17 rfl hl (by decide) rfl (fun ls hl => ?_)
  refine lv_aload_n (pc := 18) hx hb dJx4a65c_remove_915e3_18 rfl (lv_at hl 2 rfl) ?_
  refine lv_aload_n (pc := 19) hx hb dJx4a65c_remove_915e3_19 rfl (lv_at hl 1 rfl) ?_
  refine lv_iload_n (pc := 20) hx hb dJx4a65c_remove_915e3_20 rfl (lv_at hl 3 rfl) ?_
  refine k_v (pc := 21) (k_V E hC hS hA hl.1 (c1.recv hC f0 rfl) rfl (c_Jx4a65c_fastRemove_b59b0 l D tk N0 sa H.size a b i cap ce q md ix f vs (hA _ g_f0) (hA _ g_fR) hce hix hin hcap hq) kw_1601 kw_1603 kp_28 kw_8 kw_1604 (n := 2) (by decide +kernel) rfl ⟨⟨rfl, rfl⟩, ⟨by decide, by decide⟩, by decide, by decide⟩ rfl (Nat.le_of_ble_eq_true rfl) ⟨f0, fR, el⟩ dJx4a65c_remove_915e3_21) hS (inA2.to g_f0 g_fR) hn (fun H locs hR hz hk hS => ?_)
  obtain ⟨f0, fR, el⟩ := hR
  refine lv_aload_n (pc := 24) hx hb dJx4a65c_remove_915e3_24 rfl (lv_at hl 0 rfl) ?_
  refine r_aret (pc := 25) E hr (Or.inl ⟨_, rfl⟩) hlk hS (by decide) (by decide) ?_ dJx4a65c_remove_915e3_25
  exact ⟨rfl, f0, fR, el⟩
