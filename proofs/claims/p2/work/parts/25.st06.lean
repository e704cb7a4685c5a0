set_option maxHeartbeats 4000000 in
set_option maxRecDepth 100000 in
/-- java/lang/StringLatin1.newString([BII)Ljava/lang/String; -/
theorem c_J1_newString_b4f7a (l : Launch) (D : va_G) (tk : Nat → ClassId) (N0 : Nat) (sa : Nat → Nat)  (sz : Nat) (b n i w9 : Nat) (ix ln : Int32) (hi9 : ix = nI i) (hm9 : ln = nI w9) (him : i + w9 ≤ n) (hno : i = 0 → i + w9 = n → False) (hn9 : n ≤ 100000000) : Met l yJ1_newString_b4f7a (wsy yJ1_newString_b4f7a cJ1_newString_b4f7a 3 (some (.object "java/lang/String"))) ({ frames := 3, cells := 2, slots := 4 + w9, locals := 72 } : Room) (cP D tk N0 sa [.ref b, .int ix, .int ln] sz (fun H => BX tk b n H)) (kQr (fun r H => SX D tk r w9 H) (nwA sz)) (2) (4 + w9) (nwA sz) := by
  refine mStart RJ1 rfl (by decide +kernel) (Nat.le_of_ble_eq_true rfl) ?_
  intro p e s m args below meth c E hr hlk hnm hsz hC hF ls hl
  subst hsz
  obtain ⟨hx, hb, -⟩ := id E
  have hA : ∀ q, (nwA s.heap.size) q → N0 ≤ q := fun q h => Nat.le_trans hC.2.1 h
  have hn : ∀ q, s.heap.size ≤ q → (nwA s.heap.size) q := fun q h => h
  have hS : va_S (nwA s.heap.size) s.heap s.heap [] := va_S.rf
  have hl : lv_has ls 3 [(0, .ref b), (1, .int ix), (2, .int ln)] := hl
  have hB : BX tk b n s.heap := hF
  refine lv_iload_n (pc := 0) hx hb dJ1_newString_b4f7a_0 rfl (lv_at hl 2 rfl) ?_
  refine lv_if_ne (pc := 1) (tgt := 7) hx hb dJ1_newString_b4f7a_1 (by decide) (fun c_1 => ?_) (fun c_1 => ?_)
  · have hS0_ := hS
    refine r_new (pc := 7) E hC hS tyJ0_ok uJ0 (List.mem_cons_of_mem _ kw_1727) (List.mem_cons_of_mem _ kw_320) (List.mem_cons_of_mem _ kw_20) (ci := 0) rfl (fs := [.null, .int 0, .int 0, .int 0]) (by decide) (by dsimp only; omega) (by dsimp only; omega) dJ1_newString_b4f7a_7 (fun qf2 H zq_ n_ ho_ hS => ?_)
    have l_hB_f2 : b < qf2 := zq_ ▸ hB.lt
    have hB := hB.kept (ho_ _ hB.lt)
    have f2 := n_
    have s_f2 : s.heap.size ≤ qf2 := zq_ ▸ hS0_.1
    have g_f2 := hn _ s_f2
    refine lv_dup (pc := 10) hx hb dJ1_newString_b4f7a_10 rfl ?_
    refine lv_aload_n (pc := 11) hx hb dJ1_newString_b4f7a_11 rfl (lv_at hl 0 rfl) ?_
    refine lv_iload_n (pc := 12) hx hb dJ1_newString_b4f7a_12 rfl (lv_at hl 1 rfl) ?_
    refine lv_iload_n (pc := 13) hx hb dJ1_newString_b4f7a_13 rfl (lv_at hl 1 rfl) ?_
    refine lv_iload_n (pc := 14) hx hb dJ1_newString_b4f7a_14 rfl (lv_at hl 2 rfl) ?_
    refine lv_iadd (pc := 15) hx hb dJ1_newString_b4f7a_15 ?_
    have hZ0_ := hS.1
    have t_hB := hB.lt
    have t_f2 := f2.lt
    refine k_r (pc := 16) (k_S E hC hS hA hl.1 (c_J7_copyOfRange_39247_X l D tk N0 sa H.size b n i (i + w9) ix (ix + ln) hi9 (by rw [hi9, hm9]; exact nI_add i w9) (by omega) (by omega) him hn9 hno) kw_1728 kw_343 kw_24 kw_344 (n := 3) (by decide +kernel) rfl ⟨⟨rfl, rfl⟩, ⟨Nat.le_of_ble_eq_true rfl, Nat.le_of_ble_eq_true rfl⟩, (by dsimp only; omega), (by dsimp only; omega)⟩ rfl (Nat.le_of_ble_eq_true rfl) hB dJ1_newString_b4f7a_16) hS (fun q z w => absurd w (Nat.not_le.mpr z)) hn (fun r_3 H locs hR hz hk hS => ?_)
    have hB := hB.kept (hk _ hB.lt (Nat.not_le.mpr hB.lt))
    have f2 := f2.kept (hk _ f2.lt (Nat.not_le.mpr f2.lt))
    obtain ⟨z9_, f4⟩ := hR
    have s_f4 : s.heap.size ≤ r_3 := Nat.le_trans hZ0_ z9_
    have g_f4 := hn _ s_f4
    have l_hB_f4 : b < r_3 := Nat.lt_of_lt_of_le t_hB z9_
    have l_f2_f4 : qf2 < r_3 := Nat.lt_of_lt_of_le t_f2 z9_
    refine lv_iconst (pc := 19) (v := 0) hx hb dJ1_newString_b4f7a_19 (by decide) ?_
    refine k_v (pc := 20) (k_I E hC hS hA hl.1 (c_J0_init_031fb l D tk N0 sa H.size qf2 r_3 (((i + w9) - i)) (hA _ g_f2)) kw_1729 kw_1730 kw_20 kw_1731 rfl (n := 2) (by decide +kernel) rfl ⟨⟨rfl, rfl⟩, ⟨Nat.le_of_ble_eq_true rfl, Nat.le_of_ble_eq_true rfl⟩, (by dsimp only; omega), (by dsimp only; omega)⟩ rfl (Nat.le_of_ble_eq_true rfl) ⟨f2, f4⟩ dJ1_newString_b4f7a_20) hS (inA1.to g_f2) hn (fun H locs hR hz hk hS => ?_)
    have hB := hB.kept (hk _ hB.lt (inA1.not (hB.neo hC f2.cl (ci := 0) rfl) hB.lt))
    obtain ⟨f2, f4⟩ := hR
    refine r_aret (pc := 23) E hr (Or.inl ⟨_, rfl⟩) hlk hS (by omega) (by omega) ?_ dJ1_newString_b4f7a_23
    exact (by have h9 := SM.sx (D := D) ⟨f2, f4⟩; rw [show i + w9 - i = w9 by omega] at h9; exact h9)
  · refine va_ldcS (pc := 4) hx hb E.2.2.2.1 (hC.2.2.2.2.1 14 _ rfl).1 dJ1_newString_b4f7a_4 ?_
    have k6 : SX D tk (sa (10 + 14)) 0 s.heap := hC.str hS hA 14 _ rfl (by decide)
    refine r_aret (pc := 6) E hr (Or.inl ⟨_, rfl⟩) hlk hS (by omega) (by omega) ?_ dJ1_newString_b4f7a_6
    have m09 : w9 = 0 := (nI_eq (by omega) (by decide)).mp (hm9.symm.trans (c_1.trans nI_0.symm))
    exact (by rw [m09]; exact k6)
