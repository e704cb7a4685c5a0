set_option maxHeartbeats 4000000 in
set_option maxRecDepth 100000 in
/-- Bestratios.wholeCount()I -/
theorem c_X3_wholeCount (l : Launch) (D : va_G) (tk : Nat → ClassId) (N0 : Nat) (sa : Nat → Nat) {ad : Nat → Nat} (hAD : ADok N0 ad) (sz : Nat) (g : CS)  : Met l yX3_wholeCount (wsy yX3_wholeCount cX3_wholeCount 3 (some .int)) ({ frames := 0, cells := 0, slots := 0, locals := 0 } : Room) (cP D tk N0 sa [.ref (ad 15)] sz (fun H => CW D tk ad g H)) (kQi (fun r H => r = f_whole g) (nwA sz)) (0) (0) (nwA sz) := by
  refine mStart RX3 rfl (by decide +kernel) (Nat.le_of_ble_eq_true rfl) ?_
  intro p e s m args below meth c E hr hlk hnm hsz hC hF ls hl
  subst hsz
  obtain ⟨hx, hb, -⟩ := id E
  have hA : ∀ q, (nwA s.heap.size) q → N0 ≤ q := fun q h => Nat.le_trans hC.2.1 h
  have hn : ∀ q, s.heap.size ≤ q → (nwA s.heap.size) q := fun q h => h
  have hS : va_S (nwA s.heap.size) s.heap s.heap [] := va_S.rf
  have hl : lv_has ls 3 [(0, .ref (ad 15))] := hl
  obtain ⟨Q, hQ⟩ : ∃ Q, Q = MQ below (kQi (fun r H => r = f_whole g) (nwA s.heap.size)) args s (0) (0) (nwA s.heap.size) := ⟨_, rfl⟩
  rw [← hQ]
  have hW : CW D tk ad g s.heap := hF
  refine lv_iconst (pc := 0) (v := 0) hx hb dX3_wholeCount_0 (by decide) ?_
  refine lv_istore_n (pc := 1) (lv' := [(1, .int 0), (0, .ref (ad 15))]) hx hb dX3_wholeCount_1 rfl hl (by decide) rfl (fun ls hl => ?_)
  refine lv_iconst (pc := 2) (v := 0) hx hb dX3_wholeCount_2 (by decide) ?_
  refine lv_istore_n (pc := 3) (lv' := [(2, .int 0), (1, .int 0), (0, .ref (ad 15))]) hx hb dX3_wholeCount_3 rfl hl (by decide) rfl (fun ls hl => ?_)
  have loop_4 : ∀ (n : Nat) (k : Nat)(a9 : Int32) (y9 : Int32), 6 - k < n → k ≤ 6 → y9 = nI k → whL g (6 - k) k a9 = f_whole g → ∀ (H : Heap) (locs : List Loc) (ls : Array Slot), va_S (nwA s.heap.size) s.heap H locs → CW D tk ad g H → lv_has ls 3 [(0, .ref (ad 15)), (1, .int a9), (2, .int y9)] → W p l e ({ frames := 0, cells := 0, slots := 0, locals := 0 } : Room) s m args below meth c H locs (0) (0) Q (F0 m 4 ls []) := by
    intro n
    induction n with
    | zero =>
      intro k a9 y9 hf9 hk9 hx9 hg9 H locs ls hS hW hl
      omega
    | succ n ih_4 =>
      intro k a9 y9 hf9 hk9 hx9 hg9 H locs ls hS hW hl
      refine lv_iload_n (pc := 4) hx hb dX3_wholeCount_4 rfl (lv_at hl 2 rfl) ?_
      refine lv_aload_n (pc := 5) hx hb dX3_wholeCount_5 rfl (lv_at hl 0 rfl) ?_
      refine r_get (pc := 6) E hC hW.obj 0 (v := .ref (ad 16)) rfl rfl (by decide) uX3 (List.mem_cons_of_mem _ kw_114) (fun _ h => h) dX3_wholeCount_6 ?_
      refine r_alen (pc := 9) E hC hW.row 2 rfl (v := 6) rfl dX3_wholeCount_9 ?_
      refine lv_icmp_ge (pc := 10) (tgt := 36) hx hb dX3_wholeCount_10 (by decide) (fun c_1 => ?_) (fun c_1 => ?_)
      · refine lv_iload_n (pc := 36) hx hb dX3_wholeCount_36 rfl (lv_at hl 1 rfl) ?_
        try rw [hQ]
        refine r_iret (pc := 37) E hr hlk hS (by decide) (by decide) ?_ dX3_wholeCount_37
        rw [← hg9]
        have e0 : 6 - k = 0 := by have := (i_le (n := 6) hx9 (by decide) (by omega) (by decide)).mp c_1; omega
        (rw [e0]) <;> simp [whL]
      · have hlt9 : k < 6 := Nat.not_le.mp (fun z => c_1 ((i_le (n := 6) hx9 (by decide) (by omega) (by decide)).mpr z))
        have hw9 : 6 - k = (6 - (k + 1)) + 1 := by omega
        refine lv_aload_n (pc := 13) hx hb dX3_wholeCount_13 rfl (lv_at hl 0 rfl) ?_
        refine r_get (pc := 14) E hC hW.obj 0 (v := .ref (ad 16)) rfl rfl (by decide) uX3 (List.mem_cons_of_mem _ kw_114) (fun _ h => h) dX3_wholeCount_14 ?_
        refine lv_iload_n (pc := 17) hx hb dX3_wholeCount_17 rfl (lv_at hl 2 rfl) ?_
        refine r_aald (pc := 18) E hC hW.row (i_in hx9 hlt9 (by decide)) dX3_wholeCount_18 ?_
        rw [show (y9).toNatClampNeg = k from (i_cl hx9 (by omega))]
        refine r_getN (pc := 19) "Bestratios" E hC (hW.fr (i := k) (by omega)) 1 (v := .long (tB g k)) rfl rfl (by decide) uX0 kn_55 (fun _ h => h) dX3_wholeCount_19 ?_
        refine lv_lconst (pc := 22) (v := 1) hx hb dX3_wholeCount_22 (by decide) ?_
        refine r_lcne (pc := 23) (tgt := 30) E dX3_wholeCount_23 dX3_wholeCount_24 (by decide) (fun c_2 => ?_) (fun c_2 => ?_)
        · obtain ⟨x_3, ex_3⟩ : ∃ z9 : Int32, z9 = y9 + 1 := ⟨_, rfl⟩
          refine lv_iinc (pc := 30) (v := x_3) (lv' := [(2, .int x_3), (0, .ref (ad 15)), (1, .int a9)]) hx hb dX3_wholeCount_30 hl (k := 2) rfl (by rw [ex_3]; rfl) (by decide) rfl (fun ls hl => ?_)
          refine lv_goto (pc := 33) (tgt := 4) hx hb dX3_wholeCount_33 (by decide) ?_
          rw [hw9] at hg9
          exact ih_4  (k + 1)  a9 x_3 (by omega) (by omega) (i_up hx9 ex_3) (by rw [← hg9]; simp [whL, c_2]) _ _ _ hS hW (lv_sub hl [1, 2, 0] rfl)
        · obtain ⟨x_4, ex_4⟩ : ∃ z9 : Int32, z9 = a9 + 1 := ⟨_, rfl⟩
          refine lv_iinc (pc := 27) (v := x_4) (lv' := [(1, .int x_4), (0, .ref (ad 15)), (2, .int y9)]) hx hb dX3_wholeCount_27 hl (k := 1) rfl (by rw [ex_4]; rfl) (by decide) rfl (fun ls hl => ?_)
          obtain ⟨x_5, ex_5⟩ : ∃ z9 : Int32, z9 = y9 + 1 := ⟨_, rfl⟩
          refine lv_iinc (pc := 30) (v := x_5) (lv' := [(2, .int x_5), (1, .int x_4), (0, .ref (ad 15))]) hx hb dX3_wholeCount_30 hl (k := 2) rfl (by rw [ex_5]; rfl) (by decide) rfl (fun ls hl => ?_)
          refine lv_goto (pc := 33) (tgt := 4) hx hb dX3_wholeCount_33 (by decide) ?_
          rw [hw9] at hg9
          exact ih_4  (k + 1)  x_4 x_5 (by omega) (by omega) (i_up hx9 ex_5) (by rw [← hg9]; subst ex_4; simp [whL, c_2]) _ _ _ hS hW (lv_sub hl [2, 1, 0] rfl)
  exact loop_4 7 0  0 0 (by omega) (by omega) nI_0.symm rfl _ _ _ hS hW (lv_sub hl [2, 1, 0] rfl)
