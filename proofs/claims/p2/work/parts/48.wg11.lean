set_option maxHeartbeats 4000000 in
set_option maxRecDepth 100000 in
/-- BestratiosModel.houseNow(I)I -/
theorem c_X5_houseNow (l : Launch) (D : va_G) (tk : Nat → ClassId) (N0 : Nat) (sa : Nat → Nat)  (sz : Nat) (P : Nat → Prop) (hPN : ∀ q, P q → N0 ≤ q) (mo n9 : Nat) (kn th : Int32) (tt bb : Nat → Int64) (eT eB oT oB : Int64) (pk : Nat) (ca rf : Int32) (vs : Nat → Value) (w_ : Int32) (kw : Nat) (hw1 : w_ = nI kw) (hw2 : kw ≤ 4) : Met l yX5_houseNow (wsy yX5_houseNow cX5_houseNow 7 (some .int)) ({ frames := 1, cells := 1, slots := 5, locals := 20 } : Room) (cP D tk N0 sa [.ref mo, .int w_] sz (fun H => MI D tk sa P mo tt bb eT eB oT oB pk ca rf vs kn n9 th H)) (kQi (fun r H => r = m_HS bb rf kn n9 ca kw) (nwA sz)) (1) (5) (nwA sz) := by
  refine mStart RX5 rfl (by decide +kernel) (Nat.le_of_ble_eq_true rfl) ?_
  intro p e s m args below meth c E hr hlk hnm hsz hC hF ls hl
  subst hsz
  obtain ⟨hx, hb, -⟩ := id E
  have hA : ∀ q, (nwA s.heap.size) q → N0 ≤ q := fun q h => Nat.le_trans hC.2.1 h
  have hn : ∀ q, s.heap.size ≤ q → (nwA s.heap.size) q := fun q h => h
  have hS : va_S (nwA s.heap.size) s.heap s.heap [] := va_S.rf
  have hl : lv_has ls 7 [(0, .ref mo), (1, .int w_)] := hl
  obtain ⟨Q, hQ⟩ : ∃ Q, Q = MQ below (kQi (fun r H => r = m_HS bb rf kn n9 ca kw) (nwA s.heap.size)) args s (1) (5) (nwA s.heap.size) := ⟨_, rfl⟩
  rw [← hQ]
  have hM : MI D tk sa P mo tt bb eT eB oT oB pk ca rf vs kn n9 th s.heap := hF
  obtain ⟨ra, rl, ex, ro, rt, fo, fj, fk, fe, fr, fw, ⟨hPm, hPa, hPl, hPe, hPr, hPk⟩, hFk, hFe, hFr, hpk, hn9⟩ := hM
  refine lv_iconst (pc := 0) (v := 0) hx hb dX5_houseNow_0 (by decide) ?_
  refine lv_istore_n (pc := 1) (lv' := [(2, .int 0), (0, .ref mo), (1, .int w_)]) hx hb dX5_houseNow_1 rfl hl (by decide) rfl (fun ls hl => ?_)
  refine lv_aload_n (pc := 2) hx hb dX5_houseNow_2 rfl (lv_at hl 1 rfl) ?_
  refine r_get (pc := 3) E hC fo 0 (v := .ref ra) rfl rfl (by decide) uX5 (List.mem_cons_of_mem _ kw_1209) (fun _ h => h) dX5_houseNow_3 ?_
  refine lv_astore_n (pc := 6) (lv' := [(3, .ref ra), (2, .int 0), (0, .ref mo), (1, .int w_)]) hx hb dX5_houseNow_6 rfl hl (by decide) rfl (fun ls hl => ?_)
  refine lv_aload_n (pc := 7) hx hb dX5_houseNow_7 rfl (lv_at hl 0 rfl) ?_
  refine r_alen (pc := 8) E hC fj 3 rfl (v := 6) rfl dX5_houseNow_8 ?_
  refine lv_istore (pc := 9) (lv' := [(4, .int 6), (3, .ref ra), (2, .int 0), (0, .ref mo), (1, .int w_)]) hx hb dX5_houseNow_9 hl (by decide) rfl (fun ls hl => ?_)
  refine lv_iconst (pc := 11) (v := 0) hx hb dX5_houseNow_11 (by decide) ?_
  refine lv_istore (pc := 12) (lv' := [(5, .int 0), (4, .int 6), (3, .ref ra), (2, .int 0), (0, .ref mo), (1, .int w_)]) hx hb dX5_houseNow_12 hl (by decide) rfl (fun ls hl => ?_)
  have loop_14 : ∀ (n : Nat) (k : Nat)(c9 : Int32) (y9 : Int32), 7 - k < n → k ≤ 6 → y9 = nI k → m_whL bb (6 - k) k c9 = m_whL bb 6 0 0 → ∀ (H : Heap) (locs : List Loc) (ls : Array Slot), va_S (nwA s.heap.size) s.heap H locs → c1 D mo (.inr (13, [.ref ra, .ref rl, .ref ex, .ref ro, .int (nI pk), .int ca, .int rf, .int kn, .int th])) H → c1 D ra (.inl (tk 3, 6, .inr (.inr (.inr (.inr (fun k => some (rt k))))))) H → MK D tk rt tt bb H → L2 D tk ex eT eB H → L2 D tk ro oT oB H → RW D tk sa P rl n9 vs H → lv_has ls 7 [(0, .ref mo), (1, .int w_), (2, .int c9), (3, .ref ra), (4, .int 6), (5, .int y9)] → W p l e ({ frames := 1, cells := 1, slots := 5, locals := 20 } : Room) s m args below meth c H locs (0) (0) Q (F0 m 14 ls []) := by
    intro n
    induction n with
    | zero =>
      intro k c9 y9 hf9 hk9 hx9 hg9 H locs ls hS fo fj fk fe fr fw hl
      omega
    | succ n ih_14 =>
      intro k c9 y9 hf9 hk9 hx9 hg9 H locs ls hS fo fj fk fe fr fw hl
      refine lv_iload (pc := 14) hx hb dX5_houseNow_14 (lv_at hl 5 rfl) ?_
      refine lv_iload (pc := 16) hx hb dX5_houseNow_16 (lv_at hl 4 rfl) ?_
      refine lv_icmp_ge (pc := 18) (tgt := 53) hx hb dX5_houseNow_18 (by decide) (fun c_1 => ?_) (fun c_1 => ?_)
      · refine lv_iconst (pc := 53) (v := 5) hx hb dX5_houseNow_53 (by decide) ?_
        have hS0_ := hS
        refine r_newi (pc := 54) E hC hS (N := 5) (by decide) (by decide) (by decide) (by dsimp only; omega) (by dsimp only; omega) dX5_houseNow_54 (fun qf2 H zq_ n_ ho_ hS => ?_)
        have fw := fw.old ho_
        have l_fo_f2 : mo < qf2 := zq_ ▸ fo.lt
        have fo := fo.kept (ho_ _ fo.lt)
        have l_fj_f2 : ra < qf2 := zq_ ▸ fj.lt
        have fj := fj.kept (ho_ _ fj.lt)
        have nW_f2 : ∀ k, k < 6 → rt k ≠ qf2 := fun k hk9 => Nat.ne_of_lt (zq_ ▸ (fk k hk9).lt)
        have fk := fk.kept (fun k hk9 => ho_ _ (fk k hk9).lt)
        have l_fe_f2 : ex < qf2 := zq_ ▸ fe.lt
        have fe := fe.kept (ho_ _ fe.lt)
        have l_fr_f2 : ro < qf2 := zq_ ▸ fr.lt
        have fr := fr.kept (ho_ _ fr.lt)
        have f2 := n_
        have s_f2 : s.heap.size ≤ qf2 := zq_ ▸ hS0_.1
        have g_f2 := hn _ s_f2
        refine lv_dup (pc := 56) hx hb dX5_houseNow_56 rfl ?_
        refine lv_iconst (pc := 57) (v := 0) hx hb dX5_houseNow_57 (by decide) ?_
        refine lv_iload_n (pc := 58) hx hb dX5_houseNow_58 rfl (lv_at hl 2 rfl) ?_
        refine r_iast (pc := 59) E hC f2 hS g_f2 (by unfold vp_in; decide) dX5_houseNow_59 (fun H locs n_ ho hz hS => ?_)
        have fw := fw.put ho (fun q9 h9 => clA.ne h9 f2.cla (hC.oa 7 5 rfl rfl)) (fun q9 h9 => clA.ne h9 f2.cla (hC.aa 4 5 rfl rfl (by dsimp only; decide))) (fun q9 h9 => clA.ne h9 f2.cla (hC.cea (Or.inr rfl) 5 rfl))
        have fo := fo.kept (ho _ (clA.ne fo.cl f2.cla (hC.oa 13 5 rfl rfl)))
        have fj := fj.kept (ho _ (clA.ne fj.cla f2.cla (hC.aa 3 5 rfl rfl (by dsimp only; decide))))
        have fk := fk.kept (fun k hk9 => ho _ (nW_f2 k hk9))
        have fe := fe.kept (ho _ (clA.ne fe.cla f2.cla (hC.aa 0 5 rfl rfl (by dsimp only; decide))))
        have fr := fr.kept (ho _ (clA.ne fr.cla f2.cla (hC.aa 0 5 rfl rfl (by dsimp only; decide))))
        have f2 : c1 D qf2 (.inl (tk 5, 5, .inl (va_up (fun _ => 0) 0 (c9)))) H := n_
        refine lv_dup (pc := 60) hx hb dX5_houseNow_60 rfl ?_
        refine lv_iconst (pc := 61) (v := 1) hx hb dX5_houseNow_61 (by decide) ?_
        refine lv_aload_n (pc := 62) hx hb dX5_houseNow_62 rfl (lv_at hl 0 rfl) ?_
        refine r_get (pc := 63) E hC fo 6 (v := .int rf) rfl rfl (by decide) uX5 (List.mem_cons_of_mem _ kw_1215) (fun _ h => h) dX5_houseNow_63 ?_
        refine r_iast (pc := 66) E hC f2 hS g_f2 (by unfold vp_in; decide) dX5_houseNow_66 (fun H locs n_ ho hz hS => ?_)
        have fw := fw.put ho (fun q9 h9 => clA.ne h9 f2.cla (hC.oa 7 5 rfl rfl)) (fun q9 h9 => clA.ne h9 f2.cla (hC.aa 4 5 rfl rfl (by dsimp only; decide))) (fun q9 h9 => clA.ne h9 f2.cla (hC.cea (Or.inr rfl) 5 rfl))
        have fo := fo.kept (ho _ (clA.ne fo.cl f2.cla (hC.oa 13 5 rfl rfl)))
        have fj := fj.kept (ho _ (clA.ne fj.cla f2.cla (hC.aa 3 5 rfl rfl (by dsimp only; decide))))
        have fk := fk.kept (fun k hk9 => ho _ (nW_f2 k hk9))
        have fe := fe.kept (ho _ (clA.ne fe.cla f2.cla (hC.aa 0 5 rfl rfl (by dsimp only; decide))))
        have fr := fr.kept (ho _ (clA.ne fr.cla f2.cla (hC.aa 0 5 rfl rfl (by dsimp only; decide))))
        have f2 : c1 D qf2 (.inl (tk 5, 5, .inl (va_up (va_up (fun _ => 0) 0 (c9)) 1 (rf)))) H := n_
        refine lv_dup (pc := 67) hx hb dX5_houseNow_67 rfl ?_
        refine lv_iconst (pc := 68) (v := 2) hx hb dX5_houseNow_68 (by decide) ?_
        refine lv_aload_n (pc := 69) hx hb dX5_houseNow_69 rfl (lv_at hl 0 rfl) ?_
        refine r_get (pc := 70) E hC fo 7 (v := .int kn) rfl rfl (by decide) uX5 (List.mem_cons_of_mem _ kw_1216) (fun _ h => h) dX5_houseNow_70 ?_
        refine r_iast (pc := 73) E hC f2 hS g_f2 (by unfold vp_in; decide) dX5_houseNow_73 (fun H locs n_ ho hz hS => ?_)
        have fw := fw.put ho (fun q9 h9 => clA.ne h9 f2.cla (hC.oa 7 5 rfl rfl)) (fun q9 h9 => clA.ne h9 f2.cla (hC.aa 4 5 rfl rfl (by dsimp only; decide))) (fun q9 h9 => clA.ne h9 f2.cla (hC.cea (Or.inr rfl) 5 rfl))
        have fo := fo.kept (ho _ (clA.ne fo.cl f2.cla (hC.oa 13 5 rfl rfl)))
        have fj := fj.kept (ho _ (clA.ne fj.cla f2.cla (hC.aa 3 5 rfl rfl (by dsimp only; decide))))
        have fk := fk.kept (fun k hk9 => ho _ (nW_f2 k hk9))
        have fe := fe.kept (ho _ (clA.ne fe.cla f2.cla (hC.aa 0 5 rfl rfl (by dsimp only; decide))))
        have fr := fr.kept (ho _ (clA.ne fr.cla f2.cla (hC.aa 0 5 rfl rfl (by dsimp only; decide))))
        have f2 : c1 D qf2 (.inl (tk 5, 5, .inl (va_up (va_up (va_up (fun _ => 0) 0 (c9)) 1 (rf)) 2 (kn)))) H := n_
        refine lv_dup (pc := 74) hx hb dX5_houseNow_74 rfl ?_
        refine lv_iconst (pc := 75) (v := 3) hx hb dX5_houseNow_75 (by decide) ?_
        refine lv_aload_n (pc := 76) hx hb dX5_houseNow_76 rfl (lv_at hl 0 rfl) ?_
        refine r_get (pc := 77) E hC fo 1 (v := .ref rl) rfl rfl (by decide) uX5 (List.mem_cons_of_mem _ kw_1210) (fun _ h => h) dX5_houseNow_77 ?_
        obtain ⟨md_3, b_3, fz3⟩ := fw.obj
        refine k_i (pc := 80) (k_V E hC hS hA hl.1 (c1.recv hC fz3 rfl) rfl (c_Jx4a65c_size_8abf5 l D tk N0 sa H.size rl b_3 n9 md_3) kw_1546 kw_1547 kw_1548 kw_8 kw_1549 (n := 0) (by decide +kernel) rfl ⟨⟨rfl, rfl⟩, ⟨Nat.le_of_ble_eq_true rfl, Nat.le_of_ble_eq_true rfl⟩, (by dsimp only; omega), (by dsimp only; omega)⟩ rfl (Nat.le_of_ble_eq_true rfl) fz3 dX5_houseNow_80) hS (fun q z w => absurd w (Nat.not_le.mpr z)) hn (fun r_4 H locs hR hz hk hS => ?_)
        have fw := fw.new hk
        have fo := fo.kept (hk _ fo.lt (Nat.not_le.mpr fo.lt))
        have fj := fj.kept (hk _ fj.lt (Nat.not_le.mpr fj.lt))
        have fk := fk.new hk
        have fe := fe.kept (hk _ fe.lt (Nat.not_le.mpr fe.lt))
        have fr := fr.kept (hk _ fr.lt (Nat.not_le.mpr fr.lt))
        have f2 := f2.kept (hk _ f2.lt (Nat.not_le.mpr f2.lt))
        have fz3 := fz3.kept (hk _ fz3.lt (Nat.not_le.mpr fz3.lt))
        rw [show r_4 = nI n9 from hR]
        refine r_iast (pc := 83) E hC f2 hS g_f2 (by unfold vp_in; decide) dX5_houseNow_83 (fun H locs n_ ho hz hS => ?_)
        have fw := fw.put ho (fun q9 h9 => clA.ne h9 f2.cla (hC.oa 7 5 rfl rfl)) (fun q9 h9 => clA.ne h9 f2.cla (hC.aa 4 5 rfl rfl (by dsimp only; decide))) (fun q9 h9 => clA.ne h9 f2.cla (hC.cea (Or.inr rfl) 5 rfl))
        have fo := fo.kept (ho _ (clA.ne fo.cl f2.cla (hC.oa 13 5 rfl rfl)))
        have fj := fj.kept (ho _ (clA.ne fj.cla f2.cla (hC.aa 3 5 rfl rfl (by dsimp only; decide))))
        have fk := fk.kept (fun k hk9 => ho _ (nW_f2 k hk9))
        have fe := fe.kept (ho _ (clA.ne fe.cla f2.cla (hC.aa 0 5 rfl rfl (by dsimp only; decide))))
        have fr := fr.kept (ho _ (clA.ne fr.cla f2.cla (hC.aa 0 5 rfl rfl (by dsimp only; decide))))
        have fz3 := fz3.kept (ho _ (clA.ne fz3.cl f2.cla (hC.oa 7 5 rfl rfl)))
        have f2 : c1 D qf2 (.inl (tk 5, 5, .inl (va_up (va_up (va_up (va_up (fun _ => 0) 0 (c9)) 1 (rf)) 2 (kn)) 3 (nI n9)))) H := n_
        refine lv_dup (pc := 84) hx hb dX5_houseNow_84 rfl ?_
        refine lv_iconst (pc := 85) (v := 4) hx hb dX5_houseNow_85 (by decide) ?_
        refine lv_aload_n (pc := 86) hx hb dX5_houseNow_86 rfl (lv_at hl 0 rfl) ?_
        refine r_get (pc := 87) E hC fo 5 (v := .int ca) rfl rfl (by decide) uX5 (List.mem_cons_of_mem _ kw_1214) (fun _ h => h) dX5_houseNow_87 ?_
        refine r_iast (pc := 90) E hC f2 hS g_f2 (by unfold vp_in; decide) dX5_houseNow_90 (fun H locs n_ ho hz hS => ?_)
        have fw := fw.put ho (fun q9 h9 => clA.ne h9 f2.cla (hC.oa 7 5 rfl rfl)) (fun q9 h9 => clA.ne h9 f2.cla (hC.aa 4 5 rfl rfl (by dsimp only; decide))) (fun q9 h9 => clA.ne h9 f2.cla (hC.cea (Or.inr rfl) 5 rfl))
        have fo := fo.kept (ho _ (clA.ne fo.cl f2.cla (hC.oa 13 5 rfl rfl)))
        have fj := fj.kept (ho _ (clA.ne fj.cla f2.cla (hC.aa 3 5 rfl rfl (by dsimp only; decide))))
        have fk := fk.kept (fun k hk9 => ho _ (nW_f2 k hk9))
        have fe := fe.kept (ho _ (clA.ne fe.cla f2.cla (hC.aa 0 5 rfl rfl (by dsimp only; decide))))
        have fr := fr.kept (ho _ (clA.ne fr.cla f2.cla (hC.aa 0 5 rfl rfl (by dsimp only; decide))))
        have fz3 := fz3.kept (ho _ (clA.ne fz3.cl f2.cla (hC.oa 7 5 rfl rfl)))
        have f2 : c1 D qf2 (.inl (tk 5, 5, .inl (va_up (va_up (va_up (va_up (va_up (fun _ => 0) 0 (c9)) 1 (rf)) 2 (kn)) 3 (nI n9)) 4 (ca)))) H := n_
        refine lv_astore_n (pc := 91) (lv' := [(3, .ref qf2), (0, .ref mo), (1, .int w_), (2, .int c9), (4, .int 6), (5, .int y9)]) hx hb dX5_houseNow_91 rfl hl (by decide) rfl (fun ls hl => ?_)
        refine lv_aload_n (pc := 92) hx hb dX5_houseNow_92 rfl (lv_at hl 0 rfl) ?_
        refine lv_iload_n (pc := 93) hx hb dX5_houseNow_93 rfl (lv_at hl 2 rfl) ?_
        refine r_iald (pc := 94) E hC f2 (by rw [hw1]; exact vp_in_nI (by omega) (by decide)) dX5_houseNow_94 ?_
        try rw [hQ]
        refine r_iret (pc := 95) E hr hlk hS (by omega) (by omega) ?_ dX5_houseNow_95
        have hk6 : 6 ≤ k := by
          have h7 := c_1
          rw [hx9] at h7
          exact (nI_leI (a := 6) (by decide) (by omega)).mp h7
        rw [show 6 - k = 0 by omega] at hg9
        have hg8 : c9 = m_whL bb 6 0 0 := hg9
        have hk4 : kw = 0 ∨ kw = 1 ∨ kw = 2 ∨ kw = 3 ∨ kw = 4 := by omega
        subst hw1
        rw [nI_clamp (by omega), hg8]
        rcases hk4 with rfl | rfl | rfl | rfl | rfl <;> (simp [m_HS, va_up])
      · have hkn : k < 6 := Nat.not_le.mp (fun z9 => c_1 (by rw [hx9]; exact nI_le (a := 6) z9 (by omega)))
        refine lv_aload_n (pc := 21) hx hb dX5_houseNow_21 rfl (lv_at hl 3 rfl) ?_
        refine lv_iload (pc := 22) hx hb dX5_houseNow_22 (lv_at hl 5 rfl) ?_
        refine r_aaldJ (pc := 24) E hC fj k hx9 hkn (by decide) rfl dX5_houseNow_24 ?_
        have fL6 := fk k hkn
        have mF_fL6 := hFk k hkn
        have Pq_fL6 := hPk k hkn
        refine lv_astore (pc := 25) (lv' := [(6, .ref (rt k)), (0, .ref mo), (1, .int w_), (2, .int c9), (3, .ref ra), (4, .int 6), (5, .int y9)]) hx hb dX5_houseNow_25 hl (by decide) rfl (fun ls hl => ?_)
        refine lv_iload_n (pc := 27) hx hb dX5_houseNow_27 rfl (lv_at hl 3 rfl) ?_
        refine lv_aload (pc := 28) hx hb dX5_houseNow_28 (lv_at hl 0 rfl) ?_
        refine lv_iconst (pc := 30) (v := 1) hx hb dX5_houseNow_30 (by decide) ?_
        refine r_l1 (pc := 31) E hC fL6 dX5_houseNow_31 ?_
        refine lv_lconst (pc := 32) (v := 1) hx hb dX5_houseNow_32 (by decide) ?_
        refine r_lcne (pc := 33) (tgt := 41) E dX5_houseNow_33 dX5_houseNow_34 (by decide) (fun c_7 => ?_) (fun c_7 => ?_)
        · refine lv_iconst (pc := 41) (v := 0) hx hb dX5_houseNow_41 (by decide) ?_
          refine k_i (pc := 42) (k_S E hC hS hA hl.1 (c_X5_bit l D tk N0 sa H.size 0 ) kw_1271 kw_1272 kw_5 kw_1273 (n := 1) (by decide +kernel) rfl ⟨⟨rfl, rfl⟩, ⟨Nat.le_of_ble_eq_true rfl, Nat.le_of_ble_eq_true rfl⟩, (by dsimp only; omega), (by dsimp only; omega)⟩ rfl (Nat.le_of_ble_eq_true rfl) trivial dX5_houseNow_42) hS (fun q z w => absurd w (Nat.not_le.mpr z)) hn (fun r_8 H locs hR hz hk hS => ?_)
          have er_8 := hR
          have fw := fw.new hk
          have fo := fo.kept (hk _ fo.lt (Nat.not_le.mpr fo.lt))
          have fj := fj.kept (hk _ fj.lt (Nat.not_le.mpr fj.lt))
          have fk := fk.new hk
          have fe := fe.kept (hk _ fe.lt (Nat.not_le.mpr fe.lt))
          have fr := fr.kept (hk _ fr.lt (Nat.not_le.mpr fr.lt))
          have fL6 := fL6.kept (hk _ fL6.lt (Nat.not_le.mpr fL6.lt))
          refine lv_iadd (pc := 45) hx hb dX5_houseNow_45 ?_
          obtain ⟨x_10, ex_10⟩ : ∃ z9 : Int32, z9 = c9 + r_8 := ⟨_, rfl⟩
          rw [← ex_10]
          refine lv_istore_n (pc := 46) (lv' := [(2, .int x_10), (6, .ref (rt k)), (0, .ref mo), (1, .int w_), (3, .ref ra), (4, .int 6), (5, .int y9)]) hx hb dX5_houseNow_46 rfl hl (by decide) rfl (fun ls hl => ?_)
          obtain ⟨x_11, ex_11⟩ : ∃ z9 : Int32, z9 = y9 + 1 := ⟨_, rfl⟩
          refine lv_iinc (pc := 47) (v := x_11) (lv' := [(5, .int x_11), (2, .int x_10), (6, .ref (rt k)), (0, .ref mo), (1, .int w_), (3, .ref ra), (4, .int 6)]) hx hb dX5_houseNow_47 hl (k := 6) rfl (by rw [ex_11]; rfl) (by decide) rfl (fun ls hl => ?_)
          refine lv_goto (pc := 50) (tgt := 14) hx hb dX5_houseNow_50 (by decide) ?_
          refine W.widen (k := 0) (n := 0) (by omega) (by omega) ?_
          exact ih_14  (k + 1)  x_10 x_11 (by omega) (by omega) (i_up hx9 ex_11) (m_whS (show 6 - k = (6 - (k + 1)) + 1 by omega) hg9 (by rw [er_8, if_neg c_7]; rfl) ex_10) _ _ _ hS fo fj fk fe fr fw (lv_sub hl [3, 4, 1, 5, 6, 0] rfl)
        · refine lv_iconst (pc := 37) (v := 1) hx hb dX5_houseNow_37 (by decide) ?_
          refine lv_goto (pc := 38) (tgt := 42) hx hb dX5_houseNow_38 (by decide) ?_
          refine k_i (pc := 42) (k_S E hC hS hA hl.1 (c_X5_bit l D tk N0 sa H.size 1 ) kw_1271 kw_1272 kw_5 kw_1273 (n := 1) (by decide +kernel) rfl ⟨⟨rfl, rfl⟩, ⟨Nat.le_of_ble_eq_true rfl, Nat.le_of_ble_eq_true rfl⟩, (by dsimp only; omega), (by dsimp only; omega)⟩ rfl (Nat.le_of_ble_eq_true rfl) trivial dX5_houseNow_42) hS (fun q z w => absurd w (Nat.not_le.mpr z)) hn (fun r_12 H locs hR hz hk hS => ?_)
          have er_12 := hR
          have fw := fw.new hk
          have fo := fo.kept (hk _ fo.lt (Nat.not_le.mpr fo.lt))
          have fj := fj.kept (hk _ fj.lt (Nat.not_le.mpr fj.lt))
          have fk := fk.new hk
          have fe := fe.kept (hk _ fe.lt (Nat.not_le.mpr fe.lt))
          have fr := fr.kept (hk _ fr.lt (Nat.not_le.mpr fr.lt))
          have fL6 := fL6.kept (hk _ fL6.lt (Nat.not_le.mpr fL6.lt))
          refine lv_iadd (pc := 45) hx hb dX5_houseNow_45 ?_
          obtain ⟨x_14, ex_14⟩ : ∃ z9 : Int32, z9 = c9 + r_12 := ⟨_, rfl⟩
          rw [← ex_14]
          refine lv_istore_n (pc := 46) (lv' := [(2, .int x_14), (6, .ref (rt k)), (0, .ref mo), (1, .int w_), (3, .ref ra), (4, .int 6), (5, .int y9)]) hx hb dX5_houseNow_46 rfl hl (by decide) rfl (fun ls hl => ?_)
          obtain ⟨x_15, ex_15⟩ : ∃ z9 : Int32, z9 = y9 + 1 := ⟨_, rfl⟩
          refine lv_iinc (pc := 47) (v := x_15) (lv' := [(5, .int x_15), (2, .int x_14), (6, .ref (rt k)), (0, .ref mo), (1, .int w_), (3, .ref ra), (4, .int 6)]) hx hb dX5_houseNow_47 hl (k := 6) rfl (by rw [ex_15]; rfl) (by decide) rfl (fun ls hl => ?_)
          refine lv_goto (pc := 50) (tgt := 14) hx hb dX5_houseNow_50 (by decide) ?_
          refine W.widen (k := 0) (n := 0) (by omega) (by omega) ?_
          exact ih_14  (k + 1)  x_14 x_15 (by omega) (by omega) (i_up hx9 ex_15) (m_whS (show 6 - k = (6 - (k + 1)) + 1 by omega) hg9 (by rw [er_12, if_pos c_7]; rfl) ex_14) _ _ _ hS fo fj fk fe fr fw (lv_sub hl [3, 4, 1, 5, 6, 0] rfl)
  refine W.widen (k := 0) (n := 0) (by omega) (by omega) ?_
  exact loop_14 8 0  0 0 (by omega) (Nat.zero_le _) nI_0.symm rfl _ _ _ hS fo fj fk fe fr fw (lv_sub hl [4, 5, 3, 2, 1, 0] rfl)
