/-! ===== which exception, on both sides ===== -/
theorem bR_2 (x : Int32) : bR x = 0 ∨ bR x = 1 := by
  unfold bR
  split
  · exact Or.inr rfl
  · split
    · exact Or.inl rfl
    · exact Or.inr rfl
theorem bW_2 (x lo hi : Int32) : bW x lo hi = 0 ∨ bW x lo hi = 1 := by
  unfold bW
  split
  · exact Or.inr rfl
  · split
    · exact Or.inl rfl
    · exact Or.inr rfl
theorem bN_2 (x : Int32) : bN x = 0 ∨ bN x = 1 := by
  unfold bN
  split
  · exact Or.inl rfl
  · exact Or.inr rfl
theorem xo_2b {a b : Nat} (ha : a = 0 ∨ a = 1) (hb : b = 0 ∨ b = 1) : xo a b = 0 ∨ xo a b = 1 := by
  unfold xo
  split <;> assumption
theorem no_bR (x : Int32) : m_isNo x = nI (bR x) := by
  unfold m_isNo m_isIn bR
  by_cases a : x < 0
  · simp [a]; rfl
  · by_cases b : x < 6
    · have c : ¬ (5 : Int32) < x := fun z => by
        have h1 := Int32.lt_iff_toInt_lt.mp z
        have h2 := Int32.lt_iff_toInt_lt.mp b
        have e5 : (5 : Int32).toInt = 5 := by decide
        have e6 : (6 : Int32).toInt = 6 := by decide
        omega
      simp [a, b, c]; rfl
    · have c : (5 : Int32) < x := by
        have h2 : ¬ x.toInt < (6 : Int32).toInt := fun z => b (Int32.lt_iff_toInt_lt.mpr z)
        have e5 : (5 : Int32).toInt = 5 := by decide
        have e6 : (6 : Int32).toInt = 6 := by decide
        exact Int32.lt_iff_toInt_lt.mpr (by omega)
      simp [a, b, c]; rfl
theorem in_bW (x lo hi : Int32) : m_not (m_isIn x lo hi) = nI (bW x lo hi) := by
  unfold m_not m_isIn bW
  by_cases a : x < lo
  · simp [a]; rfl
  · by_cases b : x ≤ hi
    · simp [a, b, Int32.not_lt.mpr b]; rfl
    · simp [a, b, Int32.not_le.mp b]; rfl
theorem lt_bN (x : Int32) : m_lt0 x = nI (bN x) := by
  unfold m_lt0 bN
  by_cases a : x < 0
  · simp [a, Int32.not_le.mpr a]; rfl
  · simp [a, Int32.not_lt.mp a]; rfl
theorem or_xo {A B : Int32} {a b : Nat} (ha : a = 0 ∨ a = 1) (hb : b = 0 ∨ b = 1) (hA : A = nI a) (hB : B = nI b) : m_or A B = nI (xo a b) := by
  subst hA hB
  rcases ha with rfl | rfl <;> rcases hb with rfl | rfl <;> rfl
theorem ano_xo (x y : Int32) : m_areNo x y = nI (xo (bR x) (bR y)) := by
  have h : m_areNo x y = m_or (m_isNo x) (m_isNo y) := rfl
  rw [h]
  exact or_xo (bR_2 x) (bR_2 y) (no_bR x) (no_bR y)
theorem th_of {A B : Int32} {a b xc : Nat} (ha : a = 0 ∨ a = 1) (hb : b = 0 ∨ b = 1) (hA : A = nI a) (hB : B = nI b) (hx : xc = xo a (2 * b)) : nI xc = m_th A B ∧ (xc = 0 ↔ m_fl A B = 0) := by
  subst hA hB hx
  rcases ha with rfl | rfl <;> rcases hb with rfl | rfl <;> exact ⟨rfl, by decide⟩
theorem bR_lt6 {x : Int32} (h : bR x = 0) : nn x < 6 := bR_lt h
theorem bW_in {x lo hi : Int32} (h : bW x lo hi = 0) : lo.toInt ≤ x.toInt ∧ x.toInt ≤ hi.toInt := by
  unfold bW at h
  by_cases a : x < lo
  · rw [if_pos a] at h
    cases h
  · rw [if_neg a] at h
    by_cases b : x ≤ hi
    · exact ⟨Int32.le_iff_toInt_le.mp (Int32.not_lt.mp a), Int32.le_iff_toInt_le.mp b⟩
    · rw [if_neg b] at h
      cases h
theorem bW_nn {x hi : Int32} {n : Nat} (hn : hi.toInt = (n : Int)) (h : bW x 0 hi = 0) : x = nI (nn x) ∧ nn x ≤ n := by
  obtain ⟨h1, h2⟩ := bW_in h
  have e0 : (0 : Int32).toInt = 0 := rfl
  have e : nn x = x.toInt.toNat := rfl
  have hlt := x.toInt_lt
  refine ⟨Int32.toInt_inj.mp ?_, by omega⟩
  rw [nI_toInt (by omega)]
  omega
theorem bW_n1 {x hi : Int32} {n : Nat} (hn : hi.toInt = (n : Int)) (h : bW x 1 hi = 0) : x = nI (nn x) ∧ 1 ≤ nn x ∧ nn x ≤ n := by
  obtain ⟨h1, h2⟩ := bW_in h
  have e0 : (1 : Int32).toInt = 1 := rfl
  have e : nn x = x.toInt.toNat := rfl
  have hlt := x.toInt_lt
  refine ⟨Int32.toInt_inj.mp ?_, by omega, by omega⟩
  rw [nI_toInt (by omega)]
  omega
theorem bW_md {x : Int32} (h : bW x 0 4 = 0) : x = 0 ∨ x = 1 ∨ x = 2 ∨ x = 3 ∨ x = 4 := by
  obtain ⟨e, hn⟩ := bW_nn (n := 4) (by decide) h
  generalize nn x = k at e hn
  subst e
  have : k = 0 ∨ k = 1 ∨ k = 2 ∨ k = 3 ∨ k = 4 := by omega
  rcases this with rfl | rfl | rfl | rfl | rfl
  · exact Or.inl rfl
  · exact Or.inr (Or.inl rfl)
  · exact Or.inr (Or.inr (Or.inl rfl))
  · exact Or.inr (Or.inr (Or.inr (Or.inl rfl)))
  · exact Or.inr (Or.inr (Or.inr (Or.inr rfl)))
theorem bN_le {x : Int32} (h : bN x = 0) : 0 ≤ x := by
  unfold bN at h
  split at h
  · assumption
  · cases h
/-! ===== each call, on both sides ===== -/
/-- what a wrapper of the law tells: which exception, or the answer -/
def WR (xc : Nat) (w : CS) (y : Int64) (g : CS) (rk : Int32) (g1 : CS) (ox : Int64) : Prop := rk = nI xc ∧ (xc = 0 → g1 = w ∧ ox = y) ∧ (¬ xc = 0 → g1 = g)
/-- the same, of a text -/
def WS (xc : Nat) (w : CS) (g : CS) (rk : Int32) (g1 : CS) : Prop := rk = nI xc ∧ (xc = 0 → g1 = w) ∧ (¬ xc = 0 → g1 = g)
section RV15
variable {g g1 w : CS} {kn : Int32} {tt bb tt1 bb1 : Nat → Int64} {eT eB oT oB : Int64} {pk : Nat} {ca rf rf1 : Int32} {vs : Nat → Value} {n9 xc k : Nat} {A B rk r th y x : Int32} {ox : Int64} {o : Option (Int64 × Int64)}
theorem l_act (h : RV g kn tt bb eT eB oT oB pk ca rf vs n9) (hx : nI xc = m_th A B ∧ (xc = 0 ↔ m_fl A B = 0)) (hs : xc = 0 → SMV kn tt bb eT eB oT oB pk ca rf vs n9 k o y w) (hw : WR xc w y.toInt64 g rk g1 ox) (hm : AC A B tt bb rf k o r th tt1 bb1 rf1) : th = rk ∧ (rk = 0 → ox = r.toInt64) ∧ RV g1 kn tt1 bb1 eT eB oT oB pk ca rf1 vs n9 := by
  obtain ⟨w1, w2, w3⟩ := hw
  obtain ⟨m1, m2, m3⟩ := hm
  refine ⟨by rw [m1, w1, hx.1], ?_⟩
  by_cases c : xc = 0
  · obtain ⟨v1, v2⟩ := w2 c
    obtain ⟨s1, s2⟩ := hs c
    obtain ⟨b1, b2, b3, b4⟩ := m2 (hx.2.mp c)
    rw [v1, v2, b1, b2, b3, b4, s1]
    exact ⟨fun _ => rfl, s2⟩
  · obtain ⟨b2, b3, b4⟩ := m3 (fun z => c (hx.2.mpr z))
    rw [w3 c, b2, b3, b4]
    refine ⟨fun z => ?_, h⟩
    exfalso
    rw [w1, hx.1] at z
    refine c (hx.2.mpr ?_)
    unfold m_th at z
    unfold m_fl
    by_cases a : A = 0
    · rw [if_pos a] at z ⊢
      by_cases b : B = 0
      · rw [if_pos b]
      · rw [if_neg b] at z
        exact absurd z (by decide)
    · rw [if_neg a] at z
      exact absurd z (by decide)
/-- a question: nothing changes but what is reckoned with -/
theorem l_ask (h : RV g kn tt bb eT eB oT oB pk ca rf vs n9) (hx : nI xc = m_th A B ∧ (xc = 0 ↔ m_fl A B = 0)) (hs : xc = 0 → y = x ∧ RV w kn tt bb eT eB oT oB pk ca rf vs n9) (hw : WR xc w y.toInt64 g rk g1 ox) (hm : QU A B x r th) : th = rk ∧ (rk = 0 → ox = r.toInt64) ∧ RV g1 kn tt bb eT eB oT oB pk ca rf vs n9 := by
  obtain ⟨w1, w2, w3⟩ := hw
  obtain ⟨m1, m2⟩ := hm
  refine ⟨by rw [m1, w1, hx.1], ?_⟩
  by_cases c : xc = 0
  · obtain ⟨v1, v2⟩ := w2 c
    obtain ⟨s1, s2⟩ := hs c
    rw [v1, v2, m2 (hx.2.mp c), s1]
    exact ⟨fun _ => rfl, s2⟩
  · rw [w3 c]
    refine ⟨fun z => ?_, h⟩
    exfalso
    rw [w1, hx.1] at z
    refine c (hx.2.mpr ?_)
    unfold m_th at z
    unfold m_fl
    by_cases a : A = 0
    · rw [if_pos a] at z ⊢
      by_cases b : B = 0
      · rw [if_pos b]
      · rw [if_neg b] at z
        exact absurd z (by decide)
    · rw [if_neg a] at z
      exact absurd z (by decide)
/-- a text: nothing is held against it -/
theorem l_txt (h : RV g kn tt bb eT eB oT oB pk ca rf vs n9) (hs : xc = 0 → lz g w) (hw : WS xc w g rk g1) : RV g1 kn tt bb eT eB oT oB pk ca rf vs n9 := by
  obtain ⟨w1, w2, w3⟩ := hw
  by_cases c : xc = 0
  · rw [w2 c]
    exact h.lzv (hs c)
  · rw [w3 c]
    exact h
variable {x1 x2 x3 x4 : Int32}
theorem xe_1 (x : Int32) : nI (bR x) = m_th (m_isNo x) 0 ∧ (bR x = 0 ↔ m_fl (m_isNo x) 0 = 0) := th_of (bR_2 x) (Or.inl rfl) (no_bR x) nI_0.symm (by unfold xo; split <;> omega)
theorem xe_2 (x y : Int32) : nI (xo (bR x) (bR y)) = m_th (m_areNo x y) 0 ∧ (xo (bR x) (bR y) = 0 ↔ m_fl (m_areNo x y) 0 = 0) := th_of (xo_2b (bR_2 x) (bR_2 y)) (Or.inl rfl) (ano_xo x y) nI_0.symm (by
  generalize xo (bR x) (bR y) = q
  unfold xo; split <;> omega)
theorem xe_3 (x y z : Int32) : nI (xo (bR x) (xo (bR y) (bR z))) = m_th (m_or (m_isNo x) (m_areNo y z)) 0 ∧ (xo (bR x) (xo (bR y) (bR z)) = 0 ↔ m_fl (m_or (m_isNo x) (m_areNo y z)) 0 = 0) := th_of (xo_2b (bR_2 x) (xo_2b (bR_2 y) (bR_2 z))) (Or.inl rfl) (or_xo (bR_2 x) (xo_2b (bR_2 y) (bR_2 z)) (no_bR x) (ano_xo y z)) nI_0.symm (by
  generalize xo (bR x) (xo (bR y) (bR z)) = q
  unfold xo; split <;> omega)
theorem xe_1b {x B : Int32} {b : Nat} (hb : b = 0 ∨ b = 1) (hB : B = nI b) : nI (xo (bR x) (2 * b)) = m_th (m_isNo x) B ∧ (xo (bR x) (2 * b) = 0 ↔ m_fl (m_isNo x) B = 0) := th_of (bR_2 x) hb (no_bR x) hB rfl
theorem xe_2b {x y B : Int32} {b : Nat} (hb : b = 0 ∨ b = 1) (hB : B = nI b) : nI (xo (bR x) (xo (bR y) (2 * b))) = m_th (m_areNo x y) B ∧ (xo (bR x) (xo (bR y) (2 * b)) = 0 ↔ m_fl (m_areNo x y) B = 0) := th_of (xo_2b (bR_2 x) (bR_2 y)) hb (ano_xo x y) hB (by
  have h1 := bR_2 x
  have h2 := bR_2 y
  generalize bR x = p at *
  generalize bR y = q at *
  unfold xo
  repeat' split
  all_goals omega)
theorem xo_22 {a b : Nat} : xo (2 * a) (2 * b) = 2 * xo a b := by
  unfold xo
  repeat' split
  all_goals omega
theorem xe_put : nI (xo (bR x1) (if x3 = 0 then 2 else 0)) = m_th (m_isNo x1) (m_is0 x3) ∧ (xo (bR x1) (if x3 = 0 then 2 else 0) = 0 ↔ m_fl (m_isNo x1) (m_is0 x3) = 0) := by
  by_cases c : x3 = 0
  · rw [if_pos c, show m_is0 x3 = 1 from if_pos c]
    exact xe_1b (b := 1) (Or.inr rfl) rfl
  · rw [if_neg c, show m_is0 x3 = 0 from if_neg c]
    exact xe_1b (b := 0) (Or.inl rfl) rfl
theorem l_put (h : RV g kn tt bb eT eB oT oB pk ca rf vs n9) (hw : WR (xo (bR x1) (if x3 = 0 then 2 else 0)) (f_setW (f_become g 6 x2.toInt64 x3.toInt64) (nn x1)) (f_setR (f_become g 6 x2.toInt64 x3.toInt64) (nn x1)).toInt64 g rk g1 ox) (hm : AC (m_isNo x1) (m_is0 x3) tt bb rf (nn x1) (LO x2.toInt64 x3.toInt64) r th tt1 bb1 rf1) : th = rk ∧ (rk = 0 → ox = r.toInt64) ∧ RV g1 kn tt1 bb1 eT eB oT oB pk ca rf1 vs n9 :=
  l_act h xe_put (fun c => s_put h (bR_lt6 (xo_1 c)) (fun z => by
    have := xo_2 c
    rw [if_pos z] at this
    cases this)) hw hm
theorem l_putDecimal (h : RV g kn tt bb eT eB oT oB pk ca rf vs n9) (hw : WR (xo (bR x1) (2 * bW x3 0 9)) (f_setW (f_become g 6 x2.toInt64 (f_p10 x3)) (nn x1)) (f_setR (f_become g 6 x2.toInt64 (f_p10 x3)) (nn x1)).toInt64 g rk g1 ox) (hm : AC (m_isNo x1) (m_not (m_isIn x3 0 9)) tt bb rf (nn x1) (LO x2.toInt64 (m_pow x3)) r th tt1 bb1 rf1) : th = rk ∧ (rk = 0 → ox = r.toInt64) ∧ RV g1 kn tt1 bb1 eT eB oT oB pk ca rf1 vs n9 :=
  l_act h (xe_1b (bW_2 _ _ _) (in_bW _ _ _)) (fun c => by
    obtain ⟨e, hn⟩ := bW_nn (n := 9) (by decide) (tx_mul0 (xo_2 c))
    have := s_ptd h (bR_lt6 (xo_1 c)) (x := x2) hn
    rw [← e] at this
    exact this) hw hm
theorem l_copy (h : RV g kn tt bb eT eB oT oB pk ca rf vs n9) (hw : WR (xo (bR x1) (bR x2)) (f_setW (f_assign g 6 (nn x2)) (nn x1)) (f_setR (f_assign g 6 (nn x2)) (nn x1)).toInt64 g rk g1 ox) (hm : AC (m_areNo x1 x2) 0 tt bb rf (nn x1) (some (tt (nn x2), bb (nn x2))) r th tt1 bb1 rf1) : th = rk ∧ (rk = 0 → ox = r.toInt64) ∧ RV g1 kn tt1 bb1 eT eB oT oB pk ca rf1 vs n9 :=
  l_act h (xe_2 _ _) (fun c => s_cpy h (bR_lt6 (xo_1 c)) (bR_lt6 (xo_2 c))) hw hm
theorem l_swap (h : RV g kn tt bb eT eB oT oB pk ca rf vs n9) (hw : WR (xo (bR x1) (bR x2)) (f_setW (f_swap g (nn x1) (nn x2)) (nn x1)) (f_setR (f_swap g (nn x1) (nn x2)) (nn x1)).toInt64 g rk g1 ox) (hm : SW (m_areNo x1 x2) 0 tt bb (nn x1) (nn x2) r th tt1 bb1) : th = rk ∧ (rk = 0 → ox = r.toInt64) ∧ RV g1 kn tt1 bb1 eT eB oT oB pk ca rf vs n9 := by
  have hx := xe_2 x1 x2
  obtain ⟨w1, w2, w3⟩ := id hw
  obtain ⟨m1, m2, m3⟩ := hm
  by_cases c : xo (bR x1) (bR x2) = 0
  · obtain ⟨v1, v2⟩ := w2 c
    obtain ⟨s1, s2⟩ := s_swp h (bR_lt6 (xo_1 c)) (bR_lt6 (xo_2 c))
    obtain ⟨b1, b2, b3⟩ := m2 (hx.2.mp c)
    rw [v1, v2, b1, b2, b3, s1]
    exact ⟨by rw [m1, w1, hx.1], fun _ => rfl, s2⟩
  · obtain ⟨b2, b3⟩ := m3 (fun z => c (hx.2.mpr z))
    rw [b2, b3]
    exact l_ask (A := m_areNo x1 x2) (B := 0) (x := 0) h hx (fun z => absurd z c) hw ⟨m1, fun z => absurd (hx.2.mpr z) c⟩
theorem l_plus (h : RV g kn tt bb eT eB oT oB pk ca rf vs n9) (hw : WR (xo (bR x1) (xo (bR x2) (bR x3))) (f_setW (f_sum g 6 (nn x2) (nn x3)) (nn x1)) (f_setR (f_sum g 6 (nn x2) (nn x3)) (nn x1)).toInt64 g rk g1 ox) (hm : AC (m_or (m_isNo x1) (m_areNo x2 x3)) 0 tt bb rf (nn x1) (LO (tt (nn x2) * bb (nn x3) + (1 : Int32).toInt64 * (tt (nn x3) * bb (nn x2))) (bb (nn x2) * bb (nn x3))) r th tt1 bb1 rf1) : th = rk ∧ (rk = 0 → ox = r.toInt64) ∧ RV g1 kn tt1 bb1 eT eB oT oB pk ca rf1 vs n9 :=
  l_act h (xe_3 _ _ _) (fun c => s_pls h (bR_lt6 (xo_1 c)) (bR_lt6 (xo_1 (xo_2 c))) (bR_lt6 (xo_2 (xo_2 c)))) hw hm
theorem l_minus (h : RV g kn tt bb eT eB oT oB pk ca rf vs n9) (hw : WR (xo (bR x1) (xo (bR x2) (bR x3))) (f_setW (f_dif g 6 (nn x2) (nn x3)) (nn x1)) (f_setR (f_dif g 6 (nn x2) (nn x3)) (nn x1)).toInt64 g rk g1 ox) (hm : AC (m_or (m_isNo x1) (m_areNo x2 x3)) 0 tt bb rf (nn x1) (LO (tt (nn x2) * bb (nn x3) + (-1 : Int32).toInt64 * (tt (nn x3) * bb (nn x2))) (bb (nn x2) * bb (nn x3))) r th tt1 bb1 rf1) : th = rk ∧ (rk = 0 → ox = r.toInt64) ∧ RV g1 kn tt1 bb1 eT eB oT oB pk ca rf1 vs n9 :=
  l_act h (xe_3 _ _ _) (fun c => s_min h (bR_lt6 (xo_1 c)) (bR_lt6 (xo_1 (xo_2 c))) (bR_lt6 (xo_2 (xo_2 c)))) hw hm
theorem l_times (h : RV g kn tt bb eT eB oT oB pk ca rf vs n9) (hw : WR (xo (bR x1) (xo (bR x2) (bR x3))) (f_setW (f_mul g 6 (nn x2) (nn x3)) (nn x1)) (f_setR (f_mul g 6 (nn x2) (nn x3)) (nn x1)).toInt64 g rk g1 ox) (hm : AC (m_or (m_isNo x1) (m_areNo x2 x3)) 0 tt bb rf (nn x1) (LO (tt (nn x2) * tt (nn x3)) (bb (nn x2) * bb (nn x3))) r th tt1 bb1 rf1) : th = rk ∧ (rk = 0 → ox = r.toInt64) ∧ RV g1 kn tt1 bb1 eT eB oT oB pk ca rf1 vs n9 :=
  l_act h (xe_3 _ _ _) (fun c => s_tim h (bR_lt6 (xo_1 c)) (bR_lt6 (xo_1 (xo_2 c))) (bR_lt6 (xo_2 (xo_2 c)))) hw hm
theorem l_over (h : RV g kn tt bb eT eB oT oB pk ca rf vs n9) (hw : WR (xo (bR x1) (xo (bR x2) (bR x3))) (f_overW g (nn x1) (nn x2) (nn x3)) (f_overR g (nn x1) (nn x2) (nn x3)).toInt64 g rk g1 ox) (hm : AC (m_or (m_isNo x1) (m_areNo x2 x3)) 0 tt bb rf (nn x1) (m_OV (tt (nn x2)) (bb (nn x2)) (tt (nn x3)) (bb (nn x3))) r th tt1 bb1 rf1) : th = rk ∧ (rk = 0 → ox = r.toInt64) ∧ RV g1 kn tt1 bb1 eT eB oT oB pk ca rf1 vs n9 :=
  l_act h (xe_3 _ _ _) (fun c => s_ovr h (bR_lt6 (xo_1 c)) (bR_lt6 (xo_1 (xo_2 c))) (bR_lt6 (xo_2 (xo_2 c)))) hw hm
theorem l_mediant (h : RV g kn tt bb eT eB oT oB pk ca rf vs n9) (hw : WR (xo (bR x1) (xo (bR x2) (bR x3))) (f_setW (f_med g 6 (nn x2) (nn x3)) (nn x1)) (f_setR (f_med g 6 (nn x2) (nn x3)) (nn x1)).toInt64 g rk g1 ox) (hm : AC (m_or (m_isNo x1) (m_areNo x2 x3)) 0 tt bb rf (nn x1) (LO (tt (nn x2) + tt (nn x3)) (bb (nn x2) + bb (nn x3))) r th tt1 bb1 rf1) : th = rk ∧ (rk = 0 → ox = r.toInt64) ∧ RV g1 kn tt1 bb1 eT eB oT oB pk ca rf1 vs n9 :=
  l_act h (xe_3 _ _ _) (fun c => s_med h (bR_lt6 (xo_1 c)) (bR_lt6 (xo_1 (xo_2 c))) (bR_lt6 (xo_2 (xo_2 c)))) hw hm
theorem l_negate (h : RV g kn tt bb eT eB oT oB pk ca rf vs n9) (hw : WR (bR x1) (f_setW (f_become g 6 (-tT g (nn x1)) (tB g (nn x1))) (nn x1)) (f_setR (f_become g 6 (-tT g (nn x1)) (tB g (nn x1))) (nn x1)).toInt64 g rk g1 ox) (hm : AC (m_isNo x1) 0 tt bb rf (nn x1) (LO (-tt (nn x1)) (bb (nn x1))) r th tt1 bb1 rf1) : th = rk ∧ (rk = 0 → ox = r.toInt64) ∧ RV g1 kn tt1 bb1 eT eB oT oB pk ca rf1 vs n9 :=
  l_act h (xe_1 _) (fun c => s_neg h (bR_lt6 c)) hw hm
theorem l_invert (h : RV g kn tt bb eT eB oT oB pk ca rf vs n9) (hw : WR (bR x1) (f_invW g (nn x1)) (f_invR g (nn x1)).toInt64 g rk g1 ox) (hm : AC (m_isNo x1) 0 tt bb rf (nn x1) (m_IV (tt (nn x1)) (bb (nn x1))) r th tt1 bb1 rf1) : th = rk ∧ (rk = 0 → ox = r.toInt64) ∧ RV g1 kn tt1 bb1 eT eB oT oB pk ca rf1 vs n9 :=
  l_act h (xe_1 _) (fun c => s_inv h (bR_lt6 c)) hw hm
theorem l_raise (h : RV g kn tt bb eT eB oT oB pk ca rf vs n9) (hw : WR (xo (bR x1) (2 * bW x2 (-6) 6)) (f_raiW g (nn x1) x2) (f_raiR g (nn x1) x2).toInt64 g rk g1 ox) (hm : AC (m_isNo x1) (m_not (m_isIn x2 (-6) 6)) tt bb rf (nn x1) (m_RA (tt (nn x1)) (bb (nn x1)) x2) r th tt1 bb1 rf1) : th = rk ∧ (rk = 0 → ox = r.toInt64) ∧ RV g1 kn tt1 bb1 eT eB oT oB pk ca rf1 vs n9 :=
  l_act h (xe_1b (bW_2 _ _ _) (in_bW _ _ _)) (fun c => by
    obtain ⟨a, b⟩ := bW_in (tx_mul0 (xo_2 c))
    exact s_rai h (bR_lt6 (xo_1 c)) a b) hw hm
theorem l_convergent (h : RV g kn tt bb eT eB oT oB pk ca rf vs n9) (hw : WR (xo (bR x1) (xo (bR x2) (2 * bN x3))) (f_conW (f_apart g 1 (nn x2)) (nn x1) x3) (f_conR (f_apart g 1 (nn x2)) (nn x1) x3).toInt64 g rk g1 ox) (hm : AC (m_areNo x1 x2) (m_lt0 x3) tt bb rf (nn x1) (m_CV (tt (nn x2)) (bb (nn x2)) x3) r th tt1 bb1 rf1) : th = rk ∧ (rk = 0 → ox = r.toInt64) ∧ RV g1 kn tt1 bb1 eT eB oT oB pk ca rf1 vs n9 :=
  l_act h (xe_2b (bN_2 _) (lt_bN _)) (fun c => s_con h (bR_lt6 (xo_1 c)) (bR_lt6 (xo_1 (xo_2 c))) (bN_le (tx_mul0 (xo_2 (xo_2 c))))) hw hm
theorem l_fold (h : RV g kn tt bb eT eB oT oB pk ca rf vs n9) (hw : WR (bR x1) (f_fsW g 0 (nn x1)) (f_fsR g 0 (nn x1)).toInt64 g rk g1 ox) (hm : AC (m_isNo x1) 0 tt bb rf (nn x1) o r th tt1 bb1 rf1) (ho : m_fl (m_isNo x1) 0 = 0 → m_FO n9 vs o) : th = rk ∧ (rk = 0 → ox = r.toInt64) ∧ RV g1 kn tt1 bb1 eT eB oT oB pk ca rf1 vs n9 :=
  l_act h (xe_1 _) (fun c => s_fold h (bR_lt6 c) (ho ((xe_1 x1).2.mp c))) hw hm
theorem l_lower (h : RV g kn tt bb eT eB oT oB pk ca rf vs n9) (hw : WR (xo (bR x1) (xo (bR x2) (2 * bW x3 1 200))) (f_setW (f_nb g 6 (nn x2) x3 1) (nn x1)) (f_setR (f_nb g 6 (nn x2) x3 1) (nn x1)).toInt64 g rk g1 ox) (hm : AC (m_areNo x1 x2) (m_not (m_isIn x3 1 200)) tt bb rf (nn x1) (some (m_NB (tt (nn x2)) (bb (nn x2)) (nn x3) 0)) r th tt1 bb1 rf1) : th = rk ∧ (rk = 0 → ox = r.toInt64) ∧ RV g1 kn tt1 bb1 eT eB oT oB pk ca rf1 vs n9 :=
  l_act h (xe_2b (bW_2 _ _ _) (in_bW _ _ _)) (fun c => by
    obtain ⟨e, n1, n2⟩ := bW_n1 (n := 200) (by decide) (tx_mul0 (xo_2 (xo_2 c)))
    have := s_nb h (bR_lt6 (xo_1 c)) (bR_lt6 (xo_1 (xo_2 c))) (s := 1) (u := 0) (sd := 1) (Or.inl ⟨rfl, rfl, rfl⟩) n1 n2
    rw [← e] at this
    exact this) hw hm
theorem l_upper (h : RV g kn tt bb eT eB oT oB pk ca rf vs n9) (hw : WR (xo (bR x1) (xo (bR x2) (2 * bW x3 1 200))) (f_setW (f_nb g 6 (nn x2) x3 (-1)) (nn x1)) (f_setR (f_nb g 6 (nn x2) x3 (-1)) (nn x1)).toInt64 g rk g1 ox) (hm : AC (m_areNo x1 x2) (m_not (m_isIn x3 1 200)) tt bb rf (nn x1) (some (m_NB (tt (nn x2)) (bb (nn x2)) (nn x3) 1)) r th tt1 bb1 rf1) : th = rk ∧ (rk = 0 → ox = r.toInt64) ∧ RV g1 kn tt1 bb1 eT eB oT oB pk ca rf1 vs n9 :=
  l_act h (xe_2b (bW_2 _ _ _) (in_bW _ _ _)) (fun c => by
    obtain ⟨e, n1, n2⟩ := bW_n1 (n := 200) (by decide) (tx_mul0 (xo_2 (xo_2 c)))
    have := s_nb h (bR_lt6 (xo_1 c)) (bR_lt6 (xo_1 (xo_2 c))) (s := -1) (u := 1) (sd := -1) (Or.inr ⟨rfl, rfl, rfl⟩) n1 n2
    rw [← e] at this
    exact this) hw hm
theorem l_best (h : RV g kn tt bb eT eB oT oB pk ca rf vs n9) (hw : WR (xo (bR x1) (xo (bR x2) (2 * bW x3 1 200))) (f_setW (f_best g (nn x2) x3) (nn x1)) (f_setR (f_best g (nn x2) x3) (nn x1)).toInt64 g rk g1 ox) (hm : AC (m_areNo x1 x2) (m_not (m_isIn x3 1 200)) tt bb rf (nn x1) (some (m_BS (tt (nn x2)) (bb (nn x2)) (nn x3))) r th tt1 bb1 rf1) : th = rk ∧ (rk = 0 → ox = r.toInt64) ∧ RV g1 kn tt1 bb1 eT eB oT oB pk ca rf1 vs n9 :=
  l_act h (xe_2b (bW_2 _ _ _) (in_bW _ _ _)) (fun c => by
    obtain ⟨e, n1, n2⟩ := bW_n1 (n := 200) (by decide) (tx_mul0 (xo_2 (xo_2 c)))
    have := s_best h (bR_lt6 (xo_1 c)) (bR_lt6 (xo_1 (xo_2 c))) n1 n2
    rw [← e] at this
    exact this) hw hm
theorem l_up (h : RV g kn tt bb eT eB oT oB pk ca rf vs n9) (hw : WR (bR x1) (f_upX g (nn x1)) (f_upR g (nn x1)).toInt64 g rk g1 ox) (hm : AC (m_isNo x1) 0 tt bb rf (nn x1) (m_UP (tt (nn x1)) (bb (nn x1))) r th tt1 bb1 rf1) : th = rk ∧ (rk = 0 → ox = r.toInt64) ∧ RV g1 kn tt1 bb1 eT eB oT oB pk ca rf1 vs n9 :=
  l_act h (xe_1 _) (fun c => s_up h (bR_lt6 c)) hw hm
theorem l_down (h : RV g kn tt bb eT eB oT oB pk ca rf vs n9) (h2 : x2 = 0 ∨ x2 = 1) (hw : WR (bR x1) (f_dnX g (nn x1) x2) (f_dnR g (nn x1) x2).toInt64 g rk g1 ox) (hm : AC (m_isNo x1) 0 tt bb rf (nn x1) (m_DN (tt (nn x1)) (bb (nn x1)) x2) r th tt1 bb1 rf1) : th = rk ∧ (rk = 0 → ox = r.toInt64) ∧ RV g1 kn tt1 bb1 eT eB oT oB pk ca rf1 vs n9 :=
  l_act h (xe_1 _) (fun c => s_dn h (bR_lt6 c) h2) hw hm
theorem l_before (h : RV g kn tt bb eT eB oT oB pk ca rf vs n9) (hw : WR (bR x1) (f_befW g (nn x1)) (f_befR g (nn x1)).toInt64 g rk g1 ox) (hm : AC (m_isNo x1) 0 tt bb rf (nn x1) (m_BF (tt (nn x1)) (bb (nn x1))) r th tt1 bb1 rf1) : th = rk ∧ (rk = 0 → ox = r.toInt64) ∧ RV g1 kn tt1 bb1 eT eB oT oB pk ca rf1 vs n9 :=
  l_act h (xe_1 _) (fun c => s_bef h (bR_lt6 c)) hw hm
theorem l_next (h : RV g kn tt bb eT eB oT oB pk ca rf vs n9) (hw : WR (xo (bR x1) (2 * bW x2 1 50)) (f_nextW g (nn x1) x2) (f_nextR g (nn x1) x2).toInt64 g rk g1 ox) (hm : AN (m_isNo x1) (m_not (m_isIn x2 1 50)) tt bb rf (nn x1) (m_NX (tt (nn x1)) (bb (nn x1)) (nn x2)) r th tt1 bb1 rf1) : th = rk ∧ (rk = 0 → ox = r.toInt64) ∧ RV g1 kn tt1 bb1 eT eB oT oB pk ca rf1 vs n9 := by
  have hx := xe_1b (x := x1) (bW_2 x2 1 50) (in_bW x2 1 50)
  obtain ⟨w1, w2, w3⟩ := id hw
  obtain ⟨m1, m2, m3⟩ := hm
  by_cases c : xo (bR x1) (2 * bW x2 1 50) = 0
  · obtain ⟨v1, v2⟩ := w2 c
    obtain ⟨e, n1, n2⟩ := bW_n1 (n := 50) (by decide) (tx_mul0 (xo_2 c))
    obtain ⟨s1, s2⟩ := s_nxt h (bR_lt6 (xo_1 c)) n1 n2
    rw [← e] at s1 s2
    obtain ⟨b1, b2, b3, b4⟩ := m2 (hx.2.mp c)
    rw [v1, v2, b1, b2, b3, b4, s1]
    exact ⟨by rw [m1, w1, hx.1], fun _ => rfl, s2⟩
  · obtain ⟨b2, b3, b4⟩ := m3 (fun z => c (hx.2.mpr z))
    rw [b2, b3, b4]
    exact l_ask (A := m_isNo x1) (B := m_not (m_isIn x2 1 50)) (x := 0) h hx (fun z => absurd z c) hw ⟨m1, fun z => absurd (hx.2.mpr z) c⟩
theorem xe_smp : nI (xo (bR x1) (xo (bR x2) (xo (2 * bW x3 0 2) (2 * bW x4 0 4)))) = m_th (m_areNo x1 x2) (m_or (m_not (m_isIn x3 0 2)) (m_not (m_isIn x4 0 4))) ∧ (xo (bR x1) (xo (bR x2) (xo (2 * bW x3 0 2) (2 * bW x4 0 4))) = 0 ↔ m_fl (m_areNo x1 x2) (m_or (m_not (m_isIn x3 0 2)) (m_not (m_isIn x4 0 4))) = 0) := by
  rw [xo_22]
  exact xe_2b (xo_2b (bW_2 _ _ _) (bW_2 _ _ _)) (or_xo (bW_2 _ _ _) (bW_2 _ _ _) (in_bW _ _ _) (in_bW _ _ _))
theorem l_simplest (h : RV g kn tt bb eT eB oT oB pk ca rf vs n9) (hw : WR (xo (bR x1) (xo (bR x2) (xo (2 * bW x3 0 2) (2 * bW x4 0 4)))) (f_setW (f_sm g 6 (nn x2) x3 x4) (nn x1)) (f_setR (f_sm g 6 (nn x2) x3 x4) (nn x1)).toInt64 g rk g1 ox) (hm : AC (m_areNo x1 x2) (m_or (m_not (m_isIn x3 0 2)) (m_not (m_isIn x4 0 4))) tt bb rf (nn x1) o r th tt1 bb1 rf1) (ho : m_fl (m_areNo x1 x2) (m_or (m_not (m_isIn x3 0 2)) (m_not (m_isIn x4 0 4))) = 0 → ∃ p, o = some p ∧ m_SMP (tt (nn x2)) (bb (nn x2)) (nn x3) x4 p) : th = rk ∧ (rk = 0 → ox = r.toInt64) ∧ RV g1 kn tt1 bb1 eT eB oT oB pk ca rf1 vs n9 :=
  l_act h xe_smp (fun c => by
    obtain ⟨p, rfl, hp⟩ := ho (xe_smp.2.mp c)
    have c3 := xo_2 (xo_2 c)
    obtain ⟨e, hn⟩ := bW_nn (n := 2) (by decide) (tx_mul0 (xo_1 c3))
    have := s_smp h (bR_lt6 (xo_1 c)) (bR_lt6 (xo_1 (xo_2 c))) hn (bW_md (tx_mul0 (xo_2 c3))) hp
    rw [← e] at this
    exact this) hw hm
/-! questions -/
theorem q_part {w : Nat} (hw : w ≤ 3) {i j : Nat} {t b : Int64} (e1 : tT g i = t) (e2 : tB g i = b) (h : m_F t b) : f_part g i (nI w) = m_pt t b w := by
  have hk : w = 0 ∨ w = 1 ∨ w = 2 ∨ w = 3 := by omega
  unfold f_part
  rw [e1, e2, q_ffl (by have := h.1; omega) h.2.1]
  rcases hk with rfl | rfl | rfl | rfl
  · rw [if_pos (show nI 0 = 0 from nI_0)]
    rfl
  · rw [if_neg (show ¬ nI 1 = 0 by decide), if_pos (show nI 1 = 1 by decide)]
    rfl
  · rw [if_neg (show ¬ nI 2 = 0 by decide), if_neg (show ¬ nI 2 = 1 by decide), if_pos (show nI 2 = 2 by decide)]
    rfl
  · rw [if_neg (show ¬ nI 3 = 0 by decide), if_neg (show ¬ nI 3 = 1 by decide), if_neg (show ¬ nI 3 = 2 by decide)]
    rfl
theorem l_part (h : RV g kn tt bb eT eB oT oB pk ca rf vs n9) (hw : WR (xo (bR x1) (2 * bW x2 0 3)) g ((f_part g (nn x1) x2).toInt32).toInt64 g rk g1 ox) (hm : QU (m_isNo x1) (m_not (m_isIn x2 0 3)) ((m_pt (tt (nn x1)) (bb (nn x1)) (nn x2)).toInt32) r th) : th = rk ∧ (rk = 0 → ox = r.toInt64) ∧ RV g1 kn tt bb eT eB oT oB pk ca rf vs n9 :=
  l_ask h (xe_1b (bW_2 _ _ _) (in_bW _ _ _)) (fun c => by
    obtain ⟨e, hn⟩ := bW_nn (n := 3) (by decide) (tx_mul0 (xo_2 c))
    obtain ⟨a1, a2, a3, a4⟩ := h.1 _ (bR_lt6 (xo_1 c))
    have := q_part (g := g) (j := 0) hn a1 a2 a3
    rw [← e] at this
    rw [this]
    exact ⟨rfl, h⟩) hw hm
theorem q_cmpO {t b u v : Int64} : f_cmp (t * v) (u * b) = m_ord t b u v := by
  unfold f_cmp m_ord
  by_cases c1 : t * v < u * b
  · rw [if_pos c1, if_pos c1]
  · rw [if_neg c1, if_neg c1]
    by_cases c2 : t * v = u * b
    · rw [if_pos c2, if_neg (by rw [c2]; exact Int64.lt_irrefl)]
    · rw [if_neg c2]
      have : u * b < t * v := Int64.lt_of_le_of_ne (Int64.not_lt.mp c1) (fun z => c2 z.symm)
      rw [if_pos this]
theorem l_compare (h : RV g kn tt bb eT eB oT oB pk ca rf vs n9) (hw : WR (xo (bR x1) (bR x2)) g (f_cmp (tT g (nn x1) * tB g (nn x2)) (tT g (nn x2) * tB g (nn x1))).toInt64 g rk g1 ox) (hm : QU (m_areNo x1 x2) 0 (m_ord (tt (nn x1)) (bb (nn x1)) (tt (nn x2)) (bb (nn x2))) r th) : th = rk ∧ (rk = 0 → ox = r.toInt64) ∧ RV g1 kn tt bb eT eB oT oB pk ca rf vs n9 :=
  l_ask h (xe_2 _ _) (fun c => by
    obtain ⟨a1, a2, -, -⟩ := h.1 _ (bR_lt6 (xo_1 c))
    obtain ⟨b1, b2, -, -⟩ := h.1 _ (bR_lt6 (xo_2 c))
    rw [a1, a2, b1, b2, q_cmpO]
    exact ⟨rfl, h⟩) hw hm
theorem q_nx1 {t b u v : Int64} (h : m_F t b) (k : m_F u v) : f_next t b u v = m_nx1 t b u v := by
  obtain ⟨x1, x1b⟩ := m_mulB (x := t) (y := v) (B := 1000000000) (C := 1000000000) h.1 (by have := k.2; omega) (by decide)
  obtain ⟨x2, x2b⟩ := m_mulB (x := u) (y := b) (B := 1000000000) (C := 1000000000) k.1 (by have := h.2; omega) (by decide)
  obtain ⟨x3, x3b⟩ := m_subB (x := t * v) (y := u * b) (B := 1000000000 * 1000000000) (C := 1000000000 * 1000000000) x1b x2b (by decide)
  unfold f_next m_nx1
  have ha := m_abs (a := t * v - u * b) (by omega)
  have e1 : (1 : Int64).toInt = 1 := rfl
  have en : (-1 : Int64).toInt = -1 := by decide
  by_cases c1 : t * v - u * b = 1
  · rw [if_pos c1, if_pos (Int64.toInt_inj.mp (by rw [ha, c1, e1]; rfl))]
  · rw [if_neg c1]
    have d1 : (t * v - u * b).toInt ≠ 1 := fun z => c1 (Int64.toInt_inj.mp (by rw [z, e1]))
    by_cases c2 : t * v - u * b = -1
    · rw [if_pos c2, if_pos (Int64.toInt_inj.mp (by rw [ha, c2, e1, en]; rfl))]
    · have d2 : (t * v - u * b).toInt ≠ -1 := fun z => c2 (Int64.toInt_inj.mp (by rw [z, en]))
      rw [if_neg c2, if_neg (fun z => by
        have := congrArg Int64.toInt z
        rw [ha, e1] at this
        omega)]
theorem l_areNext (h : RV g kn tt bb eT eB oT oB pk ca rf vs n9) (hw : WR (xo (bR x1) (bR x2)) g (f_next (tT g (nn x1)) (tB g (nn x1)) (tT g (nn x2)) (tB g (nn x2))).toInt64 g rk g1 ox) (hm : QU (m_areNo x1 x2) 0 (m_nx1 (tt (nn x1)) (bb (nn x1)) (tt (nn x2)) (bb (nn x2))) r th) : th = rk ∧ (rk = 0 → ox = r.toInt64) ∧ RV g1 kn tt bb eT eB oT oB pk ca rf vs n9 :=
  l_ask h (xe_2 _ _) (fun c => by
    obtain ⟨a1, a2, a3, -⟩ := h.1 _ (bR_lt6 (xo_1 c))
    obtain ⟨b1, b2, b3, -⟩ := h.1 _ (bR_lt6 (xo_2 c))
    rw [a1, a2, b1, b2, q_nx1 a3 b3]
    exact ⟨rfl, h⟩) hw hm
theorem l_term (h : RV g kn tt bb eT eB oT oB pk ca rf vs n9) (hw : WR (xo (bR x1) (2 * bN x2)) (f_apart g 1 (nn x1)) (f_term (f_apart g 1 (nn x1)) x2).toInt64 g rk g1 ox) (hm : QU (m_isNo x1) (m_lt0 x2) (m_TM (tt (nn x1)) (bb (nn x1)) x2) r th) : th = rk ∧ (rk = 0 → ox = r.toInt64) ∧ RV g1 kn tt bb eT eB oT oB pk ca rf vs n9 :=
  l_ask h (xe_1b (bN_2 _) (lt_bN _)) (fun c => ⟨s_trm h (bR_lt6 (xo_1 c)) (bN_le (tx_mul0 (xo_2 c))), h.lzv (lz_apt g _)⟩) hw hm
theorem l_depth (h : RV g kn tt bb eT eB oT oB pk ca rf vs n9) (hw : WR (bR x1) (f_depW g (nn x1)) ((f_depR g (nn x1)).toInt32).toInt64 g rk g1 ox) (hm : QU (m_isNo x1) 0 (m_DP (tt (nn x1)) (bb (nn x1))) r th) : th = rk ∧ (rk = 0 → ox = r.toInt64) ∧ RV g1 kn tt bb eT eB oT oB pk ca rf vs n9 :=
  l_ask h (xe_1 _) (fun c => ⟨s_dep h (bR_lt6 c), h.lzv (lz_depW g _)⟩) hw hm
theorem q_whL (h : RV g kn tt bb eT eB oT oB pk ca rf vs n9) : ∀ (n k : Nat) (a : Int32), k + n = 6 → whL g n k a = m_whL bb n k a := by
  intro n
  induction n with
  | zero => intro k a _; rfl
  | succ n ih =>
    intro k a hk
    obtain ⟨-, a2, -, -⟩ := h.1 k (by omega)
    unfold whL m_whL
    rw [a2]
    by_cases c : bb k = 1
    · rw [if_pos c, if_pos c]
      exact ih (k + 1) _ (by omega)
    · rw [if_neg c, if_neg c, show a + (0 : Int32) = a from Int32.add_zero a]
      exact ih (k + 1) a (by omega)
theorem l_house (h : RV g kn tt bb eT eB oT oB pk ca rf vs n9) (hw : WR (bW x1 0 4) g (f_cnt g x1).toInt64 g rk g1 ox) (hm : QU (m_not (m_isIn x1 0 4)) 0 (m_HS bb rf kn n9 ca (nn x1)) r th) : th = rk ∧ (rk = 0 → ox = r.toInt64) ∧ RV g1 kn tt bb eT eB oT oB pk ca rf vs n9 :=
  l_ask h (th_of (bW_2 _ _ _) (Or.inl rfl) (in_bW _ _ _) nI_0.symm (by
    generalize bW x1 0 4 = q
    unfold xo; split <;> omega)) (fun c => by
    obtain ⟨e, hn⟩ := bW_nn (n := 4) (by decide) c
    refine ⟨?_, h⟩
    have hq := q_whL h 6 0 0 rfl
    obtain ⟨h1, h2, h3, ⟨a1, a2, a3, a4, a5⟩, c1, c2, c3⟩ := h
    generalize nn x1 = k at e hn ⊢
    subst e
    have hk : k = 0 ∨ k = 1 ∨ k = 2 ∨ k = 3 ∨ k = 4 := by omega
    unfold f_cnt m_HS f_whole
    rw [hq, a1, a2, a3, c1]
    rcases hk with rfl | rfl | rfl | rfl | rfl
    · rfl
    · rfl
    · rfl
    · rfl
    · rfl) hw hm
/-! the ROW -/
theorem l_say {n1 : Nat} {vs1 : Nat → Value} (h : RV g kn tt bb eT eB oT oB pk ca rf vs n9) (hw : WR (xo (bW x1 (-99999) 99999) (if tC g 0 < 16 then 0 else 2)) (f_addLast g 0 x1.toInt64) (tC (f_addLast g 0 x1.toInt64) 0).toInt64 g rk g1 ox) (hm : m_say x1 n9 r n1 th) (hv1 : th = 0 → vs1 = va_up vs n9 (.int x1)) (hv2 : ¬ th = 0 → vs1 = vs) : th = rk ∧ (rk = 0 → ox = r.toInt64) ∧ RV g1 kn tt bb eT eB oT oB pk ca rf vs1 n1 := by
  obtain ⟨h1, h2, h3⟩ := hw
  obtain ⟨c1, c2, c3⟩ := h.2.2.2.2
  have hb : bW x1 (-99999) 99999 = if m_isIn x1 (-99999) 99999 = 0 then 1 else 0 := by
    unfold bW m_isIn
    by_cases a : x1 < -99999
    · simp [a]
    · by_cases b : x1 ≤ 99999
      · simp [a, b, Int32.not_lt.mpr b]
      · simp [a, b, Int32.not_le.mp b]
  have h16 : tC g 0 < 16 ↔ n9 ≠ 16 := by
    rw [c1]
    have := nI_ltI (a := n9) (b := 16) (by omega) (by decide)
    exact ⟨fun z => by have := this.mp z; omega, fun z => this.mpr (by omega)⟩
  rcases hm with ⟨a, rfl, rfl, rfl⟩ | ⟨a, b, rfl, rfl, rfl⟩ | ⟨a, b, rfl, rfl, rfl⟩
  · have e : xo (bW x1 (-99999) 99999) (if tC g 0 < 16 then 0 else 2) = 1 := by rw [hb, if_pos a]; rfl
    rw [e] at h1 h2 h3
    rw [h1, h3 (by decide), hv2 (by decide)]
    exact ⟨rfl, fun z => absurd z (by decide), h⟩
  · have e : xo (bW x1 (-99999) 99999) (if tC g 0 < 16 then 0 else 2) = 2 := by rw [hb, if_neg a, if_neg (fun z => (h16.mp z) b)]; rfl
    rw [e] at h1 h2 h3
    rw [h1, h3 (by decide), hv2 (by decide)]
    exact ⟨rfl, fun z => absurd z (by decide), h⟩
  · have e : xo (bW x1 (-99999) 99999) (if tC g 0 < 16 then 0 else 2) = 0 := by rw [hb, if_neg a, if_pos (h16.mpr b)]; rfl
    rw [e] at h1 h2 h3
    obtain ⟨k1, k2⟩ := h2 rfl
    obtain ⟨k3, k4⟩ := s_say h (by omega) (m_said a)
    rw [h1, k1, k2, k3, hv1 rfl]
    exact ⟨rfl, fun _ => rfl, k4⟩
theorem l_unsay {n1 : Nat} (h : RV g kn tt bb eT eB oT oB pk ca rf vs n9) (hw : WR (bW x1 0 16) (f_uns g x1) (tC (f_uns g x1) 0).toInt64 g rk g1 ox) (hm : m_uns x1 n9 r n1 th) : th = rk ∧ (rk = 0 → ox = r.toInt64) ∧ RV g1 kn tt bb eT eB oT oB pk ca rf vs n1 := by
  obtain ⟨h1, h2, h3⟩ := hw
  have hb : bW x1 0 16 = if m_isIn x1 0 16 = 0 then 1 else 0 := by
    unfold bW m_isIn
    by_cases a : x1 < 0
    · simp [a]
    · by_cases b : x1 ≤ 16
      · simp [a, b, Int32.not_lt.mpr b]
      · simp [a, b, Int32.not_le.mp b]
  rcases hm with ⟨a, rfl, rfl, rfl⟩ | ⟨km, rfl, b, rfl, rfl, rfl⟩
  · have e : bW x1 0 16 = 1 := by rw [hb, if_pos a]
    rw [e] at h1 h2 h3
    rw [h1, h3 (by decide)]
    exact ⟨rfl, fun z => absurd z (by decide), h⟩
  · have e : bW (nI km) 0 16 = 0 := by
      unfold bW
      rw [if_neg (nI_pos (by omega)), if_pos (show nI km ≤ (16 : Int32) from (nI_leI (b := 16) (by omega) (by decide)).mpr b)]
    rw [e] at h1 h2 h3
    obtain ⟨k1, k2⟩ := h2 rfl
    obtain ⟨k3, k4⟩ := s_uns h b
    rw [h1, k1, k2, k3]
    exact ⟨rfl, fun _ => rfl, k4⟩
end RV15
