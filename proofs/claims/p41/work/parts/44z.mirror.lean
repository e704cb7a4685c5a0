/-! ===== what the reference's calls make, in bounds ===== -/
theorem m_i32 (x : Int32) : x.toInt64.toInt.natAbs ≤ 2147483648 := by
  rw [Int32.toInt_toInt64]
  have h1 := x.toInt_lt
  have h2 := x.le_toInt
  omega
theorem m_lo32 {t b : Int32} (h : ¬ b = 0) : ¬ m_div t.toInt64 b.toInt64 = 0 ∧ 1 ≤ (m_loB t.toInt64 b.toInt64).toInt := by
  have h1 := m_i32 t
  have h2 := m_i32 b
  have h0 : ¬ b.toInt64 = 0 := fun z => h (Int32.toInt_inj.mp (by have := congrArg Int64.toInt z; rw [Int32.toInt_toInt64] at this; rw [this]; rfl))
  obtain ⟨q1, q2, -, -⟩ := m_lo (t := t.toInt64) (b := b.toInt64) (by omega) (by omega) h0
  exact ⟨q1, q2⟩
theorem m_sumP {ta ba tb bb : Int64} (sg : Int32) (h : m_F ta ba) (h2 : m_F tb bb) (hs : sg = 1 ∨ sg = -1) : ¬ m_div (ta * bb + sg.toInt64 * (tb * ba)) (ba * bb) = 0 ∧ 1 ≤ (m_loB (ta * bb + sg.toInt64 * (tb * ba)) (ba * bb)).toInt ∧ (m_loB (ta * bb + sg.toInt64 * (tb * ba)) (ba * bb)).toInt ≤ 1000000000000000000 ∧ (m_loT (ta * bb + sg.toInt64 * (tb * ba)) (ba * bb)).toInt.natAbs ≤ 2000000000000000000 := by
  obtain ⟨a1, a2, a3⟩ := h
  obtain ⟨b1, b2, b3⟩ := h2
  have hsg : sg.toInt64.toInt.natAbs ≤ 1 := by rcases hs with rfl | rfl <;> decide
  obtain ⟨e1, e2⟩ := m_mulB (x := ta) (y := bb) (B := 1000000000) (C := 1000000000) a1 (by omega) (by decide)
  obtain ⟨g1, g2⟩ := m_mulB (x := tb) (y := ba) (B := 1000000000) (C := 1000000000) b1 (by omega) (by decide)
  obtain ⟨k1, k2⟩ := m_mulB (x := sg.toInt64) (y := tb * ba) (B := 1) (C := 1000000000 * 1000000000) hsg g2 (by decide)
  obtain ⟨j1, j2⟩ := m_addB (x := ta * bb) (y := sg.toInt64 * (tb * ba)) (B := 1000000000 * 1000000000) (C := 1 * (1000000000 * 1000000000)) e2 k2 (by decide)
  obtain ⟨f1, f2⟩ := m_mulB (x := ba) (y := bb) (B := 1000000000) (C := 1000000000) (by omega) (by omega) (by decide)
  have h0 : 1 * 1 ≤ ba.toInt * bb.toInt := Int.mul_le_mul a2 b2 (by decide) (by omega)
  have h3 : 1 ≤ (ba * bb).toInt := by rw [f1]; omega
  exact m_loP (B := 2000000000000000000) (C := 1000000000000000000) (by omega) (by decide) h3 (by omega)
theorem m_btwP {ta ba tb bb : Int64} (h : m_F ta ba) (h2 : m_F tb bb) : ¬ m_div (ta + tb) (ba + bb) = 0 ∧ 1 ≤ (m_loB (ta + tb) (ba + bb)).toInt := by
  obtain ⟨a1, a2, a3⟩ := h
  obtain ⟨b1, b2, b3⟩ := h2
  obtain ⟨e1, e2⟩ := m_addB (x := ta) (y := tb) (B := 1000000000) (C := 1000000000) a1 b1 (by decide)
  obtain ⟨f1, f2⟩ := m_addB (x := ba) (y := bb) (B := 1000000000) (C := 1000000000) (by omega) (by omega) (by decide)
  obtain ⟨q1, q2, -, -⟩ := m_loP (t := ta + tb) (b := ba + bb) (B := 2000000000) (C := 2000000000) (by omega) (by decide) (by omega) (by omega)
  exact ⟨q1, q2⟩
theorem m_negP {t b : Int64} (h : m_F t b) : ¬ m_div (-t) b = 0 ∧ 1 ≤ (m_loB (-t) b).toInt := by
  obtain ⟨a1, a2, a3⟩ := h
  have := (m_negB a1 (by decide)).2
  obtain ⟨q1, q2, -, -⟩ := m_loP (t := -t) (b := b) (B := 1000000000) (C := 1000000000) this (by decide) a2 (by omega)
  exact ⟨q1, q2⟩
theorem m_invP {t b : Int64} (h : m_F t b) (h0 : ¬ t = 0) : m_F (m_loT b t) (m_loB b t) := by
  obtain ⟨q1, q2, q3, q4⟩ := m_inv h h0
  exact ⟨q4, q2, q3⟩
theorem m_abs6 {x : Int32} (h : ¬ m_isIn x (-6) 6 = 0) : ∃ k : Nat, f_absI x = nI k ∧ k ≤ 6 := by
  obtain ⟨h1, h2⟩ := m_inS h
  have e1 : (-6 : Int32).toInt = -6 := by decide
  have e2 : (6 : Int32).toInt = 6 := by decide
  rw [e1] at h1
  rw [e2] at h2
  have hx : x = Int32.ofInt x.toInt := by simp
  obtain ⟨z, hz⟩ : ∃ z, z = x.toInt := ⟨_, rfl⟩
  rw [← hz] at hx h1 h2
  have hall : ∀ i : Fin 13, f_absI (Int32.ofInt ((i.val : Int) - 6)) = nI (((i.val : Int) - 6).natAbs) := by decide +kernel
  have h3 : f_absI (Int32.ofInt ((((z + 6).toNat : Nat) : Int) - 6)) = nI (((((z + 6).toNat : Nat) : Int) - 6).natAbs) := hall ⟨(z + 6).toNat, by omega⟩
  have e3 : (((z + 6).toNat : Nat) : Int) - 6 = z := by omega
  rw [e3] at h3
  exact ⟨z.natAbs, by rw [hx]; exact h3, by omega⟩
theorem m_loT1 {t b : Int64} (ht : t.toInt < 9223372036854775807) (h1 : 1 ≤ t.toInt) (hb : b.toInt < 9223372036854775807) (h2 : 1 ≤ b.toInt) : 1 ≤ (m_loT t b).toInt := by
  have hg := m_divI (a := t) (b := b) (by omega) (by omega)
  have hg1 : 0 < Nat.gcd b.toInt.natAbs t.toInt.natAbs := Nat.gcd_pos_of_pos_left _ (by omega)
  have hg2 : Nat.gcd b.toInt.natAbs t.toInt.natAbs ≤ t.toInt.natAbs := Nat.le_of_dvd (by omega) (Nat.gcd_dvd_right _ _)
  obtain ⟨d1, d2⟩ := m_tdv (x := t) (y := m_div t b) (by omega) (by omega)
  have h0 : (0 : Int64) ≤ b := Int64.le_iff_toInt_le.mpr (by show (0 : Int) ≤ b.toInt; omega)
  have e : (m_loT t b).toInt = (t / m_div t b).toInt := by
    unfold m_loT
    rw [m_sgI (by omega), if_pos h0]
  have hgn : (m_div t b).toInt.natAbs = Nat.gcd b.toInt.natAbs t.toInt.natAbs := by omega
  have q1 : 1 ≤ t.toInt.natAbs / (m_div t b).toInt.natAbs := by
    rw [hgn]
    exact (Nat.one_le_div_iff hg1).mpr hg2
  have q3 : 0 ≤ (t / m_div t b).toInt := by rw [d1]; exact Int.tdiv_nonneg (by omega) (by omega)
  rw [e]
  omega
/-- the next one -/
theorem m_nxtP {t b : Int64} (h : m_F t b) (ht : 1 ≤ t.toInt) : ¬ b = 0 ∧ ¬ m_div b ((2 * m_floor t b + 1) * b - t) = 0 ∧ 1 ≤ (m_loB b ((2 * m_floor t b + 1) * b - t)).toInt ∧ 1 ≤ (m_loT b ((2 * m_floor t b + 1) * b - t)).toInt := by
  obtain ⟨a1, a2, a3⟩ := h
  have f1 := m_floorB a1 (by decide) a2
  obtain ⟨f2, f3⟩ := m_flr a1 (by decide) a2
  have e2 : (2 : Int64).toInt = 2 := by decide
  have e1 : (1 : Int64).toInt = 1 := rfl
  obtain ⟨g1, g2⟩ := m_mulB (x := 2) (y := m_floor t b) (B := 2) (C := 1000000001) (by decide) f1 (by decide)
  obtain ⟨j1, j2⟩ := m_addB (x := 2 * m_floor t b) (y := 1) (B := 2 * 1000000001) (C := 1) g2 (by decide) (by decide)
  obtain ⟨k1, k2⟩ := m_mulB (x := 2 * m_floor t b + 1) (y := b) (B := 2 * 1000000001 + 1) (C := 1000000000) j2 (by omega) (by decide)
  obtain ⟨l1, l2⟩ := m_subB (x := (2 * m_floor t b + 1) * b) (y := t) (B := (2 * 1000000001 + 1) * 1000000000) (C := 1000000000) k2 a1 (by decide)
  have hz : ((2 * m_floor t b + 1) * b - t).toInt = 2 * ((m_floor t b).toInt * b.toInt) + b.toInt - t.toInt := by
    rw [l1, k1, j1, g1, e2, e1, Int.add_mul, Int.mul_assoc, Int.one_mul]
  have hf : 0 ≤ (m_floor t b).toInt * b.toInt := by
    rcases Int.lt_or_le (m_floor t b).toInt 0 with z | z
    · have := Int.mul_le_mul_of_nonneg_right (show (m_floor t b).toInt ≤ -1 by omega) (show 0 ≤ b.toInt by omega)
      omega
    · exact Int.mul_nonneg z (by omega)
  have hc : 1 ≤ ((2 * m_floor t b + 1) * b - t).toInt := by rw [hz]; omega
  have hd : ((2 * m_floor t b + 1) * b - t).toInt ≤ 2000000000 := by rw [hz]; omega
  obtain ⟨q1, q2, q3, q4⟩ := m_loP (t := b) (b := (2 * m_floor t b + 1) * b - t) (B := 1000000000) (C := 2000000000) (by omega) (by decide) hc (by omega)
  refine ⟨m_ne0 a2, q1, q2, ?_⟩
  exact m_loT1 (by omega) a2 (by omega) hc
