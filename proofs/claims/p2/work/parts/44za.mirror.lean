/-! ===== ratios as whole numbers: lowest terms are one alone ===== -/
def Lw (t b : Int) : Prop := 1 ≤ b ∧ Int.gcd t b = 1
theorem Lw.eq {t b u v : Int} (h1 : Lw t b) (h2 : Lw u v) (h : t * v = u * b) : t = u ∧ b = v := by
  have g1 : Int.gcd b t = 1 := by rw [Int.gcd_comm]; exact h1.2
  have g2 : Int.gcd v u = 1 := by rw [Int.gcd_comm]; exact h2.2
  have d1 : b ∣ v := Int.gcd_eq_natAbs_left_iff_dvd.mp (by
    rw [← Int.gcd_mul_right_right_of_gcd_eq_one g1 (k := v)]
    exact Int.gcd_eq_natAbs_left ⟨u, by rw [h, Int.mul_comm]⟩)
  have d2 : v ∣ b := Int.gcd_eq_natAbs_left_iff_dvd.mp (by
    rw [← Int.gcd_mul_right_right_of_gcd_eq_one g2 (k := b)]
    exact Int.gcd_eq_natAbs_left ⟨t, by rw [← h, Int.mul_comm]⟩)
  have hb := h1.1
  have hv := h2.1
  have e : b = v := Int.dvd_antisymm (by omega) (by omega) d1 d2
  subst e
  exact ⟨Int.eq_of_mul_eq_mul_right (by omega) h, rfl⟩
def L64 (t b : Int64) : Prop := Lw t.toInt b.toInt
theorem L64.eq {t b u v : Int64} (h1 : L64 t b) (h2 : L64 u v) (h : t.toInt * v.toInt = u.toInt * b.toInt) : t = u ∧ b = v := by
  obtain ⟨e1, e2⟩ := Lw.eq h1 h2 h
  exact ⟨Int64.toInt_inj.mp e1, Int64.toInt_inj.mp e2⟩
/-- one number, told twice -/
theorem q_tr {t b u v x y : Int} (hv : v ≠ 0) (h1 : t * v = u * b) (h2 : u * y = x * v) : t * y = x * b := by
  have e : (t * y) * v = (x * b) * v := by
    have a1 : (t * y) * v = (t * v) * y := by rw [Int.mul_assoc, Int.mul_comm y v, ← Int.mul_assoc]
    have a2 : (x * b) * v = (x * v) * b := by rw [Int.mul_assoc, Int.mul_comm b v, ← Int.mul_assoc]
    rw [a1, a2, h1, ← h2, Int.mul_assoc, Int.mul_comm b y, ← Int.mul_assoc]
  exact Int.eq_of_mul_eq_mul_right hv e
theorem q_ne0 {b : Int64} (h : ¬ b = 0) : b.toInt ≠ 0 := fun z => h (Int64.toInt_inj.mp (by rw [z]; rfl))
theorem q_lo {t b : Int64} (ht : -9223372036854775808 < t.toInt) (hb : -9223372036854775808 < b.toInt) (h0 : ¬ b = 0) : L64 (m_loT t b) (m_loB t b) ∧ (m_loT t b).toInt * b.toInt = t.toInt * (m_loB t b).toInt := by
  have hb0 := q_ne0 h0
  have hg := m_divI ht hb
  have hg1 : 0 < Nat.gcd b.toInt.natAbs t.toInt.natAbs := Nat.gcd_pos_of_pos_left _ (by omega)
  have hg0 := Nat.gcd_comm b.toInt.natAbs t.toInt.natAbs
  obtain ⟨G, hG⟩ : ∃ G, G = Nat.gcd b.toInt.natAbs t.toInt.natAbs := ⟨_, rfl⟩
  rw [← hG] at hg hg1 hg0
  have hgd1 : (G : Int) ∣ b.toInt := Int.ofNat_dvd_left.mpr (by rw [hG]; exact Nat.gcd_dvd_left _ _)
  have hgd2 : (G : Int) ∣ t.toInt := Int.ofNat_dvd_left.mpr (by rw [hG]; exact Nat.gcd_dvd_right _ _)
  have hy : 1 ≤ (m_div t b).toInt := by omega
  obtain ⟨d1, d2⟩ := m_tdv hb hy
  obtain ⟨e1, e2⟩ := m_tdv ht hy
  rw [hg] at d1 e1
  obtain ⟨-, p1, p2, p3⟩ := m_lo ht hb h0
  have h8 := t.toInt_lt
  have h9 := b.toInt_lt
  have q1 : (b.toInt.tdiv G).natAbs ≤ b.toInt.natAbs := by rw [Int.natAbs_tdiv]; exact Nat.div_le_self _ _
  have q2 : (t.toInt.tdiv G).natAbs ≤ t.toInt.natAbs := by rw [Int.natAbs_tdiv]; exact Nat.div_le_self _ _
  have r1 : (m_loB t b).toInt = (if 0 ≤ b then (b / m_div t b).toInt else -(b / m_div t b).toInt) := m_sgI (by rw [d1]; omega)
  have r2 : (m_loT t b).toInt = (if 0 ≤ b then (t / m_div t b).toInt else -(t / m_div t b).toInt) := m_sgI (by rw [e1]; omega)
  rw [d1] at r1
  rw [e1] at r2
  have b1 : b.toInt.tdiv G * G = b.toInt := Int.tdiv_mul_cancel hgd1
  have t1 : t.toInt.tdiv G * G = t.toInt := Int.tdiv_mul_cancel hgd2
  obtain ⟨B, hB⟩ : ∃ B, B = b.toInt.tdiv G := ⟨_, rfl⟩
  obtain ⟨T, hT⟩ : ∃ T, T = t.toInt.tdiv G := ⟨_, rfl⟩
  rw [← hB] at r1 b1
  rw [← hT] at r2 t1
  have hgc : Int.gcd T B = 1 := by
    have h2 : Int.gcd (T * G) (B * G) = Int.gcd T B * G := by rw [Int.gcd_mul_right]; rfl
    rw [t1, b1] at h2
    have h3 : Int.gcd t.toInt b.toInt = G := by rw [hg0]; rfl
    rw [h3] at h2
    exact Nat.eq_of_mul_eq_mul_right hg1 (by omega)
  have hx : T * b.toInt = t.toInt * B := by
    rw [← b1, ← t1, Int.mul_assoc, Int.mul_comm (G : Int) B]
  unfold L64 Lw
  rw [r1] at p1 ⊢
  rw [r2]
  by_cases hs : 0 ≤ b
  · rw [if_pos hs] at p1 ⊢
    rw [if_pos hs]
    exact ⟨⟨p1, hgc⟩, hx⟩
  · rw [if_neg hs] at p1 ⊢
    rw [if_neg hs]
    exact ⟨⟨p1, by rw [Int.neg_gcd, Int.gcd_neg]; exact hgc⟩, by rw [Int.neg_mul, hx, Int.mul_neg]⟩
/-- of the same number the lowest terms are the same -/
theorem q_loE {t b u v : Int64} (ht : -9223372036854775808 < t.toInt) (hb : -9223372036854775808 < b.toInt) (h0 : ¬ b = 0) (h1 : L64 u v) (h : t.toInt * v.toInt = u.toInt * b.toInt) : m_loT t b = u ∧ m_loB t b = v := by
  obtain ⟨p1, p2⟩ := q_lo ht hb h0
  exact L64.eq p1 h1 (q_tr (q_ne0 h0) p2 h)
theorem q_loS {t b u v : Int64} (ht : -9223372036854775808 < t.toInt) (hb : -9223372036854775808 < b.toInt) (h0 : ¬ b = 0) (hu : -9223372036854775808 < u.toInt) (hv : -9223372036854775808 < v.toInt) (h1 : ¬ v = 0) (h : t.toInt * v.toInt = u.toInt * b.toInt) : m_loT t b = m_loT u v ∧ m_loB t b = m_loB u v := by
  obtain ⟨p1, p2⟩ := q_lo hu hv h1
  exact q_loE ht hb h0 p1 (q_tr (q_ne0 h1) h p2.symm)
/-- lowest terms of lowest terms -/
theorem q_loL {t b : Int64} (ht : -9223372036854775808 < t.toInt) (h : L64 t b) : m_loT t b = t ∧ m_loB t b = b := by
  have h1 : 1 ≤ b.toInt := h.1
  exact q_loE ht (by omega) (m_ne0 h1) h rfl
