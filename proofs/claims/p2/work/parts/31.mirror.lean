/-! ===== the reference's divisor, as whole numbers ===== -/
theorem m_gcd : ∀ (n : Nat) (u v : Int64), 0 ≤ u.toInt → 0 ≤ v.toInt → v.toInt.natAbs < n → (gcdL n u v).toInt = ((Nat.gcd v.toInt.natAbs u.toInt.natAbs : Nat) : Int) := by
  intro n
  induction n with
  | zero => intro u v _ _ h; omega
  | succ n ih =>
    intro u v hu hv h
    unfold gcdL
    split
    · rename_i h0
      subst h0
      have e0 : (0 : Int64).toInt = 0 := rfl
      rw [e0]
      show u.toInt = ((Nat.gcd 0 u.toInt.natAbs : Nat) : Int)
      rw [Nat.gcd_zero_left]
      omega
    · rename_i h0
      have h1 := m_rem (u := u) h0
      have h2 := m_rem_lt (u := u) h0
      have h3 : 0 ≤ (u - u / v * v).toInt := by rw [h1]; exact Int.tmod_nonneg _ hu
      rw [ih v _ hv h3 (by omega)]
      have h4 : (u - u / v * v).toInt.natAbs = u.toInt.natAbs % v.toInt.natAbs := by rw [h1, Int.natAbs_tmod]
      rw [h4, ← Nat.gcd_rec]
theorem m_abs {a : Int64} (h : -9223372036854775808 < a.toInt) : (f_absJ a).toInt = (a.toInt.natAbs : Int) := by
  have h9 := a.toInt_lt
  unfold f_absJ
  split
  · rename_i h0
    have : 0 ≤ a.toInt := by have := Int64.le_iff_toInt_le.mp h0; simpa using this
    omega
  · rename_i h0
    have : a.toInt < 0 := by have := Int64.lt_iff_toInt_lt.mp (Int64.not_le.mp h0); simpa using this
    rw [Int64.toInt_neg]
    simp only [Int.bmod]
    split <;> omega
theorem m_divI {a b : Int64} (ha : -9223372036854775808 < a.toInt) (hb : -9223372036854775808 < b.toInt) : (m_div a b).toInt = ((Nat.gcd b.toInt.natAbs a.toInt.natAbs : Nat) : Int) := by
  unfold m_div
  rw [m_gcd _ _ _ (by rw [m_abs ha]; omega) (by rw [m_abs hb]; omega) (by omega), m_abs ha, m_abs hb]
  rfl
theorem m_sgI {b x : Int64} (hx : -9223372036854775808 < x.toInt) : (m_sg b * x).toInt = (if 0 ≤ b then x.toInt else -x.toInt) := by
  have h9 := x.toInt_lt
  unfold m_sg
  split
  · rw [Int64.one_mul]
  · rw [Int64.toInt_mul]
    show (-1 * x.toInt : Int).bmod (2 ^ 64) = _
    simp only [Int.bmod]
    split <;> omega
theorem m_tdv {x y : Int64} (hx : -9223372036854775808 < x.toInt) (hy : 1 ≤ y.toInt) : (x / y).toInt = x.toInt.tdiv y.toInt ∧ (x / y).toInt.natAbs = x.toInt.natAbs / y.toInt.natAbs := by
  have h9 := x.toInt_lt
  have h1 : (x.toInt.tdiv y.toInt).natAbs = x.toInt.natAbs / y.toInt.natAbs := Int.natAbs_tdiv _ _
  have h2 : x.toInt.natAbs / y.toInt.natAbs ≤ x.toInt.natAbs := Nat.div_le_self _ _
  have h3 : (x / y).toInt = x.toInt.tdiv y.toInt := by
    rw [Int64.toInt_div]
    simp only [Int.bmod]
    split <;> omega
  exact ⟨h3, by rw [h3, h1]⟩
/-- in lowest terms: the bottom is at least 1, and neither grows -/
theorem m_lo {t b : Int64} (ht : -9223372036854775808 < t.toInt) (hb : -9223372036854775808 < b.toInt) (h0 : ¬ b = 0) :
    ¬ m_div t b = 0 ∧ 1 ≤ (m_loB t b).toInt ∧ (m_loB t b).toInt ≤ b.toInt.natAbs ∧ (m_loT t b).toInt.natAbs ≤ t.toInt.natAbs := by
  have hb0 : b.toInt ≠ 0 := fun z => h0 (Int64.toInt_inj.mp (by rw [z]; rfl))
  have h8 := t.toInt_lt
  have h9 := b.toInt_lt
  have hg := m_divI ht hb
  have hg1 : 0 < Nat.gcd b.toInt.natAbs t.toInt.natAbs := Nat.gcd_pos_of_pos_left _ (by omega)
  have hg2 : Nat.gcd b.toInt.natAbs t.toInt.natAbs ≤ b.toInt.natAbs := Nat.le_of_dvd (by omega) (Nat.gcd_dvd_left _ _)
  have hy : 1 ≤ (m_div t b).toInt := by omega
  obtain ⟨d1, d2⟩ := m_tdv hb hy
  obtain ⟨e1, e2⟩ := m_tdv ht hy
  have hgn : (m_div t b).toInt.natAbs = Nat.gcd b.toInt.natAbs t.toInt.natAbs := by omega
  have q1 : 1 ≤ b.toInt.natAbs / (m_div t b).toInt.natAbs := by
    rw [hgn]
    exact (Nat.one_le_div_iff hg1).mpr hg2
  have q2 : b.toInt.natAbs / (m_div t b).toInt.natAbs ≤ b.toInt.natAbs := Nat.div_le_self _ _
  have q3 : t.toInt.natAbs / (m_div t b).toInt.natAbs ≤ t.toInt.natAbs := Nat.div_le_self _ _
  refine ⟨fun z => by rw [z] at hy; exact absurd hy (by decide), ?_⟩
  have r1 : (m_loB t b).toInt = (if 0 ≤ b then (b / m_div t b).toInt else -(b / m_div t b).toInt) := m_sgI (by omega)
  have r2 : (m_loT t b).toInt = (if 0 ≤ b then (t / m_div t b).toInt else -(t / m_div t b).toInt) := m_sgI (by omega)
  have s1 : (if 0 ≤ b then (b / m_div t b).toInt else -(b / m_div t b).toInt) = ((b / m_div t b).toInt.natAbs : Int) := by
    split
    · rename_i h
      have h5 : 0 ≤ b.toInt := by have := Int64.le_iff_toInt_le.mp h; simpa using this
      have h6 : 0 ≤ (b / m_div t b).toInt := by rw [d1]; exact Int.tdiv_nonneg h5 (by omega)
      omega
    · rename_i h
      have h5 : b.toInt < 0 := by have := Int64.lt_iff_toInt_lt.mp (Int64.not_le.mp h); simpa using this
      have h6 : 0 ≤ (-b.toInt).tdiv (m_div t b).toInt := Int.tdiv_nonneg (by omega) (by omega)
      rw [Int.neg_tdiv, ← d1] at h6
      omega
  rw [r1, s1, r2]
  refine ⟨by omega, by omega, ?_⟩
  split <;> omega
/-! ===== bounds ===== -/
theorem m_mulB {x y : Int64} {B C : Nat} (hx : x.toInt.natAbs ≤ B) (hy : y.toInt.natAbs ≤ C) (h : B * C < 9223372036854775808) : (x * y).toInt = x.toInt * y.toInt ∧ (x * y).toInt.natAbs ≤ B * C := by
  have hz : (x.toInt * y.toInt).natAbs ≤ B * C := by rw [Int.natAbs_mul]; exact Nat.mul_le_mul hx hy
  have e : (x * y).toInt = x.toInt * y.toInt := by
    rw [Int64.toInt_mul]
    generalize x.toInt * y.toInt = z at *
    generalize B * C = w at *
    simp only [Int.bmod]
    split <;> omega
  exact ⟨e, by rw [e]; exact hz⟩
theorem m_floorB {a b : Int64} {B : Nat} (ha : a.toInt.natAbs ≤ B) (hB : B < 4611686018427387904) (hb : 1 ≤ b.toInt) : (m_floor a b).toInt.natAbs ≤ B + 1 := by
  obtain ⟨d1, d2⟩ := m_tdv (x := a) (y := b) (by omega) hb
  have q2 : a.toInt.natAbs / b.toInt.natAbs ≤ a.toInt.natAbs := Nat.div_le_self _ _
  have h1 : (a / b).toInt.natAbs ≤ B := by omega
  have e1 : (1 : Int64).toInt = 1 := rfl
  have h2 : (a / b - 1).toInt.natAbs ≤ B + 1 := by
    rw [Int64.toInt_sub, e1]
    generalize (a / b).toInt = z at *
    simp only [Int.bmod]
    split <;> omega
  unfold m_floor
  split
  · omega
  · split <;> split <;> omega
theorem m_negB {x : Int64} {B : Nat} (hx : x.toInt.natAbs ≤ B) (hB : B < 9223372036854775808) : (-x).toInt = -x.toInt ∧ (-x).toInt.natAbs ≤ B := by
  have e : (-x).toInt = -x.toInt := by
    rw [Int64.toInt_neg]
    simp only [Int.bmod]
    split <;> omega
  exact ⟨e, by rw [e]; omega⟩
theorem m_i64 {x : Int32} {k : Nat} (hx : x = nI k) (hk : k < 2 ^ 31) : x.toInt64.toInt = (k : Int) := by
  rw [Int32.toInt_toInt64, hx, nI_toInt hk]
/-- fitting -/
def m_F (t b : Int64) : Prop := t.toInt.natAbs ≤ 1000000000 ∧ 1 ≤ b.toInt ∧ b.toInt ≤ 1000000000
theorem m_fit1 {t b : Int64} (h : ¬ m_fit t b = 0) (hb : 1 ≤ b.toInt) : m_F t b := by
  unfold m_fit at h
  have e1 : (1000000000 : Int64).toInt = 1000000000 := by decide
  have e2 : (-1000000000 : Int64).toInt = -1000000000 := by decide
  split at h
  · exact absurd rfl h
  · split at h
    · exact absurd rfl h
    · split at h
      · exact absurd rfl h
      · rename_i h1 h2 h3
        have g1 := Int64.le_iff_toInt_le.mp (Int64.not_lt.mp h1)
        have g2 := Int64.le_iff_toInt_le.mp (Int64.not_lt.mp h2)
        have g3 := Int64.le_iff_toInt_le.mp (Int64.not_lt.mp h3)
        rw [e2] at g1
        rw [e1] at g2 g3
        exact ⟨by omega, hb, g3⟩
theorem m_ne0 {b : Int64} (h : 1 ≤ b.toInt) : ¬ b = 0 := fun z => by rw [z] at h; exact absurd h (by decide)
/-- in lowest terms, of a bottom above 0 -/
theorem m_loP {t b : Int64} {B C : Nat} (ht : t.toInt.natAbs ≤ B) (hB : B < 9223372036854775808) (hb : 1 ≤ b.toInt) (hC : b.toInt ≤ (C : Int)) : ¬ m_div t b = 0 ∧ 1 ≤ (m_loB t b).toInt ∧ (m_loB t b).toInt ≤ (C : Int) ∧ (m_loT t b).toInt.natAbs ≤ B := by
  obtain ⟨h1, h2, h3, h4⟩ := m_lo (t := t) (b := b) (by omega) (by omega) (m_ne0 hb)
  exact ⟨h1, h2, by omega, by omega⟩
theorem m_prod {t b u v : Int64} (h : m_F t b) (h2 : m_F u v) : ¬ m_div (t * u) (b * v) = 0 ∧ 1 ≤ (m_loB (t * u) (b * v)).toInt ∧ (m_loB (t * u) (b * v)).toInt ≤ 1000000000000000000 ∧ (m_loT (t * u) (b * v)).toInt.natAbs ≤ 1000000000000000000 := by
  obtain ⟨a1, a2, a3⟩ := h
  obtain ⟨b1, b2, b3⟩ := h2
  obtain ⟨e1, e2⟩ := m_mulB a1 b1 (by decide)
  obtain ⟨f1, f2⟩ := m_mulB (x := b) (y := v) (B := 1000000000) (C := 1000000000) (by omega) (by omega) (by decide)
  have h0 : 1 * 1 ≤ b.toInt * v.toInt := Int.mul_le_mul a2 b2 (by decide) (by omega)
  have h3 : 1 ≤ (b * v).toInt := by rw [f1]; omega
  exact m_loP (B := 1000000000 * 1000000000) (C := 1000000000000000000) e2 (by decide) h3 (by omega)
/-- the inverse -/
theorem m_inv {t b : Int64} (h : m_F t b) (h0 : ¬ t = 0) : ¬ m_div b t = 0 ∧ 1 ≤ (m_loB b t).toInt ∧ (m_loB b t).toInt ≤ 1000000000 ∧ (m_loT b t).toInt.natAbs ≤ 1000000000 := by
  obtain ⟨a1, a2, a3⟩ := h
  obtain ⟨h1, h2, h3, h4⟩ := m_lo (t := b) (b := t) (by omega) (by omega) h0
  exact ⟨h1, h2, by omega, by omega⟩
theorem tx_k1 (c9 q : Nat) : sbK c9 q ≤ 1 := by
  unfold sbK; split <;> omega
