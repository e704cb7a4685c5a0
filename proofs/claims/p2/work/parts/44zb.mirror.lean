/-! ===== the class's own numbers are the reference's ===== -/
theorem q_absL (a : Int64) : absL a = f_absJ a := rfl
/-- two steps halve it: 200 are enough -/
theorem q_gcd : ∀ (k n : Nat) (u v : Int64), 0 ≤ u.toInt → 0 ≤ v.toInt → v.toInt.natAbs < 2 ^ k → 2 * k ≤ n → (gcdL n u v).toInt = ((Nat.gcd v.toInt.natAbs u.toInt.natAbs : Nat) : Int) := by
  intro k
  induction k with
  | zero =>
    intro n u v hu hv h hn
    have h0 : v = 0 := Int64.toInt_inj.mp (by
      have e0 : (0 : Int64).toInt = 0 := rfl
      have : v.toInt.natAbs < 1 := h
      omega)
    rw [gcdL_z h0, h0]
    show u.toInt = ((Nat.gcd 0 u.toInt.natAbs : Nat) : Int)
    rw [Nat.gcd_zero_left]
    omega
  | succ k ih =>
    intro n u v hu hv h hn
    obtain ⟨n, rfl⟩ : ∃ n1, n = n1 + 2 := ⟨n - 2, by omega⟩
    unfold gcdL
    by_cases h0 : v = 0
    · rw [if_pos h0, h0]
      show u.toInt = ((Nat.gcd 0 u.toInt.natAbs : Nat) : Int)
      rw [Nat.gcd_zero_left]
      omega
    · rw [if_neg h0]
      have r1 := m_rem (u := u) h0
      have r2 := m_rem_lt (u := u) h0
      have r3 : 0 ≤ (u - u / v * v).toInt := by rw [r1]; exact Int.tmod_nonneg _ hu
      have r4 : (u - u / v * v).toInt.natAbs = u.toInt.natAbs % v.toInt.natAbs := by rw [r1, Int.natAbs_tmod]
      obtain ⟨r, hr⟩ : ∃ r, r = u - u / v * v := ⟨_, rfl⟩
      rw [← hr] at r1 r2 r3 r4 ⊢
      unfold gcdL
      have hgr : Nat.gcd v.toInt.natAbs u.toInt.natAbs = Nat.gcd r.toInt.natAbs v.toInt.natAbs := by rw [Nat.gcd_rec, r4]
      by_cases h1 : r = 0
      · rw [if_pos h1, hgr, h1]
        show v.toInt = ((Nat.gcd 0 v.toInt.natAbs : Nat) : Int)
        rw [Nat.gcd_zero_left]
        omega
      · rw [if_neg h1]
        have s1 := m_rem (u := v) h1
        have s2 := m_rem_lt (u := v) h1
        have s3 : 0 ≤ (v - v / r * r).toInt := by rw [s1]; exact Int.tmod_nonneg _ hv
        have s4 : (v - v / r * r).toInt.natAbs = v.toInt.natAbs % r.toInt.natAbs := by rw [s1, Int.natAbs_tmod]
        have hr0 : r.toInt ≠ 0 := q_ne0 h1
        have s5 : 2 * (v.toInt.natAbs % r.toInt.natAbs) < v.toInt.natAbs + 1 := by
          have a1 : v.toInt.natAbs % r.toInt.natAbs < r.toInt.natAbs := Nat.mod_lt _ (by omega)
          have a2 := Nat.div_add_mod v.toInt.natAbs r.toInt.natAbs
          have a3 : 1 ≤ v.toInt.natAbs / r.toInt.natAbs := (Nat.one_le_div_iff (by omega)).mpr (by omega)
          have a4 : r.toInt.natAbs * 1 ≤ r.toInt.natAbs * (v.toInt.natAbs / r.toInt.natAbs) := Nat.mul_le_mul_left _ a3
          omega
        have hp : 2 ^ (k + 1) = 2 * 2 ^ k := by rw [Nat.pow_succ, Nat.mul_comm]
        rw [ih n r _ r3 s3 (by omega) (by omega), s4, ← Nat.gcd_rec, hgr]
theorem q_fgcd {a b : Int64} (ha : -9223372036854775808 < a.toInt) (hb : -9223372036854775808 < b.toInt) : f_gcd a b = m_div a b := by
  apply Int64.toInt_inj.mp
  have h9 := b.toInt_lt
  rw [m_divI ha hb]
  unfold f_gcd
  rw [q_absL, q_absL, q_gcd 64 200 _ _ (by rw [m_abs ha]; omega) (by rw [m_abs hb]; omega) (by rw [m_abs hb]; omega) (by decide), m_abs ha, m_abs hb]
  rfl
/-- its FLOOR is exact where nothing is left -/
theorem q_flx {x d : Int64} (hx : -9223372036854775808 < x.toInt) (hd : d.toInt ≠ 0) (h : d.toInt ∣ x.toInt) : f_floorOf x d = x / d := by
  have h9 := x.toInt_lt
  have hd0 : ¬ d = 0 := fun z => hd (by rw [z]; rfl)
  have e1 : x / d * d = x := by
    have hr := m_rem (u := x) hd0
    rw [Int.tmod_eq_zero_of_dvd h] at hr
    have e2 : x - x / d * d = 0 := Int64.toInt_inj.mp (by rw [hr]; rfl)
    have e3 : x - x / d * d + x / d * d = 0 + x / d * d := by rw [e2]
    rw [Int64.sub_add_cancel, Int64.zero_add] at e3
    exact e3.symm
  unfold f_floorOf
  rw [if_neg hd0]
  unfold fdv
  split
  · rfl
  · first | rfl | rw [if_pos e1]
theorem q_bec {t b : Int64} (ht : -9223372036854775808 < t.toInt) (hb : -9223372036854775808 < b.toInt) (h0 : ¬ b = 0) : f_floorOf t (f_dv t b) = m_loT t b ∧ f_floorOf b (f_dv t b) = m_loB t b := by
  have hb0 := q_ne0 h0
  have h8 := t.toInt_lt
  have h9 := b.toInt_lt
  have hg := m_divI ht hb
  have hg1 : 0 < Nat.gcd b.toInt.natAbs t.toInt.natAbs := Nat.gcd_pos_of_pos_left _ (by omega)
  have hg2 : Nat.gcd b.toInt.natAbs t.toInt.natAbs ≤ b.toInt.natAbs := Nat.le_of_dvd (by omega) (Nat.gcd_dvd_left _ _)
  have hgd1 : (m_div t b).toInt ∣ b.toInt := by rw [hg]; exact Int.ofNat_dvd_left.mpr (Nat.gcd_dvd_left _ _)
  have hgd2 : (m_div t b).toInt ∣ t.toInt := by rw [hg]; exact Int.ofNat_dvd_left.mpr (Nat.gcd_dvd_right _ _)
  have hy : 1 ≤ (m_div t b).toInt := by omega
  unfold f_dv m_loT m_loB m_sg
  rw [q_fgcd ht hb]
  by_cases hs : 0 ≤ b
  · rw [if_pos hs, if_pos hs, q_flx ht (by omega) hgd2, q_flx hb (by omega) hgd1, Int64.one_mul, Int64.one_mul]
    exact ⟨rfl, rfl⟩
  · rw [if_neg hs, if_neg hs]
    have en : (-(m_div t b)).toInt = -(m_div t b).toInt := (m_negB (x := m_div t b) (B := 9223372036854775807) (by omega) (by decide)).1
    have k1 : (-(m_div t b)).toInt ∣ t.toInt := by rw [en]; exact Int.neg_dvd.mpr hgd2
    have k2 : (-(m_div t b)).toInt ∣ b.toInt := by rw [en]; exact Int.neg_dvd.mpr hgd1
    rw [q_flx ht (by omega) k1, q_flx hb (by omega) k2]
    have hq : ∀ x : Int64, -9223372036854775808 < x.toInt → x / -(m_div t b) = -1 * (x / m_div t b) := by
      intro x hx
      apply Int64.toInt_inj.mp
      obtain ⟨d1, d2⟩ := m_tdv (x := x) (y := m_div t b) hx hy
      have d3 : (x.toInt.tdiv (m_div t b).toInt).natAbs ≤ x.toInt.natAbs := by rw [Int.natAbs_tdiv]; exact Nat.div_le_self _ _
      have hx9 := x.toInt_lt
      have e1 : (-1 * (x / m_div t b)).toInt = -(x / m_div t b).toInt := by
        have := (m_mulB (x := -1) (y := x / m_div t b) (B := 1) (C := 9223372036854775807) (by decide) (by rw [d1]; omega) (by decide)).1
        rw [this, show (-1 : Int64).toInt = -1 by decide, Int.neg_mul, Int.one_mul]
      rw [e1, d1, Int64.toInt_div, en, Int.tdiv_neg]
      generalize x.toInt.tdiv (m_div t b).toInt = z at *
      simp only [Int.bmod]
      split <;> omega
    exact ⟨hq t ht, hq b hb⟩
/-- the FLOORs, as whole numbers -/
theorem q_ffl {a b : Int64} (ha : a.toInt.natAbs < 4611686018427387904) (hb : 1 ≤ b.toInt) : f_floorOf a b = m_floor a b := by
  have hb0 : ¬ b = 0 := m_ne0 hb
  have hr := m_rem (u := a) hb0
  have hrl := m_rem_lt (u := a) hb0
  obtain ⟨d1, d2⟩ := m_tdv (x := a) (y := b) (by omega) hb
  have hb9 : (0 : Int64) ≤ b := Int64.le_iff_toInt_le.mpr (by show (0 : Int) ≤ b.toInt; omega)
  unfold f_floorOf m_floor
  rw [if_neg hb0]
  unfold fdv
  by_cases hz : a - a / b * b = 0
  · have e3 : a / b * b = a := by
      have e4 : a - a / b * b + a / b * b = 0 + a / b * b := by rw [hz]
      rw [Int64.sub_add_cancel, Int64.zero_add] at e4
      exact e4.symm
    rw [if_pos hz]
    split
    · rfl
    · first | rfl | rw [if_pos e3]
  · rw [if_neg hz, if_pos hb9, if_pos hb9]
    have e3 : ¬ a / b * b = a := fun z => hz (by rw [z, Int64.sub_self])
    rw [if_neg e3]
    have hx : (0 ≤ (a ^^^ b)) ↔ 0 ≤ a := by
      have x1 := Int64.le_iff_toInt_le (x := 0) (y := a ^^^ b)
      have x2 := Int64.le_iff_toInt_le (x := 0) (y := a)
      have e0 : (0 : Int64).toInt = 0 := rfl
      rw [e0] at x1 x2
      rw [x1, x2]
      have b1 : a.toInt = a.toBitVec.toInt := rfl
      have b2 : (a ^^^ b).toInt = (a.toBitVec ^^^ b.toBitVec).toInt := by rw [← Int64.toBitVec_xor]; rfl
      have b3 : b.toInt = b.toBitVec.toInt := rfl
      rw [b2, b1]
      have m1 := BitVec.msb_eq_toInt (x := a.toBitVec)
      have m2 := BitVec.msb_eq_toInt (x := b.toBitVec)
      have m3 := BitVec.msb_eq_toInt (x := a.toBitVec ^^^ b.toBitVec)
      rw [BitVec.msb_xor] at m3
      have m4 : b.toBitVec.msb = false := by rw [m2, ← b3]; exact decide_eq_false (by omega)
      rw [m4, Bool.xor_false, m1] at m3
      have m5 := decide_eq_decide.mp m3
      omega
    have hs : 0 ≤ a → 0 ≤ (a - a / b * b).toInt := by
      intro h
      rw [hr]
      exact Int.tmod_nonneg _ (Int64.le_iff_toInt_le.mp h)
    have hs2 : ¬ 0 ≤ a → (a - a / b * b).toInt ≤ 0 := by
      intro h
      have h1 := Int64.lt_iff_toInt_lt.mp (Int64.not_le.mp h)
      have e0 : (0 : Int64).toInt = 0 := rfl
      rw [hr]
      have h3 : 0 ≤ (-a.toInt).tmod b.toInt := Int.tmod_nonneg _ (by omega)
      rw [Int.neg_tmod] at h3
      omega
    by_cases h : 0 ≤ a
    · rw [if_pos (hx.mpr h), if_pos ((Int64.le_iff_toInt_le (x := 0) (y := a - a / b * b)).mpr (hs h))]
    · rw [if_neg (fun z => h (hx.mp z))]
      have h5 := hs2 h
      have h6 : (a - a / b * b).toInt ≠ 0 := q_ne0 hz
      rw [if_neg (fun z => by
        have := Int64.le_iff_toInt_le.mp z
        have e0 : (0 : Int64).toInt = 0 := rfl
        omega)]
