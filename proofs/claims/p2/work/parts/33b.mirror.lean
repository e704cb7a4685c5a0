/-! ===== the FLOOR ===== -/
theorem m_flr {a b : Int64} {B : Nat} (ha : a.toInt.natAbs ≤ B) (hB : B < 4611686018427387904) (hb : 1 ≤ b.toInt) : (m_floor a b).toInt * b.toInt ≤ a.toInt ∧ a.toInt < (m_floor a b).toInt * b.toInt + b.toInt := by
  obtain ⟨d1, d2⟩ := m_tdv (x := a) (y := b) (by omega) hb
  have hr := m_rem (u := a) (v := b) (m_ne0 hb)
  have q2 : a.toInt.natAbs / b.toInt.natAbs ≤ a.toInt.natAbs := Nat.div_le_self _ _
  have hd := Int.mul_tdiv_add_tmod a.toInt b.toInt
  have hm : (a.toInt.tmod b.toInt).natAbs < b.toInt.natAbs := by
    rw [Int.natAbs_tmod]
    exact Nat.mod_lt _ (by omega)
  have hc : b.toInt * a.toInt.tdiv b.toInt = a.toInt.tdiv b.toInt * b.toInt := Int.mul_comm _ _
  have e1 : (1 : Int64).toInt = 1 := rfl
  have e2 : (a / b - 1).toInt = (a / b).toInt - 1 := by
    rw [Int64.toInt_sub, e1]
    simp only [Int.bmod]
    split <;> omega
  have e3 : (a.toInt.tdiv b.toInt - 1) * b.toInt = a.toInt.tdiv b.toInt * b.toInt - b.toInt := by rw [Int.sub_mul, Int.one_mul]
  have hb0 : 0 ≤ b := Int64.le_iff_toInt_le.mpr (by show (0 : Int) ≤ b.toInt; omega)
  unfold m_floor
  split
  · rename_i h
    rw [h] at hr
    have e0 : (0 : Int64).toInt = 0 := rfl
    rw [e0] at hr
    rw [d1]
    omega
  · split
    · rename_i h
      have h5 : 0 ≤ (a - a / b * b).toInt := by have := Int64.le_iff_toInt_le.mp h; simpa using this
      (try rw [if_pos hb0])
      rw [d1]
      omega
    · rename_i h
      have h5 : (a - a / b * b).toInt < 0 := by have := Int64.lt_iff_toInt_lt.mp (Int64.not_le.mp h); simpa using this
      (try rw [if_pos hb0])
      rw [e2, d1, e3]
      omega
theorem q_mfl {a b : Int64} (ha : a.toInt.natAbs < 4611686018427387904) (hb : 1 ≤ b.toInt) : (m_floor a b).toInt = a.toInt / b.toInt := by
  obtain ⟨h1, h2⟩ := m_flr (a := a) (b := b) (B := 4611686018427387903) (by omega) (by decide) hb
  symm
  rw [Int.ediv_eq_iff_of_pos (by omega)]
  exact ⟨h1, h2⟩
