/-! ===== the start of the reference, and the class's state over the law's calls ===== -/
theorem m_F00 : m_F 0 1 := ⟨by decide +kernel, by decide +kernel, by decide +kernel⟩
theorem m_D00 : m_D4 1 := by
  have e : (1 : Int64).toInt.natAbs = 1 := by decide +kernel
  unfold m_D4
  rw [e]
  exact Nat.one_dvd _
