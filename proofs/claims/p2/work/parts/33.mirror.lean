/-! ===== the reference's cuts, its simplest one ===== -/
theorem m_powB {kp : Nat} (h : kp ≤ 9) : 1 ≤ (m_pow (nI kp)).toInt ∧ (m_pow (nI kp)).toInt ≤ 1000000000 := by
  have hall : ∀ i : Fin 10, 1 ≤ (m_pow (nI i.val)).toInt ∧ (m_pow (nI i.val)).toInt ≤ 1000000000 := by decide +kernel
  exact hall ⟨kp, by omega⟩
theorem m_powC {kp : Nat} (h : kp ≤ 2) : 1 ≤ (m_pow (nI kp)).toInt ∧ (m_pow (nI kp)).toInt ≤ 100 := by
  have hall : ∀ i : Fin 3, 1 ≤ (m_pow (nI i.val)).toInt ∧ (m_pow (nI i.val)).toInt ≤ 100 := by decide +kernel
  exact hall ⟨kp, by omega⟩
theorem m_addB {x y : Int64} {B C : Nat} (hx : x.toInt.natAbs ≤ B) (hy : y.toInt.natAbs ≤ C) (h : B + C < 9223372036854775808) : (x + y).toInt = x.toInt + y.toInt ∧ (x + y).toInt.natAbs ≤ B + C := by
  have e : (x + y).toInt = x.toInt + y.toInt := by
    rw [Int64.toInt_add]
    simp only [Int.bmod]
    split <;> omega
  exact ⟨e, by rw [e]; omega⟩
theorem m_subB {x y : Int64} {B C : Nat} (hx : x.toInt.natAbs ≤ B) (hy : y.toInt.natAbs ≤ C) (h : B + C < 9223372036854775808) : (x - y).toInt = x.toInt - y.toInt ∧ (x - y).toInt.natAbs ≤ B + C := by
  have e : (x - y).toInt = x.toInt - y.toInt := by
    rw [Int64.toInt_sub]
    simp only [Int.bmod]
    split <;> omega
  exact ⟨e, by rw [e]; omega⟩
theorem m_cutB {t b : Int64} {pl md : Int32} {B : Nat} (ht : (t * m_pow pl).toInt.natAbs ≤ B) (hB : B < 4611686018427387000) (hb : 1 ≤ b.toInt) : (m_cut t b pl md).toInt.natAbs ≤ B + 2 := by
  have h1 := m_floorB ht (by omega) hb
  have h2 := (m_addB (x := m_floor (t * m_pow pl) b) (y := 1) (B := B + 1) (C := 1) h1 (by decide) (by omega)).2
  unfold m_cut m_cut3
  repeat' split
  all_goals omega
/-- a whole number of them -/
theorem m_flE {u b : Int64} {B : Nat} (hu : u.toInt.natAbs ≤ B) (hB : B * 100 < 9223372036854775808) (hb : 1 ≤ b.toInt ∧ b.toInt ≤ 100) : m_floor (u * b) b = u := by
  obtain ⟨e1, e2⟩ := m_mulB (x := u) (y := b) (B := B) (C := 100) hu (by omega) hB
  obtain ⟨d1, -⟩ := m_tdv (x := u * b) (y := b) (by omega) hb.1
  have e3 : u * b / b = u := by
    apply Int64.toInt_inj.mp
    rw [d1, e1]
    exact Int.mul_tdiv_cancel _ (by omega)
  unfold m_floor
  rw [e3]
  exact if_pos (Int64.sub_self _)
theorem m_cutE {u b : Int64} {pl md : Int32} {B : Nat} (hp : m_pow pl = b) (hu : u.toInt.natAbs ≤ B) (hB : B * 100 < 9223372036854775808) (hb : 1 ≤ b.toInt ∧ b.toInt ≤ 100) : m_cut u b pl md = u := by
  have h1 := m_flE hu hB hb
  unfold m_cut m_cut3
  rw [hp, h1]
  exact if_pos (Int64.sub_self _)
