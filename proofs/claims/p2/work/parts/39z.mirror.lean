/-! ===== the room of a text that is put together: its parts' sums are known beforehand ===== -/
theorem pre1 {a b r : Nat} (h : a + b ≤ r) : a ≤ r := Nat.le_trans (Nat.le_add_right a b) h
theorem m_sb (c9 q : Nat) : (q ≤ c9 ∧ sbC c9 q = c9 ∧ sbS c9 q = 0) ∨ (c9 < q ∧ sbC c9 q = max q (2 * c9 + 2) ∧ sbS c9 q = max q (2 * c9 + 2)) := by
  unfold sbC sbS
  rcases Nat.lt_or_ge c9 q with h | h
  · rw [if_neg (Nat.not_le.mpr h), if_neg (Nat.not_le.mpr h)]
    exact Or.inr ⟨h, rfl, rfl⟩
  · rw [if_pos h, if_pos h]
    exact Or.inl ⟨h, rfl, rfl⟩
theorem m_cat3g {k1 k2 k3 s1 s2 s3 L p1 d1 : Nat} (h1 : (0 + L ≤ 16 ∧ k1 = 16 ∧ s1 = 0) ∨ (16 < 0 + L ∧ k1 = max (0 + L) (2 * 16 + 2) ∧ s1 = max (0 + L) (2 * 16 + 2))) (h2 : (0 + L + p1 ≤ k1 ∧ k2 = k1 ∧ s2 = 0) ∨ (k1 < 0 + L + p1 ∧ k2 = max (0 + L + p1) (2 * k1 + 2) ∧ s2 = max (0 + L + p1) (2 * k1 + 2))) (h3 : (0 + L + p1 + d1 ≤ k2 ∧ k3 = k2 ∧ s3 = 0) ∨ (k2 < 0 + L + p1 + d1 ∧ k3 = max (0 + L + p1 + d1) (2 * k2 + 2) ∧ s3 = max (0 + L + p1 + d1) (2 * k2 + 2))) (hL : L ≤ 2000) (hp : p1 + d1 ≤ 18) :
    (L + p1 + d1 ≤ 16 → s1 + s2 + s3 = 0) ∧ (L + p1 + d1 ≤ 34 → s1 + s2 + s3 ≤ 34) ∧ s1 + s2 + s3 ≤ 3 * (L + p1 + d1) + 2 ∧ k1 ≤ 500000 ∧ k2 ≤ 500000 ∧ k3 ≤ 100000000 := by
  refine ⟨fun _ => ?_, fun _ => ?_, ?_, ?_, ?_, ?_⟩ <;> omega
theorem m_cat3 {L d1 : Nat} (p1 : Nat) (hL : L ≤ 2000) (hp : p1 + d1 ≤ 18) : (L + p1 + d1 ≤ 16 → sbS 16 (0 + L) + sbS (sbC 16 (0 + L)) (0 + L + p1) + sbS (sbC (sbC 16 (0 + L)) (0 + L + p1)) (0 + L + p1 + d1) = 0) ∧ (L + p1 + d1 ≤ 34 → sbS 16 (0 + L) + sbS (sbC 16 (0 + L)) (0 + L + p1) + sbS (sbC (sbC 16 (0 + L)) (0 + L + p1)) (0 + L + p1 + d1) ≤ 34) ∧ sbS 16 (0 + L) + sbS (sbC 16 (0 + L)) (0 + L + p1) + sbS (sbC (sbC 16 (0 + L)) (0 + L + p1)) (0 + L + p1 + d1) ≤ 3 * (L + p1 + d1) + 2 ∧ sbC 16 (0 + L) ≤ 500000 ∧ sbC (sbC 16 (0 + L)) (0 + L + p1) ≤ 500000 ∧ sbC (sbC (sbC 16 (0 + L)) (0 + L + p1)) (0 + L + p1 + d1) ≤ 100000000 := m_cat3g (m_sb 16 (0 + L)) (m_sb (sbC 16 (0 + L)) (0 + L + p1)) (m_sb (sbC (sbC 16 (0 + L)) (0 + L + p1)) (0 + L + p1 + d1)) hL hp
theorem m_cat4g {k1 k2 k3 k4 s1 s2 s3 s4 L p1 p2 d1 : Nat} (h1 : (0 + L ≤ 16 ∧ k1 = 16 ∧ s1 = 0) ∨ (16 < 0 + L ∧ k1 = max (0 + L) (2 * 16 + 2) ∧ s1 = max (0 + L) (2 * 16 + 2))) (h2 : (0 + L + p1 ≤ k1 ∧ k2 = k1 ∧ s2 = 0) ∨ (k1 < 0 + L + p1 ∧ k2 = max (0 + L + p1) (2 * k1 + 2) ∧ s2 = max (0 + L + p1) (2 * k1 + 2))) (h3 : (0 + L + p1 + p2 ≤ k2 ∧ k3 = k2 ∧ s3 = 0) ∨ (k2 < 0 + L + p1 + p2 ∧ k3 = max (0 + L + p1 + p2) (2 * k2 + 2) ∧ s3 = max (0 + L + p1 + p2) (2 * k2 + 2))) (h4 : (0 + L + p1 + p2 + d1 ≤ k3 ∧ k4 = k3 ∧ s4 = 0) ∨ (k3 < 0 + L + p1 + p2 + d1 ∧ k4 = max (0 + L + p1 + p2 + d1) (2 * k3 + 2) ∧ s4 = max (0 + L + p1 + p2 + d1) (2 * k3 + 2))) (hL : L ≤ 2000) (hp : p1 + p2 + d1 ≤ 18) :
    (L + p1 + p2 + d1 ≤ 16 → s1 + s2 + s3 + s4 = 0) ∧ s1 + s2 + s3 + s4 ≤ 3 * (L + p1 + p2 + d1) + 2 ∧ k1 ≤ 500000 ∧ k2 ≤ 500000 ∧ k3 ≤ 500000 ∧ k4 ≤ 100000000 := by
  refine ⟨fun _ => ?_, ?_, ?_, ?_, ?_, ?_⟩ <;> omega
theorem m_cat4 {L d1 : Nat} (p1 p2 : Nat) (hL : L ≤ 2000) (hp : p1 + p2 + d1 ≤ 18) : (L + p1 + p2 + d1 ≤ 16 → sbS 16 (0 + L) + sbS (sbC 16 (0 + L)) (0 + L + p1) + sbS (sbC (sbC 16 (0 + L)) (0 + L + p1)) (0 + L + p1 + p2) + sbS (sbC (sbC (sbC 16 (0 + L)) (0 + L + p1)) (0 + L + p1 + p2)) (0 + L + p1 + p2 + d1) = 0) ∧ sbS 16 (0 + L) + sbS (sbC 16 (0 + L)) (0 + L + p1) + sbS (sbC (sbC 16 (0 + L)) (0 + L + p1)) (0 + L + p1 + p2) + sbS (sbC (sbC (sbC 16 (0 + L)) (0 + L + p1)) (0 + L + p1 + p2)) (0 + L + p1 + p2 + d1) ≤ 3 * (L + p1 + p2 + d1) + 2 ∧ sbC 16 (0 + L) ≤ 500000 ∧ sbC (sbC 16 (0 + L)) (0 + L + p1) ≤ 500000 ∧ sbC (sbC (sbC 16 (0 + L)) (0 + L + p1)) (0 + L + p1 + p2) ≤ 500000 ∧ sbC (sbC (sbC (sbC 16 (0 + L)) (0 + L + p1)) (0 + L + p1 + p2)) (0 + L + p1 + p2 + d1) ≤ 100000000 := m_cat4g (m_sb 16 (0 + L)) (m_sb (sbC 16 (0 + L)) (0 + L + p1)) (m_sb (sbC (sbC 16 (0 + L)) (0 + L + p1)) (0 + L + p1 + p2)) (m_sb (sbC (sbC (sbC 16 (0 + L)) (0 + L + p1)) (0 + L + p1 + p2)) (0 + L + p1 + p2 + d1)) hL hp
theorem m_sbk (c9 q : Nat) : (q ≤ c9 ∧ sbC c9 q = c9 ∧ sbS c9 q = 0 ∧ sbK c9 q = 0) ∨ (c9 < q ∧ sbC c9 q = max q (2 * c9 + 2) ∧ sbS c9 q = max q (2 * c9 + 2) ∧ sbK c9 q = 1) := by
  unfold sbC sbS sbK
  rcases Nat.lt_or_ge c9 q with h | h
  · rw [if_neg (Nat.not_le.mpr h), if_neg (Nat.not_le.mpr h), if_neg (Nat.not_le.mpr h)]
    exact Or.inr ⟨h, rfl, rfl, rfl⟩
  · rw [if_pos h, if_pos h, if_pos h]
    exact Or.inl ⟨h, rfl, rfl, rfl⟩
theorem m_ct3g {k1 k2 k3 s1 s2 s3 j1 j2 j3 p1 p2 p3 : Nat} (h1 : (0 + p1 ≤ 16 ∧ k1 = 16 ∧ s1 = 0 ∧ j1 = 0) ∨ (16 < 0 + p1 ∧ k1 = max (0 + p1) (2 * 16 + 2) ∧ s1 = max (0 + p1) (2 * 16 + 2) ∧ j1 = 1)) (h2 : (0 + p1 + p2 ≤ k1 ∧ k2 = k1 ∧ s2 = 0 ∧ j2 = 0) ∨ (k1 < 0 + p1 + p2 ∧ k2 = max (0 + p1 + p2) (2 * k1 + 2) ∧ s2 = max (0 + p1 + p2) (2 * k1 + 2) ∧ j2 = 1)) (h3 : (0 + p1 + p2 + p3 ≤ k2 ∧ k3 = k2 ∧ s3 = 0 ∧ j3 = 0) ∨ (k2 < 0 + p1 + p2 + p3 ∧ k3 = max (0 + p1 + p2 + p3) (2 * k2 + 2) ∧ s3 = max (0 + p1 + p2 + p3) (2 * k2 + 2) ∧ j3 = 1)) (hp : p1 + p2 + p3 ≤ 34) :
    (p1 + p2 + p3 ≤ 16 → s1 + s2 + s3 = 0 ∧ j1 + j2 + j3 = 0) ∧ s1 + s2 + s3 ≤ 34 ∧ j1 + j2 + j3 ≤ 1 ∧ k1 ≤ 500000 ∧ k2 ≤ 500000 ∧ k3 ≤ 500000 := by
  refine ⟨fun _ => ⟨?_, ?_⟩, ?_, ?_, ?_, ?_, ?_⟩ <;> omega
theorem m_ct3 (p1 p2 p3 : Nat) (hp : p1 + p2 + p3 ≤ 34) : (p1 + p2 + p3 ≤ 16 → sbS 16 (0 + p1) + sbS (sbC 16 (0 + p1)) (0 + p1 + p2) + sbS (sbC (sbC 16 (0 + p1)) (0 + p1 + p2)) (0 + p1 + p2 + p3) = 0 ∧ sbK 16 (0 + p1) + sbK (sbC 16 (0 + p1)) (0 + p1 + p2) + sbK (sbC (sbC 16 (0 + p1)) (0 + p1 + p2)) (0 + p1 + p2 + p3) = 0) ∧ sbS 16 (0 + p1) + sbS (sbC 16 (0 + p1)) (0 + p1 + p2) + sbS (sbC (sbC 16 (0 + p1)) (0 + p1 + p2)) (0 + p1 + p2 + p3) ≤ 34 ∧ sbK 16 (0 + p1) + sbK (sbC 16 (0 + p1)) (0 + p1 + p2) + sbK (sbC (sbC 16 (0 + p1)) (0 + p1 + p2)) (0 + p1 + p2 + p3) ≤ 1 ∧ sbC 16 (0 + p1) ≤ 500000 ∧ sbC (sbC 16 (0 + p1)) (0 + p1 + p2) ≤ 500000 ∧ sbC (sbC (sbC 16 (0 + p1)) (0 + p1 + p2)) (0 + p1 + p2 + p3) ≤ 500000 := m_ct3g (m_sbk 16 (0 + p1)) (m_sbk (sbC 16 (0 + p1)) (0 + p1 + p2)) (m_sbk (sbC (sbC 16 (0 + p1)) (0 + p1 + p2)) (0 + p1 + p2 + p3)) hp
theorem m_ct2g {k1 k2 s1 s2 j1 j2 p1 p2 : Nat} (h1 : (0 + p1 ≤ 16 ∧ k1 = 16 ∧ s1 = 0 ∧ j1 = 0) ∨ (16 < 0 + p1 ∧ k1 = max (0 + p1) (2 * 16 + 2) ∧ s1 = max (0 + p1) (2 * 16 + 2) ∧ j1 = 1)) (h2 : (0 + p1 + p2 ≤ k1 ∧ k2 = k1 ∧ s2 = 0 ∧ j2 = 0) ∨ (k1 < 0 + p1 + p2 ∧ k2 = max (0 + p1 + p2) (2 * k1 + 2) ∧ s2 = max (0 + p1 + p2) (2 * k1 + 2) ∧ j2 = 1)) (hp : p1 + p2 ≤ 34) :
    (p1 + p2 ≤ 16 → s1 + s2 = 0 ∧ j1 + j2 = 0) ∧ s1 + s2 ≤ 34 ∧ j1 + j2 ≤ 1 ∧ k1 ≤ 500000 ∧ k2 ≤ 500000 := by
  refine ⟨fun _ => ⟨?_, ?_⟩, ?_, ?_, ?_, ?_⟩ <;> omega
theorem m_ct2 (p1 p2 : Nat) (hp : p1 + p2 ≤ 34) : (p1 + p2 ≤ 16 → sbS 16 (0 + p1) + sbS (sbC 16 (0 + p1)) (0 + p1 + p2) = 0 ∧ sbK 16 (0 + p1) + sbK (sbC 16 (0 + p1)) (0 + p1 + p2) = 0) ∧ sbS 16 (0 + p1) + sbS (sbC 16 (0 + p1)) (0 + p1 + p2) ≤ 34 ∧ sbK 16 (0 + p1) + sbK (sbC 16 (0 + p1)) (0 + p1 + p2) ≤ 1 ∧ sbC 16 (0 + p1) ≤ 500000 ∧ sbC (sbC 16 (0 + p1)) (0 + p1 + p2) ≤ 500000 := m_ct2g (m_sbk 16 (0 + p1)) (m_sbk (sbC 16 (0 + p1)) (0 + p1 + p2)) hp
theorem m_dg1 (x : Int64) : 1 ≤ dgJ x := by
  have := ndg_pos 19 x.toInt.natAbs
  unfold dgJ
  omega
def m_dG (n : Nat) : Nat := if n ≤ 14 then 0 else 1
theorem m_dG1 (n : Nat) : (n ≤ 14 → m_dG n = 0) ∧ (14 < n → m_dG n = 1) := ⟨fun h => if_pos h, fun h => if_neg (by omega)⟩
/-! ===== a folding that cannot grow too great ===== -/
def FU (n : Nat) (w : Nat → Value) : Prop := ∃ U : Nat → Int, (∀ i, i + 1 = n → ∀ x : Int64, w i = .long x → x.toInt ≤ U i) ∧ 1 ≤ U n ∧ (∀ i, i + 1 < n → ∀ x : Int64, w i = .long x → x.toInt * U (i + 1) + U (i + 2) ≤ U i) ∧ ∀ i, 1 ≤ i → i < n → U i ≤ 4000000000
theorem m_foldE {T B x y : Int64} (hT : 1 ≤ T.toInt) (hT2 : T ≤ 4000000000) (hB : 1 ≤ B.toInt ∧ B.toInt ≤ 4000000000) (hx : x.toInt.natAbs ≤ 1000000010) (hy : y = x * T + B) : y.toInt = x.toInt * T.toInt + B.toInt := by
  have h1 : T.toInt ≤ 4000000000 := by
    have := Int64.le_iff_toInt_le.mp hT2
    have e : (4000000000 : Int64).toInt = 4000000000 := by decide
    omega
  obtain ⟨e1, e2⟩ := m_mulB (x := x) (y := T) (B := 1000000010) (C := 4000000000) hx (by omega) (by decide)
  obtain ⟨f1, f2⟩ := m_addB (x := x * T) (y := B) (B := 1000000010 * 4000000000) (C := 4000000000) e2 (by omega) (by decide)
  rw [hy, f1, e1]
theorem m_foldU {x T B U0 U1 U2 : Int} (hx : 0 ≤ x) (h : x * U1 + U2 ≤ U0) (h1 : T ≤ U1) (h2 : B ≤ U2) : x * T + B ≤ U0 := by
  have := Int.mul_le_mul_of_nonneg_left h1 hx
  omega
theorem m_le4 {T : Int64} {u : Int} (h : T.toInt ≤ u) (h2 : u ≤ 4000000000) : T ≤ 4000000000 := Int64.le_iff_toInt_le.mpr (by have e : (4000000000 : Int64).toInt = 4000000000 := by decide
                                                                                                                              omega)
theorem EU.last {n j : Nat} {w : Nat → Value} {t g : Int} {T : Nat → Int} {x : Int64} (e0 : T 0 = t) (e1 : T n = g) (e2 : T (n + 1) = 0) (e3 : ∀ i, i < n → ∃ x : Int64, w i = .long x ∧ x.toInt * T (i + 1) + T (i + 2) = T i) (e4 : ∀ i, 1 ≤ i → i ≤ n → 1 ≤ T i ∧ T i ≤ 1000000000) (hj : j + 1 = n) (ht : 1 ≤ t) (hx : w j = .long x) : 1 ≤ x.toInt ∧ x.toInt ≤ T j := by
  obtain ⟨x1, y1, y2⟩ := e3 j (by omega)
  have ex : x1 = x := by rw [hx] at y1; exact (Value.long.inj y1).symm
  rw [ex, hj, show j + 2 = n + 1 by omega, e2, e1] at y2
  have hg := (e4 n (by omega) (Nat.le_refl n)).1
  rw [e1] at hg
  have hT : 1 ≤ T j := by
    rcases Nat.eq_zero_or_pos j with z | z
    · rw [z, e0]; exact ht
    · exact (e4 j z (by omega)).1
  have h1 : 1 ≤ x.toInt := by
    rcases Int.lt_or_le 0 x.toInt with z | z
    · omega
    · have := Int.mul_le_mul_of_nonneg_right z (show 0 ≤ g by omega)
      omega
  have h2 := Int.mul_le_mul_of_nonneg_left hg (show 0 ≤ x.toInt by omega)
  exact ⟨h1, by omega⟩
theorem EU.up {n j : Nat} {w : Nat → Value} {t g : Int} {x y : Int64} (h : EU n w t g 0) (hj : j + 1 = n) (ht : 1 ≤ t) (hx : w j = .long x) (hy : y.toInt = x.toInt + 1) : FU n (va_up w j (.long y)) := by
  obtain ⟨T, e0, e1, e2, e3, e4⟩ := h
  obtain ⟨h1, h2⟩ := EU.last e0 e1 e2 e3 e4 hj ht hx
  refine ⟨fun i => 2 * T i, fun i hi z hz => ?_, ?_, fun i hi z hz => ?_, fun i g1 g2 => ?_⟩
  · have e : i = j := by omega
    rw [e, va_up_self] at hz
    have ez : z = y := (Value.long.inj hz).symm
    show z.toInt ≤ 2 * T i
    rw [ez, hy, e]
    omega
  · show 1 ≤ 2 * T n
    have := (e4 n (by omega) (Nat.le_refl n)).1
    omega
  · rw [va_up_ne _ _ (by omega)] at hz
    obtain ⟨x1, y1, y2⟩ := e3 i (by omega)
    have ez : z = x1 := by rw [hz] at y1; exact Value.long.inj y1
    show z.toInt * (2 * T (i + 1)) + 2 * T (i + 2) ≤ 2 * T i
    rw [ez, Int.mul_left_comm]
    omega
  · show 2 * T i ≤ 4000000000
    have := (e4 i g1 (by omega)).2
    omega
theorem EU.two {n j : Nat} {w : Nat → Value} {t g : Int} {x y : Int64} (h : EU n w t g 0) (hj : j + 1 = n) (ht : 1 ≤ t) (hx : w j = .long x) (hy : y.toInt = x.toInt - 1) : FU (n + 1) (va_up (va_up w j (.long y)) n (.long 2)) := by
  obtain ⟨T, e0, e1, e2, e3, e4⟩ := h
  obtain ⟨h1, h2⟩ := EU.last e0 e1 e2 e3 e4 hj ht hx
  have hg := (e4 n (by omega) (Nat.le_refl n)).1
  refine ⟨fun i => if i = n + 1 then 1 else if i = n then 2 else 2 * T i, fun i hi z hz => ?_, ?_, fun i hi z hz => ?_, fun i g1 g2 => ?_⟩
  · have e : i = n := by omega
    rw [e, va_up_self] at hz
    have ez : z = 2 := (Value.long.inj hz).symm
    show z.toInt ≤ (if i = n + 1 then 1 else if i = n then 2 else 2 * T i)
    rw [ez, if_neg (by omega), if_pos e]
    decide
  · show (1 : Int) ≤ (if n + 1 = n + 1 then 1 else if n + 1 = n then 2 else 2 * T (n + 1))
    rw [if_pos rfl]
    decide
  · rw [va_up_ne _ _ (by omega)] at hz
    show z.toInt * (if i + 1 = n + 1 then 1 else if i + 1 = n then 2 else 2 * T (i + 1)) + (if i + 2 = n + 1 then 1 else if i + 2 = n then 2 else 2 * T (i + 2)) ≤ (if i = n + 1 then 1 else if i = n then 2 else 2 * T i)
    have q0 : (if i = n + 1 then (1 : Int) else if i = n then 2 else 2 * T i) = 2 * T i := by rw [if_neg (by omega), if_neg (by omega)]
    rw [q0]
    by_cases e : i = j
    · rw [e, va_up_self] at hz
      have ez : z = y := (Value.long.inj hz).symm
      have q1 : (if i + 1 = n + 1 then (1 : Int) else if i + 1 = n then 2 else 2 * T (i + 1)) = 2 := by rw [if_neg (by omega), if_pos (by omega)]
      have q2 : (if i + 2 = n + 1 then (1 : Int) else if i + 2 = n then 2 else 2 * T (i + 2)) = 1 := by rw [if_pos (by omega)]
      rw [q1, q2, ez, hy, e]
      omega
    · rw [va_up_ne _ _ e] at hz
      obtain ⟨x1, y1, y2⟩ := e3 i (by omega)
      have ez : z = x1 := by rw [hz] at y1; exact Value.long.inj y1
      have q1 : (if i + 1 = n + 1 then (1 : Int) else if i + 1 = n then 2 else 2 * T (i + 1)) = 2 * T (i + 1) := by rw [if_neg (by omega), if_neg (by omega)]
      have q2 : (if i + 2 = n + 1 then (1 : Int) else if i + 2 = n then 2 else 2 * T (i + 2)) ≤ 2 * T (i + 2) := by
        rw [if_neg (by omega)]
        by_cases e5 : i + 2 = n
        · rw [if_pos e5, e5]
          omega
        · rw [if_neg e5]
          exact Int.le_refl _
      rw [q1, ez, Int.mul_left_comm]
      omega
  · show (if i = n + 1 then (1 : Int) else if i = n then 2 else 2 * T i) ≤ 4000000000
    rw [if_neg (by omega)]
    by_cases e : i = n
    · rw [if_pos e]
      decide
    · rw [if_neg e]
      have := (e4 i g1 (by omega)).2
      omega
theorem PF.add {n : Nat} {w : Nat → Value} {y : Int64} (h : PF n w) (h1 : 1 ≤ y.toInt) (h2 : y.toInt.natAbs ≤ 1000000010) : PF (n + 1) (va_up w n (.long y)) := by
  intro i hi
  by_cases e : i = n
  · rw [e]
    exact ⟨y, va_up_self _ _ _, h2, fun _ => h1⟩
  · obtain ⟨x2, g1, g2, g3⟩ := h i (by omega)
    exact ⟨x2, by rw [va_up_ne _ _ e]; exact g1, g2, g3⟩
theorem m_sub1 {r x : Int64} (h : r = x) (h2 : x.toInt.natAbs ≤ 1000000010) : (r - 1).toInt = x.toInt - 1 := by
  have e1 : (1 : Int64).toInt = 1 := rfl
  rw [h, (m_subB (x := x) (y := 1) (B := 1000000010) (C := 1) h2 (by decide) (by decide)).1, e1]
theorem m_pls1 {r x : Int64} {mo : Int32} (h : r = x) (hm : mo = 1) (h2 : x.toInt.natAbs ≤ 1000000010) : (r + mo.toInt64).toInt = x.toInt + 1 := by
  have e1 : (1 : Int32).toInt64.toInt = 1 := by decide
  rw [h, hm, (m_addB (x := x) (y := (1 : Int32).toInt64) (B := 1000000010) (C := 1) h2 (by decide) (by decide)).1, e1]
theorem c1.ofcap {D : va_G} {tk : Nat → ClassId} {b cap n : Nat} {f : Nat → Option Nat} {H : Heap} (h : c1 D b (.inl (tk 4, cap, .inr (.inr (.inr (.inr f))))) H) (e : cap = n) : c1 D b (.inl (tk 4, n, .inr (.inr (.inr (.inr f))))) H := e ▸ h
