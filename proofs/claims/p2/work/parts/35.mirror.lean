/-! ===== the reference's TERMS: at most 43 of them ===== -/
def m_fib (k : Nat) : Nat := [0, 1, 1, 2, 3, 5, 8, 13, 21, 34, 55, 89, 144, 233, 377, 610, 987, 1597, 2584, 4181, 6765, 10946, 17711, 28657, 46368, 75025, 121393, 196418, 317811, 514229, 832040, 1346269, 2178309, 3524578, 5702887, 9227465, 14930352, 24157817, 39088169, 63245986, 102334155, 165580141, 267914296, 433494437, 701408733, 1134903170].getD k 0
theorem m_fib2 {k : Nat} (h1 : 1 ≤ k) (h2 : k ≤ 43) : m_fib (k + 1) = m_fib k + m_fib (k - 1) := by
  have hall : ∀ i : Fin 43, m_fib (i.val + 1 + 1) = m_fib (i.val + 1) + m_fib (i.val + 1 - 1) := by decide +kernel
  have := hall ⟨k - 1, by omega⟩
  rw [show k - 1 + 1 = k by omega] at this
  exact this
def m_T (k : Nat) (T B : Int64) : Prop := 0 ≤ B.toInt ∧ B.toInt < T.toInt ∧ T.toInt ≤ 1000000000 ∧ m_fib k * T.toInt.toNat + m_fib (k - 1) * B.toInt.toNat ≤ 1000000000
theorem m_left {T B q L : Int64} (hT : T.toInt.natAbs ≤ 1000000000) (hB : 1 ≤ B.toInt) (hB2 : B.toInt ≤ 1000000000) (hq : q = m_floor T B) (hL : L = T - q * B) : L.toInt = T.toInt - q.toInt * B.toInt ∧ q.toInt.natAbs ≤ 1000000001 ∧ 0 ≤ L.toInt ∧ L.toInt < B.toInt := by
  have h1 := m_floorB hT (by decide) hB
  have h2 := m_flr hT (by decide) hB
  rw [← hq] at h1 h2
  obtain ⟨e1, e2⟩ := m_mulB (x := q) (y := B) (B := 1000000001) (C := 1000000000) h1 (by omega) (by decide)
  have e3 := (m_subB (x := T) (y := q * B) (B := 1000000000) (C := 1000000001 * 1000000000) hT e2 (by decide)).1
  rw [← hL, e1] at e3
  exact ⟨e3, h1, by omega, by omega⟩
theorem m_T1 {t b q L : Int64} (h : m_F t b) (hq : q = m_floor t b) (hL : L = t - q * b) : m_T 1 b L ∧ q.toInt.natAbs ≤ 1000000001 := by
  obtain ⟨a1, a2, a3⟩ := h
  obtain ⟨e1, e2, e3, e4⟩ := m_left a1 a2 a3 hq hL
  refine ⟨⟨e3, e4, a3, ?_⟩, e2⟩
  show 1 * b.toInt.toNat + 0 * L.toInt.toNat ≤ 1000000000
  omega
theorem m_T0 {k : Nat} {T B : Int64} (h : m_T k T B) (hk : 1 ≤ k ∧ k ≤ 43) (hB : ¬ B = 0) : k ≤ 42 ∧ 1 ≤ B.toInt := by
  obtain ⟨a1, a2, a3, a4⟩ := h
  have hb0 : B.toInt ≠ 0 := fun z => hB (Int64.toInt_inj.mp (by rw [z]; rfl))
  refine ⟨?_, by omega⟩
  rcases Nat.lt_or_ge k 43 with z | z
  · omega
  · have e : k = 43 := by omega
    subst e
    have h1 : m_fib 43 = 433494437 := by decide
    have h2 : m_fib (43 - 1) = 267914296 := by decide
    rw [h1, h2] at a4
    omega
theorem m_T2 {k : Nat} {T B q L : Int64} (h : m_T k T B) (hk : 1 ≤ k ∧ k ≤ 43) (hB : ¬ B = 0) (hq : q = m_floor T B) (hL : L = T - q * B) : m_T (k + 1) B L ∧ 1 ≤ q.toInt ∧ q.toInt.natAbs ≤ 1000000001 ∧ (L = 0 → 2 ≤ q.toInt) := by
  obtain ⟨k1, b1⟩ := m_T0 h hk hB
  obtain ⟨a1, a2, a3, a4⟩ := h
  obtain ⟨e1, e2, e3, e4⟩ := m_left (by omega) b1 (by omega) hq hL
  have f1 : 1 ≤ q.toInt := by
    rcases Int.lt_or_le 0 q.toInt with z | z
    · omega
    · have := Int.mul_le_mul_of_nonneg_right z a1
      omega
  have f2 := Int.mul_le_mul_of_nonneg_right f1 a1
  have f3 : L = 0 → 2 ≤ q.toInt := by
    intro z
    rcases Int.lt_or_le 1 q.toInt with y | y
    · omega
    · have := Int.mul_le_mul_of_nonneg_right y a1
      have e0 : L.toInt = 0 := by rw [z]; rfl
      omega
  refine ⟨⟨e3, e4, by omega, ?_⟩, f1, e2, f3⟩
  have g1 := m_fib2 hk.1 hk.2
  rw [Nat.add_sub_cancel, g1, Nat.add_mul]
  have g2 : m_fib k * (B.toInt.toNat + L.toInt.toNat) ≤ m_fib k * T.toInt.toNat := Nat.mul_le_mul_left _ (by omega)
  rw [Nat.mul_add] at g2
  omega
/-- the terms so far; those behind the first are at least 1, the last one at least 2 -/
def PT (k : Nat) (w : Nat → Value) (bot : Int64) : Prop := ∀ i, i < k → ∃ x : Int64, w i = .long x ∧ x.toInt.natAbs ≤ 1000000001 ∧ (1 ≤ i → 1 ≤ x.toInt) ∧ (1 ≤ i → i + 1 = k → bot = 0 → 2 ≤ x.toInt)
theorem PT.one {w : Nat → Value} {q L : Int64} (h : q.toInt.natAbs ≤ 1000000001) : PT 1 (va_up w 0 (.long q)) L := by
  intro i hi
  have e : i = 0 := by omega
  subst e
  exact ⟨q, va_up_self _ _ _, h, fun z => absurd z (by decide), fun z => absurd z (by decide)⟩
theorem PT.add {k : Nat} {w : Nat → Value} {B q L : Int64} (h : PT k w B) (h1 : 1 ≤ q.toInt) (h2 : q.toInt.natAbs ≤ 1000000001) (h3 : L = 0 → 2 ≤ q.toInt) : PT (k + 1) (va_up w k (.long q)) L := by
  intro i hi
  by_cases e : i = k
  · subst e
    exact ⟨q, va_up_self _ _ _, h2, fun _ => h1, fun _ _ => h3⟩
  · obtain ⟨x, x1, x2, x3, x4⟩ := h i (by omega)
    exact ⟨x, by rw [va_up_ne _ _ e]; exact x1, x2, x3, fun _ z => absurd z (by omega)⟩
/-! the room that a list's arrays have taken -/
def m_ac (c9 : Nat) : Nat := if c9 ≤ 10 then 1 else if c9 ≤ 15 then 2 else if c9 ≤ 22 then 3 else if c9 ≤ 33 then 4 else 5
def m_as (c9 : Nat) : Nat := if c9 ≤ 10 then 10 else if c9 ≤ 15 then 25 else if c9 ≤ 22 then 47 else if c9 ≤ 33 then 80 else 129
def m_cap (c9 : Nat) : Prop := c9 = 10 ∨ c9 = 15 ∨ c9 = 22 ∨ c9 = 33 ∨ c9 = 49
theorem m_acB {c9 : Nat} (h : m_cap c9) : m_ac c9 ≤ 5 ∧ m_as c9 ≤ 129 ∧ 10 ≤ c9 ∧ c9 ≤ 49 := by
  rcases h with rfl | rfl | rfl | rfl | rfl <;> decide
theorem m_grow {c9 : Nat} (h : m_cap c9) (h2 : c9 ≤ 48) : m_cap (c9 + c9 / 2) ∧ m_ac (c9 + c9 / 2) = m_ac c9 + 1 ∧ m_as (c9 + c9 / 2) = m_as c9 + (c9 + c9 / 2) := by
  rcases h with rfl | rfl | rfl | rfl | rfl
  · exact ⟨Or.inr (Or.inl rfl), rfl, rfl⟩
  · exact ⟨Or.inr (Or.inr (Or.inl rfl)), rfl, rfl⟩
  · exact ⟨Or.inr (Or.inr (Or.inr (Or.inl rfl))), rfl, rfl⟩
  · exact ⟨Or.inr (Or.inr (Or.inr (Or.inr rfl))), rfl, rfl⟩
  · omega
/-- the tops that the terms come from -/
def EU (n : Nat) (w : Nat → Value) (t g r : Int) : Prop := ∃ T : Nat → Int, T 0 = t ∧ T n = g ∧ T (n + 1) = r ∧ (∀ i, i < n → ∃ x : Int64, w i = .long x ∧ x.toInt * T (i + 1) + T (i + 2) = T i) ∧ ∀ i, 1 ≤ i → i ≤ n → 1 ≤ T i ∧ T i ≤ 1000000000
theorem EU.one {w : Nat → Value} {q : Int64} {t b r : Int} (h : r = t - q.toInt * b) (h1 : 1 ≤ b) (h2 : b ≤ 1000000000) : EU 1 (va_up w 0 (.long q)) t b r := by
  refine ⟨fun i => if i = 0 then t else if i = 1 then b else r, rfl, rfl, rfl, fun i hi => ?_, fun i g1 g2 => ?_⟩
  · have e : i = 0 := by omega
    rw [e]
    exact ⟨q, va_up_self _ _ _, by show q.toInt * b + r = t; omega⟩
  · have e : i = 1 := by omega
    rw [e]
    exact ⟨h1, h2⟩
theorem EU.add {k : Nat} {w : Nat → Value} {t T9 B9 r : Int} {q : Int64} (h : EU k w t T9 B9) (hr : r = T9 - q.toInt * B9) (h1 : 1 ≤ B9) (h2 : B9 ≤ 1000000000) : EU (k + 1) (va_up w k (.long q)) t B9 r := by
  obtain ⟨T, e0, e1, e2, e3, e4⟩ := h
  refine ⟨fun i => if i = k + 2 then r else T i, ?_, ?_, ?_, fun i hi => ?_, fun i g1 g2 => ?_⟩
  · show (if 0 = k + 2 then r else T 0) = t
    rw [if_neg (by omega)]
    exact e0
  · show (if k + 1 = k + 2 then r else T (k + 1)) = B9
    rw [if_neg (by omega)]
    exact e2
  · show (if k + 1 + 1 = k + 2 then r else T (k + 1 + 1)) = r
    exact if_pos rfl
  · by_cases e : i = k
    · rw [e]
      refine ⟨q, va_up_self _ _ _, ?_⟩
      show q.toInt * (if k + 1 = k + 2 then r else T (k + 1)) + (if k + 2 = k + 2 then r else T (k + 2)) = (if k = k + 2 then r else T k)
      rw [if_neg (by omega), if_pos rfl, if_neg (by omega), e1, e2]
      omega
    · obtain ⟨x, x1, x2⟩ := e3 i (by omega)
      refine ⟨x, by rw [va_up_ne _ _ e]; exact x1, ?_⟩
      show x.toInt * (if i + 1 = k + 2 then r else T (i + 1)) + (if i + 2 = k + 2 then r else T (i + 2)) = (if i = k + 2 then r else T i)
      rw [if_neg (by omega), if_neg (by omega), if_neg (by omega)]
      exact x2
  · show 1 ≤ (if i = k + 2 then r else T i) ∧ (if i = k + 2 then r else T i) ≤ 1000000000
    rw [if_neg (by omega)]
    by_cases e : i = k + 1
    · rw [e, e2]
      exact ⟨h1, h2⟩
    · exact e4 i g1 (by omega)
