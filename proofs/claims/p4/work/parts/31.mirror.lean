/-! ===== the reference's divisor, as whole numbers ===== -/
theorem m_gcd : ∀ (n : Nat) (u v : Int64), 0 ≤ u.toInt → 0 ≤ v.toInt → v.toInt.natAbs < n → (gcdL n u v).toInt = ((Nat.gcd v.toInt.natAbs u.toInt.natAbs : Nat) : Int) := by
  intro n
  induction n with
  | zero => intro u v _ _ h; omega
  | succ n ih =>
    intro u v hu hv h
    unfold gcdL
    split
    · rename_i h0
      subst h0
      have e0 : (0 : Int64).toInt = 0 := rfl
      rw [e0]
      show u.toInt = ((Nat.gcd 0 u.toInt.natAbs : Nat) : Int)
      rw [Nat.gcd_zero_left]
      omega
    · rename_i h0
      have h1 := m_rem (u := u) h0
      have h2 := m_rem_lt (u := u) h0
      have h3 : 0 ≤ (u - u / v * v).toInt := by rw [h1]; exact Int.tmod_nonneg _ hu
      rw [ih v _ hv h3 (by omega)]
      have h4 : (u - u / v * v).toInt.natAbs = u.toInt.natAbs % v.toInt.natAbs := by rw [h1, Int.natAbs_tmod]
      rw [h4, ← Nat.gcd_rec]
theorem m_abs {a : Int64} (h : -9223372036854775808 < a.toInt) : (f_absJ a).toInt = (a.toInt.natAbs : Int) := by
  have h9 := a.toInt_lt
  unfold f_absJ
  split
  · rename_i h0
    have : 0 ≤ a.toInt := by have := Int64.le_iff_toInt_le.mp h0; simpa using this
    omega
  · rename_i h0
    have : a.toInt < 0 := by have := Int64.lt_iff_toInt_lt.mp (Int64.not_le.mp h0); simpa using this
    rw [Int64.toInt_neg]
    simp only [Int.bmod]
    split <;> omega
theorem m_divI {a b : Int64} (ha : -9223372036854775808 < a.toInt) (hb : -9223372036854775808 < b.toInt) : (m_div a b).toInt = ((Nat.gcd b.toInt.natAbs a.toInt.natAbs : Nat) : Int) := by
  unfold m_div
  rw [m_gcd _ _ _ (by rw [m_abs ha]; omega) (by rw [m_abs hb]; omega) (by omega), m_abs ha, m_abs hb]
  rfl
theorem m_sgI {b x : Int64} (hx : -9223372036854775808 < x.toInt) : (m_sg b * x).toInt = (if 0 ≤ b then x.toInt else -x.toInt) := by
  have h9 := x.toInt_lt
  unfold m_sg
  split
  · rw [Int64.one_mul]
  · rw [Int64.toInt_mul]
    show (-1 * x.toInt : Int).bmod (2 ^ 64) = _
    simp only [Int.bmod]
    split <;> omega
theorem m_tdv {x y : Int64} (hx : -9223372036854775808 < x.toInt) (hy : 1 ≤ y.toInt) : (x / y).toInt = x.toInt.tdiv y.toInt ∧ (x / y).toInt.natAbs = x.toInt.natAbs / y.toInt.natAbs := by
  have h9 := x.toInt_lt
  have h1 : (x.toInt.tdiv y.toInt).natAbs = x.toInt.natAbs / y.toInt.natAbs := Int.natAbs_tdiv _ _
  have h2 : x.toInt.natAbs / y.toInt.natAbs ≤ x.toInt.natAbs := Nat.div_le_self _ _
  have h3 : (x / y).toInt = x.toInt.tdiv y.toInt := by
    rw [Int64.toInt_div]
    simp only [Int.bmod]
    split <;> omega
  exact ⟨h3, by rw [h3, h1]⟩
/-- in lowest terms: the bottom is at least 1, and neither grows -/
theorem m_lo {t b : Int64} (ht : -9223372036854775808 < t.toInt) (hb : -9223372036854775808 < b.toInt) (h0 : ¬ b = 0) :
    ¬ m_div t b = 0 ∧ 1 ≤ (m_loB t b).toInt ∧ (m_loB t b).toInt ≤ b.toInt.natAbs ∧ (m_loT t b).toInt.natAbs ≤ t.toInt.natAbs := by
  have hb0 : b.toInt ≠ 0 := fun z => h0 (Int64.toInt_inj.mp (by rw [z]; rfl))
  have h8 := t.toInt_lt
  have h9 := b.toInt_lt
  have hg := m_divI ht hb
  have hg1 : 0 < Nat.gcd b.toInt.natAbs t.toInt.natAbs := Nat.gcd_pos_of_pos_left _ (by omega)
  have hg2 : Nat.gcd b.toInt.natAbs t.toInt.natAbs ≤ b.toInt.natAbs := Nat.le_of_dvd (by omega) (Nat.gcd_dvd_left _ _)
  have hy : 1 ≤ (m_div t b).toInt := by omega
  obtain ⟨d1, d2⟩ := m_tdv hb hy
  obtain ⟨e1, e2⟩ := m_tdv ht hy
  have hgn : (m_div t b).toInt.natAbs = Nat.gcd b.toInt.natAbs t.toInt.natAbs := by omega
  have q1 : 1 ≤ b.toInt.natAbs / (m_div t b).toInt.natAbs := by
    rw [hgn]
    exact (Nat.one_le_div_iff hg1).mpr hg2
  have q2 : b.toInt.natAbs / (m_div t b).toInt.natAbs ≤ b.toInt.natAbs := Nat.div_le_self _ _
  have q3 : t.toInt.natAbs / (m_div t b).toInt.natAbs ≤ t.toInt.natAbs := Nat.div_le_self _ _
  refine ⟨fun z => by rw [z] at hy; exact absurd hy (by decide), ?_⟩
  have r1 : (m_loB t b).toInt = (if 0 ≤ b then (b / m_div t b).toInt else -(b / m_div t b).toInt) := m_sgI (by omega)
  have r2 : (m_loT t b).toInt = (if 0 ≤ b then (t / m_div t b).toInt else -(t / m_div t b).toInt) := m_sgI (by omega)
  have s1 : (if 0 ≤ b then (b / m_div t b).toInt else -(b / m_div t b).toInt) = ((b / m_div t b).toInt.natAbs : Int) := by
    split
    · rename_i h
      have h5 : 0 ≤ b.toInt := by have := Int64.le_iff_toInt_le.mp h; simpa using this
      have h6 : 0 ≤ (b / m_div t b).toInt := by rw [d1]; exact Int.tdiv_nonneg h5 (by omega)
      omega
    · rename_i h
      have h5 : b.toInt < 0 := by have := Int64.lt_iff_toInt_lt.mp (Int64.not_le.mp h); simpa using this
      have h6 : 0 ≤ (-b.toInt).tdiv (m_div t b).toInt := Int.tdiv_nonneg (by omega) (by omega)
      rw [Int.neg_tdiv, ← d1] at h6
      omega
  rw [r1, s1, r2]
  refine ⟨by omega, by omega, ?_⟩
  split <;> omega
/-! ===== bounds ===== -/
theorem m_mulB {x y : Int64} {B C : Nat} (hx : x.toInt.natAbs ≤ B) (hy : y.toInt.natAbs ≤ C) (h : B * C < 9223372036854775808) : (x * y).toInt = x.toInt * y.toInt ∧ (x * y).toInt.natAbs ≤ B * C := by
  have hz : (x.toInt * y.toInt).natAbs ≤ B * C := by rw [Int.natAbs_mul]; exact Nat.mul_le_mul hx hy
  have e : (x * y).toInt = x.toInt * y.toInt := by
    rw [Int64.toInt_mul]
    generalize x.toInt * y.toInt = z at *
    generalize B * C = w at *
    simp only [Int.bmod]
    split <;> omega
  exact ⟨e, by rw [e]; exact hz⟩
theorem m_floorB {a b : Int64} {B : Nat} (ha : a.toInt.natAbs ≤ B) (hB : B < 4611686018427387904) (hb : 1 ≤ b.toInt) : (m_floor a b).toInt.natAbs ≤ B + 1 := by
  obtain ⟨d1, d2⟩ := m_tdv (x := a) (y := b) (by omega) hb
  have q2 : a.toInt.natAbs / b.toInt.natAbs ≤ a.toInt.natAbs := Nat.div_le_self _ _
  have h1 : (a / b).toInt.natAbs ≤ B := by omega
  have e1 : (1 : Int64).toInt = 1 := rfl
  have h2 : (a / b - 1).toInt.natAbs ≤ B + 1 := by
    rw [Int64.toInt_sub, e1]
    generalize (a / b).toInt = z at *
    simp only [Int.bmod]
    split <;> omega
  unfold m_floor
  split
  · omega
  · split <;> split <;> omega
theorem m_negB {x : Int64} {B : Nat} (hx : x.toInt.natAbs ≤ B) (hB : B < 9223372036854775808) : (-x).toInt = -x.toInt ∧ (-x).toInt.natAbs ≤ B := by
  have e : (-x).toInt = -x.toInt := by
    rw [Int64.toInt_neg]
    simp only [Int.bmod]
    split <;> omega
  exact ⟨e, by rw [e]; omega⟩
theorem m_i64 {x : Int32} {k : Nat} (hx : x = nI k) (hk : k < 2 ^ 31) : x.toInt64.toInt = (k : Int) := by
  rw [Int32.toInt_toInt64, hx, nI_toInt hk]
/-- fitting -/
def m_F (t b : Int64) : Prop := t.toInt.natAbs ≤ 1000000000 ∧ 1 ≤ b.toInt ∧ b.toInt ≤ 1000000000
theorem m_fit1 {t b : Int64} (h : ¬ m_fit t b = 0) (hb : 1 ≤ b.toInt) : m_F t b := by
  unfold m_fit at h
  have e1 : (1000000000 : Int64).toInt = 1000000000 := by decide
  have e2 : (-1000000000 : Int64).toInt = -1000000000 := by decide
  split at h
  · exact absurd rfl h
  · split at h
    · exact absurd rfl h
    · split at h
      · exact absurd rfl h
      · rename_i h1 h2 h3
        have g1 := Int64.le_iff_toInt_le.mp (Int64.not_lt.mp h1)
        have g2 := Int64.le_iff_toInt_le.mp (Int64.not_lt.mp h2)
        have g3 := Int64.le_iff_toInt_le.mp (Int64.not_lt.mp h3)
        rw [e2] at g1
        rw [e1] at g2 g3
        exact ⟨by omega, hb, g3⟩
theorem m_ne0 {b : Int64} (h : 1 ≤ b.toInt) : ¬ b = 0 := fun z => by rw [z] at h; exact absurd h (by decide)
/-- in lowest terms, of a bottom above 0 -/
theorem m_loP {t b : Int64} {B C : Nat} (ht : t.toInt.natAbs ≤ B) (hB : B < 9223372036854775808) (hb : 1 ≤ b.toInt) (hC : b.toInt ≤ (C : Int)) : ¬ m_div t b = 0 ∧ 1 ≤ (m_loB t b).toInt ∧ (m_loB t b).toInt ≤ (C : Int) ∧ (m_loT t b).toInt.natAbs ≤ B := by
  obtain ⟨h1, h2, h3, h4⟩ := m_lo (t := t) (b := b) (by omega) (by omega) (m_ne0 hb)
  exact ⟨h1, h2, by omega, by omega⟩
theorem m_prod {t b u v : Int64} (h : m_F t b) (h2 : m_F u v) : ¬ m_div (t * u) (b * v) = 0 ∧ 1 ≤ (m_loB (t * u) (b * v)).toInt ∧ (m_loB (t * u) (b * v)).toInt ≤ 1000000000000000000 ∧ (m_loT (t * u) (b * v)).toInt.natAbs ≤ 1000000000000000000 := by
  obtain ⟨a1, a2, a3⟩ := h
  obtain ⟨b1, b2, b3⟩ := h2
  obtain ⟨e1, e2⟩ := m_mulB a1 b1 (by decide)
  obtain ⟨f1, f2⟩ := m_mulB (x := b) (y := v) (B := 1000000000) (C := 1000000000) (by omega) (by omega) (by decide)
  have h0 : 1 * 1 ≤ b.toInt * v.toInt := Int.mul_le_mul a2 b2 (by decide) (by omega)
  have h3 : 1 ≤ (b * v).toInt := by rw [f1]; omega
  exact m_loP (B := 1000000000 * 1000000000) (C := 1000000000000000000) e2 (by decide) h3 (by omega)
/-- the inverse -/
theorem m_inv {t b : Int64} (h : m_F t b) (h0 : ¬ t = 0) : ¬ m_div b t = 0 ∧ 1 ≤ (m_loB b t).toInt ∧ (m_loB b t).toInt ≤ 1000000000 ∧ (m_loT b t).toInt.natAbs ≤ 1000000000 := by
  obtain ⟨a1, a2, a3⟩ := h
  obtain ⟨h1, h2, h3, h4⟩ := m_lo (t := b) (b := t) (by omega) (by omega) h0
  exact ⟨h1, h2, by omega, by omega⟩
theorem tx_k1 (c9 q : Nat) : sbK c9 q ≤ 1 := by
  unfold sbK; split <;> omega
/-! ===== what the reference's searches come to ===== -/
def LO (t b : Int64) : Option (Int64 × Int64) := some (m_loT t b, m_loB t b)
def m_IV (t b : Int64) : Option (Int64 × Int64) := if t = 0 then none else LO b t
/-- so many times itself -/
def m_raL (t b : Int64) : Nat → Int64 → Int64 → Int64 × Int64
  | 0, u, v => (u, v)
  | n + 1, u, v => if m_fit u v = 0 then (u, v) else m_raL t b n (m_loT (u * t) (v * b)) (m_loB (u * t) (v * b))
def m_RA (t b : Int64) (x : Int32) : Option (Int64 × Int64) := if m_fit (m_raL t b (nn (f_absI x)) 1 1).1 (m_raL t b (nn (f_absI x)) 1 1).2 = 0 then none else if x < 0 then m_IV (m_raL t b (nn (f_absI x)) 1 1).1 (m_raL t b (nn (f_absI x)) 1 1).2 else some (m_raL t b (nn (f_absI x)) 1 1)
/-- a neighbour, bottom by bottom -/
def m_nbT (t b : Int64) (k : Nat) (u : Int32) : Int64 := if u = 0 then m_floor (t * lN k) b else -m_floor (-t * lN k) b
def m_nbL (t b : Int64) (u : Int32) : Nat → Nat → Int64 → Int64 → Int64 × Int64
  | 0, _, x, y => (x, y)
  | n + 1, k, x, y => if m_ord (m_loT (m_nbT t b k u) (lN k)) (m_loB (m_nbT t b k u) (lN k)) x y = (if u = 0 then 1 else -1) then m_nbL t b u n (k + 1) (m_loT (m_nbT t b k u) (lN k)) (m_loB (m_nbT t b k u) (lN k)) else m_nbL t b u n (k + 1) x y
def m_NB (t b : Int64) (n : Nat) (u : Int32) : Int64 × Int64 := m_nbL t b u (n - 1) 2 (m_loT (m_nbT t b 1 u) (lN 1)) (m_loB (m_nbT t b 1 u) (lN 1))
def m_bsA (t b : Int64) (p q : Int64 × Int64) : Int64 := (t * p.2 - p.1 * b) * q.2
def m_bsB (t b : Int64) (p q : Int64 × Int64) : Int64 := (q.1 * b - t * q.2) * p.2
def m_BS (t b : Int64) (n : Nat) : Int64 × Int64 :=
  if m_bsA t b (m_NB t b n 0) (m_NB t b n 1) < m_bsB t b (m_NB t b n 0) (m_NB t b n 1) then m_NB t b n 0
  else if m_bsA t b (m_NB t b n 0) (m_NB t b n 1) = m_bsB t b (m_NB t b n 0) (m_NB t b n 1) then (if (m_NB t b n 0).2 ≤ (m_NB t b n 1).2 then m_NB t b n 0 else m_NB t b n 1) else m_NB t b n 1
/-- TERMS: the k-th one; how many there are -/
def m_eu : Nat → Int64 → Int64 → List Int64
  | 0, _, _ => []
  | n + 1, t, b => if b = 0 then [] else m_floor t b :: m_eu n b (t - m_floor t b * b)
def m_TE (t b : Int64) : List Int64 := m_eu 64 t b
def m_at (t b : Int64) (k : Nat) : Int64 := (m_TE t b).getD k 0
/-- FOLDED, from the last one on -/
def m_fdL (a : Nat → Int64) : Nat → Int64 → Int64 → Option (Int64 × Int64)
  | 0, t, b => LO t b
  | n + 1, t, b => if 4000000000 < t then none else m_fdL a n (a n * t + b) t
def m_FD (a : Nat → Int64) (n : Nat) : Option (Int64 × Int64) := m_fdL a (n - 1) (a (n - 1)) 1
def m_WL (t b x : Int64) : Option (Int64 × Int64) := m_FD (va_up (m_at t b) ((m_TE t b).length - 1) (m_at t b ((m_TE t b).length - 1) + x)) (m_TE t b).length
def m_W2 (t b : Int64) : Option (Int64 × Int64) := m_FD (va_up (va_up (m_at t b) ((m_TE t b).length - 1) (m_at t b ((m_TE t b).length - 1) + -1)) (m_TE t b).length 2) ((m_TE t b).length + 1)

theorem m_raLz {t b u v : Int64} {n : Nat} (h : m_fit u v = 0) : m_raL t b n u v = (u, v) := by
  cases n with
  | zero => rfl
  | succ n =>
    unfold m_raL
    rw [if_pos h]
theorem m_raLs {t b u v : Int64} {n m : Nat} {q : Int64 × Int64} (h : ¬ m_fit u v = 0) (e : n = m + 1) (hg : m_raL t b n u v = q) : m_raL t b m (m_loT (u * t) (v * b)) (m_loB (u * t) (v * b)) = q := by
  rw [e] at hg
  unfold m_raL at hg
  rw [if_neg h] at hg
  exact hg
theorem m_RAe {t b t9 b9 : Int64} {x : Int32} {kt : Nat} (h1 : f_absI x = nI kt) (h2 : kt ≤ 6) (h : m_raL t b kt 1 1 = (t9, b9)) : m_RA t b x = if m_fit t9 b9 = 0 then none else if x < 0 then m_IV t9 b9 else some (t9, b9) := by
  have e : nn (f_absI x) = kt := by
    rw [h1]
    exact nI_clamp (by omega)
  unfold m_RA
  rw [e, h]
theorem m_nbLy {t b x y X Y : Int64} {u : Int32} {n m k : Nat} {q : Int64 × Int64} (e : n = m + 1) (hg : m_nbL t b u n k x y = q) (hX : m_ord (m_loT X Y) (m_loB X Y) x y = (if u = 0 then 1 else -1)) (h1 : X = m_nbT t b k u) (h2 : Y = lN k) : m_nbL t b u m (k + 1) (m_loT X Y) (m_loB X Y) = q := by
  subst h1 h2 e
  unfold m_nbL at hg
  rw [if_pos hX] at hg
  exact hg
theorem m_nbLn {t b x y X Y : Int64} {u : Int32} {n m k : Nat} {q : Int64 × Int64} (e : n = m + 1) (hg : m_nbL t b u n k x y = q) (hX : ¬ m_ord (m_loT X Y) (m_loB X Y) x y = (if u = 0 then 1 else -1)) (h1 : X = m_nbT t b k u) (h2 : Y = lN k) : m_nbL t b u m (k + 1) x y = q := by
  subst h1 h2 e
  unfold m_nbL at hg
  rw [if_neg hX] at hg
  exact hg
/-- the TERMS so far, and what is still to be taken apart -/
def TX (t b : Int64) (k : Nat) (w : Nat → Value) (T B : Int64) : Prop := ∃ pre : List Int64, pre.length = k ∧ m_TE t b = pre ++ m_eu (64 - k) T B ∧ ∀ i, i < k → w i = .long (pre.getD i 0)
theorem TX.one {t b q L : Int64} {w : Nat → Value} (hb : ¬ b = 0) (hq : q = m_floor t b) (hL : L = t - q * b) : TX t b 1 (va_up w 0 (.long q)) b L := by
  refine ⟨[q], rfl, ?_, fun i hi => ?_⟩
  · show m_eu 64 t b = [q] ++ m_eu 63 b L
    unfold m_eu
    rw [if_neg hb, hL, hq]
    rfl
  · have e : i = 0 := by omega
    rw [e, va_up_self]
    rfl
theorem TX.add {t b T B q L : Int64} {k : Nat} {w : Nat → Value} (h : TX t b k w T B) (hB : ¬ B = 0) (hk : k ≤ 63) (hq : q = m_floor T B) (hL : L = T - q * B) : TX t b (k + 1) (va_up w k (.long q)) B L := by
  obtain ⟨pre, p1, p2, p3⟩ := h
  refine ⟨pre ++ [q], by rw [List.length_append, p1]; rfl, ?_, fun i hi => ?_⟩
  · rw [p2, List.append_assoc]
    congr 1
    obtain ⟨m, hm⟩ : ∃ m, 64 - k = m + 1 := ⟨63 - k, by omega⟩
    rw [hm, show 64 - (k + 1) = m by omega, m_eu, if_neg hB, hL, hq]
    rfl
  · by_cases e : i = k
    · rw [e, va_up_self, List.getD_eq_getElem?_getD, List.getElem?_append_right (by omega), p1, Nat.sub_self]
      rfl
    · rw [va_up_ne _ _ e, p3 i (by omega), List.getD_eq_getElem?_getD, List.getD_eq_getElem?_getD, List.getElem?_append_left (by omega)]
theorem TX.fin {t b T B : Int64} {k : Nat} {w : Nat → Value} (h : TX t b k w T B) (hB : B = 0) (hk : k ≤ 63) : k = (m_TE t b).length ∧ ∀ i, i < k → w i = .long (m_at t b i) := by
  obtain ⟨pre, p1, p2, p3⟩ := h
  have e : m_TE t b = pre := by
    obtain ⟨m, hm⟩ : ∃ m, 64 - k = m + 1 := ⟨63 - k, by omega⟩
    rw [p2, hm, m_eu, if_pos hB, List.append_nil]
  unfold m_at
  rw [e]
  exact ⟨p1.symm, p3⟩
theorem m_lgI {x y : Int64} {w : Value} (h1 : w = .long x) (h2 : w = .long y) : x = y := Value.long.inj (h1.symm.trans h2)
theorem m_fdLn {a : Nat → Int64} {k : Nat} {t b : Int64} {o : Option (Int64 × Int64)} (h : m_fdL a (k + 1) t b = o) (ht : (4000000000 : Int64) < t) : o = none := by
  rw [← h]
  unfold m_fdL
  rw [if_pos ht]
theorem m_fdLs {a : Nat → Int64} {k : Nat} {t b x : Int64} {o : Option (Int64 × Int64)} (h : m_fdL a (k + 1) t b = o) (ht : ¬ (4000000000 : Int64) < t) (hx : x = a k * t + b) : m_fdL a k x t = o := by
  rw [← h, hx]
  conv => rhs; unfold m_fdL
  rw [if_neg ht]
/-- the simplest one's search: what has been tried -/
def m_smR (N P : Int64) (k : Nat) (pl md : Int32) : Prop := ∀ T2 : Int64, (N.toInt - 1) * (k : Int) / P.toInt ≤ T2.toInt → T2.toInt ≤ (N.toInt + 1) * (k : Int) / P.toInt + 1 → m_cut T2 (lN k) pl md ≠ N
def m_smI (N P : Int64) (k : Nat) (pl md : Int32) (t8 : Int64) : Prop := ∀ T2 : Int64, (N.toInt - 1) * (k : Int) / P.toInt ≤ T2.toInt → T2.toInt < t8.toInt → m_cut T2 (lN k) pl md ≠ N
theorem m_smI.z {N P t : Int64} {k : Nat} {pl md : Int32} (h : t.toInt = (N.toInt - 1) * (k : Int) / P.toInt) : m_smI N P k pl md t := fun T2 h1 h2 => by
  rw [h] at h2
  exact absurd h2 (Int.not_lt.mpr h1)
theorem m_smI.up {N P t u : Int64} {k : Nat} {pl md : Int32} (h : m_smI N P k pl md t) (e : u.toInt = t.toInt + 1) (hn : m_cut t (lN k) pl md ≠ N) : m_smI N P k pl md u := fun T2 h1 h2 => by
  rcases Int.lt_or_le T2.toInt t.toInt with z | z
  · exact h T2 h1 z
  · have e2 : T2 = t := Int64.toInt_inj.mp (by omega)
    rw [e2]
    exact hn
theorem m_smR.of {N P t r : Int64} {k : Nat} {pl md : Int32} (h : m_smI N P k pl md t) (e : r.toInt = (N.toInt + 1) * (k : Int) / P.toInt) (hg : r.toInt + 1 < t.toInt) : m_smR N P k pl md := fun T2 h1 h2 => by
  rw [← e] at h2
  exact h T2 h1 (by omega)
theorem m_smA {N P : Int64} {k : Nat} {pl md : Int32} (h : ∀ n2 : Nat, 1 ≤ n2 → n2 < k → m_smR N P n2 pl md) (hk : m_smR N P k pl md) : ∀ n2 : Nat, 1 ≤ n2 → n2 < k + 1 → m_smR N P n2 pl md := by
  intro n2 h1 h2
  rcases Nat.lt_or_ge n2 k with z | z
  · exact h n2 h1 z
  · rw [show n2 = k by omega]
    exact hk
/-- what the search finds: the least bottom, and by it the least top -/
def m_SMP (t b : Int64) (k : Nat) (md : Int32) (p : Int64 × Int64) : Prop := ∃ (n : Nat) (T : Int64), 1 ≤ n ∧ n ≤ 100 ∧ T.toInt.natAbs ≤ 20000000000000 ∧ p = (m_loT T (lN n), m_loB T (lN n)) ∧ m_cut T (lN n) (nI k) md = m_cut t b (nI k) md ∧
  (∀ (n2 : Nat) (T2 : Int64), 1 ≤ n2 → n2 < n → ((m_cut t b (nI k) md).toInt - 1) * n2 / (m_pow (nI k)).toInt ≤ T2.toInt → T2.toInt ≤ ((m_cut t b (nI k) md).toInt + 1) * n2 / (m_pow (nI k)).toInt + 1 → m_cut T2 (lN n2) (nI k) md ≠ m_cut t b (nI k) md) ∧
  (∀ T2 : Int64, ((m_cut t b (nI k) md).toInt - 1) * n / (m_pow (nI k)).toInt ≤ T2.toInt → T2.toInt < T.toInt → m_cut T2 (lN n) (nI k) md ≠ m_cut t b (nI k) md)
theorem m_SMPof {ta ba t8 Y N P : Int64} {pl md : Int32} {kp k : Nat} (hpl : pl = nI kp) (hN : N = m_cut ta ba pl md) (hP : P = m_pow pl) (h1 : 1 ≤ k) (h2 : k ≤ 100) (h3 : t8.toInt.natAbs ≤ 20000000000000) (hY : Y = lN k) (hc : m_cut t8 Y pl md = N) (hno : ∀ n2 : Nat, 1 ≤ n2 → n2 < k → m_smR N P n2 pl md) (hin : m_smI N P k pl md t8) : m_SMP ta ba kp md (m_loT t8 Y, m_loB t8 Y) := by
  subst hpl hN hP hY
  exact ⟨k, t8, h1, h2, h3, rfl, hc, fun n2 T2 g1 g2 => hno n2 g1 g2 T2, hin⟩
set_option maxHeartbeats 4000000 in
set_option maxRecDepth 100000 in
/-- BestratiosModel.lowest(JJ)[J -/
theorem c_X5_lowest (l : Launch) (D : va_G) (tk : Nat → ClassId) (N0 : Nat) (sa : Nat → Nat)  (sz : Nat) (t_ : Int64) (b_ : Int64) (hg : ¬ m_div t_ b_ = 0) : Met l yX5_lowest (wsy yX5_lowest cX5_lowest 8 (some (.array .long))) ({ frames := 2, cells := 1, slots := 2, locals := 50 } : Room) (cP D tk N0 sa [.long t_, .long b_] sz (fun H => True)) (kQr (fun r H => sz ≤ r ∧ L2 D tk r (m_loT t_ b_) (m_loB t_ b_) H) (nwA sz)) (1) (2) (nwA sz) := by
  refine mStart RX5 rfl (by decide +kernel) (Nat.le_of_ble_eq_true rfl) ?_
  intro p e s m args below meth c E hr hlk hnm hsz hC hF ls hl
  subst hsz
  obtain ⟨hx, hb, -⟩ := id E
  have hA : ∀ q, (nwA s.heap.size) q → N0 ≤ q := fun q h => Nat.le_trans hC.2.1 h
  have hn : ∀ q, s.heap.size ≤ q → (nwA s.heap.size) q := fun q h => h
  have hS : va_S (nwA s.heap.size) s.heap s.heap [] := va_S.rf
  have hl : lv_has ls 8 [(0, .long t_), (2, .long b_)] := hl
  refine lv_lload_n (pc := 0) hx hb dX5_lowest_0 rfl (lv_at hl 0 rfl) ?_
  refine lv_lload_n (pc := 1) hx hb dX5_lowest_1 rfl (lv_at hl 1 rfl) ?_
  refine k_l (pc := 2) (k_S E hC hS hA hl.1 (c_X5_divisor l D tk N0 sa s.heap.size t_ b_ ) kw_1202 kw_1203 kw_5 kw_1204 (n := 2) (by decide +kernel) rfl ⟨⟨rfl, rfl⟩, ⟨by decide, by decide⟩, by decide, by decide⟩ rfl (Nat.le_of_ble_eq_true rfl) trivial dX5_lowest_2) hS (fun q z w => absurd w (Nat.not_le.mpr z)) hn (fun r_1 H locs hR hz hk hS => ?_)
  have er_1 := hR
  refine lv_lstore (pc := 5) (lv' := [(4, .long r_1), (0, .long t_), (2, .long b_)]) hx hb dX5_lowest_5 hl (by decide) rfl (fun ls hl => ?_)
  refine lv_lload_n (pc := 7) hx hb dX5_lowest_7 rfl (lv_at hl 2 rfl) ?_
  refine lv_lconst (pc := 8) (v := 0) hx hb dX5_lowest_8 (by decide) ?_
  refine r_lcge (pc := 9) (tgt := 19) E dX5_lowest_9 dX5_lowest_10 (by decide) (fun c_3 => ?_) (fun c_3 => ?_)
  · refine lv_lconst (pc := 19) (v := 1) hx hb dX5_lowest_19 (by decide) ?_
    refine lv_lstore (pc := 20) (lv' := [(6, .long 1), (4, .long r_1), (0, .long t_), (2, .long b_)]) hx hb dX5_lowest_20 hl (by decide) rfl (fun ls hl => ?_)
    refine lv_iconst (pc := 22) (v := 2) hx hb dX5_lowest_22 (by decide) ?_
    have hS0_ := hS
    refine r_newl (pc := 23) E hC hS (N := 2) (by decide) (by decide) (by decide) (by decide) (by decide) dX5_lowest_23 (fun qf4 H zq_ n_ ho_ hS => ?_)
    have f4 := n_
    have s_f4 : s.heap.size ≤ qf4 := zq_ ▸ hS0_.1
    have g_f4 := hn _ s_f4
    refine lv_dup (pc := 25) hx hb dX5_lowest_25 rfl ?_
    refine lv_iconst (pc := 26) (v := 0) hx hb dX5_lowest_26 (by decide) ?_
    refine lv_lload (pc := 27) hx hb dX5_lowest_27 (lv_at hl 0 rfl) ?_
    refine lv_lload_n (pc := 29) hx hb dX5_lowest_29 rfl (lv_at hl 2 rfl) ?_
    refine lv_lload (pc := 30) hx hb dX5_lowest_30 (lv_at hl 1 rfl) ?_
    refine lv_ldiv (pc := 32) hx hb dX5_lowest_32 (by rw [er_1]; exact hg) ?_
    refine lv_lmul (pc := 33) hx hb dX5_lowest_33 ?_
    refine r_last (pc := 34) E hC f4 hS g_f4 (by unfold vp_in; decide) dX5_lowest_34 (fun H locs n_ ho hz hS => ?_)
    have f4 : c1 D qf4 (.inl (tk 0, 2, .inr (.inl (vp_updL (fun _ => 0) 0 (1 * (t_ / r_1)))))) H := n_
    refine lv_dup (pc := 35) hx hb dX5_lowest_35 rfl ?_
    refine lv_iconst (pc := 36) (v := 1) hx hb dX5_lowest_36 (by decide) ?_
    refine lv_lload (pc := 37) hx hb dX5_lowest_37 (lv_at hl 0 rfl) ?_
    refine lv_lload_n (pc := 39) hx hb dX5_lowest_39 rfl (lv_at hl 3 rfl) ?_
    refine lv_lload (pc := 40) hx hb dX5_lowest_40 (lv_at hl 1 rfl) ?_
    refine lv_ldiv (pc := 42) hx hb dX5_lowest_42 (by rw [er_1]; exact hg) ?_
    refine lv_lmul (pc := 43) hx hb dX5_lowest_43 ?_
    refine r_last (pc := 44) E hC f4 hS g_f4 (by unfold vp_in; decide) dX5_lowest_44 (fun H locs n_ ho hz hS => ?_)
    have f4 : L2 D tk qf4 (1 * (t_ / r_1)) (1 * (b_ / r_1)) H := n_
    refine r_aret (pc := 45) E hr (Or.inr ⟨_, rfl⟩) hlk hS (by decide) (by decide) ?_ dX5_lowest_45
    exact ⟨s_f4, L2.to f4 (by rw [er_1, m_loT, m_sg, if_pos c_3]) (by rw [er_1, m_loB, m_sg, if_pos c_3])⟩
  · refine lv_ldc2 (pc := 13) (v := (-1)) hx hb E.2.2.2.1 (E.2.2.2.2 _ (List.mem_cons_of_mem _ kw_1208)) dX5_lowest_13 ?_
    refine lv_goto (pc := 16) (tgt := 20) hx hb dX5_lowest_16 (by decide) ?_
    refine lv_lstore (pc := 20) (lv' := [(6, .long ((-1))), (4, .long r_1), (0, .long t_), (2, .long b_)]) hx hb dX5_lowest_20 hl (by decide) rfl (fun ls hl => ?_)
    refine lv_iconst (pc := 22) (v := 2) hx hb dX5_lowest_22 (by decide) ?_
    have hS0_ := hS
    refine r_newl (pc := 23) E hC hS (N := 2) (by decide) (by decide) (by decide) (by decide) (by decide) dX5_lowest_23 (fun qf5 H zq_ n_ ho_ hS => ?_)
    have f5 := n_
    have s_f5 : s.heap.size ≤ qf5 := zq_ ▸ hS0_.1
    have g_f5 := hn _ s_f5
    refine lv_dup (pc := 25) hx hb dX5_lowest_25 rfl ?_
    refine lv_iconst (pc := 26) (v := 0) hx hb dX5_lowest_26 (by decide) ?_
    refine lv_lload (pc := 27) hx hb dX5_lowest_27 (lv_at hl 0 rfl) ?_
    refine lv_lload_n (pc := 29) hx hb dX5_lowest_29 rfl (lv_at hl 2 rfl) ?_
    refine lv_lload (pc := 30) hx hb dX5_lowest_30 (lv_at hl 1 rfl) ?_
    refine lv_ldiv (pc := 32) hx hb dX5_lowest_32 (by rw [er_1]; exact hg) ?_
    refine lv_lmul (pc := 33) hx hb dX5_lowest_33 ?_
    refine r_last (pc := 34) E hC f5 hS g_f5 (by unfold vp_in; decide) dX5_lowest_34 (fun H locs n_ ho hz hS => ?_)
    have f5 : c1 D qf5 (.inl (tk 0, 2, .inr (.inl (vp_updL (fun _ => 0) 0 (((-1)) * (t_ / r_1)))))) H := n_
    refine lv_dup (pc := 35) hx hb dX5_lowest_35 rfl ?_
    refine lv_iconst (pc := 36) (v := 1) hx hb dX5_lowest_36 (by decide) ?_
    refine lv_lload (pc := 37) hx hb dX5_lowest_37 (lv_at hl 0 rfl) ?_
    refine lv_lload_n (pc := 39) hx hb dX5_lowest_39 rfl (lv_at hl 3 rfl) ?_
    refine lv_lload (pc := 40) hx hb dX5_lowest_40 (lv_at hl 1 rfl) ?_
    refine lv_ldiv (pc := 42) hx hb dX5_lowest_42 (by rw [er_1]; exact hg) ?_
    refine lv_lmul (pc := 43) hx hb dX5_lowest_43 ?_
    refine r_last (pc := 44) E hC f5 hS g_f5 (by unfold vp_in; decide) dX5_lowest_44 (fun H locs n_ ho hz hS => ?_)
    have f5 : L2 D tk qf5 (((-1)) * (t_ / r_1)) (((-1)) * (b_ / r_1)) H := n_
    refine r_aret (pc := 45) E hr (Or.inr ⟨_, rfl⟩) hlk hS (by decide) (by decide) ?_ dX5_lowest_45
    exact ⟨s_f5, L2.to f5 (by rw [er_1, m_loT, m_sg, if_neg c_3]) (by rw [er_1, m_loB, m_sg, if_neg c_3])⟩
set_option maxHeartbeats 4000000 in
set_option maxRecDepth 100000 in
/-- BestratiosModel.isFit([J)Z -/
theorem c_X5_isFit (l : Launch) (D : va_G) (tk : Nat → ClassId) (N0 : Nat) (sa : Nat → Nat)  (sz : Nat) (pa : Nat) (ta : Int64) (ba : Int64) : Met l yX5_isFit (wsy yX5_isFit cX5_isFit 1 (some .boolean)) ({ frames := 0, cells := 0, slots := 0, locals := 0 } : Room) (cP D tk N0 sa [.ref pa] sz (fun H => L2 D tk pa ta ba H)) (kQi (fun r H => r = m_fit ta ba) (nwA sz)) (0) (0) (nwA sz) := by
  refine mStart RX5 rfl (by decide +kernel) (Nat.le_of_ble_eq_true rfl) ?_
  intro p e s m args below meth c E hr hlk hnm hsz hC hF ls hl
  subst hsz
  obtain ⟨hx, hb, -⟩ := id E
  have hA : ∀ q, (nwA s.heap.size) q → N0 ≤ q := fun q h => Nat.le_trans hC.2.1 h
  have hn : ∀ q, s.heap.size ≤ q → (nwA s.heap.size) q := fun q h => h
  have hS : va_S (nwA s.heap.size) s.heap s.heap [] := va_S.rf
  have hl : lv_has ls 1 [(0, .ref pa)] := hl
  have fa : L2 D tk pa ta ba s.heap := hF
  refine lv_aload_n (pc := 0) hx hb dX5_isFit_0 rfl (lv_at hl 0 rfl) ?_
  refine lv_ifnull (pc := 1) hx hb dX5_isFit_1 ?_
  refine lv_aload_n (pc := 4) hx hb dX5_isFit_4 rfl (lv_at hl 0 rfl) ?_
  refine lv_iconst (pc := 5) (v := 0) hx hb dX5_isFit_5 (by decide) ?_
  refine r_l0 (pc := 6) E hC fa dX5_isFit_6 ?_
  refine lv_ldc2 (pc := 7) (v := (-1000000000)) hx hb E.2.2.2.1 (E.2.2.2.2 _ (List.mem_cons_of_mem _ kw_1262)) dX5_isFit_7 ?_
  refine r_lclt (pc := 10) (tgt := 38) E dX5_isFit_10 dX5_isFit_11 (by decide) (fun c_1 => ?_) (fun c_1 => ?_)
  · refine lv_iconst (pc := 38) (v := 0) hx hb dX5_isFit_38 (by decide) ?_
    refine r_zret (pc := 39) E hr hlk hS (by decide) (by decide) rfl ?_ dX5_isFit_39
    first | with_reducible rfl | (simp [m_fit, c_1, Int64.not_le.mpr c_1]; done)
  · refine lv_aload_n (pc := 14) hx hb dX5_isFit_14 rfl (lv_at hl 0 rfl) ?_
    refine lv_iconst (pc := 15) (v := 0) hx hb dX5_isFit_15 (by decide) ?_
    refine r_l0 (pc := 16) E hC fa dX5_isFit_16 ?_
    refine lv_ldc2 (pc := 17) (v := 1000000000) hx hb E.2.2.2.1 (E.2.2.2.2 _ (List.mem_cons_of_mem _ kw_1263)) dX5_isFit_17 ?_
    refine r_lcgt (pc := 20) (tgt := 38) E dX5_isFit_20 dX5_isFit_21 (by decide) (fun c_2 => ?_) (fun c_2 => ?_)
    · refine lv_iconst (pc := 38) (v := 0) hx hb dX5_isFit_38 (by decide) ?_
      refine r_zret (pc := 39) E hr hlk hS (by decide) (by decide) rfl ?_ dX5_isFit_39
      first | with_reducible rfl | (simp [m_fit, c_1, Int64.not_lt.mp c_1, c_2, Int64.not_le.mpr c_2]; done)
    · refine lv_aload_n (pc := 24) hx hb dX5_isFit_24 rfl (lv_at hl 0 rfl) ?_
      refine lv_iconst (pc := 25) (v := 1) hx hb dX5_isFit_25 (by decide) ?_
      refine r_l1 (pc := 26) E hC fa dX5_isFit_26 ?_
      refine lv_ldc2 (pc := 27) (v := 1000000000) hx hb E.2.2.2.1 (E.2.2.2.2 _ (List.mem_cons_of_mem _ kw_1263)) dX5_isFit_27 ?_
      refine r_lcgt (pc := 30) (tgt := 38) E dX5_isFit_30 dX5_isFit_31 (by decide) (fun c_3 => ?_) (fun c_3 => ?_)
      · refine lv_iconst (pc := 38) (v := 0) hx hb dX5_isFit_38 (by decide) ?_
        refine r_zret (pc := 39) E hr hlk hS (by decide) (by decide) rfl ?_ dX5_isFit_39
        first | with_reducible rfl | (simp [m_fit, c_1, Int64.not_lt.mp c_1, c_2, Int64.not_lt.mp c_2, c_3, Int64.not_le.mpr c_3]; done)
      · refine lv_iconst (pc := 34) (v := 1) hx hb dX5_isFit_34 (by decide) ?_
        refine lv_goto (pc := 35) (tgt := 39) hx hb dX5_isFit_35 (by decide) ?_
        refine r_zret (pc := 39) E hr hlk hS (by decide) (by decide) rfl ?_ dX5_isFit_39
        first | with_reducible rfl | (simp [m_fit, c_1, Int64.not_lt.mp c_1, c_2, Int64.not_lt.mp c_2, c_3, Int64.not_lt.mp c_3]; done)
set_option maxHeartbeats 4000000 in
set_option maxRecDepth 100000 in
/-- BestratiosModel.isFit([J)Z -/
theorem c_X5_isFit_N (l : Launch) (D : va_G) (tk : Nat → ClassId) (N0 : Nat) (sa : Nat → Nat)  (sz : Nat)  : Met l yX5_isFit (wsy yX5_isFit cX5_isFit 1 (some .boolean)) ({ frames := 0, cells := 0, slots := 0, locals := 0 } : Room) (cP D tk N0 sa [.null] sz (fun H => True)) (kQi (fun r H => r = 0) (nwA sz)) (0) (0) (nwA sz) := by
  refine mStart RX5 rfl (by decide +kernel) (Nat.le_of_ble_eq_true rfl) ?_
  intro p e s m args below meth c E hr hlk hnm hsz hC hF ls hl
  subst hsz
  obtain ⟨hx, hb, -⟩ := id E
  have hA : ∀ q, (nwA s.heap.size) q → N0 ≤ q := fun q h => Nat.le_trans hC.2.1 h
  have hn : ∀ q, s.heap.size ≤ q → (nwA s.heap.size) q := fun q h => h
  have hS : va_S (nwA s.heap.size) s.heap s.heap [] := va_S.rf
  have hl : lv_has ls 1 [(0, .null)] := hl
  refine lv_aload_nN (pc := 0) hx hb dX5_isFit_0 rfl (lv_at hl 0 rfl) ?_
  refine lv_ifnullN (pc := 1) (tgt := 38) hx hb dX5_isFit_1 (by decide) ?_
  refine lv_iconst (pc := 38) (v := 0) hx hb dX5_isFit_38 (by decide) ?_
  refine r_zret (pc := 39) E hr hlk hS (by decide) (by decide) rfl ?_ dX5_isFit_39
  rfl
set_option maxHeartbeats 4000000 in
set_option maxRecDepth 100000 in
/-- BestratiosModel.sum([J[JI)[J -/
theorem c_X5_sum (l : Launch) (D : va_G) (tk : Nat → ClassId) (N0 : Nat) (sa : Nat → Nat)  (sz : Nat) (pa : Nat) (ta : Int64) (ba : Int64) (pb : Nat) (tb : Int64) (bb : Int64) (sg : Int32) (hg : ¬ m_div (ta * bb + sg.toInt64 * (tb * ba)) (ba * bb) = 0) : Met l yX5_sum (wsy yX5_sum cX5_sum 3 (some (.array .long))) ({ frames := 3, cells := 1, slots := 2, locals := 77 } : Room) (cP D tk N0 sa [.ref pa, .ref pb, .int sg] sz (fun H => L2 D tk pa ta ba H ∧ L2 D tk pb tb bb H)) (kQr (fun r H => sz ≤ r ∧ L2 D tk r (m_loT (ta * bb + sg.toInt64 * (tb * ba)) (ba * bb)) (m_loB (ta * bb + sg.toInt64 * (tb * ba)) (ba * bb)) H) (nwA sz)) (1) (2) (nwA sz) := by
  refine mStart RX5 rfl (by decide +kernel) (Nat.le_of_ble_eq_true rfl) ?_
  intro p e s m args below meth c E hr hlk hnm hsz hC hF ls hl
  subst hsz
  obtain ⟨hx, hb, -⟩ := id E
  have hA : ∀ q, (nwA s.heap.size) q → N0 ≤ q := fun q h => Nat.le_trans hC.2.1 h
  have hn : ∀ q, s.heap.size ≤ q → (nwA s.heap.size) q := fun q h => h
  have hS : va_S (nwA s.heap.size) s.heap s.heap [] := va_S.rf
  have hl : lv_has ls 3 [(0, .ref pa), (1, .ref pb), (2, .int sg)] := hl
  obtain ⟨fa, fb⟩ : L2 D tk pa ta ba s.heap ∧ L2 D tk pb tb bb s.heap := hF
  refine lv_aload_n (pc := 0) hx hb dX5_sum_0 rfl (lv_at hl 0 rfl) ?_
  refine lv_iconst (pc := 1) (v := 0) hx hb dX5_sum_1 (by decide) ?_
  refine r_l0 (pc := 2) E hC fa dX5_sum_2 ?_
  refine lv_aload_n (pc := 3) hx hb dX5_sum_3 rfl (lv_at hl 1 rfl) ?_
  refine lv_iconst (pc := 4) (v := 1) hx hb dX5_sum_4 (by decide) ?_
  refine r_l1 (pc := 5) E hC fb dX5_sum_5 ?_
  refine lv_lmul (pc := 6) hx hb dX5_sum_6 ?_
  refine lv_iload_n (pc := 7) hx hb dX5_sum_7 rfl (lv_at hl 2 rfl) ?_
  refine lv_i2l (pc := 8) (v := sg.toInt64) hx hb dX5_sum_8 rfl ?_
  refine lv_aload_n (pc := 9) hx hb dX5_sum_9 rfl (lv_at hl 1 rfl) ?_
  refine lv_iconst (pc := 10) (v := 0) hx hb dX5_sum_10 (by decide) ?_
  refine r_l0 (pc := 11) E hC fb dX5_sum_11 ?_
  refine lv_aload_n (pc := 12) hx hb dX5_sum_12 rfl (lv_at hl 0 rfl) ?_
  refine lv_iconst (pc := 13) (v := 1) hx hb dX5_sum_13 (by decide) ?_
  refine r_l1 (pc := 14) E hC fa dX5_sum_14 ?_
  refine lv_lmul (pc := 15) hx hb dX5_sum_15 ?_
  refine lv_lmul (pc := 16) hx hb dX5_sum_16 ?_
  refine lv_ladd (pc := 17) hx hb dX5_sum_17 ?_
  refine lv_aload_n (pc := 18) hx hb dX5_sum_18 rfl (lv_at hl 0 rfl) ?_
  refine lv_iconst (pc := 19) (v := 1) hx hb dX5_sum_19 (by decide) ?_
  refine r_l1 (pc := 20) E hC fa dX5_sum_20 ?_
  refine lv_aload_n (pc := 21) hx hb dX5_sum_21 rfl (lv_at hl 1 rfl) ?_
  refine lv_iconst (pc := 22) (v := 1) hx hb dX5_sum_22 (by decide) ?_
  refine r_l1 (pc := 23) E hC fb dX5_sum_23 ?_
  refine lv_lmul (pc := 24) hx hb dX5_sum_24 ?_
  have hZ0_ := hS.1
  have t_fa := fa.lt
  have t_fb := fb.lt
  refine k_r (pc := 25) (k_S E hC hS hA hl.1 (c_X5_lowest l D tk N0 sa s.heap.size ((ta * bb) + (sg.toInt64 * (tb * ba))) (ba * bb) hg) kw_1199 kw_1200 kw_5 kw_1201 (n := 2) (by decide +kernel) rfl ⟨⟨rfl, rfl⟩, ⟨by decide, by decide⟩, by decide, by decide⟩ rfl (Nat.le_of_ble_eq_true rfl) trivial dX5_sum_25) hS (fun q z w => absurd w (Nat.not_le.mpr z)) hn (fun r_1 H locs hR hz hk hS => ?_)
  have fa := fa.kept (hk _ fa.lt (Nat.not_le.mpr fa.lt))
  have fb := fb.kept (hk _ fb.lt (Nat.not_le.mpr fb.lt))
  obtain ⟨z9_, f2⟩ := hR
  have s_f2 : s.heap.size ≤ r_1 := Nat.le_trans hZ0_ z9_
  have g_f2 := hn _ s_f2
  have l_fa_f2 : pa < r_1 := Nat.lt_of_lt_of_le t_fa z9_
  have l_fb_f2 : pb < r_1 := Nat.lt_of_lt_of_le t_fb z9_
  refine r_aret (pc := 28) E hr (Or.inr ⟨_, rfl⟩) hlk hS (by decide) (by decide) ?_ dX5_sum_28
  exact ⟨s_f2, L2.to f2 (by rfl) (by rfl)⟩
set_option maxHeartbeats 4000000 in
set_option maxRecDepth 100000 in
/-- BestratiosModel.product([J[J)[J -/
theorem c_X5_product (l : Launch) (D : va_G) (tk : Nat → ClassId) (N0 : Nat) (sa : Nat → Nat)  (sz : Nat) (pa : Nat) (ta : Int64) (ba : Int64) (pb : Nat) (tb : Int64) (bb : Int64) (hg : ¬ m_div (ta * tb) (ba * bb) = 0) : Met l yX5_product (wsy yX5_product cX5_product 2 (some (.array .long))) ({ frames := 3, cells := 1, slots := 2, locals := 77 } : Room) (cP D tk N0 sa [.ref pa, .ref pb] sz (fun H => L2 D tk pa ta ba H ∧ L2 D tk pb tb bb H)) (kQr (fun r H => sz ≤ r ∧ L2 D tk r (m_loT (ta * tb) (ba * bb)) (m_loB (ta * tb) (ba * bb)) H) (nwA sz)) (1) (2) (nwA sz) := by
  refine mStart RX5 rfl (by decide +kernel) (Nat.le_of_ble_eq_true rfl) ?_
  intro p e s m args below meth c E hr hlk hnm hsz hC hF ls hl
  subst hsz
  obtain ⟨hx, hb, -⟩ := id E
  have hA : ∀ q, (nwA s.heap.size) q → N0 ≤ q := fun q h => Nat.le_trans hC.2.1 h
  have hn : ∀ q, s.heap.size ≤ q → (nwA s.heap.size) q := fun q h => h
  have hS : va_S (nwA s.heap.size) s.heap s.heap [] := va_S.rf
  have hl : lv_has ls 2 [(0, .ref pa), (1, .ref pb)] := hl
  obtain ⟨fa, fb⟩ : L2 D tk pa ta ba s.heap ∧ L2 D tk pb tb bb s.heap := hF
  refine lv_aload_n (pc := 0) hx hb dX5_product_0 rfl (lv_at hl 0 rfl) ?_
  refine lv_iconst (pc := 1) (v := 0) hx hb dX5_product_1 (by decide) ?_
  refine r_l0 (pc := 2) E hC fa dX5_product_2 ?_
  refine lv_aload_n (pc := 3) hx hb dX5_product_3 rfl (lv_at hl 1 rfl) ?_
  refine lv_iconst (pc := 4) (v := 0) hx hb dX5_product_4 (by decide) ?_
  refine r_l0 (pc := 5) E hC fb dX5_product_5 ?_
  refine lv_lmul (pc := 6) hx hb dX5_product_6 ?_
  refine lv_aload_n (pc := 7) hx hb dX5_product_7 rfl (lv_at hl 0 rfl) ?_
  refine lv_iconst (pc := 8) (v := 1) hx hb dX5_product_8 (by decide) ?_
  refine r_l1 (pc := 9) E hC fa dX5_product_9 ?_
  refine lv_aload_n (pc := 10) hx hb dX5_product_10 rfl (lv_at hl 1 rfl) ?_
  refine lv_iconst (pc := 11) (v := 1) hx hb dX5_product_11 (by decide) ?_
  refine r_l1 (pc := 12) E hC fb dX5_product_12 ?_
  refine lv_lmul (pc := 13) hx hb dX5_product_13 ?_
  have hZ0_ := hS.1
  have t_fa := fa.lt
  have t_fb := fb.lt
  refine k_r (pc := 14) (k_S E hC hS hA hl.1 (c_X5_lowest l D tk N0 sa s.heap.size (ta * tb) (ba * bb) hg) kw_1199 kw_1200 kw_5 kw_1201 (n := 2) (by decide +kernel) rfl ⟨⟨rfl, rfl⟩, ⟨by decide, by decide⟩, by decide, by decide⟩ rfl (Nat.le_of_ble_eq_true rfl) trivial dX5_product_14) hS (fun q z w => absurd w (Nat.not_le.mpr z)) hn (fun r_1 H locs hR hz hk hS => ?_)
  have fa := fa.kept (hk _ fa.lt (Nat.not_le.mpr fa.lt))
  have fb := fb.kept (hk _ fb.lt (Nat.not_le.mpr fb.lt))
  obtain ⟨z9_, f2⟩ := hR
  have s_f2 : s.heap.size ≤ r_1 := Nat.le_trans hZ0_ z9_
  have g_f2 := hn _ s_f2
  have l_fa_f2 : pa < r_1 := Nat.lt_of_lt_of_le t_fa z9_
  have l_fb_f2 : pb < r_1 := Nat.lt_of_lt_of_le t_fb z9_
  refine r_aret (pc := 17) E hr (Or.inr ⟨_, rfl⟩) hlk hS (by decide) (by decide) ?_ dX5_product_17
  exact ⟨s_f2, L2.to f2 (by rfl) (by rfl)⟩
set_option maxHeartbeats 4000000 in
set_option maxRecDepth 100000 in
/-- BestratiosModel.between([J[J)[J -/
theorem c_X5_between (l : Launch) (D : va_G) (tk : Nat → ClassId) (N0 : Nat) (sa : Nat → Nat)  (sz : Nat) (pa : Nat) (ta : Int64) (ba : Int64) (pb : Nat) (tb : Int64) (bb : Int64) (hg : ¬ m_div (ta + tb) (ba + bb) = 0) : Met l yX5_between (wsy yX5_between cX5_between 2 (some (.array .long))) ({ frames := 3, cells := 1, slots := 2, locals := 77 } : Room) (cP D tk N0 sa [.ref pa, .ref pb] sz (fun H => L2 D tk pa ta ba H ∧ L2 D tk pb tb bb H)) (kQr (fun r H => sz ≤ r ∧ L2 D tk r (m_loT (ta + tb) (ba + bb)) (m_loB (ta + tb) (ba + bb)) H) (nwA sz)) (1) (2) (nwA sz) := by
  refine mStart RX5 rfl (by decide +kernel) (Nat.le_of_ble_eq_true rfl) ?_
  intro p e s m args below meth c E hr hlk hnm hsz hC hF ls hl
  subst hsz
  obtain ⟨hx, hb, -⟩ := id E
  have hA : ∀ q, (nwA s.heap.size) q → N0 ≤ q := fun q h => Nat.le_trans hC.2.1 h
  have hn : ∀ q, s.heap.size ≤ q → (nwA s.heap.size) q := fun q h => h
  have hS : va_S (nwA s.heap.size) s.heap s.heap [] := va_S.rf
  have hl : lv_has ls 2 [(0, .ref pa), (1, .ref pb)] := hl
  obtain ⟨fa, fb⟩ : L2 D tk pa ta ba s.heap ∧ L2 D tk pb tb bb s.heap := hF
  refine lv_aload_n (pc := 0) hx hb dX5_between_0 rfl (lv_at hl 0 rfl) ?_
  refine lv_iconst (pc := 1) (v := 0) hx hb dX5_between_1 (by decide) ?_
  refine r_l0 (pc := 2) E hC fa dX5_between_2 ?_
  refine lv_aload_n (pc := 3) hx hb dX5_between_3 rfl (lv_at hl 1 rfl) ?_
  refine lv_iconst (pc := 4) (v := 0) hx hb dX5_between_4 (by decide) ?_
  refine r_l0 (pc := 5) E hC fb dX5_between_5 ?_
  refine lv_ladd (pc := 6) hx hb dX5_between_6 ?_
  refine lv_aload_n (pc := 7) hx hb dX5_between_7 rfl (lv_at hl 0 rfl) ?_
  refine lv_iconst (pc := 8) (v := 1) hx hb dX5_between_8 (by decide) ?_
  refine r_l1 (pc := 9) E hC fa dX5_between_9 ?_
  refine lv_aload_n (pc := 10) hx hb dX5_between_10 rfl (lv_at hl 1 rfl) ?_
  refine lv_iconst (pc := 11) (v := 1) hx hb dX5_between_11 (by decide) ?_
  refine r_l1 (pc := 12) E hC fb dX5_between_12 ?_
  refine lv_ladd (pc := 13) hx hb dX5_between_13 ?_
  have hZ0_ := hS.1
  have t_fa := fa.lt
  have t_fb := fb.lt
  refine k_r (pc := 14) (k_S E hC hS hA hl.1 (c_X5_lowest l D tk N0 sa s.heap.size (ta + tb) (ba + bb) hg) kw_1199 kw_1200 kw_5 kw_1201 (n := 2) (by decide +kernel) rfl ⟨⟨rfl, rfl⟩, ⟨by decide, by decide⟩, by decide, by decide⟩ rfl (Nat.le_of_ble_eq_true rfl) trivial dX5_between_14) hS (fun q z w => absurd w (Nat.not_le.mpr z)) hn (fun r_1 H locs hR hz hk hS => ?_)
  have fa := fa.kept (hk _ fa.lt (Nat.not_le.mpr fa.lt))
  have fb := fb.kept (hk _ fb.lt (Nat.not_le.mpr fb.lt))
  obtain ⟨z9_, f2⟩ := hR
  have s_f2 : s.heap.size ≤ r_1 := Nat.le_trans hZ0_ z9_
  have g_f2 := hn _ s_f2
  have l_fa_f2 : pa < r_1 := Nat.lt_of_lt_of_le t_fa z9_
  have l_fb_f2 : pb < r_1 := Nat.lt_of_lt_of_le t_fb z9_
  refine r_aret (pc := 17) E hr (Or.inr ⟨_, rfl⟩) hlk hS (by decide) (by decide) ?_ dX5_between_17
  exact ⟨s_f2, L2.to f2 (by rfl) (by rfl)⟩
set_option maxHeartbeats 4000000 in
set_option maxRecDepth 100000 in
/-- BestratiosModel.order([J[J)I -/
theorem c_X5_order (l : Launch) (D : va_G) (tk : Nat → ClassId) (N0 : Nat) (sa : Nat → Nat)  (sz : Nat) (pa : Nat) (ta : Int64) (ba : Int64) (pb : Nat) (tb : Int64) (bb : Int64) : Met l yX5_order (wsy yX5_order cX5_order 6 (some .int)) ({ frames := 1, cells := 0, slots := 0, locals := 20 } : Room) (cP D tk N0 sa [.ref pa, .ref pb] sz (fun H => L2 D tk pa ta ba H ∧ L2 D tk pb tb bb H)) (kQi (fun r H => r = m_ord ta ba tb bb) (nwA sz)) (0) (0) (nwA sz) := by
  refine mStart RX5 rfl (by decide +kernel) (Nat.le_of_ble_eq_true rfl) ?_
  intro p e s m args below meth c E hr hlk hnm hsz hC hF ls hl
  subst hsz
  obtain ⟨hx, hb, -⟩ := id E
  have hA : ∀ q, (nwA s.heap.size) q → N0 ≤ q := fun q h => Nat.le_trans hC.2.1 h
  have hn : ∀ q, s.heap.size ≤ q → (nwA s.heap.size) q := fun q h => h
  have hS : va_S (nwA s.heap.size) s.heap s.heap [] := va_S.rf
  have hl : lv_has ls 6 [(0, .ref pa), (1, .ref pb)] := hl
  obtain ⟨fa, fb⟩ : L2 D tk pa ta ba s.heap ∧ L2 D tk pb tb bb s.heap := hF
  refine lv_aload_n (pc := 0) hx hb dX5_order_0 rfl (lv_at hl 0 rfl) ?_
  refine lv_iconst (pc := 1) (v := 0) hx hb dX5_order_1 (by decide) ?_
  refine r_l0 (pc := 2) E hC fa dX5_order_2 ?_
  refine lv_aload_n (pc := 3) hx hb dX5_order_3 rfl (lv_at hl 1 rfl) ?_
  refine lv_iconst (pc := 4) (v := 1) hx hb dX5_order_4 (by decide) ?_
  refine r_l1 (pc := 5) E hC fb dX5_order_5 ?_
  refine lv_lmul (pc := 6) hx hb dX5_order_6 ?_
  obtain ⟨x_1, ex_1⟩ : ∃ z9 : Int64, z9 = ta * bb := ⟨_, rfl⟩
  rw [← ex_1]
  refine lv_lstore_n (pc := 7) (lv' := [(2, .long x_1), (0, .ref pa), (1, .ref pb)]) hx hb dX5_order_7 rfl hl (by decide) rfl (fun ls hl => ?_)
  refine lv_aload_n (pc := 8) hx hb dX5_order_8 rfl (lv_at hl 2 rfl) ?_
  refine lv_iconst (pc := 9) (v := 0) hx hb dX5_order_9 (by decide) ?_
  refine r_l0 (pc := 10) E hC fb dX5_order_10 ?_
  refine lv_aload_n (pc := 11) hx hb dX5_order_11 rfl (lv_at hl 1 rfl) ?_
  refine lv_iconst (pc := 12) (v := 1) hx hb dX5_order_12 (by decide) ?_
  refine r_l1 (pc := 13) E hC fa dX5_order_13 ?_
  refine lv_lmul (pc := 14) hx hb dX5_order_14 ?_
  obtain ⟨x_2, ex_2⟩ : ∃ z9 : Int64, z9 = tb * ba := ⟨_, rfl⟩
  rw [← ex_2]
  refine lv_lstore (pc := 15) (lv' := [(4, .long x_2), (2, .long x_1), (0, .ref pa), (1, .ref pb)]) hx hb dX5_order_15 hl (by decide) rfl (fun ls hl => ?_)
  refine lv_lload_n (pc := 17) hx hb dX5_order_17 rfl (lv_at hl 1 rfl) ?_
  refine lv_lload (pc := 18) hx hb dX5_order_18 (lv_at hl 0 rfl) ?_
  refine r_lcge (pc := 20) (tgt := 28) E dX5_order_20 dX5_order_21 (by decide) (fun c_3 => ?_) (fun c_3 => ?_)
  · refine lv_lload_n (pc := 28) hx hb dX5_order_28 rfl (lv_at hl 1 rfl) ?_
    refine lv_lload (pc := 29) hx hb dX5_order_29 (lv_at hl 0 rfl) ?_
    refine r_lcle (pc := 31) (tgt := 39) E dX5_order_31 dX5_order_32 (by decide) (fun c_4 => ?_) (fun c_4 => ?_)
    · refine lv_iconst (pc := 39) (v := 0) hx hb dX5_order_39 (by decide) ?_
      refine k_i (pc := 40) (k_S E hC hS hA hl.1 (c_X5_bit l D tk N0 sa s.heap.size 0 ) kw_1271 kw_1272 kw_5 kw_1273 (n := 1) (by decide +kernel) rfl ⟨⟨rfl, rfl⟩, ⟨by decide, by decide⟩, by decide, by decide⟩ rfl (Nat.le_of_ble_eq_true rfl) trivial dX5_order_40) hS (fun q z w => absurd w (Nat.not_le.mpr z)) hn (fun r_5 H locs hR hz hk hS => ?_)
      have er_5 := hR
      have fa := fa.kept (hk _ fa.lt (Nat.not_le.mpr fa.lt))
      have fb := fb.kept (hk _ fb.lt (Nat.not_le.mpr fb.lt))
      refine r_iret (pc := 43) E hr hlk hS (by decide) (by decide) ?_ dX5_order_43
      subst ex_1 ex_2 er_5; first | with_reducible rfl | (simp [m_ord, m_bit, c_3, Int64.not_lt.mpr c_3, c_4, Int64.not_lt.mpr c_4]; done)
    · refine lv_iconst (pc := 35) (v := 1) hx hb dX5_order_35 (by decide) ?_
      refine lv_goto (pc := 36) (tgt := 40) hx hb dX5_order_36 (by decide) ?_
      refine k_i (pc := 40) (k_S E hC hS hA hl.1 (c_X5_bit l D tk N0 sa s.heap.size 1 ) kw_1271 kw_1272 kw_5 kw_1273 (n := 1) (by decide +kernel) rfl ⟨⟨rfl, rfl⟩, ⟨by decide, by decide⟩, by decide, by decide⟩ rfl (Nat.le_of_ble_eq_true rfl) trivial dX5_order_40) hS (fun q z w => absurd w (Nat.not_le.mpr z)) hn (fun r_7 H locs hR hz hk hS => ?_)
      have er_7 := hR
      have fa := fa.kept (hk _ fa.lt (Nat.not_le.mpr fa.lt))
      have fb := fb.kept (hk _ fb.lt (Nat.not_le.mpr fb.lt))
      refine r_iret (pc := 43) E hr hlk hS (by decide) (by decide) ?_ dX5_order_43
      subst ex_1 ex_2 er_7; first | with_reducible rfl | (simp [m_ord, m_bit, c_3, Int64.not_lt.mpr c_3, c_4, Int64.not_le.mp c_4]; done)
  · refine lv_iconst (pc := 24) (v := (-1)) hx hb dX5_order_24 (by decide) ?_
    refine lv_goto (pc := 25) (tgt := 43) hx hb dX5_order_25 (by decide) ?_
    refine r_iret (pc := 43) E hr hlk hS (by decide) (by decide) ?_ dX5_order_43
    subst ex_1 ex_2; first | with_reducible rfl | (simp [m_ord, m_bit, c_3, Int64.not_le.mp c_3]; done)
set_option maxHeartbeats 4000000 in
set_option maxRecDepth 100000 in
/-- BestratiosModel.isAbove([J)Z -/
theorem c_X5_isAbove (l : Launch) (D : va_G) (tk : Nat → ClassId) (N0 : Nat) (sa : Nat → Nat)  (sz : Nat) (pa : Nat) (ta : Int64) (ba : Int64) : Met l yX5_isAbove (wsy yX5_isAbove cX5_isAbove 1 (some .boolean)) ({ frames := 0, cells := 0, slots := 0, locals := 0 } : Room) (cP D tk N0 sa [.ref pa] sz (fun H => L2 D tk pa ta ba H)) (kQi (fun r H => r = m_abv ta) (nwA sz)) (0) (0) (nwA sz) := by
  refine mStart RX5 rfl (by decide +kernel) (Nat.le_of_ble_eq_true rfl) ?_
  intro p e s m args below meth c E hr hlk hnm hsz hC hF ls hl
  subst hsz
  obtain ⟨hx, hb, -⟩ := id E
  have hA : ∀ q, (nwA s.heap.size) q → N0 ≤ q := fun q h => Nat.le_trans hC.2.1 h
  have hn : ∀ q, s.heap.size ≤ q → (nwA s.heap.size) q := fun q h => h
  have hS : va_S (nwA s.heap.size) s.heap s.heap [] := va_S.rf
  have hl : lv_has ls 1 [(0, .ref pa)] := hl
  have fa : L2 D tk pa ta ba s.heap := hF
  refine lv_aload_n (pc := 0) hx hb dX5_isAbove_0 rfl (lv_at hl 0 rfl) ?_
  refine lv_iconst (pc := 1) (v := 0) hx hb dX5_isAbove_1 (by decide) ?_
  refine r_l0 (pc := 2) E hC fa dX5_isAbove_2 ?_
  refine lv_lconst (pc := 3) (v := 0) hx hb dX5_isAbove_3 (by decide) ?_
  refine r_lcle (pc := 4) (tgt := 12) E dX5_isAbove_4 dX5_isAbove_5 (by decide) (fun c_1 => ?_) (fun c_1 => ?_)
  · refine lv_iconst (pc := 12) (v := 0) hx hb dX5_isAbove_12 (by decide) ?_
    refine r_zret (pc := 13) E hr hlk hS (by decide) (by decide) rfl ?_ dX5_isAbove_13
    first | with_reducible rfl | (simp [m_abv, c_1, Int64.not_lt.mpr c_1]; done)
  · refine lv_iconst (pc := 8) (v := 1) hx hb dX5_isAbove_8 (by decide) ?_
    refine lv_goto (pc := 9) (tgt := 13) hx hb dX5_isAbove_9 (by decide) ?_
    refine r_zret (pc := 13) E hr hlk hS (by decide) (by decide) rfl ?_ dX5_isAbove_13
    first | with_reducible rfl | (simp [m_abv, c_1, Int64.not_le.mp c_1]; done)
set_option maxHeartbeats 4000000 in
set_option maxRecDepth 100000 in
/-- BestratiosModel.isOne([J)Z -/
theorem c_X5_isOne (l : Launch) (D : va_G) (tk : Nat → ClassId) (N0 : Nat) (sa : Nat → Nat)  (sz : Nat) (pa : Nat) (ta : Int64) (ba : Int64) : Met l yX5_isOne (wsy yX5_isOne cX5_isOne 1 (some .boolean)) ({ frames := 0, cells := 0, slots := 0, locals := 0 } : Room) (cP D tk N0 sa [.ref pa] sz (fun H => L2 D tk pa ta ba H)) (kQi (fun r H => r = m_one ta ba) (nwA sz)) (0) (0) (nwA sz) := by
  refine mStart RX5 rfl (by decide +kernel) (Nat.le_of_ble_eq_true rfl) ?_
  intro p e s m args below meth c E hr hlk hnm hsz hC hF ls hl
  subst hsz
  obtain ⟨hx, hb, -⟩ := id E
  have hA : ∀ q, (nwA s.heap.size) q → N0 ≤ q := fun q h => Nat.le_trans hC.2.1 h
  have hn : ∀ q, s.heap.size ≤ q → (nwA s.heap.size) q := fun q h => h
  have hS : va_S (nwA s.heap.size) s.heap s.heap [] := va_S.rf
  have hl : lv_has ls 1 [(0, .ref pa)] := hl
  have fa : L2 D tk pa ta ba s.heap := hF
  refine lv_aload_n (pc := 0) hx hb dX5_isOne_0 rfl (lv_at hl 0 rfl) ?_
  refine lv_iconst (pc := 1) (v := 0) hx hb dX5_isOne_1 (by decide) ?_
  refine r_l0 (pc := 2) E hC fa dX5_isOne_2 ?_
  refine lv_lconst (pc := 3) (v := 1) hx hb dX5_isOne_3 (by decide) ?_
  refine r_lcne (pc := 4) (tgt := 20) E dX5_isOne_4 dX5_isOne_5 (by decide) (fun c_1 => ?_) (fun c_1 => ?_)
  · refine lv_iconst (pc := 20) (v := 0) hx hb dX5_isOne_20 (by decide) ?_
    refine r_zret (pc := 21) E hr hlk hS (by decide) (by decide) rfl ?_ dX5_isOne_21
    first | with_reducible rfl | (simp [m_one, c_1]; done)
  · refine lv_aload_n (pc := 8) hx hb dX5_isOne_8 rfl (lv_at hl 0 rfl) ?_
    refine lv_iconst (pc := 9) (v := 1) hx hb dX5_isOne_9 (by decide) ?_
    refine r_l1 (pc := 10) E hC fa dX5_isOne_10 ?_
    refine lv_lconst (pc := 11) (v := 1) hx hb dX5_isOne_11 (by decide) ?_
    refine r_lcne (pc := 12) (tgt := 20) E dX5_isOne_12 dX5_isOne_13 (by decide) (fun c_2 => ?_) (fun c_2 => ?_)
    · refine lv_iconst (pc := 20) (v := 0) hx hb dX5_isOne_20 (by decide) ?_
      refine r_zret (pc := 21) E hr hlk hS (by decide) (by decide) rfl ?_ dX5_isOne_21
      first | with_reducible rfl | (simp [m_one, c_1, c_2]; done)
    · refine lv_iconst (pc := 16) (v := 1) hx hb dX5_isOne_16 (by decide) ?_
      refine lv_goto (pc := 17) (tgt := 21) hx hb dX5_isOne_17 (by decide) ?_
      refine r_zret (pc := 21) E hr hlk hS (by decide) (by decide) rfl ?_ dX5_isOne_21
      first | with_reducible rfl | (simp [m_one, c_1, c_2]; done)
set_option maxHeartbeats 4000000 in
set_option maxRecDepth 100000 in
/-- BestratiosModel.nextOf([J)[J -/
theorem c_X5_nextOf (l : Launch) (D : va_G) (tk : Nat → ClassId) (N0 : Nat) (sa : Nat → Nat)  (sz : Nat) (pa : Nat) (ta : Int64) (ba : Int64) (hb0 : ¬ ba = 0) (hg : ¬ m_div (ba) ((2 * m_floor ta ba + 1) * ba - ta) = 0) : Met l yX5_nextOf (wsy yX5_nextOf cX5_nextOf 1 (some (.array .long))) ({ frames := 3, cells := 1, slots := 2, locals := 77 } : Room) (cP D tk N0 sa [.ref pa] sz (fun H => L2 D tk pa ta ba H)) (kQr (fun r H => sz ≤ r ∧ L2 D tk r (m_loT (ba) ((2 * m_floor ta ba + 1) * ba - ta)) (m_loB (ba) ((2 * m_floor ta ba + 1) * ba - ta)) H) (nwA sz)) (1) (2) (nwA sz) := by
  refine mStart RX5 rfl (by decide +kernel) (Nat.le_of_ble_eq_true rfl) ?_
  intro p e s m args below meth c E hr hlk hnm hsz hC hF ls hl
  subst hsz
  obtain ⟨hx, hb, -⟩ := id E
  have hA : ∀ q, (nwA s.heap.size) q → N0 ≤ q := fun q h => Nat.le_trans hC.2.1 h
  have hn : ∀ q, s.heap.size ≤ q → (nwA s.heap.size) q := fun q h => h
  have hS : va_S (nwA s.heap.size) s.heap s.heap [] := va_S.rf
  have hl : lv_has ls 1 [(0, .ref pa)] := hl
  have fa : L2 D tk pa ta ba s.heap := hF
  refine lv_aload_n (pc := 0) hx hb dX5_nextOf_0 rfl (lv_at hl 0 rfl) ?_
  refine lv_iconst (pc := 1) (v := 1) hx hb dX5_nextOf_1 (by decide) ?_
  refine r_l1 (pc := 2) E hC fa dX5_nextOf_2 ?_
  refine lv_ldc2 (pc := 3) (v := 2) hx hb E.2.2.2.1 (E.2.2.2.2 _ (List.mem_cons_of_mem _ kw_1665)) dX5_nextOf_3 ?_
  refine lv_aload_n (pc := 6) hx hb dX5_nextOf_6 rfl (lv_at hl 0 rfl) ?_
  refine lv_iconst (pc := 7) (v := 0) hx hb dX5_nextOf_7 (by decide) ?_
  refine r_l0 (pc := 8) E hC fa dX5_nextOf_8 ?_
  refine lv_aload_n (pc := 9) hx hb dX5_nextOf_9 rfl (lv_at hl 0 rfl) ?_
  refine lv_iconst (pc := 10) (v := 1) hx hb dX5_nextOf_10 (by decide) ?_
  refine r_l1 (pc := 11) E hC fa dX5_nextOf_11 ?_
  refine k_l (pc := 12) (k_S E hC hS hA hl.1 (c_X5_floor l D tk N0 sa s.heap.size ta ba hb0) kw_1392 kw_1393 kw_5 kw_1394 (n := 2) (by decide +kernel) rfl ⟨⟨rfl, rfl⟩, ⟨by decide, by decide⟩, by decide, by decide⟩ rfl (Nat.le_of_ble_eq_true rfl) trivial dX5_nextOf_12) hS (fun q z w => absurd w (Nat.not_le.mpr z)) hn (fun r_1 H locs hR hz hk hS => ?_)
  have er_1 := hR
  have fa := fa.kept (hk _ fa.lt (Nat.not_le.mpr fa.lt))
  refine lv_lmul (pc := 15) hx hb dX5_nextOf_15 ?_
  refine lv_lconst (pc := 16) (v := 1) hx hb dX5_nextOf_16 (by decide) ?_
  refine lv_ladd (pc := 17) hx hb dX5_nextOf_17 ?_
  refine lv_aload_n (pc := 18) hx hb dX5_nextOf_18 rfl (lv_at hl 0 rfl) ?_
  refine lv_iconst (pc := 19) (v := 1) hx hb dX5_nextOf_19 (by decide) ?_
  refine r_l1 (pc := 20) E hC fa dX5_nextOf_20 ?_
  refine lv_lmul (pc := 21) hx hb dX5_nextOf_21 ?_
  refine lv_aload_n (pc := 22) hx hb dX5_nextOf_22 rfl (lv_at hl 0 rfl) ?_
  refine lv_iconst (pc := 23) (v := 0) hx hb dX5_nextOf_23 (by decide) ?_
  refine r_l0 (pc := 24) E hC fa dX5_nextOf_24 ?_
  refine lv_lsub (pc := 25) hx hb dX5_nextOf_25 ?_
  have hZ0_ := hS.1
  have t_fa := fa.lt
  refine k_r (pc := 26) (k_S E hC hS hA hl.1 (c_X5_lowest l D tk N0 sa H.size ba ((((2 * r_1) + 1) * ba) - ta) (by rw [er_1]; exact hg)) kw_1199 kw_1200 kw_5 kw_1201 (n := 2) (by decide +kernel) rfl ⟨⟨rfl, rfl⟩, ⟨by decide, by decide⟩, by decide, by decide⟩ rfl (Nat.le_of_ble_eq_true rfl) trivial dX5_nextOf_26) hS (fun q z w => absurd w (Nat.not_le.mpr z)) hn (fun r_3 H locs hR hz hk hS => ?_)
  have fa := fa.kept (hk _ fa.lt (Nat.not_le.mpr fa.lt))
  obtain ⟨z9_, f4⟩ := hR
  have s_f4 : s.heap.size ≤ r_3 := Nat.le_trans hZ0_ z9_
  have g_f4 := hn _ s_f4
  have l_fa_f4 : pa < r_3 := Nat.lt_of_lt_of_le t_fa z9_
  refine r_aret (pc := 29) E hr (Or.inr ⟨_, rfl⟩) hlk hS (by decide) (by decide) ?_ dX5_nextOf_29
  exact ⟨s_f4, L2.to f4 (by rw [er_1]) (by rw [er_1])⟩
set_option maxHeartbeats 4000000 in
set_option maxRecDepth 100000 in
/-- BestratiosModel.inverse([J)[J -/
theorem c_X5_inverse (l : Launch) (D : va_G) (tk : Nat → ClassId) (N0 : Nat) (sa : Nat → Nat)  (sz : Nat) (pa : Nat) (ta : Int64) (ba : Int64) (hg : ¬ ta = 0 → ¬ m_div ba ta = 0) : Met l yX5_inverse (wsy yX5_inverse cX5_inverse 1 (some (.array .long))) ({ frames := 3, cells := 1, slots := 2, locals := 77 } : Room) (cP D tk N0 sa [.ref pa] sz (fun H => L2 D tk pa ta ba H)) (kQo (fun v H => (v = none ∧ ta = 0) ∨ (∃ q, v = some q ∧ ¬ ta = 0 ∧ sz ≤ q ∧ L2 D tk q (m_loT ba ta) (m_loB ba ta) H)) (nwA sz)) (1) (2) (nwA sz) := by
  refine mStart RX5 rfl (by decide +kernel) (Nat.le_of_ble_eq_true rfl) ?_
  intro p e s m args below meth c E hr hlk hnm hsz hC hF ls hl
  subst hsz
  obtain ⟨hx, hb, -⟩ := id E
  have hA : ∀ q, (nwA s.heap.size) q → N0 ≤ q := fun q h => Nat.le_trans hC.2.1 h
  have hn : ∀ q, s.heap.size ≤ q → (nwA s.heap.size) q := fun q h => h
  have hS : va_S (nwA s.heap.size) s.heap s.heap [] := va_S.rf
  have hl : lv_has ls 1 [(0, .ref pa)] := hl
  have fa : L2 D tk pa ta ba s.heap := hF
  refine lv_aload_n (pc := 0) hx hb dX5_inverse_0 rfl (lv_at hl 0 rfl) ?_
  refine lv_iconst (pc := 1) (v := 0) hx hb dX5_inverse_1 (by decide) ?_
  refine r_l0 (pc := 2) E hC fa dX5_inverse_2 ?_
  refine lv_lconst (pc := 3) (v := 0) hx hb dX5_inverse_3 (by decide) ?_
  refine r_lcne (pc := 4) (tgt := 12) E dX5_inverse_4 dX5_inverse_5 (by decide) (fun c_1 => ?_) (fun c_1 => ?_)
  · refine lv_aload_n (pc := 12) hx hb dX5_inverse_12 rfl (lv_at hl 0 rfl) ?_
    refine lv_iconst (pc := 13) (v := 1) hx hb dX5_inverse_13 (by decide) ?_
    refine r_l1 (pc := 14) E hC fa dX5_inverse_14 ?_
    refine lv_aload_n (pc := 15) hx hb dX5_inverse_15 rfl (lv_at hl 0 rfl) ?_
    refine lv_iconst (pc := 16) (v := 0) hx hb dX5_inverse_16 (by decide) ?_
    refine r_l0 (pc := 17) E hC fa dX5_inverse_17 ?_
    have hZ0_ := hS.1
    have t_fa := fa.lt
    refine k_r (pc := 18) (k_S E hC hS hA hl.1 (c_X5_lowest l D tk N0 sa s.heap.size ba ta (hg c_1)) kw_1199 kw_1200 kw_5 kw_1201 (n := 2) (by decide +kernel) rfl ⟨⟨rfl, rfl⟩, ⟨by decide, by decide⟩, by decide, by decide⟩ rfl (Nat.le_of_ble_eq_true rfl) trivial dX5_inverse_18) hS (fun q z w => absurd w (Nat.not_le.mpr z)) hn (fun r_2 H locs hR hz hk hS => ?_)
    have fa := fa.kept (hk _ fa.lt (Nat.not_le.mpr fa.lt))
    obtain ⟨z9_, f3⟩ := hR
    have s_f3 : s.heap.size ≤ r_2 := Nat.le_trans hZ0_ z9_
    have g_f3 := hn _ s_f3
    have l_fa_f3 : pa < r_2 := Nat.lt_of_lt_of_le t_fa z9_
    refine r_oret (pc := 21) E hr (Or.inr ⟨_, rfl⟩) hlk hS (by decide) (by decide) (some r_2) ?_ dX5_inverse_21
    exact Or.inr ⟨_, rfl, c_1, s_f3, f3⟩
  · refine lv_null (pc := 8) hx hb dX5_inverse_8 ?_
    refine lv_goto (pc := 9) (tgt := 21) hx hb dX5_inverse_9 (by decide) ?_
    refine r_oret (pc := 21) E hr (Or.inr ⟨_, rfl⟩) hlk hS (by decide) (by decide) none ?_ dX5_inverse_21
    exact Or.inl ⟨rfl, c_1⟩
set_option maxHeartbeats 4000000 in
set_option maxRecDepth 100000 in
/-- BestratiosModel.cutOf(JJII)J -/
theorem c_X5_cutOf (l : Launch) (D : va_G) (tk : Nat → ClassId) (N0 : Nat) (sa : Nat → Nat)  (sz : Nat) (t_ : Int64) (b_ : Int64) (pl : Int32) (md : Int32) (hy : ¬ b_ = 0) : Met l yX5_cutOf (wsy yX5_cutOf cX5_cutOf 12 (some .long)) ({ frames := 1, cells := 0, slots := 0, locals := 25 } : Room) (cP D tk N0 sa [.long t_, .long b_, .int pl, .int md] sz (fun H => True)) (kQl (fun r H => r = m_cut t_ b_ pl md) (nwA sz)) (0) (0) (nwA sz) := by
  refine mStart RX5 rfl (by decide +kernel) (Nat.le_of_ble_eq_true rfl) ?_
  intro p e s m args below meth c E hr hlk hnm hsz hC hF ls hl
  subst hsz
  obtain ⟨hx, hb, -⟩ := id E
  have hA : ∀ q, (nwA s.heap.size) q → N0 ≤ q := fun q h => Nat.le_trans hC.2.1 h
  have hn : ∀ q, s.heap.size ≤ q → (nwA s.heap.size) q := fun q h => h
  have hS : va_S (nwA s.heap.size) s.heap s.heap [] := va_S.rf
  have hl : lv_has ls 12 [(0, .long t_), (2, .long b_), (4, .int pl), (5, .int md)] := hl
  refine lv_lload_n (pc := 0) hx hb dX5_cutOf_0 rfl (lv_at hl 0 rfl) ?_
  refine lv_iload (pc := 1) hx hb dX5_cutOf_1 (lv_at hl 2 rfl) ?_
  refine k_l (pc := 3) (k_S E hC hS hA hl.1 (c_X5_power l D tk N0 sa s.heap.size pl ) kw_1278 kw_1279 kw_5 kw_1280 (n := 1) (by decide +kernel) rfl ⟨⟨rfl, rfl⟩, ⟨by decide, by decide⟩, by decide, by decide⟩ rfl (Nat.le_of_ble_eq_true rfl) trivial dX5_cutOf_3) hS (fun q z w => absurd w (Nat.not_le.mpr z)) hn (fun r_1 H locs hR hz hk hS => ?_)
  have er_1 := hR
  refine lv_lmul (pc := 6) hx hb dX5_cutOf_6 ?_
  obtain ⟨x_3, ex_3⟩ : ∃ z9 : Int64, z9 = t_ * r_1 := ⟨_, rfl⟩
  rw [← ex_3]
  refine lv_lstore (pc := 7) (lv' := [(6, .long x_3), (0, .long t_), (2, .long b_), (4, .int pl), (5, .int md)]) hx hb dX5_cutOf_7 hl (by decide) rfl (fun ls hl => ?_)
  refine lv_lload (pc := 9) hx hb dX5_cutOf_9 (lv_at hl 0 rfl) ?_
  refine lv_lload_n (pc := 11) hx hb dX5_cutOf_11 rfl (lv_at hl 2 rfl) ?_
  refine k_l (pc := 12) (k_S E hC hS hA hl.1 (c_X5_floor l D tk N0 sa H.size x_3 b_ (by assumption)) kw_1392 kw_1393 kw_5 kw_1394 (n := 2) (by decide +kernel) rfl ⟨⟨rfl, rfl⟩, ⟨by decide, by decide⟩, by decide, by decide⟩ rfl (Nat.le_of_ble_eq_true rfl) trivial dX5_cutOf_12) hS (fun q z w => absurd w (Nat.not_le.mpr z)) hn (fun r_4 H locs hR hz hk hS => ?_)
  have er_4 := hR
  refine lv_lstore (pc := 15) (lv' := [(8, .long r_4), (6, .long x_3), (0, .long t_), (2, .long b_), (4, .int pl), (5, .int md)]) hx hb dX5_cutOf_15 hl (by decide) rfl (fun ls hl => ?_)
  refine lv_lload (pc := 17) hx hb dX5_cutOf_17 (lv_at hl 1 rfl) ?_
  refine lv_lload (pc := 19) hx hb dX5_cutOf_19 (lv_at hl 0 rfl) ?_
  refine lv_lload_n (pc := 21) hx hb dX5_cutOf_21 rfl (lv_at hl 3 rfl) ?_
  refine lv_lmul (pc := 22) hx hb dX5_cutOf_22 ?_
  refine lv_lsub (pc := 23) hx hb dX5_cutOf_23 ?_
  obtain ⟨x_6, ex_6⟩ : ∃ z9 : Int64, z9 = x_3 - (r_4 * b_) := ⟨_, rfl⟩
  rw [← ex_6]
  refine lv_lstore (pc := 24) (lv' := [(10, .long x_6), (8, .long r_4), (6, .long x_3), (0, .long t_), (2, .long b_), (4, .int pl), (5, .int md)]) hx hb dX5_cutOf_24 hl (by decide) rfl (fun ls hl => ?_)
  refine lv_lload (pc := 26) hx hb dX5_cutOf_26 (lv_at hl 0 rfl) ?_
  refine lv_lconst (pc := 28) (v := 0) hx hb dX5_cutOf_28 (by decide) ?_
  refine r_lceq (pc := 29) (tgt := 39) E dX5_cutOf_29 dX5_cutOf_30 (by decide) (fun c_7 => ?_) (fun c_7 => ?_)
  · refine lv_lload (pc := 39) hx hb dX5_cutOf_39 (lv_at hl 1 rfl) ?_
    refine r_lret (pc := 41) E hr hlk hS (by decide) (by decide) ?_ dX5_cutOf_41
    subst er_1 ex_3 er_4 ex_6; first | with_reducible rfl | (simp [m_cut, m_cut3, c_7, p_TB, p_TV, p_TC, p_TI, p_BT, p_BV, p_BC, p_BI, p_VT, p_VB, p_VC, p_VI, p_CT, p_CB, p_CV, p_CI, p_IT, p_IB, p_IV, p_IC, p_TT, p_BB, p_CC, p_II]; done)
  · refine lv_iload (pc := 33) hx hb dX5_cutOf_33 (lv_at hl 6 rfl) ?_
    refine lv_iconst (pc := 35) (v := 1) hx hb dX5_cutOf_35 (by decide) ?_
    refine lv_icmp_ne (pc := 36) (tgt := 42) hx hb dX5_cutOf_36 (by decide) (fun c_8 => ?_) (fun c_8 => ?_)
    · refine lv_iload (pc := 42) hx hb dX5_cutOf_42 (lv_at hl 6 rfl) ?_
      refine lv_iconst (pc := 44) (v := 2) hx hb dX5_cutOf_44 (by decide) ?_
      refine lv_icmp_ne (pc := 45) (tgt := 53) hx hb dX5_cutOf_45 (by decide) (fun c_9 => ?_) (fun c_9 => ?_)
      · refine lv_iload (pc := 53) hx hb dX5_cutOf_53 (lv_at hl 6 rfl) ?_
        refine lv_if_ne (pc := 55) (tgt := 74) hx hb dX5_cutOf_55 (by decide) (fun c_10 => ?_) (fun c_10 => ?_)
        · refine lv_ldc2 (pc := 74) (v := 2) hx hb E.2.2.2.1 (E.2.2.2.2 _ (List.mem_cons_of_mem _ kw_1665)) dX5_cutOf_74 ?_
          refine lv_lload (pc := 77) hx hb dX5_cutOf_77 (lv_at hl 0 rfl) ?_
          refine lv_lmul (pc := 79) hx hb dX5_cutOf_79 ?_
          refine lv_lload_n (pc := 80) hx hb dX5_cutOf_80 rfl (lv_at hl 4 rfl) ?_
          refine r_lceq (pc := 81) (tgt := 106) E dX5_cutOf_81 dX5_cutOf_82 (by decide) (fun c_11 => ?_) (fun c_11 => ?_)
          · refine lv_iload (pc := 106) hx hb dX5_cutOf_106 (lv_at hl 6 rfl) ?_
            refine lv_iconst (pc := 108) (v := 3) hx hb dX5_cutOf_108 (by decide) ?_
            refine lv_icmp_ne (pc := 109) (tgt := 128) hx hb dX5_cutOf_109 (by decide) (fun c_12 => ?_) (fun c_12 => ?_)
            · refine lv_lload (pc := 128) hx hb dX5_cutOf_128 (lv_at hl 1 rfl) ?_
              refine lv_ldc2 (pc := 130) (v := 2) hx hb E.2.2.2.1 (E.2.2.2.2 _ (List.mem_cons_of_mem _ kw_1665)) dX5_cutOf_130 ?_
              refine lv_lrem (pc := 133) hx hb dX5_cutOf_133 (by decide) ?_
              refine lv_lconst (pc := 134) (v := 0) hx hb dX5_cutOf_134 (by decide) ?_
              refine r_lcne (pc := 135) (tgt := 144) E dX5_cutOf_135 dX5_cutOf_136 (by decide) (fun c_13 => ?_) (fun c_13 => ?_)
              · refine lv_lload (pc := 144) hx hb dX5_cutOf_144 (lv_at hl 1 rfl) ?_
                refine lv_lconst (pc := 146) (v := 1) hx hb dX5_cutOf_146 (by decide) ?_
                refine lv_ladd (pc := 147) hx hb dX5_cutOf_147 ?_
                refine r_lret (pc := 148) E hr hlk hS (by decide) (by decide) ?_ dX5_cutOf_148
                subst er_1 ex_3 er_4 ex_6; first | with_reducible rfl | (simp [m_cut, m_cut3, c_7, c_8, c_9, c_10, c_11, c_12, c_13, p_TB, p_TV, p_TC, p_TI, p_BT, p_BV, p_BC, p_BI, p_VT, p_VB, p_VC, p_VI, p_CT, p_CB, p_CV, p_CI, p_IT, p_IB, p_IV, p_IC, p_TT, p_BB, p_CC, p_II]; done)
              · refine lv_lload (pc := 139) hx hb dX5_cutOf_139 (lv_at hl 1 rfl) ?_
                refine lv_goto (pc := 141) (tgt := 148) hx hb dX5_cutOf_141 (by decide) ?_
                refine r_lret (pc := 148) E hr hlk hS (by decide) (by decide) ?_ dX5_cutOf_148
                subst er_1 ex_3 er_4 ex_6; first | with_reducible rfl | (simp [m_cut, m_cut3, c_7, c_8, c_9, c_10, c_11, c_12, c_13, p_TB, p_TV, p_TC, p_TI, p_BT, p_BV, p_BC, p_BI, p_VT, p_VB, p_VC, p_VI, p_CT, p_CB, p_CV, p_CI, p_IT, p_IB, p_IV, p_IC, p_TT, p_BB, p_CC, p_II]; done)
            · refine lv_lload_n (pc := 112) hx hb dX5_cutOf_112 rfl (lv_at hl 3 rfl) ?_
              refine lv_lconst (pc := 113) (v := 0) hx hb dX5_cutOf_113 (by decide) ?_
              refine r_lcge (pc := 114) (tgt := 123) E dX5_cutOf_114 dX5_cutOf_115 (by decide) (fun c_14 => ?_) (fun c_14 => ?_)
              · refine lv_lload (pc := 123) hx hb dX5_cutOf_123 (lv_at hl 1 rfl) ?_
                refine lv_lconst (pc := 125) (v := 1) hx hb dX5_cutOf_125 (by decide) ?_
                refine lv_ladd (pc := 126) hx hb dX5_cutOf_126 ?_
                refine r_lret (pc := 127) E hr hlk hS (by decide) (by decide) ?_ dX5_cutOf_127
                subst er_1 ex_3 er_4 ex_6; first | with_reducible rfl | (simp [m_cut, m_cut3, c_7, c_8, c_9, c_10, c_11, c_12, c_14, Int64.not_lt.mpr c_14, p_TB, p_TV, p_TC, p_TI, p_BT, p_BV, p_BC, p_BI, p_VT, p_VB, p_VC, p_VI, p_CT, p_CB, p_CV, p_CI, p_IT, p_IB, p_IV, p_IC, p_TT, p_BB, p_CC, p_II]; done)
              · refine lv_lload (pc := 118) hx hb dX5_cutOf_118 (lv_at hl 1 rfl) ?_
                refine lv_goto (pc := 120) (tgt := 127) hx hb dX5_cutOf_120 (by decide) ?_
                refine r_lret (pc := 127) E hr hlk hS (by decide) (by decide) ?_ dX5_cutOf_127
                subst er_1 ex_3 er_4 ex_6; first | with_reducible rfl | (simp [m_cut, m_cut3, c_7, c_8, c_9, c_10, c_11, c_12, c_14, Int64.not_le.mp c_14, p_TB, p_TV, p_TC, p_TI, p_BT, p_BV, p_BC, p_BI, p_VT, p_VB, p_VC, p_VI, p_CT, p_CB, p_CV, p_CI, p_IT, p_IB, p_IV, p_IC, p_TT, p_BB, p_CC, p_II]; done)
          · refine lv_ldc2 (pc := 85) (v := 2) hx hb E.2.2.2.1 (E.2.2.2.2 _ (List.mem_cons_of_mem _ kw_1665)) dX5_cutOf_85 ?_
            refine lv_lload (pc := 88) hx hb dX5_cutOf_88 (lv_at hl 0 rfl) ?_
            refine lv_lmul (pc := 90) hx hb dX5_cutOf_90 ?_
            refine lv_lload_n (pc := 91) hx hb dX5_cutOf_91 rfl (lv_at hl 4 rfl) ?_
            refine r_lcge (pc := 92) (tgt := 101) E dX5_cutOf_92 dX5_cutOf_93 (by decide) (fun c_15 => ?_) (fun c_15 => ?_)
            · refine lv_lload (pc := 101) hx hb dX5_cutOf_101 (lv_at hl 1 rfl) ?_
              refine lv_lconst (pc := 103) (v := 1) hx hb dX5_cutOf_103 (by decide) ?_
              refine lv_ladd (pc := 104) hx hb dX5_cutOf_104 ?_
              refine r_lret (pc := 105) E hr hlk hS (by decide) (by decide) ?_ dX5_cutOf_105
              subst er_1 ex_3 er_4 ex_6; first | with_reducible rfl | (simp [m_cut, m_cut3, c_7, c_8, c_9, c_10, c_11, c_15, Int64.not_lt.mpr c_15, p_TB, p_TV, p_TC, p_TI, p_BT, p_BV, p_BC, p_BI, p_VT, p_VB, p_VC, p_VI, p_CT, p_CB, p_CV, p_CI, p_IT, p_IB, p_IV, p_IC, p_TT, p_BB, p_CC, p_II]; done)
            · refine lv_lload (pc := 96) hx hb dX5_cutOf_96 (lv_at hl 1 rfl) ?_
              refine lv_goto (pc := 98) (tgt := 105) hx hb dX5_cutOf_98 (by decide) ?_
              refine r_lret (pc := 105) E hr hlk hS (by decide) (by decide) ?_ dX5_cutOf_105
              subst er_1 ex_3 er_4 ex_6; first | with_reducible rfl | (simp [m_cut, m_cut3, c_7, c_8, c_9, c_10, c_11, c_15, Int64.not_le.mp c_15, p_TB, p_TV, p_TC, p_TI, p_BT, p_BV, p_BC, p_BI, p_VT, p_VB, p_VC, p_VI, p_CT, p_CB, p_CV, p_CI, p_IT, p_IB, p_IV, p_IC, p_TT, p_BB, p_CC, p_II]; done)
        · refine lv_lload_n (pc := 58) hx hb dX5_cutOf_58 rfl (lv_at hl 3 rfl) ?_
          refine lv_lconst (pc := 59) (v := 0) hx hb dX5_cutOf_59 (by decide) ?_
          refine r_lcge (pc := 60) (tgt := 71) E dX5_cutOf_60 dX5_cutOf_61 (by decide) (fun c_16 => ?_) (fun c_16 => ?_)
          · refine lv_lload (pc := 71) hx hb dX5_cutOf_71 (lv_at hl 1 rfl) ?_
            refine r_lret (pc := 73) E hr hlk hS (by decide) (by decide) ?_ dX5_cutOf_73
            subst er_1 ex_3 er_4 ex_6; first | with_reducible rfl | (simp [m_cut, m_cut3, c_7, c_8, c_9, c_10, c_16, Int64.not_lt.mpr c_16, p_TB, p_TV, p_TC, p_TI, p_BT, p_BV, p_BC, p_BI, p_VT, p_VB, p_VC, p_VI, p_CT, p_CB, p_CV, p_CI, p_IT, p_IB, p_IV, p_IC, p_TT, p_BB, p_CC, p_II]; done)
          · refine lv_lload (pc := 64) hx hb dX5_cutOf_64 (lv_at hl 1 rfl) ?_
            refine lv_lconst (pc := 66) (v := 1) hx hb dX5_cutOf_66 (by decide) ?_
            refine lv_ladd (pc := 67) hx hb dX5_cutOf_67 ?_
            refine lv_goto (pc := 68) (tgt := 73) hx hb dX5_cutOf_68 (by decide) ?_
            refine r_lret (pc := 73) E hr hlk hS (by decide) (by decide) ?_ dX5_cutOf_73
            subst er_1 ex_3 er_4 ex_6; first | with_reducible rfl | (simp [m_cut, m_cut3, c_7, c_8, c_9, c_10, c_16, Int64.not_le.mp c_16, p_TB, p_TV, p_TC, p_TI, p_BT, p_BV, p_BC, p_BI, p_VT, p_VB, p_VC, p_VI, p_CT, p_CB, p_CV, p_CI, p_IT, p_IB, p_IV, p_IC, p_TT, p_BB, p_CC, p_II]; done)
      · refine lv_lload (pc := 48) hx hb dX5_cutOf_48 (lv_at hl 1 rfl) ?_
        refine lv_lconst (pc := 50) (v := 1) hx hb dX5_cutOf_50 (by decide) ?_
        refine lv_ladd (pc := 51) hx hb dX5_cutOf_51 ?_
        refine r_lret (pc := 52) E hr hlk hS (by decide) (by decide) ?_ dX5_cutOf_52
        subst er_1 ex_3 er_4 ex_6; first | with_reducible rfl | (simp [m_cut, m_cut3, c_7, c_8, c_9, p_TB, p_TV, p_TC, p_TI, p_BT, p_BV, p_BC, p_BI, p_VT, p_VB, p_VC, p_VI, p_CT, p_CB, p_CV, p_CI, p_IT, p_IB, p_IV, p_IC, p_TT, p_BB, p_CC, p_II]; done)
    · refine lv_lload (pc := 39) hx hb dX5_cutOf_39 (lv_at hl 1 rfl) ?_
      refine r_lret (pc := 41) E hr hlk hS (by decide) (by decide) ?_ dX5_cutOf_41
      subst er_1 ex_3 er_4 ex_6; first | with_reducible rfl | (simp [m_cut, m_cut3, c_7, c_8, p_TB, p_TV, p_TC, p_TI, p_BT, p_BV, p_BC, p_BI, p_VT, p_VB, p_VC, p_VI, p_CT, p_CB, p_CV, p_CI, p_IT, p_IB, p_IV, p_IC, p_TT, p_BB, p_CC, p_II]; done)
set_option maxHeartbeats 4000000 in
set_option maxRecDepth 100000 in
/-- BestratiosModel.text([J)Ljava/lang/String; -/
theorem c_X5_text (l : Launch) (D : va_G) (tk : Nat → ClassId) (N0 : Nat) (sa : Nat → Nat)  (sz : Nat) (pa : Nat) (ta : Int64) (ba : Int64) : Met l yX5_text (wsy yX5_text cX5_text 1 (some (.object "java/lang/String"))) ({ frames := 6, cells := 7, slots := 210, locals := 137 } : Room) (cP D tk N0 sa [.ref pa] sz (fun H => L2 D tk pa ta ba H)) (kQr (fun r H => ∃ n9, n9 ≤ 43 ∧ sz ≤ r ∧ SX D tk r n9 H) (nwA sz)) (7) (210) (nwA sz) := by
  refine mStart RX5 rfl (by decide +kernel) (Nat.le_of_ble_eq_true rfl) ?_
  intro p e s m args below meth c E hr hlk hnm hsz hC hF ls hl
  subst hsz
  obtain ⟨hx, hb, -⟩ := id E
  have hA : ∀ q, (nwA s.heap.size) q → N0 ≤ q := fun q h => Nat.le_trans hC.2.1 h
  have hn : ∀ q, s.heap.size ≤ q → (nwA s.heap.size) q := fun q h => h
  have hS : va_S (nwA s.heap.size) s.heap s.heap [] := va_S.rf
  have hl : lv_has ls 1 [(0, .ref pa)] := hl
  have fa : L2 D tk pa ta ba s.heap := hF
  refine lv_aload_n (pc := 0) hx hb dX5_text_0 rfl (lv_at hl 0 rfl) ?_
  refine lv_iconst (pc := 1) (v := 1) hx hb dX5_text_1 (by decide) ?_
  refine r_l1 (pc := 2) E hC fa dX5_text_2 ?_
  refine lv_lconst (pc := 3) (v := 1) hx hb dX5_text_3 (by decide) ?_
  refine r_lcne (pc := 4) (tgt := 32) E dX5_text_4 dX5_text_5 (by decide) (fun c_1 => ?_) (fun c_1 => ?_)
  · have hS0_ := hS
    refine r_new (pc := 32) E hC hS tyJ4_ok uJ4 (List.mem_cons_of_mem _ kw_1351) (List.mem_cons_of_mem _ kw_150) (List.mem_cons_of_mem _ kw_19) (ci := 1) rfl (fs := [.null, .int 0, .int 0, .int 0]) (by decide) (by dsimp only; omega) (by dsimp only; omega) dX5_text_32 (fun qf2 H zq_ n_ ho_ hS => ?_)
    have l_fa_f2 : pa < qf2 := zq_ ▸ fa.lt
    have fa := fa.kept (ho_ _ fa.lt)
    have f2 := n_
    have s_f2 : s.heap.size ≤ qf2 := zq_ ▸ hS0_.1
    have g_f2 := hn _ s_f2
    refine lv_dup (pc := 35) hx hb dX5_text_35 rfl ?_
    have hZ0_ := hS.1
    have t_fa := fa.lt
    have t_f2 := f2.lt
    refine k_v (pc := 36) (k_I E hC hS hA hl.1 (c_J4_init_da8c8 l D tk N0 sa H.size qf2 (hA _ g_f2)) kw_1352 kw_152 kw_19 kw_153 rfl (n := 0) (by decide +kernel) rfl ⟨⟨rfl, rfl⟩, ⟨Nat.le_of_ble_eq_true rfl, Nat.le_of_ble_eq_true rfl⟩, (by dsimp only; omega), (by dsimp only; omega)⟩ rfl (Nat.le_of_ble_eq_true rfl) f2 dX5_text_36) hS (inA1.to g_f2) hn (fun H locs hR hz hk hS => ?_)
    have fa := fa.kept (hk _ fa.lt (inA1.not (clA.ne fa.cla f2.cl (hC.ao 1 0 rfl rfl)) fa.lt))
    obtain ⟨q_f4, z9_, f2, f4⟩ := hR
    have s_f4 : s.heap.size ≤ q_f4 := Nat.le_trans hZ0_ z9_
    have g_f4 := hn _ s_f4
    have l_fa_f4 : pa < q_f4 := Nat.lt_of_lt_of_le t_fa z9_
    have l_f2_f4 : qf2 < q_f4 := Nat.lt_of_lt_of_le t_f2 z9_
    refine lv_aload_n (pc := 39) hx hb dX5_text_39 rfl (lv_at hl 0 rfl) ?_
    refine lv_iconst (pc := 40) (v := 0) hx hb dX5_text_40 (by decide) ?_
    refine r_l0 (pc := 41) E hC fa dX5_text_41 ?_
    have hZ0_ := hS.1
    have t_fa := fa.lt
    have t_f2 := f2.lt
    have t_f4 := f4.lt
    have hz_5 := tx_gb 16 (0 + dgJ ta)
    have hq_5 := tx_k1 16 (0 + dgJ ta)
    have hd_5 := dgJ_le ta
    refine k_r (pc := 42) (k_V E hC hS hA hl.1 (c1.recv hC f2 rfl) rfl (c_J4_append_f7089 l D tk N0 sa H.size qf2 q_f4 16 0 0 ta (hA _ g_f2) (hA _ g_f4) (by omega) (by omega)) kw_1354 kw_1355 kw_1356 kw_19 kw_1357 (n := 1) (by decide +kernel) rfl ⟨⟨rfl, rfl⟩, ⟨Nat.le_of_ble_eq_true rfl, Nat.le_of_ble_eq_true rfl⟩, (by dsimp only; omega), (by dsimp only; omega)⟩ rfl (Nat.le_of_ble_eq_true rfl) ⟨f2, f4⟩ dX5_text_42) hS (inA2.to g_f2 g_f4) hn (fun r_6 H locs hR hz hk hS => ?_)
    have fa := fa.kept (hk _ fa.lt (inA2.not (clA.ne fa.cla f2.cl (hC.ao 1 0 rfl rfl)) (clA.ne fa.cla f4.cl (hC.aa 0 1 rfl rfl (by dsimp only; decide))) fa.lt))
    obtain ⟨er9, hR⟩ := hR
    rw [er9]
    obtain ⟨v_7, hv_7, f2, f4⟩ := hR
    have g_f4 := hv_7.elim (fun e9 => e9 ▸ g_f4) (fun z9 => hn _ (Nat.le_trans hZ0_ z9))
    have l_fa_f4 : pa < v_7 := hv_7.elim (fun e9 => e9 ▸ l_fa_f4) (fun z9 => Nat.lt_of_lt_of_le t_fa z9)
    have l_f2_f4 : qf2 < v_7 := hv_7.elim (fun e9 => e9 ▸ l_f2_f4) (fun z9 => Nat.lt_of_lt_of_le t_f2 z9)
    have hv_7 := hv_7.imp_right (fun z9 => Nat.le_trans hZ0_ z9)
    refine va_ldcS (pc := 45) hx hb E.2.2.2.1 (hC.2.2.2.2.1 7 _ rfl).1 dX5_text_45 ?_
    have k8 : SX D tk (sa (10 + 7)) 1 H := hC.str hS hA 7 _ rfl (by decide)
    have hZ0_ := hS.1
    have t_fa := fa.lt
    have t_f2 := f2.lt
    have t_f4 := f4.lt
    have t_k8 := k8.lt
    have hz_9 := tx_gb (sbC 16 (0 + dgJ ta)) ((0 + dgJ ta) + 1)
    have hq_9 := tx_k1 (sbC 16 (0 + dgJ ta)) ((0 + dgJ ta) + 1)
    refine k_r (pc := 47) (k_V E hC hS hA hl.1 (c1.recv hC f2 rfl) rfl (c_J4_append_15ec4 l D tk N0 sa H.size qf2 v_7 (sbC 16 (0 + dgJ ta)) (0 + dgJ ta) (sa (10 + 7)) 1 0 (hA _ g_f2) (hA _ g_f4) (by omega) (by omega) (by omega)) kw_1353 kw_399 kw_400 kw_19 kw_401 (n := 1) (by decide +kernel) rfl ⟨⟨rfl, rfl⟩, ⟨Nat.le_of_ble_eq_true rfl, Nat.le_of_ble_eq_true rfl⟩, (by dsimp only; omega), (by dsimp only; omega)⟩ rfl (Nat.le_of_ble_eq_true rfl) ⟨f2, f4, k8⟩ dX5_text_47) hS (inA2.to g_f2 g_f4) hn (fun r_10 H locs hR hz hk hS => ?_)
    have fa := fa.kept (hk _ fa.lt (inA2.not (clA.ne fa.cla f2.cl (hC.ao 1 0 rfl rfl)) (clA.ne fa.cla f4.cl (hC.aa 0 1 rfl rfl (by dsimp only; decide))) fa.lt))
    obtain ⟨er9, hR⟩ := hR
    rw [er9]
    obtain ⟨v_11, hv_11, f2, f4⟩ := hR
    have g_f4 := hv_11.elim (fun e9 => e9 ▸ g_f4) (fun z9 => hn _ (Nat.le_trans hZ0_ z9))
    have l_fa_f4 : pa < v_11 := hv_11.elim (fun e9 => e9 ▸ l_fa_f4) (fun z9 => Nat.lt_of_lt_of_le t_fa z9)
    have l_f2_f4 : qf2 < v_11 := hv_11.elim (fun e9 => e9 ▸ l_f2_f4) (fun z9 => Nat.lt_of_lt_of_le t_f2 z9)
    have hv_11 := hv_11.imp_right (fun z9 => Nat.le_trans hZ0_ z9)
    have hv_11 := hv_11.elim (fun e9 => e9 ▸ hv_7) Or.inr
    refine lv_aload_n (pc := 50) hx hb dX5_text_50 rfl (lv_at hl 0 rfl) ?_
    refine lv_iconst (pc := 51) (v := 1) hx hb dX5_text_51 (by decide) ?_
    refine r_l1 (pc := 52) E hC fa dX5_text_52 ?_
    have hZ0_ := hS.1
    have t_fa := fa.lt
    have t_f2 := f2.lt
    have t_f4 := f4.lt
    have hz_12 := tx_gb (sbC (sbC 16 (0 + dgJ ta)) ((0 + dgJ ta) + 1)) (((0 + dgJ ta) + 1) + dgJ ba)
    have hq_12 := tx_k1 (sbC (sbC 16 (0 + dgJ ta)) ((0 + dgJ ta) + 1)) (((0 + dgJ ta) + 1) + dgJ ba)
    have hd_12 := dgJ_le ba
    refine k_r (pc := 53) (k_V E hC hS hA hl.1 (c1.recv hC f2 rfl) rfl (c_J4_append_f7089 l D tk N0 sa H.size qf2 v_11 (sbC (sbC 16 (0 + dgJ ta)) ((0 + dgJ ta) + 1)) ((0 + dgJ ta) + 1) 0 ba (hA _ g_f2) (hA _ g_f4) (by omega) (by omega)) kw_1354 kw_1355 kw_1356 kw_19 kw_1357 (n := 1) (by decide +kernel) rfl ⟨⟨rfl, rfl⟩, ⟨Nat.le_of_ble_eq_true rfl, Nat.le_of_ble_eq_true rfl⟩, (by dsimp only; omega), (by dsimp only; omega)⟩ rfl (Nat.le_of_ble_eq_true rfl) ⟨f2, f4⟩ dX5_text_53) hS (inA2.to g_f2 g_f4) hn (fun r_13 H locs hR hz hk hS => ?_)
    have fa := fa.kept (hk _ fa.lt (inA2.not (clA.ne fa.cla f2.cl (hC.ao 1 0 rfl rfl)) (clA.ne fa.cla f4.cl (hC.aa 0 1 rfl rfl (by dsimp only; decide))) fa.lt))
    obtain ⟨er9, hR⟩ := hR
    rw [er9]
    obtain ⟨v_14, hv_14, f2, f4⟩ := hR
    have g_f4 := hv_14.elim (fun e9 => e9 ▸ g_f4) (fun z9 => hn _ (Nat.le_trans hZ0_ z9))
    have l_fa_f4 : pa < v_14 := hv_14.elim (fun e9 => e9 ▸ l_fa_f4) (fun z9 => Nat.lt_of_lt_of_le t_fa z9)
    have l_f2_f4 : qf2 < v_14 := hv_14.elim (fun e9 => e9 ▸ l_f2_f4) (fun z9 => Nat.lt_of_lt_of_le t_f2 z9)
    have hv_14 := hv_14.imp_right (fun z9 => Nat.le_trans hZ0_ z9)
    have hv_14 := hv_14.elim (fun e9 => e9 ▸ hv_11) Or.inr
    have hZ0_ := hS.1
    have t_fa := fa.lt
    have t_f2 := f2.lt
    have t_f4 := f4.lt
    refine k_r (pc := 56) (k_V E hC hS hA hl.1 (c1.recv hC f2 rfl) rfl (c_J4_toString_0e30d l D tk N0 sa H.size qf2 v_14 (sbC (sbC (sbC 16 (0 + dgJ ta)) ((0 + dgJ ta) + 1)) (((0 + dgJ ta) + 1) + dgJ ba)) (((0 + dgJ ta) + 1) + dgJ ba) 0 (by omega) (by omega)) kw_1381 kw_316 kw_317 kw_19 kw_318 (n := 0) (by decide +kernel) rfl ⟨⟨rfl, rfl⟩, ⟨Nat.le_of_ble_eq_true rfl, Nat.le_of_ble_eq_true rfl⟩, (by dsimp only; omega), (by dsimp only; omega)⟩ rfl (Nat.le_of_ble_eq_true rfl) ⟨f2, f4⟩ dX5_text_56) hS (fun q z w => absurd w (Nat.not_le.mpr z)) hn (fun r_15 H locs hR hz hk hS => ?_)
    have fa := fa.kept (hk _ fa.lt (Nat.not_le.mpr fa.lt))
    have f2 := f2.kept (hk _ f2.lt (Nat.not_le.mpr f2.lt))
    have f4 := f4.kept (hk _ f4.lt (Nat.not_le.mpr f4.lt))
    obtain ⟨q_f16, z9_, y9_, f16⟩ := hR
    have f16 := SM.sx f16
    have zr_f16 : s.heap.size ≤ r_15 := Nat.le_trans hZ0_ z9_
    refine r_aret (pc := 59) E hr (Or.inl ⟨_, rfl⟩) hlk hS (by omega) (by omega) ?_ dX5_text_59
    exact ⟨_, (by omega), zr_f16, f16⟩
  · have hS0_ := hS
    refine r_new (pc := 8) E hC hS tyJ4_ok uJ4 (List.mem_cons_of_mem _ kw_1351) (List.mem_cons_of_mem _ kw_150) (List.mem_cons_of_mem _ kw_19) (ci := 1) rfl (fs := [.null, .int 0, .int 0, .int 0]) (by decide) (by dsimp only; omega) (by dsimp only; omega) dX5_text_8 (fun qf17 H zq_ n_ ho_ hS => ?_)
    have l_fa_f17 : pa < qf17 := zq_ ▸ fa.lt
    have fa := fa.kept (ho_ _ fa.lt)
    have f17 := n_
    have s_f17 : s.heap.size ≤ qf17 := zq_ ▸ hS0_.1
    have g_f17 := hn _ s_f17
    refine lv_dup (pc := 11) hx hb dX5_text_11 rfl ?_
    have hZ0_ := hS.1
    have t_fa := fa.lt
    have t_f17 := f17.lt
    refine k_v (pc := 12) (k_I E hC hS hA hl.1 (c_J4_init_da8c8 l D tk N0 sa H.size qf17 (hA _ g_f17)) kw_1352 kw_152 kw_19 kw_153 rfl (n := 0) (by decide +kernel) rfl ⟨⟨rfl, rfl⟩, ⟨Nat.le_of_ble_eq_true rfl, Nat.le_of_ble_eq_true rfl⟩, (by dsimp only; omega), (by dsimp only; omega)⟩ rfl (Nat.le_of_ble_eq_true rfl) f17 dX5_text_12) hS (inA1.to g_f17) hn (fun H locs hR hz hk hS => ?_)
    have fa := fa.kept (hk _ fa.lt (inA1.not (clA.ne fa.cla f17.cl (hC.ao 1 0 rfl rfl)) fa.lt))
    obtain ⟨q_f19, z9_, f17, f19⟩ := hR
    have s_f19 : s.heap.size ≤ q_f19 := Nat.le_trans hZ0_ z9_
    have g_f19 := hn _ s_f19
    have l_fa_f19 : pa < q_f19 := Nat.lt_of_lt_of_le t_fa z9_
    have l_f17_f19 : qf17 < q_f19 := Nat.lt_of_lt_of_le t_f17 z9_
    refine va_ldcS (pc := 15) hx hb E.2.2.2.1 (hC.2.2.2.2.1 6 _ rfl).1 dX5_text_15 ?_
    have k20 : SX D tk (sa (10 + 6)) 0 H := hC.str hS hA 6 _ rfl (by decide)
    have hZ0_ := hS.1
    have t_fa := fa.lt
    have t_f17 := f17.lt
    have t_f19 := f19.lt
    have t_k20 := k20.lt
    have hz_21 := tx_gb 16 (0 + 0)
    have hq_21 := tx_k1 16 (0 + 0)
    refine k_r (pc := 17) (k_V E hC hS hA hl.1 (c1.recv hC f17 rfl) rfl (c_J4_append_15ec4 l D tk N0 sa H.size qf17 q_f19 16 0 (sa (10 + 6)) 0 0 (hA _ g_f17) (hA _ g_f19) (by omega) (by omega) (by omega)) kw_1353 kw_399 kw_400 kw_19 kw_401 (n := 1) (by decide +kernel) rfl ⟨⟨rfl, rfl⟩, ⟨Nat.le_of_ble_eq_true rfl, Nat.le_of_ble_eq_true rfl⟩, (by dsimp only; omega), (by dsimp only; omega)⟩ rfl (Nat.le_of_ble_eq_true rfl) ⟨f17, f19, k20⟩ dX5_text_17) hS (inA2.to g_f17 g_f19) hn (fun r_22 H locs hR hz hk hS => ?_)
    have fa := fa.kept (hk _ fa.lt (inA2.not (clA.ne fa.cla f17.cl (hC.ao 1 0 rfl rfl)) (clA.ne fa.cla f19.cl (hC.aa 0 1 rfl rfl (by dsimp only; decide))) fa.lt))
    obtain ⟨er9, hR⟩ := hR
    rw [er9]
    obtain ⟨v_23, hv_23, f17, f19⟩ := hR
    have g_f19 := hv_23.elim (fun e9 => e9 ▸ g_f19) (fun z9 => hn _ (Nat.le_trans hZ0_ z9))
    have l_fa_f19 : pa < v_23 := hv_23.elim (fun e9 => e9 ▸ l_fa_f19) (fun z9 => Nat.lt_of_lt_of_le t_fa z9)
    have l_f17_f19 : qf17 < v_23 := hv_23.elim (fun e9 => e9 ▸ l_f17_f19) (fun z9 => Nat.lt_of_lt_of_le t_f17 z9)
    have hv_23 := hv_23.imp_right (fun z9 => Nat.le_trans hZ0_ z9)
    refine lv_aload_n (pc := 20) hx hb dX5_text_20 rfl (lv_at hl 0 rfl) ?_
    refine lv_iconst (pc := 21) (v := 0) hx hb dX5_text_21 (by decide) ?_
    refine r_l0 (pc := 22) E hC fa dX5_text_22 ?_
    have hZ0_ := hS.1
    have t_fa := fa.lt
    have t_f17 := f17.lt
    have t_f19 := f19.lt
    have hz_24 := tx_gb (sbC 16 (0 + 0)) ((0 + 0) + dgJ ta)
    have hq_24 := tx_k1 (sbC 16 (0 + 0)) ((0 + 0) + dgJ ta)
    have hd_24 := dgJ_le ta
    refine k_r (pc := 23) (k_V E hC hS hA hl.1 (c1.recv hC f17 rfl) rfl (c_J4_append_f7089 l D tk N0 sa H.size qf17 v_23 (sbC 16 (0 + 0)) (0 + 0) 0 ta (hA _ g_f17) (hA _ g_f19) (by omega) (by omega)) kw_1354 kw_1355 kw_1356 kw_19 kw_1357 (n := 1) (by decide +kernel) rfl ⟨⟨rfl, rfl⟩, ⟨Nat.le_of_ble_eq_true rfl, Nat.le_of_ble_eq_true rfl⟩, (by dsimp only; omega), (by dsimp only; omega)⟩ rfl (Nat.le_of_ble_eq_true rfl) ⟨f17, f19⟩ dX5_text_23) hS (inA2.to g_f17 g_f19) hn (fun r_25 H locs hR hz hk hS => ?_)
    have fa := fa.kept (hk _ fa.lt (inA2.not (clA.ne fa.cla f17.cl (hC.ao 1 0 rfl rfl)) (clA.ne fa.cla f19.cl (hC.aa 0 1 rfl rfl (by dsimp only; decide))) fa.lt))
    obtain ⟨er9, hR⟩ := hR
    rw [er9]
    obtain ⟨v_26, hv_26, f17, f19⟩ := hR
    have g_f19 := hv_26.elim (fun e9 => e9 ▸ g_f19) (fun z9 => hn _ (Nat.le_trans hZ0_ z9))
    have l_fa_f19 : pa < v_26 := hv_26.elim (fun e9 => e9 ▸ l_fa_f19) (fun z9 => Nat.lt_of_lt_of_le t_fa z9)
    have l_f17_f19 : qf17 < v_26 := hv_26.elim (fun e9 => e9 ▸ l_f17_f19) (fun z9 => Nat.lt_of_lt_of_le t_f17 z9)
    have hv_26 := hv_26.imp_right (fun z9 => Nat.le_trans hZ0_ z9)
    have hv_26 := hv_26.elim (fun e9 => e9 ▸ hv_23) Or.inr
    have hZ0_ := hS.1
    have t_fa := fa.lt
    have t_f17 := f17.lt
    have t_f19 := f19.lt
    refine k_r (pc := 26) (k_V E hC hS hA hl.1 (c1.recv hC f17 rfl) rfl (c_J4_toString_0e30d l D tk N0 sa H.size qf17 v_26 (sbC (sbC 16 (0 + 0)) ((0 + 0) + dgJ ta)) ((0 + 0) + dgJ ta) 0 (by omega) (by omega)) kw_1381 kw_316 kw_317 kw_19 kw_318 (n := 0) (by decide +kernel) rfl ⟨⟨rfl, rfl⟩, ⟨Nat.le_of_ble_eq_true rfl, Nat.le_of_ble_eq_true rfl⟩, (by dsimp only; omega), (by dsimp only; omega)⟩ rfl (Nat.le_of_ble_eq_true rfl) ⟨f17, f19⟩ dX5_text_26) hS (fun q z w => absurd w (Nat.not_le.mpr z)) hn (fun r_27 H locs hR hz hk hS => ?_)
    have fa := fa.kept (hk _ fa.lt (Nat.not_le.mpr fa.lt))
    have f17 := f17.kept (hk _ f17.lt (Nat.not_le.mpr f17.lt))
    have f19 := f19.kept (hk _ f19.lt (Nat.not_le.mpr f19.lt))
    obtain ⟨q_f28, z9_, y9_, f28⟩ := hR
    have f28 := SM.sx f28
    have zr_f28 : s.heap.size ≤ r_27 := Nat.le_trans hZ0_ z9_
    refine lv_goto (pc := 29) (tgt := 59) hx hb dX5_text_29 (by decide) ?_
    refine r_aret (pc := 59) E hr (Or.inl ⟨_, rfl⟩) hlk hS (by omega) (by omega) ?_ dX5_text_59
    exact ⟨_, (by omega), zr_f28, f28⟩
set_option maxHeartbeats 4000000 in
set_option maxRecDepth 100000 in
/-- BestratiosModel.raised([JI)[J -/
theorem c_X5_raised (l : Launch) (D : va_G) (tk : Nat → ClassId) (N0 : Nat) (sa : Nat → Nat)  (sz : Nat) (pa : Nat) (ta : Int64) (ba : Int64) (tm : Int32) (kt : Nat) (hfa : m_F ta ba) (htm : f_absI tm = nI kt) (hkt : kt ≤ 6) : Met l yX5_raised (wsy yX5_raised cX5_raised 4 (some (.array .long))) ({ frames := 4, cells := 8, slots := 16, locals := 98 } : Room) (cP D tk N0 sa [.ref pa, .int tm] sz (fun H => L2 D tk pa ta ba H)) (kQo (fun v H => (v = none ∧ m_RA ta ba tm = none) ∨ (∃ q t b, v = some q ∧ sz ≤ q ∧ L2 D tk q t b H ∧ 1 ≤ b.toInt ∧ m_RA ta ba tm = some (t, b))) (nwA sz)) (8) (16) (nwA sz) := by
  refine mStart RX5 rfl (by decide +kernel) (Nat.le_of_ble_eq_true rfl) ?_
  intro p e s m args below meth c E hr hlk hnm hsz hC hF ls hl
  subst hsz
  obtain ⟨hx, hb, -⟩ := id E
  have hA : ∀ q, (nwA s.heap.size) q → N0 ≤ q := fun q h => Nat.le_trans hC.2.1 h
  have hn : ∀ q, s.heap.size ≤ q → (nwA s.heap.size) q := fun q h => h
  have hS : va_S (nwA s.heap.size) s.heap s.heap [] := va_S.rf
  have hl : lv_has ls 4 [(0, .ref pa), (1, .int tm)] := hl
  obtain ⟨Q, hQ⟩ : ∃ Q, Q = MQ below (kQo (fun v H => (v = none ∧ m_RA ta ba tm = none) ∨ (∃ q t b, v = some q ∧ s.heap.size ≤ q ∧ L2 D tk q t b H ∧ 1 ≤ b.toInt ∧ m_RA ta ba tm = some (t, b))) (nwA s.heap.size)) args s (8) (16) (nwA s.heap.size) := ⟨_, rfl⟩
  rw [← hQ]
  have fa : L2 D tk pa ta ba s.heap := hF
  refine lv_iconst (pc := 0) (v := 2) hx hb dX5_raised_0 (by decide) ?_
  have hS0_ := hS
  refine r_newl (pc := 1) E hC hS (N := 2) (by decide) (by decide) (by decide) (by dsimp only; omega) (by dsimp only; omega) dX5_raised_1 (fun qf1 H zq_ n_ ho_ hS => ?_)
  have l_fa_f1 : pa < qf1 := zq_ ▸ fa.lt
  have fa := fa.kept (ho_ _ fa.lt)
  have f1 := n_
  have s_f1 : s.heap.size ≤ qf1 := zq_ ▸ hS0_.1
  have g_f1 := hn _ s_f1
  refine lv_dup (pc := 3) hx hb dX5_raised_3 rfl ?_
  refine lv_iconst (pc := 4) (v := 0) hx hb dX5_raised_4 (by decide) ?_
  refine lv_lconst (pc := 5) (v := 1) hx hb dX5_raised_5 (by decide) ?_
  refine r_last (pc := 6) E hC f1 hS g_f1 (by unfold vp_in; decide) dX5_raised_6 (fun H locs n_ ho hz hS => ?_)
  have fa := fa.kept (ho _ (Nat.ne_of_lt l_fa_f1))
  have f1 : c1 D qf1 (.inl (tk 0, 2, .inr (.inl (vp_updL (fun _ => 0) 0 (1))))) H := n_
  refine lv_dup (pc := 7) hx hb dX5_raised_7 rfl ?_
  refine lv_iconst (pc := 8) (v := 1) hx hb dX5_raised_8 (by decide) ?_
  refine lv_lconst (pc := 9) (v := 1) hx hb dX5_raised_9 (by decide) ?_
  refine r_last (pc := 10) E hC f1 hS g_f1 (by unfold vp_in; decide) dX5_raised_10 (fun H locs n_ ho hz hS => ?_)
  have fa := fa.kept (ho _ (Nat.ne_of_lt l_fa_f1))
  have f1 : L2 D tk qf1 (1) (1) H := n_
  refine lv_astore_n (pc := 11) (lv' := [(2, .ref qf1), (0, .ref pa), (1, .int tm)]) hx hb dX5_raised_11 rfl hl (by decide) rfl (fun ls hl => ?_)
  refine lv_iconst (pc := 12) (v := 0) hx hb dX5_raised_12 (by decide) ?_
  refine lv_istore_n (pc := 13) (lv' := [(3, .int 0), (2, .ref qf1), (0, .ref pa), (1, .int tm)]) hx hb dX5_raised_13 rfl hl (by decide) rfl (fun ls hl => ?_)
  have loop_14 : ∀ (n : Nat) (k : Nat) (t9 : Int64) (b9 : Int64)(q9 : Nat) (y9 : Int32), 7 - k < n → k ≤ kt → y9 = nI k → 1 ≤ b9.toInt ∧ b9.toInt ≤ 1000000000000000000 ∧ t9.toInt.natAbs ≤ 1000000000000000000 → s.heap.size ≤ q9 → m_raL ta ba (kt - k) t9 b9 = m_raL ta ba kt 1 1 → ∀ (H : Heap) (locs : List Loc) (ls : Array Slot), va_S (nwA s.heap.size) s.heap H locs → L2 D tk pa ta ba H → L2 D tk q9 t9 b9 H → lv_has ls 4 [(0, .ref pa), (1, .int tm), (2, .ref q9), (3, .int y9)] → W p l e ({ frames := 4, cells := 8, slots := 16, locals := 98 } : Room) s m args below meth c H locs (k + 1) (2 * k + 2) Q (F0 m 14 ls []) := by
    intro n
    induction n with
    | zero =>
      intro k t9 b9 q9 y9 hf9 hk9 hx9 hb9 hs9 hg9 H locs ls hS fa fm hl
      omega
    | succ n ih_14 =>
      intro k t9 b9 q9 y9 hf9 hk9 hx9 hb9 hs9 hg9 H locs ls hS fa fm hl
      refine lv_iload_n (pc := 14) hx hb dX5_raised_14 rfl (lv_at hl 3 rfl) ?_
      refine lv_iload_n (pc := 15) hx hb dX5_raised_15 rfl (lv_at hl 1 rfl) ?_
      refine k_i (pc := 16) (k_S E hC hS hA hl.1 (c_J9_abs_0f7a4 l D tk N0 sa H.size tm ) kw_1333 kw_1334 kw_9 kw_1335 (n := 1) (by decide +kernel) rfl ⟨⟨rfl, rfl⟩, ⟨Nat.le_of_ble_eq_true rfl, Nat.le_of_ble_eq_true rfl⟩, (by dsimp only; omega), (by dsimp only; omega)⟩ rfl (Nat.le_of_ble_eq_true rfl) trivial dX5_raised_16) hS (fun q z w => absurd w (Nat.not_le.mpr z)) hn (fun r_2 H locs hR hz hk hS => ?_)
      have er_2 := hR
      have fa := fa.kept (hk _ fa.lt (Nat.not_le.mpr fa.lt))
      have fm := fm.kept (hk _ fm.lt (Nat.not_le.mpr fm.lt))
      refine lv_icmp_ge (pc := 19) (tgt := 41) hx hb dX5_raised_19 (by decide) (fun c_4 => ?_) (fun c_4 => ?_)
      · have hfin : m_raL ta ba kt 1 1 = (t9, b9) := by
          have h8 : kt ≤ k := by
            have h7 := c_4
            rw [er_2, htm, hx9] at h7
            exact (nI_leI (by omega) (by omega)).mp h7
          rw [← hg9, show kt - k = 0 by omega]
          rfl
        refine lv_aload_n (pc := 41) hx hb dX5_raised_41 rfl (lv_at hl 2 rfl) ?_
        have hZ0_ := hS.1
        have t_fa := fa.lt
        have t_fm := fm.lt
        refine k_i (pc := 42) (k_S E hC hS hA hl.1 (c_X5_isFit l D tk N0 sa H.size q9 t9 b9 ) kw_1259 kw_1260 kw_5 kw_1261 (n := 1) (by decide +kernel) rfl ⟨⟨rfl, rfl⟩, ⟨Nat.le_of_ble_eq_true rfl, Nat.le_of_ble_eq_true rfl⟩, (by dsimp only; omega), (by dsimp only; omega)⟩ rfl (Nat.le_of_ble_eq_true rfl) fm dX5_raised_42) hS (fun q z w => absurd w (Nat.not_le.mpr z)) hn (fun r_5 H locs hR hz hk hS => ?_)
        have fa := fa.kept (hk _ fa.lt (Nat.not_le.mpr fa.lt))
        have fm := fm.kept (hk _ fm.lt (Nat.not_le.mpr fm.lt))
        have er_5 := hR
        refine lv_if_ne (pc := 45) (tgt := 52) hx hb dX5_raised_45 (by decide) (fun c_6 => ?_) (fun c_6 => ?_)
        · refine lv_iload_n (pc := 52) hx hb dX5_raised_52 rfl (lv_at hl 1 rfl) ?_
          refine lv_if_ge (pc := 53) (tgt := 63) hx hb dX5_raised_53 (by decide) (fun c_7 => ?_) (fun c_7 => ?_)
          · refine lv_aload_n (pc := 63) hx hb dX5_raised_63 rfl (lv_at hl 2 rfl) ?_
            try rw [hQ]
            refine r_oret (pc := 64) E hr (Or.inr ⟨_, rfl⟩) hlk hS (by omega) (by omega) (some q9) ?_ dX5_raised_64
            exact Or.inr ⟨_, _, _, rfl, hs9, fm, hb9.1, by rw [m_RAe htm hkt hfin, if_neg (fun z9 => c_6 (er_5.trans z9)), if_neg (Int32.not_lt.mpr c_7)]⟩
          · have hF8 := m_fit1 (t := t9) (b := b9) (by rw [← er_5]; exact c_6) hb9.1
            refine lv_aload_n (pc := 56) hx hb dX5_raised_56 rfl (lv_at hl 2 rfl) ?_
            have hZ0_ := hS.1
            have t_fa := fa.lt
            have t_fm := fm.lt
            refine k_o (pc := 57) (k_S E hC hS hA hl.1 (c_X5_inverse l D tk N0 sa H.size q9 t9 b9 (fun z9 => (m_inv hF8 z9).1)) kw_1315 kw_1316 kw_5 kw_1317 (n := 1) (by decide +kernel) rfl ⟨⟨rfl, rfl⟩, ⟨Nat.le_of_ble_eq_true rfl, Nat.le_of_ble_eq_true rfl⟩, (by dsimp only; omega), (by dsimp only; omega)⟩ rfl (Nat.le_of_ble_eq_true rfl) fm dX5_raised_57) hS (fun q z w => absurd w (Nat.not_le.mpr z)) hn (fun r_8 H locs hR hz hk hS => ?_)
            have fa := fa.kept (hk _ fa.lt (Nat.not_le.mpr fa.lt))
            have fm := fm.kept (hk _ fm.lt (Nat.not_le.mpr fm.lt))
            rcases hR with ⟨rfl, hn_9⟩ | ⟨q_f9, rfl, hn_9, z9_, f9⟩
            · refine lv_goto (pc := 60) (tgt := 64) hx hb dX5_raised_60 (by decide) ?_
              try rw [hQ]
              refine r_oret (pc := 64) E hr (Or.inr ⟨_, rfl⟩) hlk hS (by omega) (by omega) none ?_ dX5_raised_64
              exact Or.inl ⟨rfl, by rw [m_RAe htm hkt hfin, if_neg (fun z9 => c_6 (er_5.trans z9)), if_pos (Int32.not_le.mp c_7)]; unfold m_IV; rw [if_pos hn_9]⟩
            · have s_f9 : s.heap.size ≤ q_f9 := Nat.le_trans hZ0_ z9_
              have g_f9 := hn _ s_f9
              have l_fa_f9 : pa < q_f9 := Nat.lt_of_lt_of_le t_fa z9_
              have l_fm_f9 : q9 < q_f9 := Nat.lt_of_lt_of_le t_fm z9_
              refine lv_goto (pc := 60) (tgt := 64) hx hb dX5_raised_60 (by decide) ?_
              try rw [hQ]
              refine r_oret (pc := 64) E hr (Or.inr ⟨_, rfl⟩) hlk hS (by omega) (by omega) (some q_f9) ?_ dX5_raised_64
              exact Or.inr ⟨_, _, _, rfl, s_f9, f9, (m_inv hF8 hn_9).2.1, by rw [m_RAe htm hkt hfin, if_neg (fun z9 => c_6 (er_5.trans z9)), if_pos (Int32.not_le.mp c_7)]; unfold m_IV; rw [if_neg hn_9]; rfl⟩
        · refine lv_null (pc := 48) hx hb dX5_raised_48 ?_
          refine lv_goto (pc := 49) (tgt := 64) hx hb dX5_raised_49 (by decide) ?_
          try rw [hQ]
          refine r_oret (pc := 64) E hr (Or.inr ⟨_, rfl⟩) hlk hS (by omega) (by omega) none ?_ dX5_raised_64
          exact Or.inl ⟨rfl, by rw [m_RAe htm hkt hfin, if_pos (er_5.symm.trans c_6)]⟩
      · refine lv_aload_n (pc := 22) hx hb dX5_raised_22 rfl (lv_at hl 2 rfl) ?_
        have hZ0_ := hS.1
        have t_fa := fa.lt
        have t_fm := fm.lt
        refine k_i (pc := 23) (k_S E hC hS hA hl.1 (c_X5_isFit l D tk N0 sa H.size q9 t9 b9 ) kw_1259 kw_1260 kw_5 kw_1261 (n := 1) (by decide +kernel) rfl ⟨⟨rfl, rfl⟩, ⟨Nat.le_of_ble_eq_true rfl, Nat.le_of_ble_eq_true rfl⟩, (by dsimp only; omega), (by dsimp only; omega)⟩ rfl (Nat.le_of_ble_eq_true rfl) fm dX5_raised_23) hS (fun q z w => absurd w (Nat.not_le.mpr z)) hn (fun r_10 H locs hR hz hk hS => ?_)
        have fa := fa.kept (hk _ fa.lt (Nat.not_le.mpr fa.lt))
        have fm := fm.kept (hk _ fm.lt (Nat.not_le.mpr fm.lt))
        have er_10 := hR
        refine lv_if_eq (pc := 26) (tgt := 41) hx hb dX5_raised_26 (by decide) (fun c_11 => ?_) (fun c_11 => ?_)
        · have hfin : m_raL ta ba kt 1 1 = (t9, b9) := by
            rw [← hg9]
            exact m_raLz (by rw [← er_10]; exact c_11)
          refine lv_aload_n (pc := 41) hx hb dX5_raised_41 rfl (lv_at hl 2 rfl) ?_
          have hZ0_ := hS.1
          have t_fa := fa.lt
          have t_fm := fm.lt
          refine k_i (pc := 42) (k_S E hC hS hA hl.1 (c_X5_isFit l D tk N0 sa H.size q9 t9 b9 ) kw_1259 kw_1260 kw_5 kw_1261 (n := 1) (by decide +kernel) rfl ⟨⟨rfl, rfl⟩, ⟨Nat.le_of_ble_eq_true rfl, Nat.le_of_ble_eq_true rfl⟩, (by dsimp only; omega), (by dsimp only; omega)⟩ rfl (Nat.le_of_ble_eq_true rfl) fm dX5_raised_42) hS (fun q z w => absurd w (Nat.not_le.mpr z)) hn (fun r_12 H locs hR hz hk hS => ?_)
          have fa := fa.kept (hk _ fa.lt (Nat.not_le.mpr fa.lt))
          have fm := fm.kept (hk _ fm.lt (Nat.not_le.mpr fm.lt))
          have er_12 := hR
          refine lv_if_ne (pc := 45) (tgt := 52) hx hb dX5_raised_45 (by decide) (fun c_13 => ?_) (fun c_13 => ?_)
          · refine lv_iload_n (pc := 52) hx hb dX5_raised_52 rfl (lv_at hl 1 rfl) ?_
            refine lv_if_ge (pc := 53) (tgt := 63) hx hb dX5_raised_53 (by decide) (fun c_14 => ?_) (fun c_14 => ?_)
            · refine lv_aload_n (pc := 63) hx hb dX5_raised_63 rfl (lv_at hl 2 rfl) ?_
              try rw [hQ]
              refine r_oret (pc := 64) E hr (Or.inr ⟨_, rfl⟩) hlk hS (by omega) (by omega) (some q9) ?_ dX5_raised_64
              exact Or.inr ⟨_, _, _, rfl, hs9, fm, hb9.1, by rw [m_RAe htm hkt hfin, if_neg (fun z9 => c_13 (er_12.trans z9)), if_neg (Int32.not_lt.mpr c_14)]⟩
            · have hF8 := m_fit1 (t := t9) (b := b9) (by rw [← er_12]; exact c_13) hb9.1
              refine lv_aload_n (pc := 56) hx hb dX5_raised_56 rfl (lv_at hl 2 rfl) ?_
              have hZ0_ := hS.1
              have t_fa := fa.lt
              have t_fm := fm.lt
              refine k_o (pc := 57) (k_S E hC hS hA hl.1 (c_X5_inverse l D tk N0 sa H.size q9 t9 b9 (fun z9 => (m_inv hF8 z9).1)) kw_1315 kw_1316 kw_5 kw_1317 (n := 1) (by decide +kernel) rfl ⟨⟨rfl, rfl⟩, ⟨Nat.le_of_ble_eq_true rfl, Nat.le_of_ble_eq_true rfl⟩, (by dsimp only; omega), (by dsimp only; omega)⟩ rfl (Nat.le_of_ble_eq_true rfl) fm dX5_raised_57) hS (fun q z w => absurd w (Nat.not_le.mpr z)) hn (fun r_15 H locs hR hz hk hS => ?_)
              have fa := fa.kept (hk _ fa.lt (Nat.not_le.mpr fa.lt))
              have fm := fm.kept (hk _ fm.lt (Nat.not_le.mpr fm.lt))
              rcases hR with ⟨rfl, hn_16⟩ | ⟨q_f16, rfl, hn_16, z9_, f16⟩
              · refine lv_goto (pc := 60) (tgt := 64) hx hb dX5_raised_60 (by decide) ?_
                try rw [hQ]
                refine r_oret (pc := 64) E hr (Or.inr ⟨_, rfl⟩) hlk hS (by omega) (by omega) none ?_ dX5_raised_64
                exact Or.inl ⟨rfl, by rw [m_RAe htm hkt hfin, if_neg (fun z9 => c_13 (er_12.trans z9)), if_pos (Int32.not_le.mp c_14)]; unfold m_IV; rw [if_pos hn_16]⟩
              · have s_f16 : s.heap.size ≤ q_f16 := Nat.le_trans hZ0_ z9_
                have g_f16 := hn _ s_f16
                have l_fa_f16 : pa < q_f16 := Nat.lt_of_lt_of_le t_fa z9_
                have l_fm_f16 : q9 < q_f16 := Nat.lt_of_lt_of_le t_fm z9_
                refine lv_goto (pc := 60) (tgt := 64) hx hb dX5_raised_60 (by decide) ?_
                try rw [hQ]
                refine r_oret (pc := 64) E hr (Or.inr ⟨_, rfl⟩) hlk hS (by omega) (by omega) (some q_f16) ?_ dX5_raised_64
                exact Or.inr ⟨_, _, _, rfl, s_f16, f16, (m_inv hF8 hn_16).2.1, by rw [m_RAe htm hkt hfin, if_neg (fun z9 => c_13 (er_12.trans z9)), if_pos (Int32.not_le.mp c_14)]; unfold m_IV; rw [if_neg hn_16]; rfl⟩
          · refine lv_null (pc := 48) hx hb dX5_raised_48 ?_
            refine lv_goto (pc := 49) (tgt := 64) hx hb dX5_raised_49 (by decide) ?_
            try rw [hQ]
            refine r_oret (pc := 64) E hr (Or.inr ⟨_, rfl⟩) hlk hS (by omega) (by omega) none ?_ dX5_raised_64
            exact Or.inl ⟨rfl, by rw [m_RAe htm hkt hfin, if_pos (er_12.symm.trans c_13)]⟩
        · have hnf9 : ¬ m_fit t9 b9 = 0 := by rw [← er_10]; exact c_11
          have hF9 := m_fit1 (t := t9) (b := b9) (by rw [← er_10]; exact c_11) hb9.1
          have hP9 := m_prod hF9 hfa
          have hlt := Int32.not_le.mp c_4
          have hkk : k < kt := by rw [er_2, htm, hx9] at hlt; exact (nI_ltI (by omega) (by omega)).mp hlt
          refine lv_aload_n (pc := 29) hx hb dX5_raised_29 rfl (lv_at hl 2 rfl) ?_
          refine lv_aload_n (pc := 30) hx hb dX5_raised_30 rfl (lv_at hl 0 rfl) ?_
          have hZ0_ := hS.1
          have t_fa := fa.lt
          have t_fm := fm.lt
          refine k_r (pc := 31) (k_S E hC hS hA hl.1 (c_X5_product l D tk N0 sa H.size q9 t9 b9 pa ta ba hP9.1) kw_1308 kw_1309 kw_5 kw_1310 (n := 2) (by decide +kernel) rfl ⟨⟨rfl, rfl⟩, ⟨Nat.le_of_ble_eq_true rfl, Nat.le_of_ble_eq_true rfl⟩, (by dsimp only; omega), (by dsimp only; omega)⟩ rfl (Nat.le_of_ble_eq_true rfl) ⟨fm, fa⟩ dX5_raised_31) hS (fun q z w => absurd w (Nat.not_le.mpr z)) hn (fun r_17 H locs hR hz hk hS => ?_)
          have fa := fa.kept (hk _ fa.lt (Nat.not_le.mpr fa.lt))
          have fm := fm.kept (hk _ fm.lt (Nat.not_le.mpr fm.lt))
          obtain ⟨z9_, f18⟩ := hR
          have s_f18 : s.heap.size ≤ r_17 := Nat.le_trans hZ0_ z9_
          have g_f18 := hn _ s_f18
          have l_fa_f18 : pa < r_17 := Nat.lt_of_lt_of_le t_fa z9_
          have l_fm_f18 : q9 < r_17 := Nat.lt_of_lt_of_le t_fm z9_
          refine lv_astore_n (pc := 34) (lv' := [(2, .ref r_17), (0, .ref pa), (1, .int tm), (3, .int y9)]) hx hb dX5_raised_34 rfl hl (by decide) rfl (fun ls hl => ?_)
          obtain ⟨x_19, ex_19⟩ : ∃ z9 : Int32, z9 = y9 + 1 := ⟨_, rfl⟩
          refine lv_iinc (pc := 35) (v := x_19) (lv' := [(3, .int x_19), (2, .ref r_17), (0, .ref pa), (1, .int tm)]) hx hb dX5_raised_35 hl (k := 3) rfl (by rw [ex_19]; rfl) (by decide) rfl (fun ls hl => ?_)
          refine lv_goto (pc := 38) (tgt := 14) hx hb dX5_raised_38 (by decide) ?_
          refine W.widen (k := k + 1 + 1) (n := 2 * (k + 1) + 2) (by omega) (by omega) ?_
          exact ih_14  (k + 1) _ _  r_17 x_19 (by omega) (by omega) (i_up hx9 ex_19) ⟨hP9.2.1, hP9.2.2.1, hP9.2.2.2⟩ s_f18 (m_raLs hnf9 (show kt - k = (kt - (k + 1)) + 1 by omega) hg9) _ _ _ hS fa f18 (lv_sub hl [2, 3, 1, 0] rfl)
  refine W.widen (k := 0 + 1) (n := 2 * 0 + 2) (by omega) (by omega) ?_
  exact loop_14 8 0 1 1  qf1 0 (by omega) (Nat.zero_le _) nI_0.symm (by decide) s_f1 rfl _ _ _ hS fa f1 (lv_sub hl [2, 3, 1, 0] rfl)
set_option maxHeartbeats 4000000 in
set_option maxRecDepth 100000 in
/-- BestratiosModel.neighbour([JIZ)[J -/
theorem c_X5_neighbour (l : Launch) (D : va_G) (tk : Nat → ClassId) (N0 : Nat) (sa : Nat → Nat)  (sz : Nat) (pa : Nat) (ta : Int64) (ba : Int64) (nb_ b_ : Int32) (kn : Nat) (hfa : m_F ta ba) (hkn : nb_ = nI kn) (hn1 : 1 ≤ kn) (hn2 : kn ≤ 200) : Met l yX5_neighbour (wsy yX5_neighbour cX5_neighbour 8 (some (.array .long))) ({ frames := 3, cells := 200, slots := 400, locals := 77 } : Room) (cP D tk N0 sa [.ref pa, .int nb_, .int b_] sz (fun H => L2 D tk pa ta ba H)) (kQr (fun r H => sz ≤ r ∧ ∃ t b, L2 D tk r t b H ∧ (1 ≤ b.toInt ∧ b.toInt ≤ 200 ∧ t.toInt.natAbs ≤ 200000000001) ∧ (t, b) = m_NB ta ba kn b_) (nwA sz)) (200) (400) (nwA sz) := by
  refine mStart RX5 rfl (by decide +kernel) (Nat.le_of_ble_eq_true rfl) ?_
  intro p e s m args below meth c E hr hlk hnm hsz hC hF ls hl
  subst hsz
  obtain ⟨hx, hb, -⟩ := id E
  have hA : ∀ q, (nwA s.heap.size) q → N0 ≤ q := fun q h => Nat.le_trans hC.2.1 h
  have hn : ∀ q, s.heap.size ≤ q → (nwA s.heap.size) q := fun q h => h
  have hS : va_S (nwA s.heap.size) s.heap s.heap [] := va_S.rf
  have hl : lv_has ls 8 [(0, .ref pa), (1, .int nb_), (2, .int b_)] := hl
  obtain ⟨Q, hQ⟩ : ∃ Q, Q = MQ below (kQr (fun r H => s.heap.size ≤ r ∧ ∃ t b, L2 D tk r t b H ∧ (1 ≤ b.toInt ∧ b.toInt ≤ 200 ∧ t.toInt.natAbs ≤ 200000000001) ∧ (t, b) = m_NB ta ba kn b_) (nwA s.heap.size)) args s (200) (400) (nwA s.heap.size) := ⟨_, rfl⟩
  rw [← hQ]
  have fa : L2 D tk pa ta ba s.heap := hF
  refine lv_null (pc := 0) hx hb dX5_neighbour_0 ?_
  refine lv_astore_nN (pc := 1) (lv' := [(3, .null), (0, .ref pa), (1, .int nb_), (2, .int b_)]) hx hb dX5_neighbour_1 rfl hl (by decide) rfl (fun ls hl => ?_)
  refine lv_iconst (pc := 2) (v := 1) hx hb dX5_neighbour_2 (by decide) ?_
  refine lv_istore (pc := 3) (lv' := [(4, .int 1), (3, .null), (0, .ref pa), (1, .int nb_), (2, .int b_)]) hx hb dX5_neighbour_3 hl (by decide) rfl (fun ls hl => ?_)
  refine lv_iload (pc := 5) hx hb dX5_neighbour_5 (lv_at hl 0 rfl) ?_
  refine lv_iload_n (pc := 7) hx hb dX5_neighbour_7 rfl (lv_at hl 3 rfl) ?_
  refine lv_icmp_gt (pc := 8) (tgt := 89) hx hb dX5_neighbour_8 (by decide) (fun c_1 => ?_) (fun c_1 => ?_)
  · exact absurd c_1 (Int32.not_lt.mpr ((i_le (n := 1) hkn (by decide) (by omega) (by decide)).mpr hn1))
  refine lv_iload_n (pc := 11) hx hb dX5_neighbour_11 rfl (lv_at hl 4 rfl) ?_
  refine lv_if_eq (pc := 12) (tgt := 33) hx hb dX5_neighbour_12 (by decide) (fun c_2 => ?_) (fun c_2 => ?_)
  · refine lv_aload_n (pc := 33) hx hb dX5_neighbour_33 rfl (lv_at hl 2 rfl) ?_
    refine lv_iconst (pc := 34) (v := 0) hx hb dX5_neighbour_34 (by decide) ?_
    refine r_l0 (pc := 35) E hC fa dX5_neighbour_35 ?_
    refine lv_iload (pc := 36) hx hb dX5_neighbour_36 (lv_at hl 0 rfl) ?_
    refine lv_i2l (pc := 38) (v := 1) hx hb dX5_neighbour_38 (by decide) ?_
    refine lv_lmul (pc := 39) hx hb dX5_neighbour_39 ?_
    refine lv_aload_n (pc := 40) hx hb dX5_neighbour_40 rfl (lv_at hl 2 rfl) ?_
    refine lv_iconst (pc := 41) (v := 1) hx hb dX5_neighbour_41 (by decide) ?_
    refine r_l1 (pc := 42) E hC fa dX5_neighbour_42 ?_
    refine k_l (pc := 43) (k_S E hC hS hA hl.1 (c_X5_floor l D tk N0 sa s.heap.size (ta * 1) ba (m_ne0 hfa.2.1)) kw_1392 kw_1393 kw_5 kw_1394 (n := 2) (by decide +kernel) rfl ⟨⟨rfl, rfl⟩, ⟨Nat.le_of_ble_eq_true rfl, Nat.le_of_ble_eq_true rfl⟩, (by dsimp only; omega), (by dsimp only; omega)⟩ rfl (Nat.le_of_ble_eq_true rfl) trivial dX5_neighbour_43) hS (fun q z w => absurd w (Nat.not_le.mpr z)) hn (fun r_3 H locs hR hz hk hS => ?_)
    have er_3 := hR
    have fa := fa.kept (hk _ fa.lt (Nat.not_le.mpr fa.lt))
    refine lv_lstore (pc := 46) (lv' := [(5, .long r_3), (4, .int 1), (3, .null), (0, .ref pa), (1, .int nb_), (2, .int b_)]) hx hb dX5_neighbour_46 hl (by decide) rfl (fun ls hl => ?_)
    refine lv_lload (pc := 48) hx hb dX5_neighbour_48 (lv_at hl 0 rfl) ?_
    have hy9 : 1 ≤ (1 : Int64).toInt ∧ (1 : Int64).toInt ≤ 200 := by decide
    have hmu := (m_mulB (x := ta) (y := (1 : Int64)) (B := 1000000000) (C := 200) hfa.1 (by omega) (by decide)).2
    have hfl := m_floorB (a := ta * (1 : Int64)) (b := ba) (B := 200000000000) (by omega) (by decide) hfa.2.1
    have hT9 : r_3.toInt.natAbs ≤ 200000000001 := by rw [er_3]; exact hfl
    have hP9 := m_loP (t := r_3) (b := (1 : Int64)) (B := 200000000001) (C := 200) hT9 (by decide) hy9.1 (by omega)
    have hlN : (1 : Int64) = lN 1 := rfl
    have htp : r_3 = m_nbT ta ba 1 b_ := by
      unfold m_nbT
      rw [if_pos c_2, ← hlN, er_3]
    refine lv_iload (pc := 50) hx hb dX5_neighbour_50 (lv_at hl 1 rfl) ?_
    refine lv_i2l (pc := 52) (v := 1) hx hb dX5_neighbour_52 (by decide) ?_
    have hZ0_ := hS.1
    have t_fa := fa.lt
    refine k_r (pc := 53) (k_S E hC hS hA hl.1 (c_X5_lowest l D tk N0 sa H.size r_3 1 hP9.1) kw_1199 kw_1200 kw_5 kw_1201 (n := 2) (by decide +kernel) rfl ⟨⟨rfl, rfl⟩, ⟨Nat.le_of_ble_eq_true rfl, Nat.le_of_ble_eq_true rfl⟩, (by dsimp only; omega), (by dsimp only; omega)⟩ rfl (Nat.le_of_ble_eq_true rfl) trivial dX5_neighbour_53) hS (fun q z w => absurd w (Nat.not_le.mpr z)) hn (fun r_5 H locs hR hz hk hS => ?_)
    have fa := fa.kept (hk _ fa.lt (Nat.not_le.mpr fa.lt))
    obtain ⟨z9_, f6⟩ := hR
    have s_f6 : s.heap.size ≤ r_5 := Nat.le_trans hZ0_ z9_
    have g_f6 := hn _ s_f6
    have l_fa_f6 : pa < r_5 := Nat.lt_of_lt_of_le t_fa z9_
    refine lv_astore (pc := 56) (lv' := [(7, .ref r_5), (5, .long r_3), (4, .int 1), (3, .null), (0, .ref pa), (1, .int nb_), (2, .int b_)]) hx hb dX5_neighbour_56 hl (by decide) rfl (fun ls hl => ?_)
    refine lv_aload_nN (pc := 58) hx hb dX5_neighbour_58 rfl (lv_at hl 3 rfl) ?_
    refine lv_ifnullN (pc := 59) (tgt := 80) hx hb dX5_neighbour_59 (by decide) ?_
    refine lv_aload (pc := 80) hx hb dX5_neighbour_80 (lv_at hl 0 rfl) ?_
    refine lv_astore_n (pc := 82) (lv' := [(3, .ref r_5), (7, .ref r_5), (5, .long r_3), (4, .int 1), (0, .ref pa), (1, .int nb_), (2, .int b_)]) hx hb dX5_neighbour_82 rfl hl (by decide) rfl (fun ls hl => ?_)
    refine lv_iinc (pc := 83) (v := 2) (lv' := [(4, .int 2), (3, .ref r_5), (7, .ref r_5), (5, .long r_3), (0, .ref pa), (1, .int nb_), (2, .int b_)]) hx hb dX5_neighbour_83 hl (k := 3) rfl (by decide) (by decide) rfl (fun ls hl => ?_)
    refine lv_goto (pc := 86) (tgt := 5) hx hb dX5_neighbour_86 (by decide) ?_
    have loop_5 : ∀ (n : Nat) (k : Nat) (t9 : Int64) (b9 : Int64)(q9 : Nat) (y9 : Int32), 201 - k < n → 1 ≤ k ∧ k ≤ kn → y9 = nI (k + 1) → 1 ≤ b9.toInt ∧ b9.toInt ≤ 200 ∧ t9.toInt.natAbs ≤ 200000000001 → s.heap.size ≤ q9 → m_nbL ta ba b_ (kn - k) (k + 1) t9 b9 = m_NB ta ba kn b_ → ∀ (H : Heap) (locs : List Loc) (ls : Array Slot), va_S (nwA s.heap.size) s.heap H locs → L2 D tk pa ta ba H → L2 D tk q9 t9 b9 H → lv_has ls 8 [(0, .ref pa), (1, .int nb_), (2, .int b_), (3, .ref q9), (4, .int y9)] → W p l e ({ frames := 3, cells := 200, slots := 400, locals := 77 } : Room) s m args below meth c H locs (k) (2 * k) Q (F0 m 5 ls []) := by
      intro n
      induction n with
      | zero =>
        intro k t9 b9 q9 y9 hf9 hk9 hx9 hb9 hs9 hg9 H locs ls hS fa fm hl
        omega
      | succ n ih_5 =>
        intro k t9 b9 q9 y9 hf9 hk9 hx9 hb9 hs9 hg9 H locs ls hS fa fm hl
        refine lv_iload (pc := 5) hx hb dX5_neighbour_5 (lv_at hl 4 rfl) ?_
        refine lv_iload_n (pc := 7) hx hb dX5_neighbour_7 rfl (lv_at hl 1 rfl) ?_
        refine lv_icmp_gt (pc := 8) (tgt := 89) hx hb dX5_neighbour_8 (by decide) (fun c_7 => ?_) (fun c_7 => ?_)
        · refine lv_aload_n (pc := 89) hx hb dX5_neighbour_89 rfl (lv_at hl 3 rfl) ?_
          try rw [hQ]
          refine r_aret (pc := 90) E hr (Or.inr ⟨_, rfl⟩) hlk hS (by omega) (by omega) ?_ dX5_neighbour_90
          have h8 : kn ≤ k := by
            have h7 := c_7
            rw [hkn, hx9] at h7
            have := (nI_ltI (by omega) (by omega)).mp h7
            omega
          rw [show kn - k = 0 by omega] at hg9
          exact ⟨hs9, _, _, fm, hb9, hg9⟩
        · have hlt : k + 1 ≤ kn := Nat.not_lt.mp (fun z => c_7 ((i_lt hkn hx9 (by omega) (by omega)).mpr z))
          refine lv_iload_n (pc := 11) hx hb dX5_neighbour_11 rfl (lv_at hl 2 rfl) ?_
          refine lv_if_eq (pc := 12) (tgt := 33) hx hb dX5_neighbour_12 (by decide) (fun c_8 => ?_) (fun c_8 => ?_)
          rotate_left
          · exact absurd c_2 c_8
          refine lv_aload_n (pc := 33) hx hb dX5_neighbour_33 rfl (lv_at hl 0 rfl) ?_
          refine lv_iconst (pc := 34) (v := 0) hx hb dX5_neighbour_34 (by decide) ?_
          refine r_l0 (pc := 35) E hC fa dX5_neighbour_35 ?_
          refine lv_iload (pc := 36) hx hb dX5_neighbour_36 (lv_at hl 4 rfl) ?_
          refine lv_i2l (pc := 38) (v := y9.toInt64) hx hb dX5_neighbour_38 rfl ?_
          refine lv_lmul (pc := 39) hx hb dX5_neighbour_39 ?_
          refine lv_aload_n (pc := 40) hx hb dX5_neighbour_40 rfl (lv_at hl 0 rfl) ?_
          refine lv_iconst (pc := 41) (v := 1) hx hb dX5_neighbour_41 (by decide) ?_
          refine r_l1 (pc := 42) E hC fa dX5_neighbour_42 ?_
          refine k_l (pc := 43) (k_S E hC hS hA hl.1 (c_X5_floor l D tk N0 sa H.size (ta * y9.toInt64) ba (m_ne0 hfa.2.1)) kw_1392 kw_1393 kw_5 kw_1394 (n := 2) (by decide +kernel) rfl ⟨⟨rfl, rfl⟩, ⟨Nat.le_of_ble_eq_true rfl, Nat.le_of_ble_eq_true rfl⟩, (by dsimp only; omega), (by dsimp only; omega)⟩ rfl (Nat.le_of_ble_eq_true rfl) trivial dX5_neighbour_43) hS (fun q z w => absurd w (Nat.not_le.mpr z)) hn (fun r_9 H locs hR hz hk hS => ?_)
          have er_9 := hR
          have fa := fa.kept (hk _ fa.lt (Nat.not_le.mpr fa.lt))
          have fm := fm.kept (hk _ fm.lt (Nat.not_le.mpr fm.lt))
          refine lv_lstore (pc := 46) (lv' := [(5, .long r_9), (0, .ref pa), (1, .int nb_), (2, .int b_), (3, .ref q9), (4, .int y9)]) hx hb dX5_neighbour_46 hl (by decide) rfl (fun ls hl => ?_)
          refine lv_lload (pc := 48) hx hb dX5_neighbour_48 (lv_at hl 0 rfl) ?_
          have hy9 : 1 ≤ y9.toInt64.toInt ∧ y9.toInt64.toInt ≤ 200 := by rw [m_i64 hx9 (by omega)]; omega
          have hmu := (m_mulB (x := ta) (y := y9.toInt64) (B := 1000000000) (C := 200) hfa.1 (by omega) (by decide)).2
          have hfl := m_floorB (a := ta * y9.toInt64) (b := ba) (B := 200000000000) (by omega) (by decide) hfa.2.1
          have hT9 : r_9.toInt.natAbs ≤ 200000000001 := by rw [er_9]; exact hfl
          have hP9 := m_loP (t := r_9) (b := y9.toInt64) (B := 200000000001) (C := 200) hT9 (by decide) hy9.1 (by omega)
          have hlN : y9.toInt64 = lN (k + 1) := by rw [hx9]; exact nI_l (by omega)
          have htp : r_9 = m_nbT ta ba (k + 1) b_ := by
            unfold m_nbT
            rw [if_pos c_2, ← hlN, er_9]
          refine lv_iload (pc := 50) hx hb dX5_neighbour_50 (lv_at hl 5 rfl) ?_
          refine lv_i2l (pc := 52) (v := y9.toInt64) hx hb dX5_neighbour_52 rfl ?_
          have hZ0_ := hS.1
          have t_fa := fa.lt
          have t_fm := fm.lt
          refine k_r (pc := 53) (k_S E hC hS hA hl.1 (c_X5_lowest l D tk N0 sa H.size r_9 y9.toInt64 hP9.1) kw_1199 kw_1200 kw_5 kw_1201 (n := 2) (by decide +kernel) rfl ⟨⟨rfl, rfl⟩, ⟨Nat.le_of_ble_eq_true rfl, Nat.le_of_ble_eq_true rfl⟩, (by dsimp only; omega), (by dsimp only; omega)⟩ rfl (Nat.le_of_ble_eq_true rfl) trivial dX5_neighbour_53) hS (fun q z w => absurd w (Nat.not_le.mpr z)) hn (fun r_11 H locs hR hz hk hS => ?_)
          have fa := fa.kept (hk _ fa.lt (Nat.not_le.mpr fa.lt))
          have fm := fm.kept (hk _ fm.lt (Nat.not_le.mpr fm.lt))
          obtain ⟨z9_, f12⟩ := hR
          have s_f12 : s.heap.size ≤ r_11 := Nat.le_trans hZ0_ z9_
          have g_f12 := hn _ s_f12
          have l_fa_f12 : pa < r_11 := Nat.lt_of_lt_of_le t_fa z9_
          have l_fm_f12 : q9 < r_11 := Nat.lt_of_lt_of_le t_fm z9_
          refine lv_astore (pc := 56) (lv' := [(7, .ref r_11), (5, .long r_9), (0, .ref pa), (1, .int nb_), (2, .int b_), (3, .ref q9), (4, .int y9)]) hx hb dX5_neighbour_56 hl (by decide) rfl (fun ls hl => ?_)
          refine lv_aload_n (pc := 58) hx hb dX5_neighbour_58 rfl (lv_at hl 5 rfl) ?_
          refine lv_ifnull (pc := 59) hx hb dX5_neighbour_59 ?_
          refine lv_aload (pc := 62) hx hb dX5_neighbour_62 (lv_at hl 0 rfl) ?_
          refine lv_aload_n (pc := 64) hx hb dX5_neighbour_64 rfl (lv_at hl 5 rfl) ?_
          have hZ0_ := hS.1
          have t_fa := fa.lt
          have t_fm := fm.lt
          have t_f12 := f12.lt
          refine k_i (pc := 65) (k_S E hC hS hA hl.1 (c_X5_order l D tk N0 sa H.size r_11 (m_loT r_9 y9.toInt64) (m_loB r_9 y9.toInt64) q9 t9 b9 ) kw_1268 kw_1269 kw_5 kw_1270 (n := 2) (by decide +kernel) rfl ⟨⟨rfl, rfl⟩, ⟨Nat.le_of_ble_eq_true rfl, Nat.le_of_ble_eq_true rfl⟩, (by dsimp only; omega), (by dsimp only; omega)⟩ rfl (Nat.le_of_ble_eq_true rfl) ⟨f12, fm⟩ dX5_neighbour_65) hS (fun q z w => absurd w (Nat.not_le.mpr z)) hn (fun r_13 H locs hR hz hk hS => ?_)
          have fa := fa.kept (hk _ fa.lt (Nat.not_le.mpr fa.lt))
          have fm := fm.kept (hk _ fm.lt (Nat.not_le.mpr fm.lt))
          have f12 := f12.kept (hk _ f12.lt (Nat.not_le.mpr f12.lt))
          have er_13 := hR
          refine lv_iload_n (pc := 68) hx hb dX5_neighbour_68 rfl (lv_at hl 4 rfl) ?_
          refine lv_if_eq (pc := 69) (tgt := 76) hx hb dX5_neighbour_69 (by decide) (fun c_14 => ?_) (fun c_14 => ?_)
          rotate_left
          · exact absurd c_2 c_14
          refine lv_iconst (pc := 76) (v := 1) hx hb dX5_neighbour_76 (by decide) ?_
          refine lv_icmp_ne (pc := 77) (tgt := 83) hx hb dX5_neighbour_77 (by decide) (fun c_15 => ?_) (fun c_15 => ?_)
          · obtain ⟨x_16, ex_16⟩ : ∃ z9 : Int32, z9 = y9 + 1 := ⟨_, rfl⟩
            refine lv_iinc (pc := 83) (v := x_16) (lv' := [(4, .int x_16), (7, .ref r_11), (5, .long r_9), (0, .ref pa), (1, .int nb_), (2, .int b_), (3, .ref q9)]) hx hb dX5_neighbour_83 hl (k := 6) rfl (by rw [ex_16]; rfl) (by decide) rfl (fun ls hl => ?_)
            refine lv_goto (pc := 86) (tgt := 5) hx hb dX5_neighbour_86 (by decide) ?_
            refine W.widen (k := k + 1) (n := 2 * (k + 1)) (by omega) (by omega) ?_
            exact ih_5  (k + 1) _ _  q9 x_16 (by omega) ⟨by omega, hlt⟩ (i_up hx9 ex_16) hb9 hs9 (m_nbLn (by omega) hg9 (fun z9 => c_15 (er_13.trans (z9.trans (if_pos c_2)))) htp hlN) _ _ _ hS fa fm (lv_sub hl [3, 4, 5, 6, 0] rfl)
          · refine lv_aload (pc := 80) hx hb dX5_neighbour_80 (lv_at hl 0 rfl) ?_
            refine lv_astore_n (pc := 82) (lv' := [(3, .ref r_11), (7, .ref r_11), (5, .long r_9), (0, .ref pa), (1, .int nb_), (2, .int b_), (4, .int y9)]) hx hb dX5_neighbour_82 rfl hl (by decide) rfl (fun ls hl => ?_)
            obtain ⟨x_17, ex_17⟩ : ∃ z9 : Int32, z9 = y9 + 1 := ⟨_, rfl⟩
            refine lv_iinc (pc := 83) (v := x_17) (lv' := [(4, .int x_17), (3, .ref r_11), (7, .ref r_11), (5, .long r_9), (0, .ref pa), (1, .int nb_), (2, .int b_)]) hx hb dX5_neighbour_83 hl (k := 6) rfl (by rw [ex_17]; rfl) (by decide) rfl (fun ls hl => ?_)
            refine lv_goto (pc := 86) (tgt := 5) hx hb dX5_neighbour_86 (by decide) ?_
            refine W.widen (k := k + 1) (n := 2 * (k + 1)) (by omega) (by omega) ?_
            exact ih_5  (k + 1) _ _  r_11 x_17 (by omega) ⟨by omega, hlt⟩ (i_up hx9 ex_17) ⟨hP9.2.1, hP9.2.2.1, hP9.2.2.2⟩ s_f12 (m_nbLy (by omega) hg9 (by rw [if_pos c_2, ← er_13]; exact c_15) htp hlN) _ _ _ hS fa f12 (lv_sub hl [4, 5, 6, 1, 0] rfl)
    refine W.widen (k := 1) (n := 2 * 1) (by omega) (by omega) ?_
    exact loop_5 202 1 _ _  r_5 2 (by omega) ⟨Nat.le_refl _, hn1⟩ (by decide) ⟨hP9.2.1, hP9.2.2.1, hP9.2.2.2⟩ s_f6 (by show _ = m_nbL ta ba b_ (kn - 1) 2 (m_loT (m_nbT ta ba 1 b_) (lN 1)) (m_loB (m_nbT ta ba 1 b_) (lN 1)); rw [htp]; rfl) _ _ _ hS fa f6 (lv_sub hl [4, 5, 6, 1, 0] rfl)
  · refine lv_aload_n (pc := 15) hx hb dX5_neighbour_15 rfl (lv_at hl 2 rfl) ?_
    refine lv_iconst (pc := 16) (v := 0) hx hb dX5_neighbour_16 (by decide) ?_
    refine r_l0 (pc := 17) E hC fa dX5_neighbour_17 ?_
    refine lv_lneg (pc := 18) hx hb dX5_neighbour_18 ?_
    refine lv_iload (pc := 19) hx hb dX5_neighbour_19 (lv_at hl 0 rfl) ?_
    refine lv_i2l (pc := 21) (v := 1) hx hb dX5_neighbour_21 (by decide) ?_
    refine lv_lmul (pc := 22) hx hb dX5_neighbour_22 ?_
    refine lv_aload_n (pc := 23) hx hb dX5_neighbour_23 rfl (lv_at hl 2 rfl) ?_
    refine lv_iconst (pc := 24) (v := 1) hx hb dX5_neighbour_24 (by decide) ?_
    refine r_l1 (pc := 25) E hC fa dX5_neighbour_25 ?_
    refine k_l (pc := 26) (k_S E hC hS hA hl.1 (c_X5_floor l D tk N0 sa s.heap.size ((-ta) * 1) ba (m_ne0 hfa.2.1)) kw_1392 kw_1393 kw_5 kw_1394 (n := 2) (by decide +kernel) rfl ⟨⟨rfl, rfl⟩, ⟨Nat.le_of_ble_eq_true rfl, Nat.le_of_ble_eq_true rfl⟩, (by dsimp only; omega), (by dsimp only; omega)⟩ rfl (Nat.le_of_ble_eq_true rfl) trivial dX5_neighbour_26) hS (fun q z w => absurd w (Nat.not_le.mpr z)) hn (fun r_18 H locs hR hz hk hS => ?_)
    have er_18 := hR
    have fa := fa.kept (hk _ fa.lt (Nat.not_le.mpr fa.lt))
    refine lv_lneg (pc := 29) hx hb dX5_neighbour_29 ?_
    refine lv_goto (pc := 30) (tgt := 46) hx hb dX5_neighbour_30 (by decide) ?_
    obtain ⟨x_20, ex_20⟩ : ∃ z9 : Int64, z9 = -r_18 := ⟨_, rfl⟩
    rw [← ex_20]
    refine lv_lstore (pc := 46) (lv' := [(5, .long x_20), (4, .int 1), (3, .null), (0, .ref pa), (1, .int nb_), (2, .int b_)]) hx hb dX5_neighbour_46 hl (by decide) rfl (fun ls hl => ?_)
    refine lv_lload (pc := 48) hx hb dX5_neighbour_48 (lv_at hl 0 rfl) ?_
    have hy9 : 1 ≤ (1 : Int64).toInt ∧ (1 : Int64).toInt ≤ 200 := by decide
    have hng := (m_negB hfa.1 (by decide)).2
    have hmu := (m_mulB (x := -ta) (y := (1 : Int64)) (B := 1000000000) (C := 200) hng (by omega) (by decide)).2
    have hfl := m_floorB (a := -ta * (1 : Int64)) (b := ba) (B := 200000000000) (by omega) (by decide) hfa.2.1
    rw [← er_18] at hfl
    have hT9 : x_20.toInt.natAbs ≤ 200000000001 := by rw [ex_20]; exact (m_negB (B := 200000000001) hfl (by decide)).2
    have hP9 := m_loP (t := x_20) (b := (1 : Int64)) (B := 200000000001) (C := 200) hT9 (by decide) hy9.1 (by omega)
    have hlN : (1 : Int64) = lN 1 := rfl
    have htp : x_20 = m_nbT ta ba 1 b_ := by
      unfold m_nbT
      rw [if_neg c_2, ← hlN, ex_20, er_18]
    refine lv_iload (pc := 50) hx hb dX5_neighbour_50 (lv_at hl 1 rfl) ?_
    refine lv_i2l (pc := 52) (v := 1) hx hb dX5_neighbour_52 (by decide) ?_
    have hZ0_ := hS.1
    have t_fa := fa.lt
    refine k_r (pc := 53) (k_S E hC hS hA hl.1 (c_X5_lowest l D tk N0 sa H.size x_20 1 hP9.1) kw_1199 kw_1200 kw_5 kw_1201 (n := 2) (by decide +kernel) rfl ⟨⟨rfl, rfl⟩, ⟨Nat.le_of_ble_eq_true rfl, Nat.le_of_ble_eq_true rfl⟩, (by dsimp only; omega), (by dsimp only; omega)⟩ rfl (Nat.le_of_ble_eq_true rfl) trivial dX5_neighbour_53) hS (fun q z w => absurd w (Nat.not_le.mpr z)) hn (fun r_21 H locs hR hz hk hS => ?_)
    have fa := fa.kept (hk _ fa.lt (Nat.not_le.mpr fa.lt))
    obtain ⟨z9_, f22⟩ := hR
    have s_f22 : s.heap.size ≤ r_21 := Nat.le_trans hZ0_ z9_
    have g_f22 := hn _ s_f22
    have l_fa_f22 : pa < r_21 := Nat.lt_of_lt_of_le t_fa z9_
    refine lv_astore (pc := 56) (lv' := [(7, .ref r_21), (5, .long x_20), (4, .int 1), (3, .null), (0, .ref pa), (1, .int nb_), (2, .int b_)]) hx hb dX5_neighbour_56 hl (by decide) rfl (fun ls hl => ?_)
    refine lv_aload_nN (pc := 58) hx hb dX5_neighbour_58 rfl (lv_at hl 3 rfl) ?_
    refine lv_ifnullN (pc := 59) (tgt := 80) hx hb dX5_neighbour_59 (by decide) ?_
    refine lv_aload (pc := 80) hx hb dX5_neighbour_80 (lv_at hl 0 rfl) ?_
    refine lv_astore_n (pc := 82) (lv' := [(3, .ref r_21), (7, .ref r_21), (5, .long x_20), (4, .int 1), (0, .ref pa), (1, .int nb_), (2, .int b_)]) hx hb dX5_neighbour_82 rfl hl (by decide) rfl (fun ls hl => ?_)
    refine lv_iinc (pc := 83) (v := 2) (lv' := [(4, .int 2), (3, .ref r_21), (7, .ref r_21), (5, .long x_20), (0, .ref pa), (1, .int nb_), (2, .int b_)]) hx hb dX5_neighbour_83 hl (k := 3) rfl (by decide) (by decide) rfl (fun ls hl => ?_)
    refine lv_goto (pc := 86) (tgt := 5) hx hb dX5_neighbour_86 (by decide) ?_
    have loop_5 : ∀ (n : Nat) (k : Nat) (t9 : Int64) (b9 : Int64)(q9 : Nat) (y9 : Int32), 201 - k < n → 1 ≤ k ∧ k ≤ kn → y9 = nI (k + 1) → 1 ≤ b9.toInt ∧ b9.toInt ≤ 200 ∧ t9.toInt.natAbs ≤ 200000000001 → s.heap.size ≤ q9 → m_nbL ta ba b_ (kn - k) (k + 1) t9 b9 = m_NB ta ba kn b_ → ∀ (H : Heap) (locs : List Loc) (ls : Array Slot), va_S (nwA s.heap.size) s.heap H locs → L2 D tk pa ta ba H → L2 D tk q9 t9 b9 H → lv_has ls 8 [(0, .ref pa), (1, .int nb_), (2, .int b_), (3, .ref q9), (4, .int y9)] → W p l e ({ frames := 3, cells := 200, slots := 400, locals := 77 } : Room) s m args below meth c H locs (k) (2 * k) Q (F0 m 5 ls []) := by
      intro n
      induction n with
      | zero =>
        intro k t9 b9 q9 y9 hf9 hk9 hx9 hb9 hs9 hg9 H locs ls hS fa fm hl
        omega
      | succ n ih_5 =>
        intro k t9 b9 q9 y9 hf9 hk9 hx9 hb9 hs9 hg9 H locs ls hS fa fm hl
        refine lv_iload (pc := 5) hx hb dX5_neighbour_5 (lv_at hl 4 rfl) ?_
        refine lv_iload_n (pc := 7) hx hb dX5_neighbour_7 rfl (lv_at hl 1 rfl) ?_
        refine lv_icmp_gt (pc := 8) (tgt := 89) hx hb dX5_neighbour_8 (by decide) (fun c_23 => ?_) (fun c_23 => ?_)
        · refine lv_aload_n (pc := 89) hx hb dX5_neighbour_89 rfl (lv_at hl 3 rfl) ?_
          try rw [hQ]
          refine r_aret (pc := 90) E hr (Or.inr ⟨_, rfl⟩) hlk hS (by omega) (by omega) ?_ dX5_neighbour_90
          have h8 : kn ≤ k := by
            have h7 := c_23
            rw [hkn, hx9] at h7
            have := (nI_ltI (by omega) (by omega)).mp h7
            omega
          rw [show kn - k = 0 by omega] at hg9
          exact ⟨hs9, _, _, fm, hb9, hg9⟩
        · have hlt : k + 1 ≤ kn := Nat.not_lt.mp (fun z => c_23 ((i_lt hkn hx9 (by omega) (by omega)).mpr z))
          refine lv_iload_n (pc := 11) hx hb dX5_neighbour_11 rfl (lv_at hl 2 rfl) ?_
          refine lv_if_eq (pc := 12) (tgt := 33) hx hb dX5_neighbour_12 (by decide) (fun c_24 => ?_) (fun c_24 => ?_)
          · exact absurd c_24 c_2
          refine lv_aload_n (pc := 15) hx hb dX5_neighbour_15 rfl (lv_at hl 0 rfl) ?_
          refine lv_iconst (pc := 16) (v := 0) hx hb dX5_neighbour_16 (by decide) ?_
          refine r_l0 (pc := 17) E hC fa dX5_neighbour_17 ?_
          refine lv_lneg (pc := 18) hx hb dX5_neighbour_18 ?_
          refine lv_iload (pc := 19) hx hb dX5_neighbour_19 (lv_at hl 4 rfl) ?_
          refine lv_i2l (pc := 21) (v := y9.toInt64) hx hb dX5_neighbour_21 rfl ?_
          refine lv_lmul (pc := 22) hx hb dX5_neighbour_22 ?_
          refine lv_aload_n (pc := 23) hx hb dX5_neighbour_23 rfl (lv_at hl 0 rfl) ?_
          refine lv_iconst (pc := 24) (v := 1) hx hb dX5_neighbour_24 (by decide) ?_
          refine r_l1 (pc := 25) E hC fa dX5_neighbour_25 ?_
          refine k_l (pc := 26) (k_S E hC hS hA hl.1 (c_X5_floor l D tk N0 sa H.size ((-ta) * y9.toInt64) ba (m_ne0 hfa.2.1)) kw_1392 kw_1393 kw_5 kw_1394 (n := 2) (by decide +kernel) rfl ⟨⟨rfl, rfl⟩, ⟨Nat.le_of_ble_eq_true rfl, Nat.le_of_ble_eq_true rfl⟩, (by dsimp only; omega), (by dsimp only; omega)⟩ rfl (Nat.le_of_ble_eq_true rfl) trivial dX5_neighbour_26) hS (fun q z w => absurd w (Nat.not_le.mpr z)) hn (fun r_25 H locs hR hz hk hS => ?_)
          have er_25 := hR
          have fa := fa.kept (hk _ fa.lt (Nat.not_le.mpr fa.lt))
          have fm := fm.kept (hk _ fm.lt (Nat.not_le.mpr fm.lt))
          refine lv_lneg (pc := 29) hx hb dX5_neighbour_29 ?_
          refine lv_goto (pc := 30) (tgt := 46) hx hb dX5_neighbour_30 (by decide) ?_
          obtain ⟨x_27, ex_27⟩ : ∃ z9 : Int64, z9 = -r_25 := ⟨_, rfl⟩
          rw [← ex_27]
          refine lv_lstore (pc := 46) (lv' := [(5, .long x_27), (0, .ref pa), (1, .int nb_), (2, .int b_), (3, .ref q9), (4, .int y9)]) hx hb dX5_neighbour_46 hl (by decide) rfl (fun ls hl => ?_)
          refine lv_lload (pc := 48) hx hb dX5_neighbour_48 (lv_at hl 0 rfl) ?_
          have hy9 : 1 ≤ y9.toInt64.toInt ∧ y9.toInt64.toInt ≤ 200 := by rw [m_i64 hx9 (by omega)]; omega
          have hng := (m_negB hfa.1 (by decide)).2
          have hmu := (m_mulB (x := -ta) (y := y9.toInt64) (B := 1000000000) (C := 200) hng (by omega) (by decide)).2
          have hfl := m_floorB (a := -ta * y9.toInt64) (b := ba) (B := 200000000000) (by omega) (by decide) hfa.2.1
          rw [← er_25] at hfl
          have hT9 : x_27.toInt.natAbs ≤ 200000000001 := by rw [ex_27]; exact (m_negB (B := 200000000001) hfl (by decide)).2
          have hP9 := m_loP (t := x_27) (b := y9.toInt64) (B := 200000000001) (C := 200) hT9 (by decide) hy9.1 (by omega)
          have hlN : y9.toInt64 = lN (k + 1) := by rw [hx9]; exact nI_l (by omega)
          have htp : x_27 = m_nbT ta ba (k + 1) b_ := by
            unfold m_nbT
            rw [if_neg c_2, ← hlN, ex_27, er_25]
          refine lv_iload (pc := 50) hx hb dX5_neighbour_50 (lv_at hl 5 rfl) ?_
          refine lv_i2l (pc := 52) (v := y9.toInt64) hx hb dX5_neighbour_52 rfl ?_
          have hZ0_ := hS.1
          have t_fa := fa.lt
          have t_fm := fm.lt
          refine k_r (pc := 53) (k_S E hC hS hA hl.1 (c_X5_lowest l D tk N0 sa H.size x_27 y9.toInt64 hP9.1) kw_1199 kw_1200 kw_5 kw_1201 (n := 2) (by decide +kernel) rfl ⟨⟨rfl, rfl⟩, ⟨Nat.le_of_ble_eq_true rfl, Nat.le_of_ble_eq_true rfl⟩, (by dsimp only; omega), (by dsimp only; omega)⟩ rfl (Nat.le_of_ble_eq_true rfl) trivial dX5_neighbour_53) hS (fun q z w => absurd w (Nat.not_le.mpr z)) hn (fun r_28 H locs hR hz hk hS => ?_)
          have fa := fa.kept (hk _ fa.lt (Nat.not_le.mpr fa.lt))
          have fm := fm.kept (hk _ fm.lt (Nat.not_le.mpr fm.lt))
          obtain ⟨z9_, f29⟩ := hR
          have s_f29 : s.heap.size ≤ r_28 := Nat.le_trans hZ0_ z9_
          have g_f29 := hn _ s_f29
          have l_fa_f29 : pa < r_28 := Nat.lt_of_lt_of_le t_fa z9_
          have l_fm_f29 : q9 < r_28 := Nat.lt_of_lt_of_le t_fm z9_
          refine lv_astore (pc := 56) (lv' := [(7, .ref r_28), (5, .long x_27), (0, .ref pa), (1, .int nb_), (2, .int b_), (3, .ref q9), (4, .int y9)]) hx hb dX5_neighbour_56 hl (by decide) rfl (fun ls hl => ?_)
          refine lv_aload_n (pc := 58) hx hb dX5_neighbour_58 rfl (lv_at hl 5 rfl) ?_
          refine lv_ifnull (pc := 59) hx hb dX5_neighbour_59 ?_
          refine lv_aload (pc := 62) hx hb dX5_neighbour_62 (lv_at hl 0 rfl) ?_
          refine lv_aload_n (pc := 64) hx hb dX5_neighbour_64 rfl (lv_at hl 5 rfl) ?_
          have hZ0_ := hS.1
          have t_fa := fa.lt
          have t_fm := fm.lt
          have t_f29 := f29.lt
          refine k_i (pc := 65) (k_S E hC hS hA hl.1 (c_X5_order l D tk N0 sa H.size r_28 (m_loT x_27 y9.toInt64) (m_loB x_27 y9.toInt64) q9 t9 b9 ) kw_1268 kw_1269 kw_5 kw_1270 (n := 2) (by decide +kernel) rfl ⟨⟨rfl, rfl⟩, ⟨Nat.le_of_ble_eq_true rfl, Nat.le_of_ble_eq_true rfl⟩, (by dsimp only; omega), (by dsimp only; omega)⟩ rfl (Nat.le_of_ble_eq_true rfl) ⟨f29, fm⟩ dX5_neighbour_65) hS (fun q z w => absurd w (Nat.not_le.mpr z)) hn (fun r_30 H locs hR hz hk hS => ?_)
          have fa := fa.kept (hk _ fa.lt (Nat.not_le.mpr fa.lt))
          have fm := fm.kept (hk _ fm.lt (Nat.not_le.mpr fm.lt))
          have f29 := f29.kept (hk _ f29.lt (Nat.not_le.mpr f29.lt))
          have er_30 := hR
          refine lv_iload_n (pc := 68) hx hb dX5_neighbour_68 rfl (lv_at hl 4 rfl) ?_
          refine lv_if_eq (pc := 69) (tgt := 76) hx hb dX5_neighbour_69 (by decide) (fun c_31 => ?_) (fun c_31 => ?_)
          · exact absurd c_31 c_2
          refine lv_iconst (pc := 72) (v := (-1)) hx hb dX5_neighbour_72 (by decide) ?_
          refine lv_goto (pc := 73) (tgt := 77) hx hb dX5_neighbour_73 (by decide) ?_
          refine lv_icmp_ne (pc := 77) (tgt := 83) hx hb dX5_neighbour_77 (by decide) (fun c_32 => ?_) (fun c_32 => ?_)
          · obtain ⟨x_33, ex_33⟩ : ∃ z9 : Int32, z9 = y9 + 1 := ⟨_, rfl⟩
            refine lv_iinc (pc := 83) (v := x_33) (lv' := [(4, .int x_33), (7, .ref r_28), (5, .long x_27), (0, .ref pa), (1, .int nb_), (2, .int b_), (3, .ref q9)]) hx hb dX5_neighbour_83 hl (k := 6) rfl (by rw [ex_33]; rfl) (by decide) rfl (fun ls hl => ?_)
            refine lv_goto (pc := 86) (tgt := 5) hx hb dX5_neighbour_86 (by decide) ?_
            refine W.widen (k := k + 1) (n := 2 * (k + 1)) (by omega) (by omega) ?_
            exact ih_5  (k + 1) _ _  q9 x_33 (by omega) ⟨by omega, hlt⟩ (i_up hx9 ex_33) hb9 hs9 (m_nbLn (by omega) hg9 (fun z9 => c_32 (er_30.trans (z9.trans (if_neg c_2)))) htp hlN) _ _ _ hS fa fm (lv_sub hl [3, 4, 5, 6, 0] rfl)
          · refine lv_aload (pc := 80) hx hb dX5_neighbour_80 (lv_at hl 0 rfl) ?_
            refine lv_astore_n (pc := 82) (lv' := [(3, .ref r_28), (7, .ref r_28), (5, .long x_27), (0, .ref pa), (1, .int nb_), (2, .int b_), (4, .int y9)]) hx hb dX5_neighbour_82 rfl hl (by decide) rfl (fun ls hl => ?_)
            obtain ⟨x_34, ex_34⟩ : ∃ z9 : Int32, z9 = y9 + 1 := ⟨_, rfl⟩
            refine lv_iinc (pc := 83) (v := x_34) (lv' := [(4, .int x_34), (3, .ref r_28), (7, .ref r_28), (5, .long x_27), (0, .ref pa), (1, .int nb_), (2, .int b_)]) hx hb dX5_neighbour_83 hl (k := 6) rfl (by rw [ex_34]; rfl) (by decide) rfl (fun ls hl => ?_)
            refine lv_goto (pc := 86) (tgt := 5) hx hb dX5_neighbour_86 (by decide) ?_
            refine W.widen (k := k + 1) (n := 2 * (k + 1)) (by omega) (by omega) ?_
            exact ih_5  (k + 1) _ _  r_28 x_34 (by omega) ⟨by omega, hlt⟩ (i_up hx9 ex_34) ⟨hP9.2.1, hP9.2.2.1, hP9.2.2.2⟩ s_f29 (m_nbLy (by omega) hg9 (by rw [if_neg c_2, ← er_30]; exact c_32) htp hlN) _ _ _ hS fa f29 (lv_sub hl [4, 5, 6, 1, 0] rfl)
    refine W.widen (k := 1) (n := 2 * 1) (by omega) (by omega) ?_
    exact loop_5 202 1 _ _  r_21 2 (by omega) ⟨Nat.le_refl _, hn1⟩ (by decide) ⟨hP9.2.1, hP9.2.2.1, hP9.2.2.2⟩ s_f22 (by show _ = m_nbL ta ba b_ (kn - 1) 2 (m_loT (m_nbT ta ba 1 b_) (lN 1)) (m_loB (m_nbT ta ba 1 b_) (lN 1)); rw [htp]; rfl) _ _ _ hS fa f22 (lv_sub hl [4, 5, 6, 1, 0] rfl)
set_option maxHeartbeats 4000000 in
set_option maxRecDepth 100000 in
/-- BestratiosModel.bestOf([JI)[J -/
theorem c_X5_bestOf (l : Launch) (D : va_G) (tk : Nat → ClassId) (N0 : Nat) (sa : Nat → Nat)  (sz : Nat) (pa : Nat) (ta : Int64) (ba : Int64) (nb_ : Int32) (kn : Nat) (hfa : m_F ta ba) (hkn : nb_ = nI kn) (hn1 : 1 ≤ kn) (hn2 : kn ≤ 200) : Met l yX5_bestOf (wsy yX5_bestOf cX5_bestOf 8 (some (.array .long))) ({ frames := 4, cells := 400, slots := 800, locals := 104 } : Room) (cP D tk N0 sa [.ref pa, .int nb_] sz (fun H => L2 D tk pa ta ba H)) (kQr (fun r H => sz ≤ r ∧ ∃ t b, L2 D tk r t b H ∧ (1 ≤ b.toInt ∧ b.toInt ≤ 200 ∧ t.toInt.natAbs ≤ 200000000001) ∧ (t, b) = m_BS ta ba kn) (nwA sz)) (400) (800) (nwA sz) := by
  refine mStart RX5 rfl (by decide +kernel) (Nat.le_of_ble_eq_true rfl) ?_
  intro p e s m args below meth c E hr hlk hnm hsz hC hF ls hl
  subst hsz
  obtain ⟨hx, hb, -⟩ := id E
  have hA : ∀ q, (nwA s.heap.size) q → N0 ≤ q := fun q h => Nat.le_trans hC.2.1 h
  have hn : ∀ q, s.heap.size ≤ q → (nwA s.heap.size) q := fun q h => h
  have hS : va_S (nwA s.heap.size) s.heap s.heap [] := va_S.rf
  have hl : lv_has ls 8 [(0, .ref pa), (1, .int nb_)] := hl
  have fa : L2 D tk pa ta ba s.heap := hF
  refine lv_aload_n (pc := 0) hx hb dX5_bestOf_0 rfl (lv_at hl 0 rfl) ?_
  refine lv_iload_n (pc := 1) hx hb dX5_bestOf_1 rfl (lv_at hl 1 rfl) ?_
  refine lv_iconst (pc := 2) (v := 0) hx hb dX5_bestOf_2 (by decide) ?_
  have hZ0_ := hS.1
  have t_fa := fa.lt
  refine k_r (pc := 3) (k_S E hC hS hA hl.1 (c_X5_neighbour l D tk N0 sa s.heap.size pa ta ba nb_ 0 kn hfa hkn hn1 hn2) kw_1627 kw_1628 kw_5 kw_1629 (n := 3) (by decide +kernel) rfl ⟨⟨rfl, rfl⟩, ⟨Nat.le_of_ble_eq_true rfl, Nat.le_of_ble_eq_true rfl⟩, (by dsimp only; omega), (by dsimp only; omega)⟩ rfl (Nat.le_of_ble_eq_true rfl) fa dX5_bestOf_3) hS (fun q z w => absurd w (Nat.not_le.mpr z)) hn (fun r_1 H locs hR hz hk hS => ?_)
  have fa := fa.kept (hk _ fa.lt (Nat.not_le.mpr fa.lt))
  obtain ⟨z9_, tt_f2, bb_f2, f2, hb_f2, hv_f2⟩ := hR
  have s_f2 : s.heap.size ≤ r_1 := Nat.le_trans hZ0_ z9_
  have g_f2 := hn _ s_f2
  have l_fa_f2 : pa < r_1 := Nat.lt_of_lt_of_le t_fa z9_
  refine lv_astore_n (pc := 6) (lv' := [(2, .ref r_1), (0, .ref pa), (1, .int nb_)]) hx hb dX5_bestOf_6 rfl hl (by decide) rfl (fun ls hl => ?_)
  refine lv_aload_n (pc := 7) hx hb dX5_bestOf_7 rfl (lv_at hl 1 rfl) ?_
  refine lv_iload_n (pc := 8) hx hb dX5_bestOf_8 rfl (lv_at hl 2 rfl) ?_
  refine lv_iconst (pc := 9) (v := 1) hx hb dX5_bestOf_9 (by decide) ?_
  have hZ0_ := hS.1
  have t_fa := fa.lt
  have t_f2 := f2.lt
  refine k_r (pc := 10) (k_S E hC hS hA hl.1 (c_X5_neighbour l D tk N0 sa H.size pa ta ba nb_ 1 kn hfa hkn hn1 hn2) kw_1627 kw_1628 kw_5 kw_1629 (n := 3) (by decide +kernel) rfl ⟨⟨rfl, rfl⟩, ⟨Nat.le_of_ble_eq_true rfl, Nat.le_of_ble_eq_true rfl⟩, (by dsimp only; omega), (by dsimp only; omega)⟩ rfl (Nat.le_of_ble_eq_true rfl) fa dX5_bestOf_10) hS (fun q z w => absurd w (Nat.not_le.mpr z)) hn (fun r_3 H locs hR hz hk hS => ?_)
  have fa := fa.kept (hk _ fa.lt (Nat.not_le.mpr fa.lt))
  have f2 := f2.kept (hk _ f2.lt (Nat.not_le.mpr f2.lt))
  obtain ⟨z9_, tt_f4, bb_f4, f4, hb_f4, hv_f4⟩ := hR
  have s_f4 : s.heap.size ≤ r_3 := Nat.le_trans hZ0_ z9_
  have g_f4 := hn _ s_f4
  have l_fa_f4 : pa < r_3 := Nat.lt_of_lt_of_le t_fa z9_
  have l_f2_f4 : r_1 < r_3 := Nat.lt_of_lt_of_le t_f2 z9_
  refine lv_astore_n (pc := 13) (lv' := [(3, .ref r_3), (2, .ref r_1), (0, .ref pa), (1, .int nb_)]) hx hb dX5_bestOf_13 rfl hl (by decide) rfl (fun ls hl => ?_)
  refine lv_aload_n (pc := 14) hx hb dX5_bestOf_14 rfl (lv_at hl 2 rfl) ?_
  refine lv_iconst (pc := 15) (v := 0) hx hb dX5_bestOf_15 (by decide) ?_
  refine r_l0 (pc := 16) E hC fa dX5_bestOf_16 ?_
  refine lv_aload_n (pc := 17) hx hb dX5_bestOf_17 rfl (lv_at hl 1 rfl) ?_
  refine lv_iconst (pc := 18) (v := 1) hx hb dX5_bestOf_18 (by decide) ?_
  refine r_l1 (pc := 19) E hC f2 dX5_bestOf_19 ?_
  refine lv_lmul (pc := 20) hx hb dX5_bestOf_20 ?_
  refine lv_aload_n (pc := 21) hx hb dX5_bestOf_21 rfl (lv_at hl 1 rfl) ?_
  refine lv_iconst (pc := 22) (v := 0) hx hb dX5_bestOf_22 (by decide) ?_
  refine r_l0 (pc := 23) E hC f2 dX5_bestOf_23 ?_
  refine lv_aload_n (pc := 24) hx hb dX5_bestOf_24 rfl (lv_at hl 2 rfl) ?_
  refine lv_iconst (pc := 25) (v := 1) hx hb dX5_bestOf_25 (by decide) ?_
  refine r_l1 (pc := 26) E hC fa dX5_bestOf_26 ?_
  refine lv_lmul (pc := 27) hx hb dX5_bestOf_27 ?_
  refine lv_lsub (pc := 28) hx hb dX5_bestOf_28 ?_
  refine lv_aload_n (pc := 29) hx hb dX5_bestOf_29 rfl (lv_at hl 0 rfl) ?_
  refine lv_iconst (pc := 30) (v := 1) hx hb dX5_bestOf_30 (by decide) ?_
  refine r_l1 (pc := 31) E hC f4 dX5_bestOf_31 ?_
  refine lv_lmul (pc := 32) hx hb dX5_bestOf_32 ?_
  obtain ⟨x_5, ex_5⟩ : ∃ z9 : Int64, z9 = ((ta * bb_f2) - (tt_f2 * ba)) * bb_f4 := ⟨_, rfl⟩
  rw [← ex_5]
  refine lv_lstore (pc := 33) (lv' := [(4, .long x_5), (3, .ref r_3), (2, .ref r_1), (0, .ref pa), (1, .int nb_)]) hx hb dX5_bestOf_33 hl (by decide) rfl (fun ls hl => ?_)
  refine lv_aload_n (pc := 35) hx hb dX5_bestOf_35 rfl (lv_at hl 1 rfl) ?_
  refine lv_iconst (pc := 36) (v := 0) hx hb dX5_bestOf_36 (by decide) ?_
  refine r_l0 (pc := 37) E hC f4 dX5_bestOf_37 ?_
  refine lv_aload_n (pc := 38) hx hb dX5_bestOf_38 rfl (lv_at hl 3 rfl) ?_
  refine lv_iconst (pc := 39) (v := 1) hx hb dX5_bestOf_39 (by decide) ?_
  refine r_l1 (pc := 40) E hC fa dX5_bestOf_40 ?_
  refine lv_lmul (pc := 41) hx hb dX5_bestOf_41 ?_
  refine lv_aload_n (pc := 42) hx hb dX5_bestOf_42 rfl (lv_at hl 3 rfl) ?_
  refine lv_iconst (pc := 43) (v := 0) hx hb dX5_bestOf_43 (by decide) ?_
  refine r_l0 (pc := 44) E hC fa dX5_bestOf_44 ?_
  refine lv_aload_n (pc := 45) hx hb dX5_bestOf_45 rfl (lv_at hl 1 rfl) ?_
  refine lv_iconst (pc := 46) (v := 1) hx hb dX5_bestOf_46 (by decide) ?_
  refine r_l1 (pc := 47) E hC f4 dX5_bestOf_47 ?_
  refine lv_lmul (pc := 48) hx hb dX5_bestOf_48 ?_
  refine lv_lsub (pc := 49) hx hb dX5_bestOf_49 ?_
  refine lv_aload_n (pc := 50) hx hb dX5_bestOf_50 rfl (lv_at hl 2 rfl) ?_
  refine lv_iconst (pc := 51) (v := 1) hx hb dX5_bestOf_51 (by decide) ?_
  refine r_l1 (pc := 52) E hC f2 dX5_bestOf_52 ?_
  refine lv_lmul (pc := 53) hx hb dX5_bestOf_53 ?_
  obtain ⟨x_6, ex_6⟩ : ∃ z9 : Int64, z9 = ((tt_f4 * ba) - (ta * bb_f4)) * bb_f2 := ⟨_, rfl⟩
  rw [← ex_6]
  refine lv_lstore (pc := 54) (lv' := [(6, .long x_6), (4, .long x_5), (3, .ref r_3), (2, .ref r_1), (0, .ref pa), (1, .int nb_)]) hx hb dX5_bestOf_54 hl (by decide) rfl (fun ls hl => ?_)
  refine lv_lload (pc := 56) hx hb dX5_bestOf_56 (lv_at hl 1 rfl) ?_
  refine lv_lload (pc := 58) hx hb dX5_bestOf_58 (lv_at hl 0 rfl) ?_
  refine r_lclt (pc := 60) (tgt := 82) E dX5_bestOf_60 dX5_bestOf_61 (by decide) (fun c_7 => ?_) (fun c_7 => ?_)
  · refine lv_aload_n (pc := 82) hx hb dX5_bestOf_82 rfl (lv_at hl 3 rfl) ?_
    refine lv_goto (pc := 83) (tgt := 87) hx hb dX5_bestOf_83 (by decide) ?_
    refine r_aret (pc := 87) E hr (Or.inr ⟨_, rfl⟩) hlk hS (by omega) (by omega) ?_ dX5_bestOf_87
    exact ⟨s_f2, _, _, f2, hb_f2, by unfold m_BS m_bsA m_bsB; rw [← hv_f2, ← hv_f4]; dsimp only; rw [← ex_5, ← ex_6, if_pos c_7]⟩
  · refine lv_lload (pc := 64) hx hb dX5_bestOf_64 (lv_at hl 1 rfl) ?_
    refine lv_lload (pc := 66) hx hb dX5_bestOf_66 (lv_at hl 0 rfl) ?_
    refine r_lcne (pc := 68) (tgt := 86) E dX5_bestOf_68 dX5_bestOf_69 (by decide) (fun c_8 => ?_) (fun c_8 => ?_)
    · refine lv_aload_n (pc := 86) hx hb dX5_bestOf_86 rfl (lv_at hl 2 rfl) ?_
      refine r_aret (pc := 87) E hr (Or.inr ⟨_, rfl⟩) hlk hS (by omega) (by omega) ?_ dX5_bestOf_87
      exact ⟨s_f4, _, _, f4, hb_f4, by unfold m_BS m_bsA m_bsB; rw [← hv_f2, ← hv_f4]; dsimp only; rw [← ex_5, ← ex_6, if_neg c_7, if_neg c_8]⟩
    · refine lv_aload_n (pc := 72) hx hb dX5_bestOf_72 rfl (lv_at hl 3 rfl) ?_
      refine lv_iconst (pc := 73) (v := 1) hx hb dX5_bestOf_73 (by decide) ?_
      refine r_l1 (pc := 74) E hC f2 dX5_bestOf_74 ?_
      refine lv_aload_n (pc := 75) hx hb dX5_bestOf_75 rfl (lv_at hl 2 rfl) ?_
      refine lv_iconst (pc := 76) (v := 1) hx hb dX5_bestOf_76 (by decide) ?_
      refine r_l1 (pc := 77) E hC f4 dX5_bestOf_77 ?_
      refine r_lcgt (pc := 78) (tgt := 86) E dX5_bestOf_78 dX5_bestOf_79 (by decide) (fun c_9 => ?_) (fun c_9 => ?_)
      · refine lv_aload_n (pc := 86) hx hb dX5_bestOf_86 rfl (lv_at hl 2 rfl) ?_
        refine r_aret (pc := 87) E hr (Or.inr ⟨_, rfl⟩) hlk hS (by omega) (by omega) ?_ dX5_bestOf_87
        exact ⟨s_f4, _, _, f4, hb_f4, by unfold m_BS m_bsA m_bsB; rw [← hv_f2, ← hv_f4]; dsimp only; rw [← ex_5, ← ex_6, if_neg c_7, if_pos c_8, if_neg (Int64.not_le.mpr c_9)]⟩
      · refine lv_aload_n (pc := 82) hx hb dX5_bestOf_82 rfl (lv_at hl 3 rfl) ?_
        refine lv_goto (pc := 83) (tgt := 87) hx hb dX5_bestOf_83 (by decide) ?_
        refine r_aret (pc := 87) E hr (Or.inr ⟨_, rfl⟩) hlk hS (by omega) (by omega) ?_ dX5_bestOf_87
        exact ⟨s_f2, _, _, f2, hb_f2, by unfold m_BS m_bsA m_bsB; rw [← hv_f2, ← hv_f4]; dsimp only; rw [← ex_5, ← ex_6, if_neg c_7, if_pos c_8, if_pos (Int64.not_lt.mp c_9)]⟩
/-! ===== the reference's cuts, its simplest one ===== -/
theorem m_powB {kp : Nat} (h : kp ≤ 9) : 1 ≤ (m_pow (nI kp)).toInt ∧ (m_pow (nI kp)).toInt ≤ 1000000000 := by
  have hall : ∀ i : Fin 10, 1 ≤ (m_pow (nI i.val)).toInt ∧ (m_pow (nI i.val)).toInt ≤ 1000000000 := by decide +kernel
  exact hall ⟨kp, by omega⟩
theorem m_powC {kp : Nat} (h : kp ≤ 2) : 1 ≤ (m_pow (nI kp)).toInt ∧ (m_pow (nI kp)).toInt ≤ 100 := by
  have hall : ∀ i : Fin 3, 1 ≤ (m_pow (nI i.val)).toInt ∧ (m_pow (nI i.val)).toInt ≤ 100 := by decide +kernel
  exact hall ⟨kp, by omega⟩
theorem m_addB {x y : Int64} {B C : Nat} (hx : x.toInt.natAbs ≤ B) (hy : y.toInt.natAbs ≤ C) (h : B + C < 9223372036854775808) : (x + y).toInt = x.toInt + y.toInt ∧ (x + y).toInt.natAbs ≤ B + C := by
  have e : (x + y).toInt = x.toInt + y.toInt := by
    rw [Int64.toInt_add]
    simp only [Int.bmod]
    split <;> omega
  exact ⟨e, by rw [e]; omega⟩
theorem m_subB {x y : Int64} {B C : Nat} (hx : x.toInt.natAbs ≤ B) (hy : y.toInt.natAbs ≤ C) (h : B + C < 9223372036854775808) : (x - y).toInt = x.toInt - y.toInt ∧ (x - y).toInt.natAbs ≤ B + C := by
  have e : (x - y).toInt = x.toInt - y.toInt := by
    rw [Int64.toInt_sub]
    simp only [Int.bmod]
    split <;> omega
  exact ⟨e, by rw [e]; omega⟩
theorem m_cutB {t b : Int64} {pl md : Int32} {B : Nat} (ht : (t * m_pow pl).toInt.natAbs ≤ B) (hB : B < 4611686018427387000) (hb : 1 ≤ b.toInt) : (m_cut t b pl md).toInt.natAbs ≤ B + 2 := by
  have h1 := m_floorB ht (by omega) hb
  have h2 := (m_addB (x := m_floor (t * m_pow pl) b) (y := 1) (B := B + 1) (C := 1) h1 (by decide) (by omega)).2
  unfold m_cut m_cut3
  repeat' split
  all_goals omega
/-- a whole number of them -/
theorem m_flE {u b : Int64} {B : Nat} (hu : u.toInt.natAbs ≤ B) (hB : B * 100 < 9223372036854775808) (hb : 1 ≤ b.toInt ∧ b.toInt ≤ 100) : m_floor (u * b) b = u := by
  obtain ⟨e1, e2⟩ := m_mulB (x := u) (y := b) (B := B) (C := 100) hu (by omega) hB
  obtain ⟨d1, -⟩ := m_tdv (x := u * b) (y := b) (by omega) hb.1
  have e3 : u * b / b = u := by
    apply Int64.toInt_inj.mp
    rw [d1, e1]
    exact Int.mul_tdiv_cancel _ (by omega)
  unfold m_floor
  rw [e3]
  exact if_pos (Int64.sub_self _)
theorem m_cutE {u b : Int64} {pl md : Int32} {B : Nat} (hp : m_pow pl = b) (hu : u.toInt.natAbs ≤ B) (hB : B * 100 < 9223372036854775808) (hb : 1 ≤ b.toInt ∧ b.toInt ≤ 100) : m_cut u b pl md = u := by
  have h1 := m_flE hu hB hb
  unfold m_cut m_cut3
  rw [hp, h1]
  exact if_pos (Int64.sub_self _)
/-! ===== the FLOOR ===== -/
theorem m_flr {a b : Int64} {B : Nat} (ha : a.toInt.natAbs ≤ B) (hB : B < 4611686018427387904) (hb : 1 ≤ b.toInt) : (m_floor a b).toInt * b.toInt ≤ a.toInt ∧ a.toInt < (m_floor a b).toInt * b.toInt + b.toInt := by
  obtain ⟨d1, d2⟩ := m_tdv (x := a) (y := b) (by omega) hb
  have hr := m_rem (u := a) (v := b) (m_ne0 hb)
  have q2 : a.toInt.natAbs / b.toInt.natAbs ≤ a.toInt.natAbs := Nat.div_le_self _ _
  have hd := Int.mul_tdiv_add_tmod a.toInt b.toInt
  have hm : (a.toInt.tmod b.toInt).natAbs < b.toInt.natAbs := by
    rw [Int.natAbs_tmod]
    exact Nat.mod_lt _ (by omega)
  have hc : b.toInt * a.toInt.tdiv b.toInt = a.toInt.tdiv b.toInt * b.toInt := Int.mul_comm _ _
  have e1 : (1 : Int64).toInt = 1 := rfl
  have e2 : (a / b - 1).toInt = (a / b).toInt - 1 := by
    rw [Int64.toInt_sub, e1]
    simp only [Int.bmod]
    split <;> omega
  have e3 : (a.toInt.tdiv b.toInt - 1) * b.toInt = a.toInt.tdiv b.toInt * b.toInt - b.toInt := by rw [Int.sub_mul, Int.one_mul]
  have hb0 : 0 ≤ b := Int64.le_iff_toInt_le.mpr (by show (0 : Int) ≤ b.toInt; omega)
  unfold m_floor
  split
  · rename_i h
    rw [h] at hr
    have e0 : (0 : Int64).toInt = 0 := rfl
    rw [e0] at hr
    rw [d1]
    omega
  · split
    · rename_i h
      have h5 : 0 ≤ (a - a / b * b).toInt := by have := Int64.le_iff_toInt_le.mp h; simpa using this
      (try rw [if_pos hb0])
      rw [d1]
      omega
    · rename_i h
      have h5 : (a - a / b * b).toInt < 0 := by have := Int64.lt_iff_toInt_lt.mp (Int64.not_le.mp h); simpa using this
      (try rw [if_pos hb0])
      rw [e2, d1, e3]
      omega
theorem q_mfl {a b : Int64} (ha : a.toInt.natAbs < 4611686018427387904) (hb : 1 ≤ b.toInt) : (m_floor a b).toInt = a.toInt / b.toInt := by
  obtain ⟨h1, h2⟩ := m_flr (a := a) (b := b) (B := 4611686018427387903) (by omega) (by decide) hb
  symm
  rw [Int.ediv_eq_iff_of_pos (by omega)]
  exact ⟨h1, h2⟩
