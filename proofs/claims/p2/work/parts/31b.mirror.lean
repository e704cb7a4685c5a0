/-! ===== what the reference's searches come to ===== -/
def LO (t b : Int64) : Option (Int64 × Int64) := some (m_loT t b, m_loB t b)
def m_IV (t b : Int64) : Option (Int64 × Int64) := if t = 0 then none else LO b t
/-- so many times itself -/
def m_raL (t b : Int64) : Nat → Int64 → Int64 → Int64 × Int64
  | 0, u, v => (u, v)
  | n + 1, u, v => if m_fit u v = 0 then (u, v) else m_raL t b n (m_loT (u * t) (v * b)) (m_loB (u * t) (v * b))
def m_RA (t b : Int64) (x : Int32) : Option (Int64 × Int64) := if m_fit (m_raL t b (nn (f_absI x)) 1 1).1 (m_raL t b (nn (f_absI x)) 1 1).2 = 0 then none else if x < 0 then m_IV (m_raL t b (nn (f_absI x)) 1 1).1 (m_raL t b (nn (f_absI x)) 1 1).2 else some (m_raL t b (nn (f_absI x)) 1 1)
/-- a neighbour, bottom by bottom -/
def m_nbT (t b : Int64) (k : Nat) (u : Int32) : Int64 := if u = 0 then m_floor (t * lN k) b else -m_floor (-t * lN k) b
def m_nbL (t b : Int64) (u : Int32) : Nat → Nat → Int64 → Int64 → Int64 × Int64
  | 0, _, x, y => (x, y)
  | n + 1, k, x, y => if m_ord (m_loT (m_nbT t b k u) (lN k)) (m_loB (m_nbT t b k u) (lN k)) x y = (if u = 0 then 1 else -1) then m_nbL t b u n (k + 1) (m_loT (m_nbT t b k u) (lN k)) (m_loB (m_nbT t b k u) (lN k)) else m_nbL t b u n (k + 1) x y
def m_NB (t b : Int64) (n : Nat) (u : Int32) : Int64 × Int64 := m_nbL t b u (n - 1) 2 (m_loT (m_nbT t b 1 u) (lN 1)) (m_loB (m_nbT t b 1 u) (lN 1))
def m_bsA (t b : Int64) (p q : Int64 × Int64) : Int64 := (t * p.2 - p.1 * b) * q.2
def m_bsB (t b : Int64) (p q : Int64 × Int64) : Int64 := (q.1 * b - t * q.2) * p.2
def m_BS (t b : Int64) (n : Nat) : Int64 × Int64 :=
  if m_bsA t b (m_NB t b n 0) (m_NB t b n 1) < m_bsB t b (m_NB t b n 0) (m_NB t b n 1) then m_NB t b n 0
  else if m_bsA t b (m_NB t b n 0) (m_NB t b n 1) = m_bsB t b (m_NB t b n 0) (m_NB t b n 1) then (if (m_NB t b n 0).2 ≤ (m_NB t b n 1).2 then m_NB t b n 0 else m_NB t b n 1) else m_NB t b n 1
/-- TERMS: the k-th one; how many there are -/
def m_eu : Nat → Int64 → Int64 → List Int64
  | 0, _, _ => []
  | n + 1, t, b => if b = 0 then [] else m_floor t b :: m_eu n b (t - m_floor t b * b)
def m_TE (t b : Int64) : List Int64 := m_eu 64 t b
def m_at (t b : Int64) (k : Nat) : Int64 := (m_TE t b).getD k 0
/-- FOLDED, from the last one on -/
def m_fdL (a : Nat → Int64) : Nat → Int64 → Int64 → Option (Int64 × Int64)
  | 0, t, b => LO t b
  | n + 1, t, b => if 4000000000 < t then none else m_fdL a n (a n * t + b) t
def m_FD (a : Nat → Int64) (n : Nat) : Option (Int64 × Int64) := m_fdL a (n - 1) (a (n - 1)) 1
def m_WL (t b x : Int64) : Option (Int64 × Int64) := m_FD (va_up (m_at t b) ((m_TE t b).length - 1) (m_at t b ((m_TE t b).length - 1) + x)) (m_TE t b).length
def m_W2 (t b : Int64) : Option (Int64 × Int64) := m_FD (va_up (va_up (m_at t b) ((m_TE t b).length - 1) (m_at t b ((m_TE t b).length - 1) + -1)) (m_TE t b).length 2) ((m_TE t b).length + 1)

theorem m_raLz {t b u v : Int64} {n : Nat} (h : m_fit u v = 0) : m_raL t b n u v = (u, v) := by
  cases n with
  | zero => rfl
  | succ n =>
    unfold m_raL
    rw [if_pos h]
theorem m_raLs {t b u v : Int64} {n m : Nat} {q : Int64 × Int64} (h : ¬ m_fit u v = 0) (e : n = m + 1) (hg : m_raL t b n u v = q) : m_raL t b m (m_loT (u * t) (v * b)) (m_loB (u * t) (v * b)) = q := by
  rw [e] at hg
  unfold m_raL at hg
  rw [if_neg h] at hg
  exact hg
theorem m_RAe {t b t9 b9 : Int64} {x : Int32} {kt : Nat} (h1 : f_absI x = nI kt) (h2 : kt ≤ 6) (h : m_raL t b kt 1 1 = (t9, b9)) : m_RA t b x = if m_fit t9 b9 = 0 then none else if x < 0 then m_IV t9 b9 else some (t9, b9) := by
  have e : nn (f_absI x) = kt := by
    rw [h1]
    exact nI_clamp (by omega)
  unfold m_RA
  rw [e, h]
theorem m_nbLy {t b x y X Y : Int64} {u : Int32} {n m k : Nat} {q : Int64 × Int64} (e : n = m + 1) (hg : m_nbL t b u n k x y = q) (hX : m_ord (m_loT X Y) (m_loB X Y) x y = (if u = 0 then 1 else -1)) (h1 : X = m_nbT t b k u) (h2 : Y = lN k) : m_nbL t b u m (k + 1) (m_loT X Y) (m_loB X Y) = q := by
  subst h1 h2 e
  unfold m_nbL at hg
  rw [if_pos hX] at hg
  exact hg
theorem m_nbLn {t b x y X Y : Int64} {u : Int32} {n m k : Nat} {q : Int64 × Int64} (e : n = m + 1) (hg : m_nbL t b u n k x y = q) (hX : ¬ m_ord (m_loT X Y) (m_loB X Y) x y = (if u = 0 then 1 else -1)) (h1 : X = m_nbT t b k u) (h2 : Y = lN k) : m_nbL t b u m (k + 1) x y = q := by
  subst h1 h2 e
  unfold m_nbL at hg
  rw [if_neg hX] at hg
  exact hg
/-- the TERMS so far, and what is still to be taken apart -/
def TX (t b : Int64) (k : Nat) (w : Nat → Value) (T B : Int64) : Prop := ∃ pre : List Int64, pre.length = k ∧ m_TE t b = pre ++ m_eu (64 - k) T B ∧ ∀ i, i < k → w i = .long (pre.getD i 0)
theorem TX.one {t b q L : Int64} {w : Nat → Value} (hb : ¬ b = 0) (hq : q = m_floor t b) (hL : L = t - q * b) : TX t b 1 (va_up w 0 (.long q)) b L := by
  refine ⟨[q], rfl, ?_, fun i hi => ?_⟩
  · show m_eu 64 t b = [q] ++ m_eu 63 b L
    unfold m_eu
    rw [if_neg hb, hL, hq]
    rfl
  · have e : i = 0 := by omega
    rw [e, va_up_self]
    rfl
theorem TX.add {t b T B q L : Int64} {k : Nat} {w : Nat → Value} (h : TX t b k w T B) (hB : ¬ B = 0) (hk : k ≤ 63) (hq : q = m_floor T B) (hL : L = T - q * B) : TX t b (k + 1) (va_up w k (.long q)) B L := by
  obtain ⟨pre, p1, p2, p3⟩ := h
  refine ⟨pre ++ [q], by rw [List.length_append, p1]; rfl, ?_, fun i hi => ?_⟩
  · rw [p2, List.append_assoc]
    congr 1
    obtain ⟨m, hm⟩ : ∃ m, 64 - k = m + 1 := ⟨63 - k, by omega⟩
    rw [hm, show 64 - (k + 1) = m by omega, m_eu, if_neg hB, hL, hq]
    rfl
  · by_cases e : i = k
    · rw [e, va_up_self, List.getD_eq_getElem?_getD, List.getElem?_append_right (by omega), p1, Nat.sub_self]
      rfl
    · rw [va_up_ne _ _ e, p3 i (by omega), List.getD_eq_getElem?_getD, List.getD_eq_getElem?_getD, List.getElem?_append_left (by omega)]
theorem TX.fin {t b T B : Int64} {k : Nat} {w : Nat → Value} (h : TX t b k w T B) (hB : B = 0) (hk : k ≤ 63) : k = (m_TE t b).length ∧ ∀ i, i < k → w i = .long (m_at t b i) := by
  obtain ⟨pre, p1, p2, p3⟩ := h
  have e : m_TE t b = pre := by
    obtain ⟨m, hm⟩ : ∃ m, 64 - k = m + 1 := ⟨63 - k, by omega⟩
    rw [p2, hm, m_eu, if_pos hB, List.append_nil]
  unfold m_at
  rw [e]
  exact ⟨p1.symm, p3⟩
theorem m_lgI {x y : Int64} {w : Value} (h1 : w = .long x) (h2 : w = .long y) : x = y := Value.long.inj (h1.symm.trans h2)
theorem m_fdLn {a : Nat → Int64} {k : Nat} {t b : Int64} {o : Option (Int64 × Int64)} (h : m_fdL a (k + 1) t b = o) (ht : (4000000000 : Int64) < t) : o = none := by
  rw [← h]
  unfold m_fdL
  rw [if_pos ht]
theorem m_fdLs {a : Nat → Int64} {k : Nat} {t b x : Int64} {o : Option (Int64 × Int64)} (h : m_fdL a (k + 1) t b = o) (ht : ¬ (4000000000 : Int64) < t) (hx : x = a k * t + b) : m_fdL a k x t = o := by
  rw [← h, hx]
  conv => rhs; unfold m_fdL
  rw [if_neg ht]
/-- the simplest one's search: what has been tried -/
def m_smR (N P : Int64) (k : Nat) (pl md : Int32) : Prop := ∀ T2 : Int64, (N.toInt - 1) * (k : Int) / P.toInt ≤ T2.toInt → T2.toInt ≤ (N.toInt + 1) * (k : Int) / P.toInt + 1 → m_cut T2 (lN k) pl md ≠ N
def m_smI (N P : Int64) (k : Nat) (pl md : Int32) (t8 : Int64) : Prop := ∀ T2 : Int64, (N.toInt - 1) * (k : Int) / P.toInt ≤ T2.toInt → T2.toInt < t8.toInt → m_cut T2 (lN k) pl md ≠ N
theorem m_smI.z {N P t : Int64} {k : Nat} {pl md : Int32} (h : t.toInt = (N.toInt - 1) * (k : Int) / P.toInt) : m_smI N P k pl md t := fun T2 h1 h2 => by
  rw [h] at h2
  exact absurd h2 (Int.not_lt.mpr h1)
theorem m_smI.up {N P t u : Int64} {k : Nat} {pl md : Int32} (h : m_smI N P k pl md t) (e : u.toInt = t.toInt + 1) (hn : m_cut t (lN k) pl md ≠ N) : m_smI N P k pl md u := fun T2 h1 h2 => by
  rcases Int.lt_or_le T2.toInt t.toInt with z | z
  · exact h T2 h1 z
  · have e2 : T2 = t := Int64.toInt_inj.mp (by omega)
    rw [e2]
    exact hn
theorem m_smR.of {N P t r : Int64} {k : Nat} {pl md : Int32} (h : m_smI N P k pl md t) (e : r.toInt = (N.toInt + 1) * (k : Int) / P.toInt) (hg : r.toInt + 1 < t.toInt) : m_smR N P k pl md := fun T2 h1 h2 => by
  rw [← e] at h2
  exact h T2 h1 (by omega)
theorem m_smA {N P : Int64} {k : Nat} {pl md : Int32} (h : ∀ n2 : Nat, 1 ≤ n2 → n2 < k → m_smR N P n2 pl md) (hk : m_smR N P k pl md) : ∀ n2 : Nat, 1 ≤ n2 → n2 < k + 1 → m_smR N P n2 pl md := by
  intro n2 h1 h2
  rcases Nat.lt_or_ge n2 k with z | z
  · exact h n2 h1 z
  · rw [show n2 = k by omega]
    exact hk
/-- what the search finds: the least bottom, and by it the least top -/
def m_SMP (t b : Int64) (k : Nat) (md : Int32) (p : Int64 × Int64) : Prop := ∃ (n : Nat) (T : Int64), 1 ≤ n ∧ n ≤ 100 ∧ T.toInt.natAbs ≤ 20000000000000 ∧ p = (m_loT T (lN n), m_loB T (lN n)) ∧ m_cut T (lN n) (nI k) md = m_cut t b (nI k) md ∧
  (∀ (n2 : Nat) (T2 : Int64), 1 ≤ n2 → n2 < n → ((m_cut t b (nI k) md).toInt - 1) * n2 / (m_pow (nI k)).toInt ≤ T2.toInt → T2.toInt ≤ ((m_cut t b (nI k) md).toInt + 1) * n2 / (m_pow (nI k)).toInt + 1 → m_cut T2 (lN n2) (nI k) md ≠ m_cut t b (nI k) md) ∧
  (∀ T2 : Int64, ((m_cut t b (nI k) md).toInt - 1) * n / (m_pow (nI k)).toInt ≤ T2.toInt → T2.toInt < T.toInt → m_cut T2 (lN n) (nI k) md ≠ m_cut t b (nI k) md)
theorem m_SMPof {ta ba t8 Y N P : Int64} {pl md : Int32} {kp k : Nat} (hpl : pl = nI kp) (hN : N = m_cut ta ba pl md) (hP : P = m_pow pl) (h1 : 1 ≤ k) (h2 : k ≤ 100) (h3 : t8.toInt.natAbs ≤ 20000000000000) (hY : Y = lN k) (hc : m_cut t8 Y pl md = N) (hno : ∀ n2 : Nat, 1 ≤ n2 → n2 < k → m_smR N P n2 pl md) (hin : m_smI N P k pl md t8) : m_SMP ta ba kp md (m_loT t8 Y, m_loB t8 Y) := by
  subst hpl hN hP hY
  exact ⟨k, t8, h1, h2, h3, rfl, hc, fun n2 T2 g1 g2 => hno n2 g1 g2 T2, hin⟩
