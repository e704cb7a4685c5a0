/-! ===== what the class's methods do, as functions (its own words, step by step) ===== -/
def fdv (x y : Int64) : Int64 := if 0 ≤ (x ^^^ y) then x / y else if x / y * y = x then x / y else x / y - 1
def f_floorOf (n d : Int64) : Int64 := if d = 0 then 0 else fdv n d
def gcdL : Nat → Int64 → Int64 → Int64
  | 0, a, _ => a
  | n + 1, a, b => if b = 0 then a else gcdL n b (a - a / b * b)
def absL (a : Int64) : Int64 := if 0 ≤ a then a else -a
def f_gcd (a b : Int64) : Int64 := gcdL 200 (absL a) (absL b)
def f_p10 (x : Int32) : Int64 := if x < 0 then 1 else if 10 ≤ x then 1 else p10 x.toNatClampNeg
def powL : Nat → Int64 → Int64 → Int64
  | 0, _, p => p
  | n + 1, b, p => if 1000000000 < p then p else powL n b (p * b)
def f_pow (b : Int64) (m : Int32) : Int64 := powL m.toNatClampNeg b 1
def f_cutUp (ls lf bt : Int64) (md : Int32) : Int32 :=
  if md = 0 then (if ls < 0 then 1 else 0) else if md = 1 then 0 else if md = 2 then 1
  else if md = 3 then (if bt < 2 * lf then 1 else if 2 * lf = bt then (if 0 ≤ ls then 1 else 0) else 0)
  else (if bt < 2 * lf then 1 else if 2 * lf = bt then (if ls &&& 1 = 1 then 1 else 0) else 0)
def f_cut2 (sc ls b : Int64) (md : Int32) : Int64 := if sc - ls * b ≤ 0 then ls else if f_cutUp ls (sc - ls * b) b md = 0 then ls else ls + 1
def f_cutNum (t b : Int64) (pl md : Int32) : Int64 := f_cut2 (t * f_p10 pl) (f_floorOf (t * f_p10 pl) b) b md
def f_dv (t b : Int64) : Int64 := if 0 ≤ b then f_gcd t b else -(f_gcd t b)
def f_assign (g : CS) (i j : Nat) : CS := uB (uT g i (tT g j)) i (tB g j)
def f_become (g : CS) (i : Nat) (t b : Int64) : CS := if b = 0 then g else uB (uT g i (f_floorOf t (f_dv t b))) i (f_floorOf b (f_dv t b))
def f_fit (t b : Int64) : Int32 := if t < -1000000000 then 0 else if 1000000000 < t then 0 else if 1000000000 < b then 0 else 1
def f_same (t b t2 b2 : Int64) : Int32 := if t = t2 then (if b = b2 then 1 else 0) else 0
def f_cmp (x y : Int64) : Int32 := if x < y then -1 else if x = y then 0 else 1
def f_one (t b : Int64) : Int32 := if t = 1 then (if b = 1 then 1 else 0) else 0
def f_next (t b t2 b2 : Int64) : Int32 := if t * b2 - t2 * b = 1 then 1 else if t * b2 - t2 * b = -1 then 1 else 0
def f_gather (g : CS) (i : Nat) (t b t2 b2 : Int64) : CS := f_become g i (t * f_floorOf b2 (f_gcd b b2) + t2 * f_floorOf b (f_gcd b b2)) (f_floorOf b (f_gcd b b2) * b2)
def f_sum (g : CS) (i j k : Nat) : CS := f_gather g i (tT g j) (tB g j) (tT g k) (tB g k)
def f_dif (g : CS) (i j k : Nat) : CS := f_gather g i (tT g j) (tB g j) (-tT g k) (tB g k)
def f_mul (g : CS) (i j k : Nat) : CS := f_become g i (tT g j * tT g k) (tB g j * tB g k)
def f_quo (g : CS) (i j k : Nat) : CS := f_become g i (tT g j * tB g k) (tB g j * tT g k)
def f_med (g : CS) (i j k : Nat) : CS := f_become g i (tT g j + tT g k) (tB g j + tB g k)
def f_abs32 (x : Int32) : Int32 := if 0 ≤ x then x else -x
def f_powT (t : Int64) (m : Int32) : Int64 := if 0 ≤ t then f_pow (absL t) m else if m &&& 1 = 1 then -(f_pow (absL t) m) else f_pow (absL t) m
def f_power (g : CS) (i j : Nat) (x : Int32) : CS := if 0 ≤ x then f_become g i (f_powT (tT g j) (f_abs32 x)) (f_pow (tB g j) (f_abs32 x)) else f_become g i (f_pow (tB g j) (f_abs32 x)) (f_powT (tT g j) (f_abs32 x))
def f_foll (g : CS) (i j : Nat) : CS := f_become g i (tB g j) ((2 * f_floorOf (tT g j) (tB g j) + 1) * tB g j - tT g j)
def f_fore (g : CS) (i j : Nat) : CS := f_become g i ((2 * f_floorOf (tB g j - 1) (tT g j) + 1) * tT g j - tB g j) (tT g j)
def f_at (g : CS) (j : Nat) (k : Int32) : Int64 := if k < 0 then 0 else if tC g j ≤ k then 0 else if 64 ≤ k then 0 else tV g j k.toNatClampNeg
def f_addLast (g : CS) (j : Nat) (v : Int64) : CS := if tC g j < 0 then g else if 64 ≤ tC g j then g else uC (uV g j (tC g j).toNatClampNeg v) j (tC g j + 1)
def f_addTo (g : CS) (j : Nat) (v : Int64) : CS := if tC g j - 1 < 0 then g else if 64 ≤ tC g j - 1 then g else uV g j (tC g j - 1).toNatClampNeg (tV g j (tC g j - 1).toNatClampNeg + v)
def f_keep (g : CS) (j : Nat) (k : Int32) : CS := if k < 0 then g else if tC g j ≤ k then g else uC g j k
def totL (g : CS) (j : Nat) : Nat → Nat → Int64 → Int64
  | 0, _, a => a
  | n + 1, k, a => totL g j n (k + 1) (a + f_at g j (nI k))
def f_total (g : CS) (j : Nat) : Int64 := totL g j (tC g j).toNatClampNeg 0 0
def apartL (j : Nat) : Nat → CS → Int64 → Int64 → CS
  | 0, g, _, _ => g
  | n + 1, g, t, b => if b = 0 then g else apartL j n (f_addLast g j (f_floorOf t b)) b (t - f_floorOf t b * b)
def f_apart (g : CS) (j i : Nat) : CS := apartL j 64 (uC g j 0) (tT g i) (tB g i)
def foldL (g : CS) (j : Nat) : Nat → Int64 → Int64 → Option (Int64 × Int64)
  | 0, t, b => some (t, b)
  | n + 1, t, b => if f_at g j (nI (n + 1)) < 1 then none else if 4000000000 < t then none else foldL g j n (f_at g j (nI n) * t + b) t
def f_fold (g : CS) (j : Nat) : Option (Int64 × Int64) := if 1 ≤ tC g j then foldL g j (tC g j - 1).toNatClampNeg (f_at g j (tC g j - 1)) 1 else none
def f_foldR (g : CS) (j : Nat) : Int32 := match f_fold g j with
  | none => 0
  | some _ => 1
def f_foldW (g : CS) (j i : Nat) : CS := match f_fold g j with
  | none => g
  | some q => f_become g i q.1 q.2
def nbL (m nb : Int64) : Nat → Nat → Int64 → Int64 → Int64 × Int64
  | 0, _, bt, bb => (bt, bb)
  | n + 1, k, bt, bb => if f_floorOf (m * lN k) nb * bb ≤ bt * lN k then nbL m nb n (k + 1) bt bb else nbL m nb n (k + 1) (f_floorOf (m * lN k) nb) (lN k)
def f_nb2 (m nb : Int64) (bd : Int32) : Int64 × Int64 := nbL m nb (bd.toInt.toNat - 1) 2 (f_floorOf m nb) 1
def f_nb (g : CS) (i j : Nat) (bd sd : Int32) : CS := f_become g i (sd.toInt64 * (f_nb2 (sd.toInt64 * tT g j) (tB g j) bd).1) (f_nb2 (sd.toInt64 * tT g j) (tB g j) bd).2
/-- lemmas of the walks -/
theorem ne_ti {x : Int32} (k : Int32) (z : Int) (hz : k.toInt = z) (h : ¬ x = k) : x.toInt ≠ z := fun q => h (Int32.toInt_inj.mp (q.trans hz.symm))
theorem vp_of2 {x : Int32} {n : Nat} {k : Int32} (hk : k.toInt = (n : Int)) (h1 : ¬ x < 0) (h2 : ¬ k ≤ x) : vp_in x n := by
  rw [vp_in_iff]
  have a := Int32.lt_iff_toInt_lt (x := x) (y := 0)
  have b := Int32.le_iff_toInt_le (x := k) (y := x)
  have c : (0 : Int32).toInt = 0 := by decide
  rw [hk] at b
  rw [c] at a
  have a1 : ¬ x.toInt < 0 := fun z => h1 (a.mpr z)
  have b1 : ¬ (n : Int) ≤ x.toInt := fun z => h2 (b.mpr z)
  omega
theorem vp_of3 {x : Int32} {n : Nat} {k : Int32} (hk : k.toInt = (n : Int)) (h1 : 0 ≤ x) (h2 : x < k) : vp_in x n :=
  vp_of2 hk (fun z => Int32.not_lt.mpr h1 z) (fun z => Int32.not_lt.mpr z h2)
theorem gcdL_z {n : Nat} {a b : Int64} (h : b = 0) : gcdL n a b = a := by
  cases n with
  | zero => rfl
  | succ n => simp [gcdL, h]
theorem i_le {x K : Int32} {k n : Nat} (hx : x = nI k) (hK : K = nI n) (hk : k < 2 ^ 31) (hn : n < 2 ^ 31) : K ≤ x ↔ n ≤ k := by
  subst hx hK; exact nI_leI hn hk
theorem i_lt {x K : Int32} {k n : Nat} (hx : x = nI k) (hK : K = nI n) (hk : k < 2 ^ 31) (hn : n < 2 ^ 31) : x < K ↔ k < n := by
  subst hx hK; exact nI_ltI hk hn
theorem i_in {x : Int32} {k N : Nat} (hx : x = nI k) (hk : k < N) (hN : N < 2 ^ 31) : vp_in x N := by
  subst hx; exact vp_in_nI hk hN
theorem i_cl {x : Int32} {k : Nat} (hx : x = nI k) (hk : k < 2 ^ 31) : x.toNatClampNeg = k := by
  subst hx; exact nI_clamp hk
theorem i_up {x y : Int32} {k : Nat} (hx : x = nI k) (hy : y = x + 1) : y = nI (k + 1) := by
  subst hx; rw [hy]; exact nI_1 k
theorem powL_z {n : Nat} {b p : Int64} (h : 1000000000 < p) : powL n b p = p := by
  cases n with
  | zero => rfl
  | succ n => simp [powL, h]
theorem i_cmp {x m : Int32} {k : Nat} (hx : x = nI k) (hk : k ≤ m.toNatClampNeg) : (m ≤ x ↔ m.toNatClampNeg ≤ k) := by
  have hm : m.toNatClampNeg < 2 ^ 31 := Int32.toNatClampNeg_lt m
  subst hx
  rw [Int32.le_iff_toInt_le, nI_toInt (by omega)]
  have h1 : m.toNatClampNeg = m.toInt.toNat := rfl
  omega
theorem i_mle {x m : Int32} {k : Nat} (hx : x = nI k) (hk : k ≤ m.toNatClampNeg) : m ≤ x ↔ m.toNatClampNeg - k = 0 := by
  rw [i_cmp hx hk]; omega
theorem i_mlt {x m : Int32} {k : Nat} (hx : x = nI k) (hk : k ≤ m.toNatClampNeg) : ¬ m ≤ x ↔ k < m.toNatClampNeg := by
  rw [i_cmp hx hk]; omega
theorem apartL_z {j n : Nat} {g : CS} {t b : Int64} (h : b = 0) : apartL j n g t b = g := by
  cases n with
  | zero => rfl
  | succ n => simp [apartL, h]
theorem p_TB (g : CS) (i : Nat) (v : Int64) : tT (uB g i v) = tT g := rfl
theorem p_TV (g : CS) (i kk : Nat) (v : Int64) : tT (uV g i kk v) = tT g := rfl
theorem p_TC (g : CS) (i : Nat) (v : Int32) : tT (uC g i v) = tT g := rfl
theorem p_TI (g : CS) (i : Nat) (v : Int32) : tT (uI g i v) = tT g := rfl
theorem p_BT (g : CS) (i : Nat) (v : Int64) : tB (uT g i v) = tB g := rfl
theorem p_BV (g : CS) (i kk : Nat) (v : Int64) : tB (uV g i kk v) = tB g := rfl
theorem p_BC (g : CS) (i : Nat) (v : Int32) : tB (uC g i v) = tB g := rfl
theorem p_BI (g : CS) (i : Nat) (v : Int32) : tB (uI g i v) = tB g := rfl
theorem p_VT (g : CS) (i : Nat) (v : Int64) : tV (uT g i v) = tV g := rfl
theorem p_VB (g : CS) (i : Nat) (v : Int64) : tV (uB g i v) = tV g := rfl
theorem p_VC (g : CS) (i : Nat) (v : Int32) : tV (uC g i v) = tV g := rfl
theorem p_VI (g : CS) (i : Nat) (v : Int32) : tV (uI g i v) = tV g := rfl
theorem p_CT (g : CS) (i : Nat) (v : Int64) : tC (uT g i v) = tC g := rfl
theorem p_CB (g : CS) (i : Nat) (v : Int64) : tC (uB g i v) = tC g := rfl
theorem p_CV (g : CS) (i kk : Nat) (v : Int64) : tC (uV g i kk v) = tC g := rfl
theorem p_CI (g : CS) (i : Nat) (v : Int32) : tC (uI g i v) = tC g := rfl
theorem p_IT (g : CS) (i : Nat) (v : Int64) : tI (uT g i v) = tI g := rfl
theorem p_IB (g : CS) (i : Nat) (v : Int64) : tI (uB g i v) = tI g := rfl
theorem p_IV (g : CS) (i kk : Nat) (v : Int64) : tI (uV g i kk v) = tI g := rfl
theorem p_IC (g : CS) (i : Nat) (v : Int32) : tI (uC g i v) = tI g := rfl
theorem p_TT (g : CS) (i : Nat) (v : Int64) : tT (uT g i v) = va_up (tT g) i v := rfl
theorem p_BB (g : CS) (i : Nat) (v : Int64) : tB (uB g i v) = va_up (tB g) i v := rfl
theorem p_CC (g : CS) (i : Nat) (v : Int32) : tC (uC g i v) = va_up (tC g) i v := rfl
theorem p_II (g : CS) (i : Nat) (v : Int32) : tI (uI g i v) = va_up (tI g) i v := rfl
theorem i32_pm {x : Int32} (a b c : Int32) (h : a + b = c) : x + a + b = x + c := by
  rw [Int32.add_assoc, h]
theorem f_prev {x : Int32} {k : Nat} (h : x + 1 = nI (k + 1)) : x = nI k := by
  have h2 : x + 1 + (-1) = nI (k + 1) + (-1) := by rw [h]
  rw [pk_m1, i32_pm 1 (-1) 0 (by decide), Int32.add_zero] at h2
  exact h2
theorem f_dn {x : Int32} {k : Nat} (h : x = nI k) : x + (-1) + 1 = nI k := by
  rw [i32_pm (-1) 1 0 (by decide), Int32.add_zero, h]
theorem f_pos {x : Int32} {k : Nat} (h : x + 1 = nI k) (hk : k < 2 ^ 31) (h0 : ¬ x < 0) : 0 < k := by
  rcases Nat.eq_zero_or_pos k with e | e
  · subst e
    have h2 : x + 1 + (-1) = nI 0 + (-1) := by rw [h]
    rw [i32_pm 1 (-1) 0 (by decide), Int32.add_zero] at h2
    rw [h2] at h0
    exact absurd (by decide) h0
  · exact e
theorem f_zero {x : Int32} {k : Nat} (h : x + 1 = nI k) (hk : k < 2 ^ 31) (h0 : x < 0) : k = 0 := by
  rcases Nat.eq_zero_or_pos k with e | e
  · exact e
  · obtain ⟨k1, rfl⟩ : ∃ k1, k = k1 + 1 := ⟨k - 1, by omega⟩
    have h2 := f_prev h
    rw [h2] at h0
    exact absurd h0 (nI_pos (by omega))
theorem f_first {x : Int32} (h : 1 ≤ x) : x - 2 + 1 = nI (x - 1).toNatClampNeg := by
  have h1 : x - 2 + 1 = x - 1 := by
    rw [Int32.sub_eq_add_neg, i32_pm (-2) 1 (-1) (by decide), ← Int32.sub_eq_add_neg]
  rw [h1]
  have h0 : ¬ x - 1 < 0 := by
    intro z
    have a := Int32.lt_iff_toInt_lt.mp z
    have b := Int32.le_iff_toInt_le.mp h
    have c := Int32.toInt_sub x 1
    have hx := x.toInt_lt
    have e0 : (0 : Int32).toInt = 0 := by decide
    have e1 : (1 : Int32).toInt = 1 := by decide
    rw [e0, c, e1] at a
    rw [e1] at b
    rw [Int.bmod_eq_of_le (by omega) (by omega)] at a
    omega
  obtain ⟨j, hj, e⟩ := nI_of h0
  rw [e, nI_clamp hj]
theorem lk_lt {bd : Int32} {y : Int64} {k : Nat} (hx : y = lN k) (h2 : 1 ≤ k) (hk : k < 2 ^ 33) : bd.toInt64 < y ↔ bd.toInt.toNat < k := by
  subst hx
  rw [Int64.lt_iff_toInt_lt, Int32.toInt_toInt64, pk_lT (by omega)]
  omega
theorem lk_gt {bd : Int32} {y : Int64} {k : Nat} (hx : y = lN k) (h2 : 2 ≤ k) (hk : k < 2 ^ 33) : bd.toInt64 < y ↔ bd.toInt.toNat < k := lk_lt hx (by omega) hk
theorem lk_ge {bd : Int32} {y : Int64} {k : Nat} (hx : y = lN k) (h2 : 2 ≤ k) (hk : k < 2 ^ 33) : ¬ bd.toInt64 < y ↔ k ≤ bd.toInt.toNat := by
  rw [lk_lt hx (by omega) hk]; omega
