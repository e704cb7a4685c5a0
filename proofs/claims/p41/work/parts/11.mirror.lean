/-! ===== what the class's methods do, as functions (its own words, step by step) ===== -/
def fdv (x y : Int64) : Int64 := if 0 ≤ (x ^^^ y) then x / y else if x / y * y = x then x / y else x / y - 1
def f_floorOf (n d : Int64) : Int64 := if d = 0 then 0 else fdv n d
def gcdL : Nat → Int64 → Int64 → Int64
  | 0, a, _ => a
  | n + 1, a, b => if b = 0 then a else gcdL n b (a - a / b * b)
def absL (a : Int64) : Int64 := if 0 ≤ a then a else -a
def f_gcd (a b : Int64) : Int64 := gcdL 200 (absL a) (absL b)
def f_p10 (x : Int32) : Int64 := if x < 0 then 1 else if 10 ≤ x then 1 else p10 x.toNatClampNeg
def powL : Nat → Int64 → Int64 → Int64
  | 0, _, p => p
  | n + 1, b, p => if 1000000000 < p then p else powL n b (p * b)
def f_pow (b : Int64) (m : Int32) : Int64 := powL m.toNatClampNeg b 1
def f_cutUp (ls lf bt : Int64) (md : Int32) : Int32 :=
  if md = 0 then (if ls < 0 then 1 else 0) else if md = 1 then 0 else if md = 2 then 1
  else if md = 3 then (if bt < 2 * lf then 1 else if 2 * lf = bt then (if 0 ≤ ls then 1 else 0) else 0)
  else (if bt < 2 * lf then 1 else if 2 * lf = bt then (if ls &&& 1 = 1 then 1 else 0) else 0)
def f_cut2 (sc ls b : Int64) (md : Int32) : Int64 := if sc - ls * b ≤ 0 then ls else if f_cutUp ls (sc - ls * b) b md = 0 then ls else ls + 1
def f_cutNum (t b : Int64) (pl md : Int32) : Int64 := f_cut2 (t * f_p10 pl) (f_floorOf (t * f_p10 pl) b) b md
def f_dv (t b : Int64) : Int64 := if 0 ≤ b then f_gcd t b else -(f_gcd t b)
def f_assign (g : CS) (i j : Nat) : CS := uB (uT g i (tT g j)) i (tB g j)
def f_become (g : CS) (i : Nat) (t b : Int64) : CS := if b = 0 then g else uB (uT g i (f_floorOf t (f_dv t b))) i (f_floorOf b (f_dv t b))
def f_fit (t b : Int64) : Int32 := if -1000000000 ≤ t then (if t ≤ 1000000000 then (if b ≤ 1000000000 then 1 else 0) else 0) else 0
def f_same (t b t2 b2 : Int64) : Int32 := if t = t2 then (if b = b2 then 1 else 0) else 0
def f_cmp (x y : Int64) : Int32 := if x < y then -1 else if x = y then 0 else 1
def f_one (t b : Int64) : Int32 := if t = 1 then (if b = 1 then 1 else 0) else 0
def f_next (t b t2 b2 : Int64) : Int32 := if t * b2 - t2 * b = 1 then 1 else if t * b2 - t2 * b = -1 then 1 else 0
def f_gather (g : CS) (i : Nat) (t b t2 b2 : Int64) : CS := f_become g i (t * f_floorOf b2 (f_gcd b b2) + t2 * f_floorOf b (f_gcd b b2)) (f_floorOf b (f_gcd b b2) * b2)
def f_sum (g : CS) (i j k : Nat) : CS := f_gather g i (tT g j) (tB g j) (tT g k) (tB g k)
def f_dif (g : CS) (i j k : Nat) : CS := f_gather g i (tT g j) (tB g j) (-tT g k) (tB g k)
def f_mul (g : CS) (i j k : Nat) : CS := f_become g i (tT g j * tT g k) (tB g j * tB g k)
def f_quo (g : CS) (i j k : Nat) : CS := f_become g i (tT g j * tB g k) (tB g j * tT g k)
def f_med (g : CS) (i j k : Nat) : CS := f_become g i (tT g j + tT g k) (tB g j + tB g k)
def f_abs32 (x : Int32) : Int32 := if 0 ≤ x then x else -x
def f_powT (t : Int64) (m : Int32) : Int64 := if 0 ≤ t then f_pow (absL t) m else if m &&& 1 = 1 then -(f_pow (absL t) m) else f_pow (absL t) m
def f_power (g : CS) (i j : Nat) (x : Int32) : CS := if 0 ≤ x then f_become g i (f_powT (tT g j) (f_abs32 x)) (f_pow (tB g j) (f_abs32 x)) else f_become g i (f_pow (tB g j) (f_abs32 x)) (f_powT (tT g j) (f_abs32 x))
def f_foll (g : CS) (i j : Nat) : CS := f_become g i (tB g j) ((2 * f_floorOf (tT g j) (tB g j) + 1) * tB g j - tT g j)
def f_fore (g : CS) (i j : Nat) : CS := f_become g i ((2 * f_floorOf (tB g j - 1) (tT g j) + 1) * tT g j - tB g j) (tT g j)
/-- lemmas of the walks -/
theorem ne_ti {x : Int32} (k : Int32) (z : Int) (hz : k.toInt = z) (h : ¬ x = k) : x.toInt ≠ z := fun q => h (Int32.toInt_inj.mp (q.trans hz.symm))
theorem vp_of2 {x : Int32} {n : Nat} {k : Int32} (hk : k.toInt = (n : Int)) (h1 : ¬ x < 0) (h2 : ¬ k ≤ x) : vp_in x n := by
  rw [vp_in_iff]
  have a := Int32.lt_iff_toInt_lt (x := x) (y := 0)
  have b := Int32.le_iff_toInt_le (x := k) (y := x)
  have c : (0 : Int32).toInt = 0 := by decide
  rw [hk] at b
  rw [c] at a
  have a1 : ¬ x.toInt < 0 := fun z => h1 (a.mpr z)
  have b1 : ¬ (n : Int) ≤ x.toInt := fun z => h2 (b.mpr z)
  omega
theorem gcdL_z {n : Nat} {a b : Int64} (h : b = 0) : gcdL n a b = a := by
  cases n with
  | zero => rfl
  | succ n => simp [gcdL, h]
theorem i_le {x K : Int32} {k n : Nat} (hx : x = nI k) (hK : K = nI n) (hk : k < 2 ^ 31) (hn : n < 2 ^ 31) : K ≤ x ↔ n ≤ k := by
  subst hx hK; exact nI_leI hn hk
theorem i_lt {x K : Int32} {k n : Nat} (hx : x = nI k) (hK : K = nI n) (hk : k < 2 ^ 31) (hn : n < 2 ^ 31) : x < K ↔ k < n := by
  subst hx hK; exact nI_ltI hk hn
theorem i_in {x : Int32} {k N : Nat} (hx : x = nI k) (hk : k < N) (hN : N < 2 ^ 31) : vp_in x N := by
  subst hx; exact vp_in_nI hk hN
theorem i_cl {x : Int32} {k : Nat} (hx : x = nI k) (hk : k < 2 ^ 31) : x.toNatClampNeg = k := by
  subst hx; exact nI_clamp hk
theorem i_up {x y : Int32} {k : Nat} (hx : x = nI k) (hy : y = x + 1) : y = nI (k + 1) := by
  subst hx; rw [hy]; exact nI_1 k
theorem powL_z {n : Nat} {b p : Int64} (h : 1000000000 < p) : powL n b p = p := by
  cases n with
  | zero => rfl
  | succ n => simp [powL, h]
theorem i_cmp {x m : Int32} {k : Nat} (hx : x = nI k) (hk : k ≤ m.toNatClampNeg) : (m ≤ x ↔ m.toNatClampNeg ≤ k) := by
  have hm : m.toNatClampNeg < 2 ^ 31 := Int32.toNatClampNeg_lt m
  subst hx
  rw [Int32.le_iff_toInt_le, nI_toInt (by omega)]
  have h1 : m.toNatClampNeg = m.toInt.toNat := rfl
  omega
theorem i_mle {x m : Int32} {k : Nat} (hx : x = nI k) (hk : k ≤ m.toNatClampNeg) : m ≤ x ↔ m.toNatClampNeg - k = 0 := by
  rw [i_cmp hx hk]; omega
theorem i_mlt {x m : Int32} {k : Nat} (hx : x = nI k) (hk : k ≤ m.toNatClampNeg) : ¬ m ≤ x ↔ k < m.toNatClampNeg := by
  rw [i_cmp hx hk]; omega
