/-! ===== what the class's methods do, as functions (its own words, step by step) ===== -/
def fdv (x y : Int64) : Int64 := if 0 ≤ (x ^^^ y) then x / y else if x / y * y = x then x / y else x / y - 1
def f_floorOf (n d : Int64) : Int64 := if d = 0 then 0 else fdv n d
def gcdL : Nat → Int64 → Int64 → Int64
  | 0, a, _ => a
  | n + 1, a, b => if b = 0 then a else gcdL n b (a - a / b * b)
def absL (a : Int64) : Int64 := if 0 ≤ a then a else -a
def f_gcd (a b : Int64) : Int64 := gcdL 200 (absL a) (absL b)
def f_p10 (x : Int32) : Int64 := if x < 0 then 1 else if 10 ≤ x then 1 else p10 x.toNatClampNeg
def powL : Nat → Int64 → Int64 → Int64
  | 0, _, p => p
  | n + 1, b, p => if 1000000000 < p then p else powL n b (p * b)
def f_pow (b : Int64) (m : Int32) : Int64 := powL m.toNatClampNeg b 1
def f_cutUp (ls lf bt : Int64) (md : Int32) : Int32 :=
  if md = 0 then (if ls < 0 then 1 else 0) else if md = 1 then 0 else if md = 2 then 1
  else if md = 3 then (if bt < 2 * lf then 1 else if 2 * lf = bt then (if 0 ≤ ls then 1 else 0) else 0)
  else (if bt < 2 * lf then 1 else if 2 * lf = bt then (if ls &&& 1 = 1 then 1 else 0) else 0)
def f_cut2 (sc ls b : Int64) (md : Int32) : Int64 := if sc - ls * b ≤ 0 then ls else if f_cutUp ls (sc - ls * b) b md = 0 then ls else ls + 1
def f_cutNum (t b : Int64) (pl md : Int32) : Int64 := f_cut2 (t * f_p10 pl) (f_floorOf (t * f_p10 pl) b) b md
def f_dv (t b : Int64) : Int64 := if 0 ≤ b then f_gcd t b else -(f_gcd t b)
def f_assign (g : CS) (i j : Nat) : CS := uB (uT g i (tT g j)) i (tB g j)
def f_become (g : CS) (i : Nat) (t b : Int64) : CS := if b = 0 then g else uB (uT g i (f_floorOf t (f_dv t b))) i (f_floorOf b (f_dv t b))
def f_fit (t b : Int64) : Int32 := if t < -1000000000 then 0 else if 1000000000 < t then 0 else if 1000000000 < b then 0 else 1
def f_same (t b t2 b2 : Int64) : Int32 := if t = t2 then (if b = b2 then 1 else 0) else 0
def f_cmp (x y : Int64) : Int32 := if x < y then -1 else if x = y then 0 else 1
def f_one (t b : Int64) : Int32 := if t = 1 then (if b = 1 then 1 else 0) else 0
def f_next (t b t2 b2 : Int64) : Int32 := if t * b2 - t2 * b = 1 then 1 else if t * b2 - t2 * b = -1 then 1 else 0
def f_gather (g : CS) (i : Nat) (t b t2 b2 : Int64) : CS := f_become g i (t * f_floorOf b2 (f_gcd b b2) + t2 * f_floorOf b (f_gcd b b2)) (f_floorOf b (f_gcd b b2) * b2)
def f_sum (g : CS) (i j k : Nat) : CS := f_gather g i (tT g j) (tB g j) (tT g k) (tB g k)
def f_dif (g : CS) (i j k : Nat) : CS := f_gather g i (tT g j) (tB g j) (-tT g k) (tB g k)
def f_mul (g : CS) (i j k : Nat) : CS := f_become g i (tT g j * tT g k) (tB g j * tB g k)
def f_quo (g : CS) (i j k : Nat) : CS := f_become g i (tT g j * tB g k) (tB g j * tT g k)
def f_med (g : CS) (i j k : Nat) : CS := f_become g i (tT g j + tT g k) (tB g j + tB g k)
def f_abs32 (x : Int32) : Int32 := if 0 ≤ x then x else -x
def f_powT (t : Int64) (m : Int32) : Int64 := if 0 ≤ t then f_pow (absL t) m else if m &&& 1 = 1 then -(f_pow (absL t) m) else f_pow (absL t) m
def f_power (g : CS) (i j : Nat) (x : Int32) : CS := if 0 ≤ x then f_become g i (f_powT (tT g j) (f_abs32 x)) (f_pow (tB g j) (f_abs32 x)) else f_become g i (f_pow (tB g j) (f_abs32 x)) (f_powT (tT g j) (f_abs32 x))
def f_foll (g : CS) (i j : Nat) : CS := f_become g i (tB g j) ((2 * f_floorOf (tT g j) (tB g j) + 1) * tB g j - tT g j)
def f_fore (g : CS) (i j : Nat) : CS := f_become g i ((2 * f_floorOf (tB g j - 1) (tT g j) + 1) * tT g j - tB g j) (tT g j)
def f_at (g : CS) (j : Nat) (k : Int32) : Int64 := if k < 0 then 0 else if tC g j ≤ k then 0 else if 64 ≤ k then 0 else tV g j k.toNatClampNeg
def f_addLast (g : CS) (j : Nat) (v : Int64) : CS := if tC g j < 0 then g else if 64 ≤ tC g j then g else uC (uV g j (tC g j).toNatClampNeg v) j (tC g j + 1)
def f_addTo (g : CS) (j : Nat) (v : Int64) : CS := if tC g j - 1 < 0 then g else if 64 ≤ tC g j - 1 then g else uV g j (tC g j - 1).toNatClampNeg (tV g j (tC g j - 1).toNatClampNeg + v)
def f_keep (g : CS) (j : Nat) (k : Int32) : CS := if k < 0 then g else if tC g j ≤ k then g else uC g j k
def totL (g : CS) (j : Nat) : Nat → Nat → Int64 → Int64
  | 0, _, a => a
  | n + 1, k, a => totL g j n (k + 1) (a + f_at g j (nI k))
def f_total (g : CS) (j : Nat) : Int64 := totL g j (tC g j).toNatClampNeg 0 0
def apartL (j : Nat) : Nat → CS → Int64 → Int64 → CS
  | 0, g, _, _ => g
  | n + 1, g, t, b => if b = 0 then g else apartL j n (f_addLast g j (f_floorOf t b)) b (t - f_floorOf t b * b)
def f_apart (g : CS) (j i : Nat) : CS := apartL j 64 (uC g j 0) (tT g i) (tB g i)
def foldL (g : CS) (j : Nat) : Nat → Int64 → Int64 → Option (Int64 × Int64)
  | 0, t, b => some (t, b)
  | n + 1, t, b => if f_at g j (nI (n + 1)) < 1 then none else if 4000000000 < t then none else foldL g j n (f_at g j (nI n) * t + b) t
def f_fold (g : CS) (j : Nat) : Option (Int64 × Int64) := if 1 ≤ tC g j then foldL g j (tC g j - 1).toNatClampNeg (f_at g j (tC g j - 1)) 1 else none
def f_foldR (g : CS) (j : Nat) : Int32 := match f_fold g j with
  | none => 0
  | some _ => 1
def f_foldW (g : CS) (j i : Nat) : CS := match f_fold g j with
  | none => g
  | some q => f_become g i q.1 q.2
def nbL (m nb : Int64) : Nat → Nat → Int64 → Int64 → Int64 × Int64
  | 0, _, bt, bb => (bt, bb)
  | n + 1, k, bt, bb => if f_floorOf (m * lN k) nb * bb ≤ bt * lN k then nbL m nb n (k + 1) bt bb else nbL m nb n (k + 1) (f_floorOf (m * lN k) nb) (lN k)
def f_nb2 (m nb : Int64) (bd : Int32) : Int64 × Int64 := nbL m nb (bd.toInt.toNat - 1) 2 (f_floorOf m nb) 1
def f_nb (g : CS) (i j : Nat) (bd sd : Int32) : CS := f_become g i (sd.toInt64 * (f_nb2 (sd.toInt64 * tT g j) (tB g j) bd).1) (f_nb2 (sd.toInt64 * tT g j) (tB g j) bd).2
/-- lemmas of the walks -/
theorem ne_ti {x : Int32} (k : Int32) (z : Int) (hz : k.toInt = z) (h : ¬ x = k) : x.toInt ≠ z := fun q => h (Int32.toInt_inj.mp (q.trans hz.symm))
theorem vp_of2 {x : Int32} {n : Nat} {k : Int32} (hk : k.toInt = (n : Int)) (h1 : ¬ x < 0) (h2 : ¬ k ≤ x) : vp_in x n := by
  rw [vp_in_iff]
  have a := Int32.lt_iff_toInt_lt (x := x) (y := 0)
  have b := Int32.le_iff_toInt_le (x := k) (y := x)
  have c : (0 : Int32).toInt = 0 := by decide
  rw [hk] at b
  rw [c] at a
  have a1 : ¬ x.toInt < 0 := fun z => h1 (a.mpr z)
  have b1 : ¬ (n : Int) ≤ x.toInt := fun z => h2 (b.mpr z)
  omega
theorem vp_of3 {x : Int32} {n : Nat} {k : Int32} (hk : k.toInt = (n : Int)) (h1 : 0 ≤ x) (h2 : x < k) : vp_in x n :=
  vp_of2 hk (fun z => Int32.not_lt.mpr h1 z) (fun z => Int32.not_lt.mpr z h2)
theorem gcdL_z {n : Nat} {a b : Int64} (h : b = 0) : gcdL n a b = a := by
  cases n with
  | zero => rfl
  | succ n => simp [gcdL, h]
theorem i_le {x K : Int32} {k n : Nat} (hx : x = nI k) (hK : K = nI n) (hk : k < 2 ^ 31) (hn : n < 2 ^ 31) : K ≤ x ↔ n ≤ k := by
  subst hx hK; exact nI_leI hn hk
theorem i_lt {x K : Int32} {k n : Nat} (hx : x = nI k) (hK : K = nI n) (hk : k < 2 ^ 31) (hn : n < 2 ^ 31) : x < K ↔ k < n := by
  subst hx hK; exact nI_ltI hk hn
theorem i_in {x : Int32} {k N : Nat} (hx : x = nI k) (hk : k < N) (hN : N < 2 ^ 31) : vp_in x N := by
  subst hx; exact vp_in_nI hk hN
theorem i_cl {x : Int32} {k : Nat} (hx : x = nI k) (hk : k < 2 ^ 31) : x.toNatClampNeg = k := by
  subst hx; exact nI_clamp hk
theorem i_up {x y : Int32} {k : Nat} (hx : x = nI k) (hy : y = x + 1) : y = nI (k + 1) := by
  subst hx; rw [hy]; exact nI_1 k
theorem powL_z {n : Nat} {b p : Int64} (h : 1000000000 < p) : powL n b p = p := by
  cases n with
  | zero => rfl
  | succ n => simp [powL, h]
theorem i_cmp {x m : Int32} {k : Nat} (hx : x = nI k) (hk : k ≤ m.toNatClampNeg) : (m ≤ x ↔ m.toNatClampNeg ≤ k) := by
  have hm : m.toNatClampNeg < 2 ^ 31 := Int32.toNatClampNeg_lt m
  subst hx
  rw [Int32.le_iff_toInt_le, nI_toInt (by omega)]
  have h1 : m.toNatClampNeg = m.toInt.toNat := rfl
  omega
theorem i_mle {x m : Int32} {k : Nat} (hx : x = nI k) (hk : k ≤ m.toNatClampNeg) : m ≤ x ↔ m.toNatClampNeg - k = 0 := by
  rw [i_cmp hx hk]; omega
theorem i_mlt {x m : Int32} {k : Nat} (hx : x = nI k) (hk : k ≤ m.toNatClampNeg) : ¬ m ≤ x ↔ k < m.toNatClampNeg := by
  rw [i_cmp hx hk]; omega
theorem apartL_z {j n : Nat} {g : CS} {t b : Int64} (h : b = 0) : apartL j n g t b = g := by
  cases n with
  | zero => rfl
  | succ n => simp [apartL, h]
theorem p_TB (g : CS) (i : Nat) (v : Int64) : tT (uB g i v) = tT g := rfl
theorem p_TV (g : CS) (i kk : Nat) (v : Int64) : tT (uV g i kk v) = tT g := rfl
theorem p_TC (g : CS) (i : Nat) (v : Int32) : tT (uC g i v) = tT g := rfl
theorem p_TI (g : CS) (i : Nat) (v : Int32) : tT (uI g i v) = tT g := rfl
theorem p_BT (g : CS) (i : Nat) (v : Int64) : tB (uT g i v) = tB g := rfl
theorem p_BV (g : CS) (i kk : Nat) (v : Int64) : tB (uV g i kk v) = tB g := rfl
theorem p_BC (g : CS) (i : Nat) (v : Int32) : tB (uC g i v) = tB g := rfl
theorem p_BI (g : CS) (i : Nat) (v : Int32) : tB (uI g i v) = tB g := rfl
theorem p_VT (g : CS) (i : Nat) (v : Int64) : tV (uT g i v) = tV g := rfl
theorem p_VB (g : CS) (i : Nat) (v : Int64) : tV (uB g i v) = tV g := rfl
theorem p_VC (g : CS) (i : Nat) (v : Int32) : tV (uC g i v) = tV g := rfl
theorem p_VI (g : CS) (i : Nat) (v : Int32) : tV (uI g i v) = tV g := rfl
theorem p_CT (g : CS) (i : Nat) (v : Int64) : tC (uT g i v) = tC g := rfl
theorem p_CB (g : CS) (i : Nat) (v : Int64) : tC (uB g i v) = tC g := rfl
theorem p_CV (g : CS) (i kk : Nat) (v : Int64) : tC (uV g i kk v) = tC g := rfl
theorem p_CI (g : CS) (i : Nat) (v : Int32) : tC (uI g i v) = tC g := rfl
theorem p_IT (g : CS) (i : Nat) (v : Int64) : tI (uT g i v) = tI g := rfl
theorem p_IB (g : CS) (i : Nat) (v : Int64) : tI (uB g i v) = tI g := rfl
theorem p_IV (g : CS) (i kk : Nat) (v : Int64) : tI (uV g i kk v) = tI g := rfl
theorem p_IC (g : CS) (i : Nat) (v : Int32) : tI (uC g i v) = tI g := rfl
theorem p_TT (g : CS) (i : Nat) (v : Int64) : tT (uT g i v) = va_up (tT g) i v := rfl
theorem p_BB (g : CS) (i : Nat) (v : Int64) : tB (uB g i v) = va_up (tB g) i v := rfl
theorem p_CC (g : CS) (i : Nat) (v : Int32) : tC (uC g i v) = va_up (tC g) i v := rfl
theorem p_II (g : CS) (i : Nat) (v : Int32) : tI (uI g i v) = va_up (tI g) i v := rfl
theorem i32_pm {x : Int32} (a b c : Int32) (h : a + b = c) : x + a + b = x + c := by
  rw [Int32.add_assoc, h]
theorem f_prev {x : Int32} {k : Nat} (h : x + 1 = nI (k + 1)) : x = nI k := by
  have h2 : x + 1 + (-1) = nI (k + 1) + (-1) := by rw [h]
  rw [pk_m1, i32_pm 1 (-1) 0 (by decide), Int32.add_zero] at h2
  exact h2
theorem f_dn {x : Int32} {k : Nat} (h : x = nI k) : x + (-1) + 1 = nI k := by
  rw [i32_pm (-1) 1 0 (by decide), Int32.add_zero, h]
theorem f_pos {x : Int32} {k : Nat} (h : x + 1 = nI k) (hk : k < 2 ^ 31) (h0 : ¬ x < 0) : 0 < k := by
  rcases Nat.eq_zero_or_pos k with e | e
  · subst e
    have h2 : x + 1 + (-1) = nI 0 + (-1) := by rw [h]
    rw [i32_pm 1 (-1) 0 (by decide), Int32.add_zero] at h2
    rw [h2] at h0
    exact absurd (by decide) h0
  · exact e
theorem f_zero {x : Int32} {k : Nat} (h : x + 1 = nI k) (hk : k < 2 ^ 31) (h0 : x < 0) : k = 0 := by
  rcases Nat.eq_zero_or_pos k with e | e
  · exact e
  · obtain ⟨k1, rfl⟩ : ∃ k1, k = k1 + 1 := ⟨k - 1, by omega⟩
    have h2 := f_prev h
    rw [h2] at h0
    exact absurd h0 (nI_pos (by omega))
theorem f_first {x : Int32} (h : 1 ≤ x) : x - 2 + 1 = nI (x - 1).toNatClampNeg := by
  have h1 : x - 2 + 1 = x - 1 := by
    rw [Int32.sub_eq_add_neg, i32_pm (-2) 1 (-1) (by decide), ← Int32.sub_eq_add_neg]
  rw [h1]
  have h0 : ¬ x - 1 < 0 := by
    intro z
    have a := Int32.lt_iff_toInt_lt.mp z
    have b := Int32.le_iff_toInt_le.mp h
    have c := Int32.toInt_sub x 1
    have hx := x.toInt_lt
    have e0 : (0 : Int32).toInt = 0 := by decide
    have e1 : (1 : Int32).toInt = 1 := by decide
    rw [e0, c, e1] at a
    rw [e1] at b
    rw [Int.bmod_eq_of_le (by omega) (by omega)] at a
    omega
  obtain ⟨j, hj, e⟩ := nI_of h0
  rw [e, nI_clamp hj]
theorem lk_lt {bd : Int32} {y : Int64} {k : Nat} (hx : y = lN k) (h2 : 1 ≤ k) (hk : k < 2 ^ 33) : bd.toInt64 < y ↔ bd.toInt.toNat < k := by
  subst hx
  rw [Int64.lt_iff_toInt_lt, Int32.toInt_toInt64, pk_lT (by omega)]
  omega
theorem lk_gt {bd : Int32} {y : Int64} {k : Nat} (hx : y = lN k) (h2 : 2 ≤ k) (hk : k < 2 ^ 33) : bd.toInt64 < y ↔ bd.toInt.toNat < k := lk_lt hx (by omega) hk
theorem lk_ge {bd : Int32} {y : Int64} {k : Nat} (hx : y = lN k) (h2 : 2 ≤ k) (hk : k < 2 ^ 33) : ¬ bd.toInt64 < y ↔ k ≤ bd.toInt.toNat := by
  rw [lk_lt hx (by omega) hk]; omega
/-! ===== what the calls of the class do ===== -/
abbrev nn (x : Int32) : Nat := x.toNatClampNeg
theorem bR_lt {x : Int32} (h : bR x = 0) : nn x < 6 := by
  obtain ⟨h1, h2⟩ := bR_ok h
  have h3 := Int32.lt_iff_toInt_lt.mp h2
  have e0 : (6 : Int32).toInt = 6 := by decide
  have e1 : x.toNatClampNeg = x.toInt.toNat := rfl
  show x.toNatClampNeg < 6
  omega
theorem bR_in {x : Int32} (h : bR x = 0) : vp_in x 6 := by
  obtain ⟨h1, h2⟩ := bR_ok h
  exact vp_of2 (k := 6) (by decide) h1 (Int32.not_le.mpr h2)
theorem zb {v : Int32} (h : v = 0 ∨ v = 1) : narrow .boolean (.int v) = .int v := by
  rcases h with rfl | rfl <;> rfl
def f_refW (g : CS) : CS := uI g 0 (tI g 0 + 1)
def f_setR (g : CS) (i : Nat) : Int32 := if f_fit (tT g 6) (tB g 6) = 0 then -9 else if f_same (tT g 6) (tB g 6) (tT g i) (tB g i) = 0 then 1 else 0
def f_setW (g : CS) (i : Nat) : CS := if f_fit (tT g 6) (tB g 6) = 0 then f_refW g else if f_same (tT g 6) (tB g 6) (tT g i) (tB g i) = 0 then f_assign g i 6 else g
def f_swap (g : CS) (i k : Nat) : CS := f_assign (f_assign g 6 k) k i
def f_overR (g : CS) (i j k : Nat) : Int32 := if f_cmp (tT g k) 0 = 0 then -9 else f_setR (f_quo g 6 j k) i
def f_overW (g : CS) (i j k : Nat) : CS := if f_cmp (tT g k) 0 = 0 then f_refW g else f_setW (f_quo g 6 j k) i
def f_invR (g : CS) (i : Nat) : Int32 := if f_cmp (tT g i) 0 = 0 then -9 else f_setR (f_become g 6 (tB g i) (tT g i)) i
def f_invW (g : CS) (i : Nat) : CS := if f_cmp (tT g i) 0 = 0 then f_refW g else f_setW (f_become g 6 (tB g i) (tT g i)) i
def f_raiR (g : CS) (i : Nat) (x : Int32) : Int32 := if 0 ≤ x then f_setR (f_power g 6 i x) i else if f_cmp (tT g i) 0 = 0 then -9 else f_setR (f_power g 6 i x) i
def f_raiW (g : CS) (i : Nat) (x : Int32) : CS := if 0 ≤ x then f_setW (f_power g 6 i x) i else if f_cmp (tT g i) 0 = 0 then f_refW g else f_setW (f_power g 6 i x) i
def f_part (g : CS) (i : Nat) (w : Int32) : Int64 := if w = 0 then tT g i else if w = 1 then tB g i else if w = 2 then (f_cmp (tT g i) 0).toInt64 else f_floorOf (tT g i) (tB g i)
def f_term (g : CS) (k : Int32) : Int32 := if tC g 1 ≤ k then -9 else (f_at g 1 k).toInt32
def f_fsR (g : CS) (j i : Nat) : Int32 := if f_foldR g j = 0 then -9 else f_setR (f_foldW g j 6) i
def f_fsW (g : CS) (j i : Nat) : CS := if f_foldR g j = 0 then f_refW (f_foldW g j 6) else f_setW (f_foldW g j 6) i
def f_conR (g : CS) (i : Nat) (k : Int32) : Int32 := if tC g 1 ≤ k then -9 else f_fsR (f_keep g 1 (k + 1)) 1 i
def f_conW (g : CS) (i : Nat) (k : Int32) : CS := if tC g 1 ≤ k then f_refW g else f_fsW (f_keep g 1 (k + 1)) 1 i
def f_uns (g : CS) (x : Int32) : CS := if tC g 0 ≤ x then f_keep g 0 0 else f_keep g 0 (tC g 0 - x)
def f_upW (g : CS) (i : Nat) : CS := f_addTo (f_apart g 1 i) 1 (-1)
def f_stUR (g : CS) (i : Nat) : Int32 := f_foldR (f_upW g i) 1
def f_stUW (g : CS) (i : Nat) : CS := f_foldW (f_upW g i) 1 6
def f_dnG (g : CS) (b : Int32) : CS := if tC g 1 &&& 1 = 1 then (if b = 1 then f_addTo g 1 1 else f_addLast (f_addTo g 1 (-1)) 1 2) else (if b = 0 then f_addTo g 1 1 else f_addLast (f_addTo g 1 (-1)) 1 2)
def f_stDR (g : CS) (i : Nat) (b : Int32) : Int32 := f_foldR (f_dnG (f_apart g 1 i) b) 1
def f_stDW (g : CS) (i : Nat) (b : Int32) : CS := f_foldW (f_dnG (f_apart g 1 i) b) 1 6
def f_upR (g : CS) (i : Nat) : Int32 := if f_cmp (tT g i) 0 ≤ 0 then -9 else if f_one (tT g i) (tB g i) = 0 then (if f_stUR g i = 0 then -9 else f_setR (f_stUW g i) i) else -9
def f_upX (g : CS) (i : Nat) : CS := if f_cmp (tT g i) 0 ≤ 0 then f_refW g else if f_one (tT g i) (tB g i) = 0 then (if f_stUR g i = 0 then f_refW (f_stUW g i) else f_setW (f_stUW g i) i) else f_refW g
def f_dnR (g : CS) (i : Nat) (b : Int32) : Int32 := if f_cmp (tT g i) 0 ≤ 0 then -9 else if f_stDR g i b = 0 then -9 else f_setR (f_stDW g i b) i
def f_dnX (g : CS) (i : Nat) (b : Int32) : CS := if f_cmp (tT g i) 0 ≤ 0 then f_refW g else if f_stDR g i b = 0 then f_refW (f_stDW g i b) else f_setW (f_stDW g i b) i
def f_depR (g : CS) (i : Nat) : Int64 := if f_cmp (tT g i) 0 ≤ 0 then -9 else f_total (f_apart g 1 i) 1 - 1
def f_depW (g : CS) (i : Nat) : CS := if f_cmp (tT g i) 0 ≤ 0 then g else f_apart g 1 i
def f_befR (g : CS) (i : Nat) : Int32 := if f_cmp (tT g i) 0 ≤ 0 then -9 else if f_one (tT g i) (tB g i) = 0 then f_setR (f_fore g 6 i) i else -9
def f_befW (g : CS) (i : Nat) : CS := if f_cmp (tT g i) 0 ≤ 0 then f_refW g else if f_one (tT g i) (tB g i) = 0 then f_setW (f_fore g 6 i) i else f_refW g
def f_lbA (g : CS) (i : Nat) : Int64 := (tT g i * tB g 7 - tT g 7 * tB g i) * tB g 8
def f_lbB (g : CS) (i : Nat) : Int64 := (tT g 8 * tB g i - tT g i * tB g 8) * tB g 7
def f_lb (g : CS) (i : Nat) : Int32 := if f_lbA g i = f_lbB g i then (if tB g 7 ≤ tB g 8 then 1 else 0) else if f_lbA g i < f_lbB g i then 1 else 0
def f_bestG (g : CS) (j : Nat) (n : Int32) : CS := f_nb (f_nb g 7 j n 1) 8 j n (-1)
def f_best (g : CS) (j : Nat) (n : Int32) : CS := if f_lb (f_bestG g j n) j = 0 then f_assign (f_bestG g j n) 6 8 else f_assign (f_bestG g j n) 6 7
theorem f_foldR_b (g : CS) (j : Nat) : f_foldR g j = 0 ∨ f_foldR g j = 1 := by
  unfold f_foldR; split
  · exact Or.inl rfl
  · exact Or.inr rfl
theorem f_next_b (a b c d : Int64) : f_next a b c d = 0 ∨ f_next a b c d = 1 := by
  unfold f_next; split
  · exact Or.inr rfl
  · split
    · exact Or.inr rfl
    · exact Or.inl rfl
theorem f_same_b (a b c d : Int64) : f_same a b c d = 0 ∨ f_same a b c d = 1 := by
  unfold f_same; split
  · split
    · exact Or.inr rfl
    · exact Or.inl rfl
  · exact Or.inl rfl
def nxL : Nat → CS → CS ⊕ CS
  | 0, g => .inr g
  | n + 1, g => if f_fit (tT (f_foll g 6 6) 6) (tB (f_foll g 6 6) 6) = 0 then .inl (f_foll g 6 6) else nxL n (f_foll g 6 6)
def f_nxR (r : CS ⊕ CS) (i : Nat) : Int32 := match r with
  | .inl _ => -9
  | .inr g => f_setR g i
def f_nxW (r : CS ⊕ CS) (i : Nat) : CS := match r with
  | .inl g => f_refW g
  | .inr g => f_setW g i
def f_nextR (g : CS) (i : Nat) (m : Int32) : Int32 := if 0 < f_cmp (tT g i) 0 then f_nxR (nxL m.toNatClampNeg (f_assign g 6 i)) i else -9
def f_nextW (g : CS) (i : Nat) (m : Int32) : CS := if 0 < f_cmp (tT g i) 0 then f_nxW (nxL m.toNatClampNeg (f_assign g 6 i)) i else f_refW g
def f_clr (g : CS) : CS := uI (uI (f_become (f_become (f_become g 9 0 1) 10 0 1) 11 0 1) 2 0) 3 0
def f_max (a b : Int32) : Int32 := if a < b then b else a
def f_tk1 (g : CS) (i : Nat) (np md : Int32) : CS := f_gather (f_sum g 12 9 i) 13 (tT (f_sum g 12 9 i) 10) (tB (f_sum g 12 9 i) 10) (f_cutNum (tT (f_sum g 12 9 i) i) (tB (f_sum g 12 9 i) i) np md) (f_p10 np)
def f_tk4 (g : CS) : CS := f_assign (f_assign (f_assign g 9 12) 10 13) 11 14
def f_tk3 (g : CS) (np : Int32) : CS := uI (uI (f_tk4 g) 3 (f_max (tI (f_tk4 g) 3) np)) 2 (tI (uI (f_tk4 g) 3 (f_max (tI (f_tk4 g) 3) np)) 2 + 1)
def f_tk2R (g : CS) : Int32 := if f_fit (tT g 12) (tB g 12) = 0 then 0 else if f_fit (tT g 13) (tB g 13) = 0 then 0 else if f_fit (tT (f_dif g 14 12 13) 14) (tB (f_dif g 14 12 13) 14) = 0 then 0 else 1
def f_tk2W (g : CS) (np : Int32) : CS := if f_fit (tT g 12) (tB g 12) = 0 then g else if f_fit (tT g 13) (tB g 13) = 0 then g else if f_fit (tT (f_dif g 14 12 13) 14) (tB (f_dif g 14 12 13) 14) = 0 then f_dif g 14 12 13 else f_tk3 (f_dif g 14 12 13) np
def f_evR (g : CS) (i : Nat) : Int32 := f_same (tT (f_sum g i 10 11) i) (tB (f_sum g i 10 11) i) (tT (f_sum g i 10 11) 9) (tB (f_sum g i 10 11) 9)
def f_talR (g : CS) (i : Nat) (np md : Int32) : Int32 := if f_tk2R (f_tk1 g i np md) = 0 then -9 else tI (f_tk2W (f_tk1 g i np md) np) 2
def f_talW (g : CS) (i : Nat) (np md : Int32) : CS := if f_tk2R (f_tk1 g i np md) = 0 then f_refW (f_tk2W (f_tk1 g i np md) np) else f_tk2W (f_tk1 g i np md) np
def whL (g : CS) : Nat → Nat → Int32 → Int32
  | 0, _, a => a
  | n + 1, k, a => if tB g k = 1 then whL g n (k + 1) (a + 1) else whL g n (k + 1) a
def f_whole (g : CS) : Int32 := whL g 6 0 0
def f_cnt (g : CS) (w : Int32) : Int32 := if w = 0 then f_whole g else if w = 1 then tI g 0 else if w = 2 then tI g 1 else if w = 3 then tC g 0 else tI g 2
def smL (nT nB : Int64) (pl md : Int32) (w : Int64) : Nat → Nat → Option (Int64 × Int64)
  | 0, _ => none
  | n + 1, k => if f_cutNum (f_floorOf (nT * lN k) nB) (lN k) pl md = w then some (f_floorOf (nT * lN k) nB, lN k) else if f_cutNum (f_floorOf (nT * lN k) nB + 1) (lN k) pl md = w then some (f_floorOf (nT * lN k) nB + 1, lN k) else smL nT nB pl md w n (k + 1)
def f_smO (g : CS) (j : Nat) (pl md : Int32) : Option (Int64 × Int64) := smL (tT g j) (tB g j) pl md (f_cutNum (tT g j) (tB g j) pl md) (f_p10 pl).toInt.toNat 1
def f_sm (g : CS) (i j : Nat) (pl md : Int32) : CS := match f_smO g j pl md with
  | none => g
  | some q => f_become g i q.1 q.2
theorem f_tk2R_b (g : CS) : f_tk2R g = 0 ∨ f_tk2R g = 1 := by
  unfold f_tk2R; repeat' split
  all_goals first | exact Or.inl rfl | exact Or.inr rfl
theorem p10_bd : ∀ k, k < 10 → 1 ≤ (p10 k).toInt ∧ (p10 k).toInt ≤ 1000000000 := by decide
theorem f_p10_bd (x : Int32) : 1 ≤ (f_p10 x).toInt ∧ (f_p10 x).toInt ≤ 1000000000 := by
  unfold f_p10
  split
  · decide
  · split
    · decide
    · rename_i h1 h2
      have h3 := Int32.lt_iff_toInt_lt.mp (Int32.not_le.mp h2)
      have e0 : (10 : Int32).toInt = 10 := by decide
      have e1 : x.toNatClampNeg = x.toInt.toNat := rfl
      exact p10_bd _ (by omega)
theorem ll_lt {b y : Int64} {k : Nat} (hb : 0 ≤ b.toInt) (hx : y = lN k) (hk : k < 2 ^ 33) : b < y ↔ b.toInt.toNat < k := by
  subst hx
  rw [Int64.lt_iff_toInt_lt, pk_lT (by omega)]
  omega
theorem sm_t1 {u : Int64} (h : u.toInt < 4611686018427387904) : (u + 1).toInt = u.toInt + 1 := by
  have h1 := u.le_toInt
  have e1 : (1 : Int64).toInt = 1 := by decide
  rw [Int64.toInt_add, e1, Int.bmod_eq_of_le (by omega) (by omega)]
theorem sm_a {u : Int64} (h : u.toInt < 4611686018427387904) : ¬ u + 1 < u := by
  intro z
  have := Int64.lt_iff_toInt_lt.mp z
  rw [sm_t1 h] at this
  omega
theorem sm_b {u : Int64} (h : u.toInt < 4611686018427387904) : u + 1 < u + 1 + 1 := by
  rw [Int64.lt_iff_toInt_lt]
  have h1 := u.le_toInt
  have e1 : (1 : Int64).toInt = 1 := by decide
  rw [Int64.toInt_add (u + 1), sm_t1 h, e1, Int.bmod_eq_of_le (by omega) (by omega)]
  omega
set_option maxHeartbeats 4000000 in
set_option maxRecDepth 100000 in
/-- java/lang/Math.floorDiv(JJ)J -/
theorem c_J9_floorDiv_f86c9 (l : Launch) (D : va_G) (tk : Nat → ClassId) (N0 : Nat) (sa : Nat → Nat)  (sz : Nat) (x : Int64) (y : Int64) (hy : ¬ y = 0) : Met l yJ9_floorDiv_f86c9 (wsy yJ9_floorDiv_f86c9 cJ9_floorDiv_f86c9 6 (some .long)) ({ frames := 0, cells := 0, slots := 0, locals := 0 } : Room) (cP D tk N0 sa [.long x, .long y] sz (fun H => True)) (kQl (fun r H => r = fdv x y) (nwA sz)) (0) (0) (nwA sz) := by
  refine mStart RJ9 rfl (by decide +kernel) (Nat.le_of_ble_eq_true rfl) ?_
  intro p e s m args below meth c E hr hlk hnm hsz hC hF ls hl
  subst hsz
  obtain ⟨hx, hb, -⟩ := id E
  have hA : ∀ q, (nwA s.heap.size) q → N0 ≤ q := fun q h => Nat.le_trans hC.2.1 h
  have hn : ∀ q, s.heap.size ≤ q → (nwA s.heap.size) q := fun q h => h
  have hS : va_S (nwA s.heap.size) s.heap s.heap [] := va_S.rf
  have hl : lv_has ls 6 [(0, .long x), (2, .long y)] := hl
  refine lv_lload_n (pc := 0) hx hb dJ9_floorDiv_f86c9_0 rfl (lv_at hl 0 rfl) ?_
  refine lv_lload_n (pc := 1) hx hb dJ9_floorDiv_f86c9_1 rfl (lv_at hl 1 rfl) ?_
  refine lv_ldiv (pc := 2) hx hb dJ9_floorDiv_f86c9_2 (hy) ?_
  obtain ⟨x_1, ex_1⟩ : ∃ z9 : Int64, z9 = x / y := ⟨_, rfl⟩
  rw [← ex_1]
  refine lv_lstore (pc := 3) (lv' := [(4, .long x_1), (0, .long x), (2, .long y)]) hx hb dJ9_floorDiv_f86c9_3 hl (by decide) rfl (fun ls hl => ?_)
  refine lv_lload_n (pc := 5) hx hb dJ9_floorDiv_f86c9_5 rfl (lv_at hl 1 rfl) ?_
  refine lv_lload_n (pc := 6) hx hb dJ9_floorDiv_f86c9_6 rfl (lv_at hl 2 rfl) ?_
  refine lv_lxor (pc := 7) hx hb dJ9_floorDiv_f86c9_7 ?_
  refine lv_lconst (pc := 8) (v := 0) hx hb dJ9_floorDiv_f86c9_8 (by decide) ?_
  refine r_lcge (pc := 9) (tgt := 27) E dJ9_floorDiv_f86c9_9 dJ9_floorDiv_f86c9_10 (by decide) (fun c_2 => ?_) (fun c_2 => ?_)
  · refine lv_lload (pc := 27) hx hb dJ9_floorDiv_f86c9_27 (lv_at hl 0 rfl) ?_
    refine r_lret (pc := 29) E hr hlk hS (by decide) (by decide) ?_ dJ9_floorDiv_f86c9_29
    subst ex_1; first | with_reducible rfl | (simp [fdv, c_2, Int64.not_lt.mpr c_2, p_TB, p_TV, p_TC, p_TI, p_BT, p_BV, p_BC, p_BI, p_VT, p_VB, p_VC, p_VI, p_CT, p_CB, p_CV, p_CI, p_IT, p_IB, p_IV, p_IC, p_TT, p_BB, p_CC, p_II]; done)
  · refine lv_lload (pc := 13) hx hb dJ9_floorDiv_f86c9_13 (lv_at hl 0 rfl) ?_
    refine lv_lload_n (pc := 15) hx hb dJ9_floorDiv_f86c9_15 rfl (lv_at hl 2 rfl) ?_
    refine lv_lmul (pc := 16) hx hb dJ9_floorDiv_f86c9_16 ?_
    refine lv_lload_n (pc := 17) hx hb dJ9_floorDiv_f86c9_17 rfl (lv_at hl 1 rfl) ?_
    refine r_lceq (pc := 18) (tgt := 27) E dJ9_floorDiv_f86c9_18 dJ9_floorDiv_f86c9_19 (by decide) (fun c_3 => ?_) (fun c_3 => ?_)
    · refine lv_lload (pc := 27) hx hb dJ9_floorDiv_f86c9_27 (lv_at hl 0 rfl) ?_
      refine r_lret (pc := 29) E hr hlk hS (by decide) (by decide) ?_ dJ9_floorDiv_f86c9_29
      subst ex_1; first | with_reducible rfl | (simp [fdv, c_2, Int64.not_le.mp c_2, c_3, p_TB, p_TV, p_TC, p_TI, p_BT, p_BV, p_BC, p_BI, p_VT, p_VB, p_VC, p_VI, p_CT, p_CB, p_CV, p_CI, p_IT, p_IB, p_IV, p_IC, p_TT, p_BB, p_CC, p_II]; done)
    · refine lv_lload (pc := 22) hx hb dJ9_floorDiv_f86c9_22 (lv_at hl 0 rfl) ?_
      refine lv_lconst (pc := 24) (v := 1) hx hb dJ9_floorDiv_f86c9_24 (by decide) ?_
      refine lv_lsub (pc := 25) hx hb dJ9_floorDiv_f86c9_25 ?_
      refine r_lret (pc := 26) E hr hlk hS (by decide) (by decide) ?_ dJ9_floorDiv_f86c9_26
      subst ex_1; first | with_reducible rfl | (simp [fdv, c_2, Int64.not_le.mp c_2, c_3, p_TB, p_TV, p_TC, p_TI, p_BT, p_BV, p_BC, p_BI, p_VT, p_VB, p_VC, p_VI, p_CT, p_CB, p_CV, p_CI, p_IT, p_IB, p_IV, p_IC, p_TT, p_BB, p_CC, p_II]; done)

set_option maxHeartbeats 4000000 in
set_option maxRecDepth 100000 in
/-- Bestratios.floorOf(JJ)J -/
theorem c_X3_floorOf (l : Launch) (D : va_G) (tk : Nat → ClassId) (N0 : Nat) (sa : Nat → Nat)  (sz : Nat) (n : Int64) (d : Int64) : Met l yX3_floorOf (wsy yX3_floorOf cX3_floorOf 4 (some .long)) ({ frames := 1, cells := 0, slots := 0, locals := 25 } : Room) (cP D tk N0 sa [.long n, .long d] sz (fun H => True)) (kQl (fun r H => r = f_floorOf n d) (nwA sz)) (0) (0) (nwA sz) := by
  refine mStart RX3 rfl (by decide +kernel) (Nat.le_of_ble_eq_true rfl) ?_
  intro p e s m args below meth c E hr hlk hnm hsz hC hF ls hl
  subst hsz
  obtain ⟨hx, hb, -⟩ := id E
  have hA : ∀ q, (nwA s.heap.size) q → N0 ≤ q := fun q h => Nat.le_trans hC.2.1 h
  have hn : ∀ q, s.heap.size ≤ q → (nwA s.heap.size) q := fun q h => h
  have hS : va_S (nwA s.heap.size) s.heap s.heap [] := va_S.rf
  have hl : lv_has ls 4 [(0, .long n), (2, .long d)] := hl
  refine lv_lload_n (pc := 0) hx hb dX3_floorOf_0 rfl (lv_at hl 1 rfl) ?_
  refine lv_lconst (pc := 1) (v := 0) hx hb dX3_floorOf_1 (by decide) ?_
  refine r_lcne (pc := 2) (tgt := 10) E dX3_floorOf_2 dX3_floorOf_3 (by decide) (fun c_1 => ?_) (fun c_1 => ?_)
  · refine lv_lload_n (pc := 10) hx hb dX3_floorOf_10 rfl (lv_at hl 0 rfl) ?_
    refine lv_lload_n (pc := 11) hx hb dX3_floorOf_11 rfl (lv_at hl 1 rfl) ?_
    refine k_l (pc := 12) (k_S E hC hS hA hl.1 (c_J9_floorDiv_f86c9 l D tk N0 sa s.heap.size n d (by assumption)) kw_504 kw_505 kw_9 kw_506 (n := 2) (by decide +kernel) rfl ⟨⟨rfl, rfl⟩, ⟨by decide, by decide⟩, by decide, by decide⟩ rfl (Nat.le_of_ble_eq_true rfl) trivial dX3_floorOf_12) hS (fun q z w => absurd w (Nat.not_le.mpr z)) hn (fun r_2 H locs hR hz hk hS => ?_)
    have er_2 := hR
    refine r_lret (pc := 15) E hr hlk hS (by decide) (by decide) ?_ dX3_floorOf_15
    subst er_2; first | with_reducible rfl | (simp [f_floorOf, c_1, p_TB, p_TV, p_TC, p_TI, p_BT, p_BV, p_BC, p_BI, p_VT, p_VB, p_VC, p_VI, p_CT, p_CB, p_CV, p_CI, p_IT, p_IB, p_IV, p_IC, p_TT, p_BB, p_CC, p_II]; done)
  · refine lv_lconst (pc := 6) (v := 0) hx hb dX3_floorOf_6 (by decide) ?_
    refine lv_goto (pc := 7) (tgt := 15) hx hb dX3_floorOf_7 (by decide) ?_
    refine r_lret (pc := 15) E hr hlk hS (by decide) (by decide) ?_ dX3_floorOf_15
    first | with_reducible rfl | (simp [f_floorOf, c_1, p_TB, p_TV, p_TC, p_TI, p_BT, p_BV, p_BC, p_BI, p_VT, p_VB, p_VC, p_VI, p_CT, p_CB, p_CV, p_CI, p_IT, p_IB, p_IV, p_IC, p_TT, p_BB, p_CC, p_II]; done)

set_option maxHeartbeats 4000000 in
set_option maxRecDepth 100000 in
/-- Bestratios.commonDivisor(JJ)J -/
theorem c_X3_commonDivisor (l : Launch) (D : va_G) (tk : Nat → ClassId) (N0 : Nat) (sa : Nat → Nat)  (sz : Nat) (a : Int64) (b : Int64) : Met l yX3_commonDivisor (wsy yX3_commonDivisor cX3_commonDivisor 11 (some .long)) ({ frames := 0, cells := 0, slots := 0, locals := 0 } : Room) (cP D tk N0 sa [.long a, .long b] sz (fun H => True)) (kQl (fun r H => r = f_gcd a b) (nwA sz)) (0) (0) (nwA sz) := by
  refine mStart RX3 rfl (by decide +kernel) (Nat.le_of_ble_eq_true rfl) ?_
  intro p e s m args below meth c E hr hlk hnm hsz hC hF ls hl
  subst hsz
  obtain ⟨hx, hb, -⟩ := id E
  have hA : ∀ q, (nwA s.heap.size) q → N0 ≤ q := fun q h => Nat.le_trans hC.2.1 h
  have hn : ∀ q, s.heap.size ≤ q → (nwA s.heap.size) q := fun q h => h
  have hS : va_S (nwA s.heap.size) s.heap s.heap [] := va_S.rf
  have hl : lv_has ls 11 [(0, .long a), (2, .long b)] := hl
  obtain ⟨Q, hQ⟩ : ∃ Q, Q = MQ below (kQl (fun r H => r = f_gcd a b) (nwA s.heap.size)) args s (0) (0) (nwA s.heap.size) := ⟨_, rfl⟩
  rw [← hQ]
  have loop_31 : ∀ (n : Nat) (k : Nat)(u : Int64) (v : Int64) (x : Int32), k ≤ 200 → 200 - k < n → x = nI k → gcdL (200 - k) u v = f_gcd a b → ∀ (H : Heap) (locs : List Loc) (ls : Array Slot), va_S (nwA s.heap.size) s.heap H locs → lv_has ls 11 [(0, .long a), (2, .long b), (4, .long u), (6, .long v), (8, .int x)] → W p l e ({ frames := 0, cells := 0, slots := 0, locals := 0 } : Room) s m args below meth c H locs (0) (0) Q (F0 m 31 ls []) := by
    intro n
    induction n with
    | zero =>
      intro k u v x hk9 hf9 hx9 hg9 H locs ls hS hl
      omega
    | succ n ih_31 =>
      intro k u v x hk9 hf9 hx9 hg9 H locs ls hS hl
      refine lv_iload (pc := 31) hx hb dX3_commonDivisor_31 (lv_at hl 4 rfl) ?_
      refine lv_sipush (pc := 33) (v := 200) hx hb dX3_commonDivisor_33 (by decide) ?_
      refine lv_icmp_ge (pc := 36) (tgt := 67) hx hb dX3_commonDivisor_36 (by decide) (fun c_1 => ?_) (fun c_1 => ?_)
      · refine lv_lload (pc := 67) hx hb dX3_commonDivisor_67 (lv_at hl 2 rfl) ?_
        try rw [hQ]
        refine r_lret (pc := 69) E hr hlk hS (by decide) (by decide) ?_ dX3_commonDivisor_69
        rw [← hg9]
        have e0 : 200 - k = 0 := by have := (i_le (n := 200) hx9 (by decide) (by omega) (by decide)).mp c_1; omega
        (rw [e0]) <;> simp [gcdL]
      · refine lv_lload (pc := 39) hx hb dX3_commonDivisor_39 (lv_at hl 3 rfl) ?_
        refine lv_lconst (pc := 41) (v := 0) hx hb dX3_commonDivisor_41 (by decide) ?_
        refine r_lceq (pc := 42) (tgt := 67) E dX3_commonDivisor_42 dX3_commonDivisor_43 (by decide) (fun c_2 => ?_) (fun c_2 => ?_)
        · refine lv_lload (pc := 67) hx hb dX3_commonDivisor_67 (lv_at hl 2 rfl) ?_
          try rw [hQ]
          refine r_lret (pc := 69) E hr hlk hS (by decide) (by decide) ?_ dX3_commonDivisor_69
          rw [← hg9]
          rw [gcdL_z c_2]
        · refine lv_lload (pc := 46) hx hb dX3_commonDivisor_46 (lv_at hl 2 rfl) ?_
          refine lv_lload (pc := 48) hx hb dX3_commonDivisor_48 (lv_at hl 3 rfl) ?_
          refine lv_lrem (pc := 50) hx hb dX3_commonDivisor_50 (by assumption) ?_
          obtain ⟨x_3, ex_3⟩ : ∃ z9 : Int64, z9 = u - u / v * v := ⟨_, rfl⟩
          rw [← ex_3]
          refine lv_lstore (pc := 51) (lv' := [(9, .long x_3), (0, .long a), (2, .long b), (4, .long u), (6, .long v), (8, .int x)]) hx hb dX3_commonDivisor_51 hl (by decide) rfl (fun ls hl => ?_)
          refine lv_lload (pc := 53) hx hb dX3_commonDivisor_53 (lv_at hl 4 rfl) ?_
          refine lv_lstore (pc := 55) (lv' := [(4, .long v), (9, .long x_3), (0, .long a), (2, .long b), (6, .long v), (8, .int x)]) hx hb dX3_commonDivisor_55 hl (by decide) rfl (fun ls hl => ?_)
          refine lv_lload (pc := 57) hx hb dX3_commonDivisor_57 (lv_at hl 1 rfl) ?_
          refine lv_lstore (pc := 59) (lv' := [(6, .long x_3), (4, .long v), (9, .long x_3), (0, .long a), (2, .long b), (8, .int x)]) hx hb dX3_commonDivisor_59 hl (by decide) rfl (fun ls hl => ?_)
          obtain ⟨x_4, ex_4⟩ : ∃ z9 : Int32, z9 = x + 1 := ⟨_, rfl⟩
          refine lv_iinc (pc := 61) (v := x_4) (lv' := [(8, .int x_4), (6, .long x_3), (4, .long v), (9, .long x_3), (0, .long a), (2, .long b)]) hx hb dX3_commonDivisor_61 hl (k := 5) rfl (by rw [ex_4]; rfl) (by decide) rfl (fun ls hl => ?_)
          refine lv_goto (pc := 64) (tgt := 31) hx hb dX3_commonDivisor_64 (by decide) ?_
          have hlt : k < 200 := Nat.not_le.mp (fun z => c_1 ((i_le (n := 200) hx9 (by decide) (by omega) (by decide)).mpr z))
          have e200 : 200 - k = (200 - (k + 1)) + 1 := by omega
          rw [e200] at hg9
          exact ih_31  (k + 1)  v x_3 x_4 (by omega) (by omega) (i_up hx9 ex_4) (by rw [← hg9]; simp only [gcdL, c_1, c_2, ex_3, ex_4, if_false]; done) _ _ _ hS (lv_sub hl [4, 5, 2, 1, 0] rfl)
  refine lv_lload_n (pc := 0) hx hb dX3_commonDivisor_0 rfl (lv_at hl 0 rfl) ?_
  refine lv_lconst (pc := 1) (v := 0) hx hb dX3_commonDivisor_1 (by decide) ?_
  refine r_lcge (pc := 2) (tgt := 11) E dX3_commonDivisor_2 dX3_commonDivisor_3 (by decide) (fun c_5 => ?_) (fun c_5 => ?_)
  · refine lv_lload_n (pc := 11) hx hb dX3_commonDivisor_11 rfl (lv_at hl 0 rfl) ?_
    refine lv_lstore (pc := 12) (lv' := [(4, .long a), (0, .long a), (2, .long b)]) hx hb dX3_commonDivisor_12 hl (by decide) rfl (fun ls hl => ?_)
    refine lv_lload_n (pc := 14) hx hb dX3_commonDivisor_14 rfl (lv_at hl 2 rfl) ?_
    refine lv_lconst (pc := 15) (v := 0) hx hb dX3_commonDivisor_15 (by decide) ?_
    refine r_lcge (pc := 16) (tgt := 25) E dX3_commonDivisor_16 dX3_commonDivisor_17 (by decide) (fun c_6 => ?_) (fun c_6 => ?_)
    · refine lv_lload_n (pc := 25) hx hb dX3_commonDivisor_25 rfl (lv_at hl 2 rfl) ?_
      refine lv_lstore (pc := 26) (lv' := [(6, .long b), (4, .long a), (0, .long a), (2, .long b)]) hx hb dX3_commonDivisor_26 hl (by decide) rfl (fun ls hl => ?_)
      refine lv_iconst (pc := 28) (v := 0) hx hb dX3_commonDivisor_28 (by decide) ?_
      refine lv_istore (pc := 29) (lv' := [(8, .int 0), (6, .long b), (4, .long a), (0, .long a), (2, .long b)]) hx hb dX3_commonDivisor_29 hl (by decide) rfl (fun ls hl => ?_)
      exact loop_31 201 0  a b 0 (by decide) (by decide) nI_0.symm (by simp [f_gcd, absL, c_5, c_6]) _ _ _ hS (lv_sub hl [3, 4, 2, 1, 0] rfl)
    · refine lv_lload_n (pc := 20) hx hb dX3_commonDivisor_20 rfl (lv_at hl 2 rfl) ?_
      refine lv_lneg (pc := 21) hx hb dX3_commonDivisor_21 ?_
      refine lv_goto (pc := 22) (tgt := 26) hx hb dX3_commonDivisor_22 (by decide) ?_
      obtain ⟨x_7, ex_7⟩ : ∃ z9 : Int64, z9 = -b := ⟨_, rfl⟩
      rw [← ex_7]
      refine lv_lstore (pc := 26) (lv' := [(6, .long x_7), (4, .long a), (0, .long a), (2, .long b)]) hx hb dX3_commonDivisor_26 hl (by decide) rfl (fun ls hl => ?_)
      refine lv_iconst (pc := 28) (v := 0) hx hb dX3_commonDivisor_28 (by decide) ?_
      refine lv_istore (pc := 29) (lv' := [(8, .int 0), (6, .long x_7), (4, .long a), (0, .long a), (2, .long b)]) hx hb dX3_commonDivisor_29 hl (by decide) rfl (fun ls hl => ?_)
      exact loop_31 201 0  a x_7 0 (by decide) (by decide) nI_0.symm (by simp [f_gcd, absL, c_5, c_6, ex_7]) _ _ _ hS (lv_sub hl [3, 4, 2, 1, 0] rfl)
  · refine lv_lload_n (pc := 6) hx hb dX3_commonDivisor_6 rfl (lv_at hl 0 rfl) ?_
    refine lv_lneg (pc := 7) hx hb dX3_commonDivisor_7 ?_
    refine lv_goto (pc := 8) (tgt := 12) hx hb dX3_commonDivisor_8 (by decide) ?_
    obtain ⟨x_8, ex_8⟩ : ∃ z9 : Int64, z9 = -a := ⟨_, rfl⟩
    rw [← ex_8]
    refine lv_lstore (pc := 12) (lv' := [(4, .long x_8), (0, .long a), (2, .long b)]) hx hb dX3_commonDivisor_12 hl (by decide) rfl (fun ls hl => ?_)
    refine lv_lload_n (pc := 14) hx hb dX3_commonDivisor_14 rfl (lv_at hl 2 rfl) ?_
    refine lv_lconst (pc := 15) (v := 0) hx hb dX3_commonDivisor_15 (by decide) ?_
    refine r_lcge (pc := 16) (tgt := 25) E dX3_commonDivisor_16 dX3_commonDivisor_17 (by decide) (fun c_9 => ?_) (fun c_9 => ?_)
    · refine lv_lload_n (pc := 25) hx hb dX3_commonDivisor_25 rfl (lv_at hl 2 rfl) ?_
      refine lv_lstore (pc := 26) (lv' := [(6, .long b), (4, .long x_8), (0, .long a), (2, .long b)]) hx hb dX3_commonDivisor_26 hl (by decide) rfl (fun ls hl => ?_)
      refine lv_iconst (pc := 28) (v := 0) hx hb dX3_commonDivisor_28 (by decide) ?_
      refine lv_istore (pc := 29) (lv' := [(8, .int 0), (6, .long b), (4, .long x_8), (0, .long a), (2, .long b)]) hx hb dX3_commonDivisor_29 hl (by decide) rfl (fun ls hl => ?_)
      exact loop_31 201 0  x_8 b 0 (by decide) (by decide) nI_0.symm (by simp [f_gcd, absL, c_5, ex_8, c_9]) _ _ _ hS (lv_sub hl [3, 4, 2, 1, 0] rfl)
    · refine lv_lload_n (pc := 20) hx hb dX3_commonDivisor_20 rfl (lv_at hl 2 rfl) ?_
      refine lv_lneg (pc := 21) hx hb dX3_commonDivisor_21 ?_
      refine lv_goto (pc := 22) (tgt := 26) hx hb dX3_commonDivisor_22 (by decide) ?_
      obtain ⟨x_10, ex_10⟩ : ∃ z9 : Int64, z9 = -b := ⟨_, rfl⟩
      rw [← ex_10]
      refine lv_lstore (pc := 26) (lv' := [(6, .long x_10), (4, .long x_8), (0, .long a), (2, .long b)]) hx hb dX3_commonDivisor_26 hl (by decide) rfl (fun ls hl => ?_)
      refine lv_iconst (pc := 28) (v := 0) hx hb dX3_commonDivisor_28 (by decide) ?_
      refine lv_istore (pc := 29) (lv' := [(8, .int 0), (6, .long x_10), (4, .long x_8), (0, .long a), (2, .long b)]) hx hb dX3_commonDivisor_29 hl (by decide) rfl (fun ls hl => ?_)
      exact loop_31 201 0  x_8 x_10 0 (by decide) (by decide) nI_0.symm (by simp [f_gcd, absL, c_5, ex_8, c_9, ex_10]) _ _ _ hS (lv_sub hl [3, 4, 2, 1, 0] rfl)

set_option maxHeartbeats 4000000 in
set_option maxRecDepth 100000 in
/-- Bestratios.powerOfTen(I)J -/
theorem c_X3_powerOfTen (l : Launch) (D : va_G) (tk : Nat → ClassId) (N0 : Nat) (sa : Nat → Nat)  (sz : Nat) (x : Int32) : Met l yX3_powerOfTen (wsy yX3_powerOfTen cX3_powerOfTen 1 (some .long)) ({ frames := 0, cells := 0, slots := 0, locals := 0 } : Room) (cP D tk N0 sa [.int x] sz (fun H => True)) (kQl (fun r H => r = f_p10 x) (nwA sz)) (0) (0) (nwA sz) := by
  refine mStart RX3 rfl (by decide +kernel) (Nat.le_of_ble_eq_true rfl) ?_
  intro p e s m args below meth c E hr hlk hnm hsz hC hF ls hl
  subst hsz
  obtain ⟨hx, hb, -⟩ := id E
  have hA : ∀ q, (nwA s.heap.size) q → N0 ≤ q := fun q h => Nat.le_trans hC.2.1 h
  have hn : ∀ q, s.heap.size ≤ q → (nwA s.heap.size) q := fun q h => h
  have hS : va_S (nwA s.heap.size) s.heap s.heap [] := va_S.rf
  have hl : lv_has ls 1 [(0, .int x)] := hl
  refine lv_iload_n (pc := 0) hx hb dX3_powerOfTen_0 rfl (lv_at hl 0 rfl) ?_
  refine lv_if_lt (pc := 1) (tgt := 20) hx hb dX3_powerOfTen_1 (by decide) (fun c_1 => ?_) (fun c_1 => ?_)
  · refine lv_lconst (pc := 20) (v := 1) hx hb dX3_powerOfTen_20 (by decide) ?_
    refine r_lret (pc := 21) E hr hlk hS (by decide) (by decide) ?_ dX3_powerOfTen_21
    first | with_reducible rfl | (simp [f_p10, c_1, Int32.not_le.mpr c_1, p_TB, p_TV, p_TC, p_TI, p_BT, p_BV, p_BC, p_BI, p_VT, p_VB, p_VC, p_VI, p_CT, p_CB, p_CV, p_CI, p_IT, p_IB, p_IV, p_IC, p_TT, p_BB, p_CC, p_II]; done)
  · refine lv_iload_n (pc := 4) hx hb dX3_powerOfTen_4 rfl (lv_at hl 0 rfl) ?_
    refine r_p10 (pc := 5) E hC hS hA (List.mem_cons_of_mem _ kw_535) (fun _ h => h) dX3_powerOfTen_5 ?_
    refine va_tlen (pc := 8) hx hb (hC.2.2.1.1.2.narrow hA) hS (v := 10) rfl dX3_powerOfTen_8 ?_
    refine lv_icmp_ge (pc := 9) (tgt := 20) hx hb dX3_powerOfTen_9 (by decide) (fun c_2 => ?_) (fun c_2 => ?_)
    · refine lv_lconst (pc := 20) (v := 1) hx hb dX3_powerOfTen_20 (by decide) ?_
      refine r_lret (pc := 21) E hr hlk hS (by decide) (by decide) ?_ dX3_powerOfTen_21
      first | with_reducible rfl | (simp [f_p10, c_1, Int32.not_lt.mp c_1, c_2, Int32.not_lt.mpr c_2, p_TB, p_TV, p_TC, p_TI, p_BT, p_BV, p_BC, p_BI, p_VT, p_VB, p_VC, p_VI, p_CT, p_CB, p_CV, p_CI, p_IT, p_IB, p_IV, p_IC, p_TT, p_BB, p_CC, p_II]; done)
    · refine r_p10 (pc := 12) E hC hS hA (List.mem_cons_of_mem _ kw_535) (fun _ h => h) dX3_powerOfTen_12 ?_
      refine lv_iload_n (pc := 15) hx hb dX3_powerOfTen_15 rfl (lv_at hl 0 rfl) ?_
      refine va_tl (pc := 16) hx hb (hC.2.2.1.1.2.narrow hA) hS (vp_of2 (n := 10) (k := 10) rfl (by assumption) (by assumption)) (v := .long (p10 (x).toNatClampNeg)) rfl dX3_powerOfTen_16 ?_
      refine lv_goto (pc := 17) (tgt := 21) hx hb dX3_powerOfTen_17 (by decide) ?_
      refine r_lret (pc := 21) E hr hlk hS (by decide) (by decide) ?_ dX3_powerOfTen_21
      first | with_reducible rfl | (simp [f_p10, c_1, Int32.not_lt.mp c_1, c_2, Int32.not_le.mp c_2, p_TB, p_TV, p_TC, p_TI, p_BT, p_BV, p_BC, p_BI, p_VT, p_VB, p_VC, p_VI, p_CT, p_CB, p_CV, p_CI, p_IT, p_IB, p_IV, p_IC, p_TT, p_BB, p_CC, p_II]; done)

set_option maxHeartbeats 4000000 in
set_option maxRecDepth 100000 in
/-- Bestratios.powerToLimit(JI)J -/
theorem c_X3_powerToLimit (l : Launch) (D : va_G) (tk : Nat → ClassId) (N0 : Nat) (sa : Nat → Nat)  (sz : Nat) (b : Int64) (mm : Int32) : Met l yX3_powerToLimit (wsy yX3_powerToLimit cX3_powerToLimit 6 (some .long)) ({ frames := 0, cells := 0, slots := 0, locals := 0 } : Room) (cP D tk N0 sa [.long b, .int mm] sz (fun H => True)) (kQl (fun r H => r = f_pow b mm) (nwA sz)) (0) (0) (nwA sz) := by
  refine mStart RX3 rfl (by decide +kernel) (Nat.le_of_ble_eq_true rfl) ?_
  intro p e s m args below meth c E hr hlk hnm hsz hC hF ls hl
  subst hsz
  obtain ⟨hx, hb, -⟩ := id E
  have hA : ∀ q, (nwA s.heap.size) q → N0 ≤ q := fun q h => Nat.le_trans hC.2.1 h
  have hn : ∀ q, s.heap.size ≤ q → (nwA s.heap.size) q := fun q h => h
  have hS : va_S (nwA s.heap.size) s.heap s.heap [] := va_S.rf
  have hl : lv_has ls 6 [(0, .long b), (2, .int mm)] := hl
  obtain ⟨Q, hQ⟩ : ∃ Q, Q = MQ below (kQl (fun r H => r = f_pow b mm) (nwA s.heap.size)) args s (0) (0) (nwA s.heap.size) := ⟨_, rfl⟩
  rw [← hQ]
  refine lv_lconst (pc := 0) (v := 1) hx hb dX3_powerToLimit_0 (by decide) ?_
  refine lv_lstore_n (pc := 1) (lv' := [(3, .long 1), (0, .long b), (2, .int mm)]) hx hb dX3_powerToLimit_1 rfl hl (by decide) rfl (fun ls hl => ?_)
  refine lv_iconst (pc := 2) (v := 0) hx hb dX3_powerToLimit_2 (by decide) ?_
  refine lv_istore (pc := 3) (lv' := [(5, .int 0), (3, .long 1), (0, .long b), (2, .int mm)]) hx hb dX3_powerToLimit_3 hl (by decide) rfl (fun ls hl => ?_)
  have loop_5 : ∀ (n : Nat) (k : Nat)(p9 : Int64) (x : Int32), mm.toNatClampNeg - k < n → k ≤ mm.toNatClampNeg → x = nI k → powL (mm.toNatClampNeg - k) b p9 = f_pow b mm → ∀ (H : Heap) (locs : List Loc) (ls : Array Slot), va_S (nwA s.heap.size) s.heap H locs → lv_has ls 6 [(0, .long b), (2, .int mm), (3, .long p9), (5, .int x)] → W p l e ({ frames := 0, cells := 0, slots := 0, locals := 0 } : Room) s m args below meth c H locs (0) (0) Q (F0 m 5 ls []) := by
    intro n
    induction n with
    | zero =>
      intro k p9 x hf9 hk9 hx9 hg9 H locs ls hS hl
      omega
    | succ n ih_5 =>
      intro k p9 x hf9 hk9 hx9 hg9 H locs ls hS hl
      refine lv_iload (pc := 5) hx hb dX3_powerToLimit_5 (lv_at hl 3 rfl) ?_
      refine lv_iload_n (pc := 7) hx hb dX3_powerToLimit_7 rfl (lv_at hl 1 rfl) ?_
      refine lv_icmp_ge (pc := 8) (tgt := 29) hx hb dX3_powerToLimit_8 (by decide) (fun c_1 => ?_) (fun c_1 => ?_)
      · refine lv_lload_n (pc := 29) hx hb dX3_powerToLimit_29 rfl (lv_at hl 2 rfl) ?_
        try rw [hQ]
        refine r_lret (pc := 30) E hr hlk hS (by decide) (by decide) ?_ dX3_powerToLimit_30
        rw [← hg9]
        have e0 := (i_mle hx9 hk9).mp c_1
        (rw [e0]) <;> simp [powL]
      · refine lv_lload_n (pc := 11) hx hb dX3_powerToLimit_11 rfl (lv_at hl 2 rfl) ?_
        refine lv_ldc2 (pc := 12) (v := 1000000000) hx hb E.2.2.2.1 (E.2.2.2.2 _ (List.mem_cons_of_mem _ kw_933)) dX3_powerToLimit_12 ?_
        refine r_lcgt (pc := 15) (tgt := 29) E dX3_powerToLimit_15 dX3_powerToLimit_16 (by decide) (fun c_2 => ?_) (fun c_2 => ?_)
        · refine lv_lload_n (pc := 29) hx hb dX3_powerToLimit_29 rfl (lv_at hl 2 rfl) ?_
          try rw [hQ]
          refine r_lret (pc := 30) E hr hlk hS (by decide) (by decide) ?_ dX3_powerToLimit_30
          rw [← hg9]
          rw [powL_z c_2]
        · refine lv_lload_n (pc := 19) hx hb dX3_powerToLimit_19 rfl (lv_at hl 2 rfl) ?_
          refine lv_lload_n (pc := 20) hx hb dX3_powerToLimit_20 rfl (lv_at hl 0 rfl) ?_
          refine lv_lmul (pc := 21) hx hb dX3_powerToLimit_21 ?_
          obtain ⟨x_3, ex_3⟩ : ∃ z9 : Int64, z9 = p9 * b := ⟨_, rfl⟩
          rw [← ex_3]
          refine lv_lstore_n (pc := 22) (lv' := [(3, .long x_3), (0, .long b), (2, .int mm), (5, .int x)]) hx hb dX3_powerToLimit_22 rfl hl (by decide) rfl (fun ls hl => ?_)
          obtain ⟨x_4, ex_4⟩ : ∃ z9 : Int32, z9 = x + 1 := ⟨_, rfl⟩
          refine lv_iinc (pc := 23) (v := x_4) (lv' := [(5, .int x_4), (3, .long x_3), (0, .long b), (2, .int mm)]) hx hb dX3_powerToLimit_23 hl (k := 3) rfl (by rw [ex_4]; rfl) (by decide) rfl (fun ls hl => ?_)
          refine lv_goto (pc := 26) (tgt := 5) hx hb dX3_powerToLimit_26 (by decide) ?_
          have hlt := (i_mlt hx9 hk9).mp c_1
          have e200 : mm.toNatClampNeg - k = (mm.toNatClampNeg - (k + 1)) + 1 := by omega
          rw [e200] at hg9
          exact ih_5  (k + 1)  x_3 x_4 (by omega) (by omega) (i_up hx9 ex_4) (by rw [← hg9]; subst ex_3; simp [powL, c_2]) _ _ _ hS (lv_sub hl [2, 3, 1, 0] rfl)
  exact loop_5 (mm.toNatClampNeg + 1) 0  1 0 (by omega) (Nat.zero_le _) nI_0.symm rfl _ _ _ hS (lv_sub hl [2, 3, 1, 0] rfl)

set_option maxHeartbeats 4000000 in
set_option maxRecDepth 100000 in
/-- Bestratios.isCutUpward(JJJI)Z -/
theorem c_X3_isCutUpward (l : Launch) (D : va_G) (tk : Nat → ClassId) (N0 : Nat) (sa : Nat → Nat)  (sz : Nat) (ls_ : Int64) (lf : Int64) (bt : Int64) (md : Int32) : Met l yX3_isCutUpward (wsy yX3_isCutUpward cX3_isCutUpward 7 (some .boolean)) ({ frames := 0, cells := 0, slots := 0, locals := 0 } : Room) (cP D tk N0 sa [.long ls_, .long lf, .long bt, .int md] sz (fun H => True)) (kQi (fun r H => r = f_cutUp ls_ lf bt md) (nwA sz)) (0) (0) (nwA sz) := by
  refine mStart RX3 rfl (by decide +kernel) (Nat.le_of_ble_eq_true rfl) ?_
  intro p e s m args below meth c E hr hlk hnm hsz hC hF ls hl
  subst hsz
  obtain ⟨hx, hb, -⟩ := id E
  have hA : ∀ q, (nwA s.heap.size) q → N0 ≤ q := fun q h => Nat.le_trans hC.2.1 h
  have hn : ∀ q, s.heap.size ≤ q → (nwA s.heap.size) q := fun q h => h
  have hS : va_S (nwA s.heap.size) s.heap s.heap [] := va_S.rf
  have hl : lv_has ls 7 [(0, .long ls_), (2, .long lf), (4, .long bt), (6, .int md)] := hl
  refine lv_iload (pc := 0) hx hb dX3_isCutUpward_0 (lv_at hl 3 rfl) ?_
  by_cases c_1_0 : md = 0
  · refine lv_tableIn (pc := 2) (tgt := 32) hx hb dX3_isCutUpward_2 (by rw [c_1_0]; decide) (by rw [c_1_0]; decide) (by rw [c_1_0]; rfl) (by decide) ?_
    refine lv_lload_n (pc := 32) hx hb dX3_isCutUpward_32 rfl (lv_at hl 0 rfl) ?_
    refine lv_lconst (pc := 33) (v := 0) hx hb dX3_isCutUpward_33 (by decide) ?_
    refine r_lcge (pc := 34) (tgt := 42) E dX3_isCutUpward_34 dX3_isCutUpward_35 (by decide) (fun c_2 => ?_) (fun c_2 => ?_)
    · refine lv_iconst (pc := 42) (v := 0) hx hb dX3_isCutUpward_42 (by decide) ?_
      refine r_zret (pc := 43) E hr hlk hS (by decide) (by decide) rfl ?_ dX3_isCutUpward_43
      first | with_reducible rfl | (simp [f_cutUp, c_1_0, c_2, Int64.not_lt.mpr c_2, p_TB, p_TV, p_TC, p_TI, p_BT, p_BV, p_BC, p_BI, p_VT, p_VB, p_VC, p_VI, p_CT, p_CB, p_CV, p_CI, p_IT, p_IB, p_IV, p_IC, p_TT, p_BB, p_CC, p_II]; done)
    · refine lv_iconst (pc := 38) (v := 1) hx hb dX3_isCutUpward_38 (by decide) ?_
      refine lv_goto (pc := 39) (tgt := 43) hx hb dX3_isCutUpward_39 (by decide) ?_
      refine r_zret (pc := 43) E hr hlk hS (by decide) (by decide) rfl ?_ dX3_isCutUpward_43
      first | with_reducible rfl | (simp [f_cutUp, c_1_0, c_2, Int64.not_le.mp c_2, p_TB, p_TV, p_TC, p_TI, p_BT, p_BV, p_BC, p_BI, p_VT, p_VB, p_VC, p_VI, p_CT, p_CB, p_CV, p_CI, p_IT, p_IB, p_IV, p_IC, p_TT, p_BB, p_CC, p_II]; done)
  · skip
    by_cases c_1_1 : md = 1
    · refine lv_tableIn (pc := 2) (tgt := 44) hx hb dX3_isCutUpward_2 (by rw [c_1_1]; decide) (by rw [c_1_1]; decide) (by rw [c_1_1]; rfl) (by decide) ?_
      refine lv_iconst (pc := 44) (v := 0) hx hb dX3_isCutUpward_44 (by decide) ?_
      refine r_zret (pc := 45) E hr hlk hS (by decide) (by decide) rfl ?_ dX3_isCutUpward_45
      first | with_reducible rfl | (simp [f_cutUp, c_1_1, p_TB, p_TV, p_TC, p_TI, p_BT, p_BV, p_BC, p_BI, p_VT, p_VB, p_VC, p_VI, p_CT, p_CB, p_CV, p_CI, p_IT, p_IB, p_IV, p_IC, p_TT, p_BB, p_CC, p_II]; done)
    · skip
      by_cases c_1_2 : md = 2
      · refine lv_tableIn (pc := 2) (tgt := 46) hx hb dX3_isCutUpward_2 (by rw [c_1_2]; decide) (by rw [c_1_2]; decide) (by rw [c_1_2]; rfl) (by decide) ?_
        refine lv_iconst (pc := 46) (v := 1) hx hb dX3_isCutUpward_46 (by decide) ?_
        refine r_zret (pc := 47) E hr hlk hS (by decide) (by decide) rfl ?_ dX3_isCutUpward_47
        first | with_reducible rfl | (simp [f_cutUp, c_1_2, p_TB, p_TV, p_TC, p_TI, p_BT, p_BV, p_BC, p_BI, p_VT, p_VB, p_VC, p_VI, p_CT, p_CB, p_CV, p_CI, p_IT, p_IB, p_IV, p_IC, p_TT, p_BB, p_CC, p_II]; done)
      · skip
        by_cases c_1_3 : md = 3
        · refine lv_tableIn (pc := 2) (tgt := 48) hx hb dX3_isCutUpward_2 (by rw [c_1_3]; decide) (by rw [c_1_3]; decide) (by rw [c_1_3]; rfl) (by decide) ?_
          refine lv_ldc2 (pc := 48) (v := 2) hx hb E.2.2.2.1 (E.2.2.2.2 _ (List.mem_cons_of_mem _ kw_541)) dX3_isCutUpward_48 ?_
          refine lv_lload_n (pc := 51) hx hb dX3_isCutUpward_51 rfl (lv_at hl 1 rfl) ?_
          refine lv_lmul (pc := 52) hx hb dX3_isCutUpward_52 ?_
          refine lv_lload (pc := 53) hx hb dX3_isCutUpward_53 (lv_at hl 2 rfl) ?_
          refine r_lcgt (pc := 55) (tgt := 76) E dX3_isCutUpward_55 dX3_isCutUpward_56 (by decide) (fun c_3 => ?_) (fun c_3 => ?_)
          · refine lv_iconst (pc := 76) (v := 1) hx hb dX3_isCutUpward_76 (by decide) ?_
            refine lv_goto (pc := 77) (tgt := 81) hx hb dX3_isCutUpward_77 (by decide) ?_
            refine r_zret (pc := 81) E hr hlk hS (by decide) (by decide) rfl ?_ dX3_isCutUpward_81
            first | with_reducible rfl | (simp [f_cutUp, c_1_3, c_3, Int64.not_le.mpr c_3, p_TB, p_TV, p_TC, p_TI, p_BT, p_BV, p_BC, p_BI, p_VT, p_VB, p_VC, p_VI, p_CT, p_CB, p_CV, p_CI, p_IT, p_IB, p_IV, p_IC, p_TT, p_BB, p_CC, p_II]; done)
          · refine lv_ldc2 (pc := 59) (v := 2) hx hb E.2.2.2.1 (E.2.2.2.2 _ (List.mem_cons_of_mem _ kw_541)) dX3_isCutUpward_59 ?_
            refine lv_lload_n (pc := 62) hx hb dX3_isCutUpward_62 rfl (lv_at hl 1 rfl) ?_
            refine lv_lmul (pc := 63) hx hb dX3_isCutUpward_63 ?_
            refine lv_lload (pc := 64) hx hb dX3_isCutUpward_64 (lv_at hl 2 rfl) ?_
            refine r_lcne (pc := 66) (tgt := 80) E dX3_isCutUpward_66 dX3_isCutUpward_67 (by decide) (fun c_4 => ?_) (fun c_4 => ?_)
            · refine lv_iconst (pc := 80) (v := 0) hx hb dX3_isCutUpward_80 (by decide) ?_
              refine r_zret (pc := 81) E hr hlk hS (by decide) (by decide) rfl ?_ dX3_isCutUpward_81
              first | with_reducible rfl | (simp [f_cutUp, c_1_3, c_3, Int64.not_lt.mp c_3, c_4, p_TB, p_TV, p_TC, p_TI, p_BT, p_BV, p_BC, p_BI, p_VT, p_VB, p_VC, p_VI, p_CT, p_CB, p_CV, p_CI, p_IT, p_IB, p_IV, p_IC, p_TT, p_BB, p_CC, p_II]; done)
            · refine lv_lload_n (pc := 70) hx hb dX3_isCutUpward_70 rfl (lv_at hl 0 rfl) ?_
              refine lv_lconst (pc := 71) (v := 0) hx hb dX3_isCutUpward_71 (by decide) ?_
              refine r_lclt (pc := 72) (tgt := 80) E dX3_isCutUpward_72 dX3_isCutUpward_73 (by decide) (fun c_5 => ?_) (fun c_5 => ?_)
              · refine lv_iconst (pc := 80) (v := 0) hx hb dX3_isCutUpward_80 (by decide) ?_
                refine r_zret (pc := 81) E hr hlk hS (by decide) (by decide) rfl ?_ dX3_isCutUpward_81
                first | with_reducible rfl | (simp [f_cutUp, c_1_3, c_3, Int64.not_lt.mp c_3, c_4, c_5, Int64.not_le.mpr c_5, p_TB, p_TV, p_TC, p_TI, p_BT, p_BV, p_BC, p_BI, p_VT, p_VB, p_VC, p_VI, p_CT, p_CB, p_CV, p_CI, p_IT, p_IB, p_IV, p_IC, p_TT, p_BB, p_CC, p_II]; done)
              · refine lv_iconst (pc := 76) (v := 1) hx hb dX3_isCutUpward_76 (by decide) ?_
                refine lv_goto (pc := 77) (tgt := 81) hx hb dX3_isCutUpward_77 (by decide) ?_
                refine r_zret (pc := 81) E hr hlk hS (by decide) (by decide) rfl ?_ dX3_isCutUpward_81
                first | with_reducible rfl | (simp [f_cutUp, c_1_3, c_3, Int64.not_lt.mp c_3, c_4, c_5, Int64.not_lt.mp c_5, p_TB, p_TV, p_TC, p_TI, p_BT, p_BV, p_BC, p_BI, p_VT, p_VB, p_VC, p_VI, p_CT, p_CB, p_CV, p_CI, p_IT, p_IB, p_IV, p_IC, p_TT, p_BB, p_CC, p_II]; done)
        · skip
          refine lv_tableOut (pc := 2) (tgt := 82) hx hb dX3_isCutUpward_2 (by have z0 := ne_ti (0) (0) (by decide) c_1_0; have z1 := ne_ti (1) (1) (by decide) c_1_1; have z2 := ne_ti (2) (2) (by decide) c_1_2; have z3 := ne_ti (3) (3) (by decide) c_1_3; omega) (by decide) ?_
          refine lv_ldc2 (pc := 82) (v := 2) hx hb E.2.2.2.1 (E.2.2.2.2 _ (List.mem_cons_of_mem _ kw_541)) dX3_isCutUpward_82 ?_
          refine lv_lload_n (pc := 85) hx hb dX3_isCutUpward_85 rfl (lv_at hl 1 rfl) ?_
          refine lv_lmul (pc := 86) hx hb dX3_isCutUpward_86 ?_
          refine lv_lload (pc := 87) hx hb dX3_isCutUpward_87 (lv_at hl 2 rfl) ?_
          refine r_lcgt (pc := 89) (tgt := 112) E dX3_isCutUpward_89 dX3_isCutUpward_90 (by decide) (fun c_6 => ?_) (fun c_6 => ?_)
          · refine lv_iconst (pc := 112) (v := 1) hx hb dX3_isCutUpward_112 (by decide) ?_
            refine lv_goto (pc := 113) (tgt := 117) hx hb dX3_isCutUpward_113 (by decide) ?_
            refine r_zret (pc := 117) E hr hlk hS (by decide) (by decide) rfl ?_ dX3_isCutUpward_117
            first | with_reducible rfl | (simp [f_cutUp, c_1_0, c_1_1, c_1_2, c_1_3, c_6, Int64.not_le.mpr c_6, p_TB, p_TV, p_TC, p_TI, p_BT, p_BV, p_BC, p_BI, p_VT, p_VB, p_VC, p_VI, p_CT, p_CB, p_CV, p_CI, p_IT, p_IB, p_IV, p_IC, p_TT, p_BB, p_CC, p_II]; done)
          · refine lv_ldc2 (pc := 93) (v := 2) hx hb E.2.2.2.1 (E.2.2.2.2 _ (List.mem_cons_of_mem _ kw_541)) dX3_isCutUpward_93 ?_
            refine lv_lload_n (pc := 96) hx hb dX3_isCutUpward_96 rfl (lv_at hl 1 rfl) ?_
            refine lv_lmul (pc := 97) hx hb dX3_isCutUpward_97 ?_
            refine lv_lload (pc := 98) hx hb dX3_isCutUpward_98 (lv_at hl 2 rfl) ?_
            refine r_lcne (pc := 100) (tgt := 116) E dX3_isCutUpward_100 dX3_isCutUpward_101 (by decide) (fun c_7 => ?_) (fun c_7 => ?_)
            · refine lv_iconst (pc := 116) (v := 0) hx hb dX3_isCutUpward_116 (by decide) ?_
              refine r_zret (pc := 117) E hr hlk hS (by decide) (by decide) rfl ?_ dX3_isCutUpward_117
              first | with_reducible rfl | (simp [f_cutUp, c_1_0, c_1_1, c_1_2, c_1_3, c_6, Int64.not_lt.mp c_6, c_7, p_TB, p_TV, p_TC, p_TI, p_BT, p_BV, p_BC, p_BI, p_VT, p_VB, p_VC, p_VI, p_CT, p_CB, p_CV, p_CI, p_IT, p_IB, p_IV, p_IC, p_TT, p_BB, p_CC, p_II]; done)
            · refine lv_lload_n (pc := 104) hx hb dX3_isCutUpward_104 rfl (lv_at hl 0 rfl) ?_
              refine lv_lconst (pc := 105) (v := 1) hx hb dX3_isCutUpward_105 (by decide) ?_
              refine lv_land (pc := 106) hx hb dX3_isCutUpward_106 ?_
              refine lv_lconst (pc := 107) (v := 1) hx hb dX3_isCutUpward_107 (by decide) ?_
              refine r_lcne (pc := 108) (tgt := 116) E dX3_isCutUpward_108 dX3_isCutUpward_109 (by decide) (fun c_8 => ?_) (fun c_8 => ?_)
              · refine lv_iconst (pc := 116) (v := 0) hx hb dX3_isCutUpward_116 (by decide) ?_
                refine r_zret (pc := 117) E hr hlk hS (by decide) (by decide) rfl ?_ dX3_isCutUpward_117
                first | with_reducible rfl | (simp [f_cutUp, c_1_0, c_1_1, c_1_2, c_1_3, c_6, Int64.not_lt.mp c_6, c_7, c_8, p_TB, p_TV, p_TC, p_TI, p_BT, p_BV, p_BC, p_BI, p_VT, p_VB, p_VC, p_VI, p_CT, p_CB, p_CV, p_CI, p_IT, p_IB, p_IV, p_IC, p_TT, p_BB, p_CC, p_II]; done)
              · refine lv_iconst (pc := 112) (v := 1) hx hb dX3_isCutUpward_112 (by decide) ?_
                refine lv_goto (pc := 113) (tgt := 117) hx hb dX3_isCutUpward_113 (by decide) ?_
                refine r_zret (pc := 117) E hr hlk hS (by decide) (by decide) rfl ?_ dX3_isCutUpward_117
                first | with_reducible rfl | (simp [f_cutUp, c_1_0, c_1_1, c_1_2, c_1_3, c_6, Int64.not_lt.mp c_6, c_7, c_8, p_TB, p_TV, p_TC, p_TI, p_BT, p_BV, p_BC, p_BI, p_VT, p_VB, p_VC, p_VI, p_CT, p_CB, p_CV, p_CI, p_IT, p_IB, p_IV, p_IC, p_TT, p_BB, p_CC, p_II]; done)

set_option maxHeartbeats 4000000 in
set_option maxRecDepth 100000 in
/-- Bestratios.cutNumber(JJII)J -/
theorem c_X3_cutNumber (l : Launch) (D : va_G) (tk : Nat → ClassId) (N0 : Nat) (sa : Nat → Nat)  (sz : Nat) (t : Int64) (b : Int64) (pl : Int32) (md : Int32) : Met l yX3_cutNumber (wsy yX3_cutNumber cX3_cutNumber 12 (some .long)) ({ frames := 2, cells := 0, slots := 0, locals := 48 } : Room) (cP D tk N0 sa [.long t, .long b, .int pl, .int md] sz (fun H => True)) (kQl (fun r H => r = f_cutNum t b pl md) (nwA sz)) (0) (0) (nwA sz) := by
  refine mStart RX3 rfl (by decide +kernel) (Nat.le_of_ble_eq_true rfl) ?_
  intro p e s m args below meth c E hr hlk hnm hsz hC hF ls hl
  subst hsz
  obtain ⟨hx, hb, -⟩ := id E
  have hA : ∀ q, (nwA s.heap.size) q → N0 ≤ q := fun q h => Nat.le_trans hC.2.1 h
  have hn : ∀ q, s.heap.size ≤ q → (nwA s.heap.size) q := fun q h => h
  have hS : va_S (nwA s.heap.size) s.heap s.heap [] := va_S.rf
  have hl : lv_has ls 12 [(0, .long t), (2, .long b), (4, .int pl), (5, .int md)] := hl
  refine lv_lload_n (pc := 0) hx hb dX3_cutNumber_0 rfl (lv_at hl 0 rfl) ?_
  refine lv_iload (pc := 1) hx hb dX3_cutNumber_1 (lv_at hl 2 rfl) ?_
  refine k_l (pc := 3) (k_S E hC hS hA hl.1 (c_X3_powerOfTen l D tk N0 sa s.heap.size pl ) kw_532 kw_533 kw_1 kw_534 (n := 1) (by decide +kernel) rfl ⟨⟨rfl, rfl⟩, ⟨by decide, by decide⟩, by decide, by decide⟩ rfl (Nat.le_of_ble_eq_true rfl) trivial dX3_cutNumber_3) hS (fun q z w => absurd w (Nat.not_le.mpr z)) hn (fun r_1 H locs hR hz hk hS => ?_)
  have er_1 := hR
  refine lv_lmul (pc := 6) hx hb dX3_cutNumber_6 ?_
  obtain ⟨x_3, ex_3⟩ : ∃ z9 : Int64, z9 = t * r_1 := ⟨_, rfl⟩
  rw [← ex_3]
  refine lv_lstore (pc := 7) (lv' := [(6, .long x_3), (0, .long t), (2, .long b), (4, .int pl), (5, .int md)]) hx hb dX3_cutNumber_7 hl (by decide) rfl (fun ls hl => ?_)
  refine lv_lload (pc := 9) hx hb dX3_cutNumber_9 (lv_at hl 0 rfl) ?_
  refine lv_lload_n (pc := 11) hx hb dX3_cutNumber_11 rfl (lv_at hl 2 rfl) ?_
  refine k_l (pc := 12) (k_S E hC hS hA hl.1 (c_X3_floorOf l D tk N0 sa H.size x_3 b ) kw_537 kw_502 kw_1 kw_503 (n := 2) (by decide +kernel) rfl ⟨⟨rfl, rfl⟩, ⟨by decide, by decide⟩, by decide, by decide⟩ rfl (Nat.le_of_ble_eq_true rfl) trivial dX3_cutNumber_12) hS (fun q z w => absurd w (Nat.not_le.mpr z)) hn (fun r_4 H locs hR hz hk hS => ?_)
  have er_4 := hR
  refine lv_lstore (pc := 15) (lv' := [(8, .long r_4), (6, .long x_3), (0, .long t), (2, .long b), (4, .int pl), (5, .int md)]) hx hb dX3_cutNumber_15 hl (by decide) rfl (fun ls hl => ?_)
  refine lv_lload (pc := 17) hx hb dX3_cutNumber_17 (lv_at hl 1 rfl) ?_
  refine lv_lload (pc := 19) hx hb dX3_cutNumber_19 (lv_at hl 0 rfl) ?_
  refine lv_lload_n (pc := 21) hx hb dX3_cutNumber_21 rfl (lv_at hl 3 rfl) ?_
  refine lv_lmul (pc := 22) hx hb dX3_cutNumber_22 ?_
  refine lv_lsub (pc := 23) hx hb dX3_cutNumber_23 ?_
  obtain ⟨x_6, ex_6⟩ : ∃ z9 : Int64, z9 = x_3 - (r_4 * b) := ⟨_, rfl⟩
  rw [← ex_6]
  refine lv_lstore (pc := 24) (lv' := [(10, .long x_6), (8, .long r_4), (6, .long x_3), (0, .long t), (2, .long b), (4, .int pl), (5, .int md)]) hx hb dX3_cutNumber_24 hl (by decide) rfl (fun ls hl => ?_)
  refine lv_lload (pc := 26) hx hb dX3_cutNumber_26 (lv_at hl 0 rfl) ?_
  refine lv_lconst (pc := 28) (v := 0) hx hb dX3_cutNumber_28 (by decide) ?_
  refine r_lcle (pc := 29) (tgt := 53) E dX3_cutNumber_29 dX3_cutNumber_30 (by decide) (fun c_7 => ?_) (fun c_7 => ?_)
  · refine lv_lload (pc := 53) hx hb dX3_cutNumber_53 (lv_at hl 1 rfl) ?_
    refine r_lret (pc := 55) E hr hlk hS (by decide) (by decide) ?_ dX3_cutNumber_55
    subst er_1 ex_3 er_4 ex_6; first | with_reducible rfl | (simp [f_cutNum, f_cut2, c_7, Int64.not_lt.mpr c_7, p_TB, p_TV, p_TC, p_TI, p_BT, p_BV, p_BC, p_BI, p_VT, p_VB, p_VC, p_VI, p_CT, p_CB, p_CV, p_CI, p_IT, p_IB, p_IV, p_IC, p_TT, p_BB, p_CC, p_II]; done)
  · refine lv_lload (pc := 33) hx hb dX3_cutNumber_33 (lv_at hl 1 rfl) ?_
    refine lv_lload (pc := 35) hx hb dX3_cutNumber_35 (lv_at hl 0 rfl) ?_
    refine lv_lload_n (pc := 37) hx hb dX3_cutNumber_37 rfl (lv_at hl 4 rfl) ?_
    refine lv_iload (pc := 38) hx hb dX3_cutNumber_38 (lv_at hl 6 rfl) ?_
    refine k_i (pc := 40) (k_S E hC hS hA hl.1 (c_X3_isCutUpward l D tk N0 sa H.size r_4 x_6 b md ) kw_538 kw_539 kw_1 kw_540 (n := 4) (by decide +kernel) rfl ⟨⟨rfl, rfl⟩, ⟨by decide, by decide⟩, by decide, by decide⟩ rfl (Nat.le_of_ble_eq_true rfl) trivial dX3_cutNumber_40) hS (fun q z w => absurd w (Nat.not_le.mpr z)) hn (fun r_8 H locs hR hz hk hS => ?_)
    have er_8 := hR
    refine lv_if_eq (pc := 43) (tgt := 53) hx hb dX3_cutNumber_43 (by decide) (fun c_10 => ?_) (fun c_10 => ?_)
    · refine lv_lload (pc := 53) hx hb dX3_cutNumber_53 (lv_at hl 1 rfl) ?_
      refine r_lret (pc := 55) E hr hlk hS (by decide) (by decide) ?_ dX3_cutNumber_55
      subst er_1 ex_3 er_4 ex_6 er_8; first | with_reducible rfl | (simp [f_cutNum, f_cut2, c_7, Int64.not_le.mp c_7, c_10, p_TB, p_TV, p_TC, p_TI, p_BT, p_BV, p_BC, p_BI, p_VT, p_VB, p_VC, p_VI, p_CT, p_CB, p_CV, p_CI, p_IT, p_IB, p_IV, p_IC, p_TT, p_BB, p_CC, p_II]; done)
    · refine lv_lload (pc := 46) hx hb dX3_cutNumber_46 (lv_at hl 1 rfl) ?_
      refine lv_lconst (pc := 48) (v := 1) hx hb dX3_cutNumber_48 (by decide) ?_
      refine lv_ladd (pc := 49) hx hb dX3_cutNumber_49 ?_
      refine lv_goto (pc := 50) (tgt := 55) hx hb dX3_cutNumber_50 (by decide) ?_
      refine r_lret (pc := 55) E hr hlk hS (by decide) (by decide) ?_ dX3_cutNumber_55
      subst er_1 ex_3 er_4 ex_6 er_8; first | with_reducible rfl | (simp [f_cutNum, f_cut2, c_7, Int64.not_le.mp c_7, c_10, p_TB, p_TV, p_TC, p_TI, p_BT, p_BV, p_BC, p_BI, p_VT, p_VB, p_VC, p_VI, p_CT, p_CB, p_CV, p_CI, p_IT, p_IB, p_IV, p_IC, p_TT, p_BB, p_CC, p_II]; done)
