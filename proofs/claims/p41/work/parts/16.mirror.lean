/-! ===== soundness, the checksum's numbers, as functions ===== -/
def f_fsG (g : CS) (i : Nat) : CS := f_apart g 1 i
def f_fsndR (g : CS) (i : Nat) : Int32 := if f_gcd (tT (f_fsG g i) i) (tB (f_fsG g i) i) = 1 then (if f_foldR (f_fsG g i) 1 = 0 then 0 else if f_same (tT (f_foldW (f_fsG g i) 1 6) 6) (tB (f_foldW (f_fsG g i) 1 6) 6) (tT (f_foldW (f_fsG g i) 1 6) i) (tB (f_foldW (f_fsG g i) 1 6) i) = 0 then 0 else 1) else 0
def f_fsndW (g : CS) (i : Nat) : CS := if f_gcd (tT (f_fsG g i) i) (tB (f_fsG g i) i) = 1 then f_foldW (f_fsG g i) 1 6 else f_fsG g i
def f_csndA (g : CS) (i : Nat) (pl : Int32) : Int64 := tT g i * f_p10 pl - f_cutNum (tT g i) (tB g i) pl 1 * tB g i
def f_csndB (g : CS) (i : Nat) (pl : Int32) : Int64 := f_cutNum (tT g i) (tB g i) pl 2 * tB g i - tT g i * f_p10 pl
def f_csnd (g : CS) (i : Nat) (pl : Int32) : Int32 := if f_csndA g i pl < 0 then 0 else if tB g i ≤ f_csndA g i pl then 0 else if f_csndB g i pl < 0 then 0 else if tB g i ≤ f_csndB g i pl then 0 else 1
def f_mixed (a b : Int64) : Int64 := a * 31 + b
def f_nsG (g : CS) (i k : Nat) : CS := f_nb (f_nb g 7 i (nI k) 1) 8 i (nI k) (-1)
def f_cmpF (g : CS) (a b : Nat) : Int32 := f_cmp (tT g a * tB g b) (tT g b * tB g a)
def f_sameF (g : CS) (a b : Nat) : Int32 := f_same (tT g a) (tB g a) (tT g b) (tB g b)
def f_nextF (g : CS) (a b : Nat) : Int32 := f_next (tT g a) (tB g a) (tT g b) (tB g b)
def f_ns1 (g : CS) (i : Nat) : Int32 := if 0 < f_cmpF g 7 i then 0 else if f_cmpF g 8 i < 0 then 0 else 1
def f_ns2 (g : CS) (i : Nat) : Int32 := if f_sameF g 7 i = 0 then 0 else if f_sameF g 8 i = 0 then 0 else 1
def f_ns3 (g : CS) (bd : Int32) : Int32 := if f_nextF g 7 8 = 0 then 0 else if tB g 7 + tB g 8 ≤ bd.toInt64 then 0 else 1
def f_nsOk (g : CS) (i : Nat) (bd : Int32) : Bool := decide (f_ns1 g i ≠ 0) && (decide (f_ns2 g i ≠ 0) || decide (f_ns3 g bd ≠ 0))
def nsL (i : Nat) : Nat → Nat → CS → Int32 × CS
  | 0, _, g => (1, g)
  | n + 1, k, g => if f_nsOk (f_nsG g i k) i (nI k) = true then nsL i n (k + 1) (f_nsG g i k) else (0, f_nsG g i k)
def f_nsnd (g : CS) (i : Nat) : Int32 × CS := nsL i 12 1 g
