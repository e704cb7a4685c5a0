/-! ===== soundness, the checksum's numbers, as functions ===== -/
def f_fsG (g : CS) (i : Nat) : CS := f_apart g 1 i
def f_fsndR (g : CS) (i : Nat) : Int32 := if f_gcd (tT (f_fsG g i) i) (tB (f_fsG g i) i) = 1 then (if f_foldR (f_fsG g i) 1 = 0 then 0 else if f_same (tT (f_foldW (f_fsG g i) 1 6) 6) (tB (f_foldW (f_fsG g i) 1 6) 6) (tT (f_foldW (f_fsG g i) 1 6) i) (tB (f_foldW (f_fsG g i) 1 6) i) = 0 then 0 else 1) else 0
def f_fsndW (g : CS) (i : Nat) : CS := if f_gcd (tT (f_fsG g i) i) (tB (f_fsG g i) i) = 1 then f_foldW (f_fsG g i) 1 6 else f_fsG g i
def f_csndA (g : CS) (i : Nat) (pl : Int32) : Int64 := tT g i * f_p10 pl - f_cutNum (tT g i) (tB g i) pl 1 * tB g i
def f_csndB (g : CS) (i : Nat) (pl : Int32) : Int64 := f_cutNum (tT g i) (tB g i) pl 2 * tB g i - tT g i * f_p10 pl
def f_csnd (g : CS) (i : Nat) (pl : Int32) : Int32 := if f_csndA g i pl < 0 then 0 else if tB g i ≤ f_csndA g i pl then 0 else if f_csndB g i pl < 0 then 0 else if tB g i ≤ f_csndB g i pl then 0 else 1
def f_mixed (a b : Int64) : Int64 := a * 31 + b
def f_nsG (g : CS) (i k : Nat) : CS := f_nb (f_nb g 7 i (nI k) 1) 8 i (nI k) (-1)
def f_cmpF (g : CS) (a b : Nat) : Int32 := f_cmp (tT g a * tB g b) (tT g b * tB g a)
def f_sameF (g : CS) (a b : Nat) : Int32 := f_same (tT g a) (tB g a) (tT g b) (tB g b)
def f_nextF (g : CS) (a b : Nat) : Int32 := f_next (tT g a) (tB g a) (tT g b) (tB g b)
def f_ns1 (g : CS) (i : Nat) : Int32 := if 0 < f_cmpF g 7 i then 0 else if f_cmpF g 8 i < 0 then 0 else 1
def f_ns2 (g : CS) (i : Nat) : Int32 := if f_sameF g 7 i = 0 then 0 else if f_sameF g 8 i = 0 then 0 else 1
def f_ns3 (g : CS) (bd : Int32) : Int32 := if f_nextF g 7 8 = 0 then 0 else if tB g 7 + tB g 8 ≤ bd.toInt64 then 0 else 1
def f_nsOk (g : CS) (i : Nat) (bd : Int32) : Bool := decide (f_ns1 g i ≠ 0) && (decide (f_ns2 g i ≠ 0) || decide (f_ns3 g bd ≠ 0))
def nsL (i : Nat) : Nat → Nat → CS → Int32 × CS
  | 0, _, g => (1, g)
  | n + 1, k, g => if f_nsOk (f_nsG g i k) i (nI k) = true then nsL i n (k + 1) (f_nsG g i k) else (0, f_nsG g i k)
def f_nsnd (g : CS) (i : Nat) : Int32 × CS := nsL i 12 1 g

def f_ts1 (g : CS) (i : Nat) (b : Int32) : Int32 × CS := if f_stDR g i b = 0 then (0, f_stDW g i b) else if f_stUR (f_assign (f_stDW g i b) 7 6) 7 = 0 then (0, f_stUW (f_assign (f_stDW g i b) 7 6) 7) else if f_sameF (f_stUW (f_assign (f_stDW g i b) 7 6) 7) 6 i = 0 then (0, f_stUW (f_assign (f_stDW g i b) 7 6) 7) else (1, f_stUW (f_assign (f_stDW g i b) 7 6) 7)
def f_ts2 (g : CS) (i : Nat) : Int32 × CS := (f_sameF (f_fore (f_foll g 7 i) 6 7) 6 i, f_fore (f_foll g 7 i) 6 7)
def f_tree (g : CS) (i : Nat) : Int32 × CS := if 0 < f_cmp (tT g i) 0 then (if (f_ts1 g i 0).1 = 0 then f_ts1 g i 0 else if (f_ts1 (f_ts1 g i 0).2 i 1).1 = 0 then f_ts1 (f_ts1 g i 0).2 i 1 else f_ts2 (f_ts1 (f_ts1 g i 0).2 i 1).2 i) else (1, g)
def f_pr1 (g : CS) (a b : Nat) : Int32 × CS := (f_sameF (f_dif (f_sum g 7 a b) 6 7 b) 6 a, f_dif (f_sum g 7 a b) 6 7 b)
def inL (a : Nat) : Nat → Nat → CS → Int32 × CS
  | 0, _, g => (1, g)
  | n + 1, b, g => if (f_pr1 g a b).1 = 0 then (0, (f_pr1 g a b).2) else inL a n (b + 1) (f_pr1 g a b).2
def ouL : Nat → Nat → CS → Int32 × CS
  | 0, _, g => (1, g)
  | n + 1, a, g => if (inL a (5 - a) (a + 1) g).1 = 0 then inL a (5 - a) (a + 1) g else ouL n (a + 1) (inL a (5 - a) (a + 1) g).2
def f_pairs (g : CS) : Int32 × CS := ouL 6 0 g
theorem le12 {y : Int32} {k : Nat} (hx : y = nI k) (hk : k ≤ 13) (h : ¬ 12 < y) : k ≤ 12 := by
  subst hx
  rcases Nat.lt_or_ge 12 k with z | z
  · exact absurd ((nI_ltI (a := 12) (b := k) (by decide) (by omega)).mpr z) h
  · exact z
theorem lt12 {y : Int32} {k : Nat} (hx : y = nI k) (hk : k ≤ 13) (h : 12 < y) : 12 < k := by
  subst hx
  exact (nI_ltI (a := 12) (b := k) (by decide) (by omega)).mp h
theorem ns_okT {g : CS} {i k : Nat} {y x3 x4 x5 : Int32} (hx : y = nI k) (h1 : x3 = f_ns1 g i) (h2 : x4 = f_ns2 g i) (h3 : x5 = f_ns3 g y) (c : ¬ x3 = 0) (d : ¬ x4 = 0 ∨ ¬ x5 = 0) : f_nsOk g i (nI k) = true := by
  subst h1 h2 h3 hx
  simp only [f_nsOk, Bool.and_eq_true, Bool.or_eq_true, decide_eq_true_eq]
  exact ⟨c, d⟩
theorem ns_okF {g : CS} {i k : Nat} {y x3 x4 x5 : Int32} (hx : y = nI k) (h1 : x3 = f_ns1 g i) (h2 : x4 = f_ns2 g i) (h3 : x5 = f_ns3 g y) (d : x3 = 0 ∨ (x4 = 0 ∧ x5 = 0)) : ¬ f_nsOk g i (nI k) = true := by
  subst h1 h2 h3 hx
  simp only [f_nsOk, Bool.and_eq_true, Bool.or_eq_true, decide_eq_true_eq]
  rcases d with d | ⟨d1, d2⟩
  · exact fun z => z.1 d
  · exact fun z => z.2.elim (fun q => q d1) (fun q => q d2)
def f_snd1 (g : CS) (k : Nat) : Int32 × CS := if f_fsndR g k = 0 then (0, f_fsndW g k) else if (f_nsnd (f_fsndW g k) k).1 = 0 then (0, (f_nsnd (f_fsndW g k) k).2) else if f_csnd (f_nsnd (f_fsndW g k) k).2 k 0 = 0 then (0, (f_nsnd (f_fsndW g k) k).2) else if f_csnd (f_nsnd (f_fsndW g k) k).2 k 2 = 0 then (0, (f_nsnd (f_fsndW g k) k).2) else if (f_tree (f_nsnd (f_fsndW g k) k).2 k).1 = 0 then (0, (f_tree (f_nsnd (f_fsndW g k) k).2 k).2) else (1, (f_tree (f_nsnd (f_fsndW g k) k).2 k).2)
def sdL : Nat → Nat → CS → Int32 × CS
  | 0, _, g => (1, g)
  | n + 1, k, g => if (f_snd1 g k).1 = 0 then f_snd1 g k else sdL n (k + 1) (f_snd1 g k).2
def f_fin (g : CS) : Int32 × CS := if (f_pairs g).1 = 0 then (0, (f_pairs g).2) else if f_evR (f_pairs g).2 6 = 0 then (0, f_sum (f_pairs g).2 6 10 11) else (1, f_sum (f_pairs g).2 6 10 11)
def f_isS (g : CS) : Int32 × CS := if (sdL 6 0 g).1 = 0 then sdL 6 0 g else f_fin (sdL 6 0 g).2
def mpI (g : CS) (a : Nat) : Nat → Nat → Int64 → Int64
  | 0, _, s => s
  | n + 1, b, s => mpI g a n (b + 1) (f_mixed (f_mixed s (f_cmpF g a b).toInt64) (if f_nextF g a b = 0 then 0 else 1))
def mpO (g : CS) : Nat → Nat → Int64 → Int64
  | 0, _, s => s
  | n + 1, a, s => mpO g n (a + 1) (mpI g a (5 - a) (a + 1) s)
def f_mPairs (g : CS) (s : Int64) : Int64 := mpO g 6 0 s
/-- the bound that the SIMPLEST needs: what is sought lies far inside a long -/
def smOk (g : CS) (j : Nat) : Prop := ∀ k : Nat, k ≤ 1000000000 → (f_floorOf (tT g j * lN k) (tB g j)).toInt < 4611686018427387904
