/-! ===== what the calls of the class do ===== -/
abbrev nn (x : Int32) : Nat := x.toNatClampNeg
theorem bR_lt {x : Int32} (h : bR x = 0) : nn x < 6 := by
  obtain ⟨h1, h2⟩ := bR_ok h
  have h3 := Int32.lt_iff_toInt_lt.mp h2
  have e0 : (6 : Int32).toInt = 6 := by decide
  have e1 : x.toNatClampNeg = x.toInt.toNat := rfl
  show x.toNatClampNeg < 6
  omega
theorem bR_in {x : Int32} (h : bR x = 0) : vp_in x 6 := by
  obtain ⟨h1, h2⟩ := bR_ok h
  exact vp_of2 (k := 6) (by decide) h1 (Int32.not_le.mpr h2)
theorem zb {v : Int32} (h : v = 0 ∨ v = 1) : narrow .boolean (.int v) = .int v := by
  rcases h with rfl | rfl <;> rfl
def f_refW (g : CS) : CS := uI g 0 (tI g 0 + 1)
def f_setR (g : CS) (i : Nat) : Int32 := if f_fit (tT g 6) (tB g 6) = 0 then -9 else if f_same (tT g 6) (tB g 6) (tT g i) (tB g i) = 0 then 1 else 0
def f_setW (g : CS) (i : Nat) : CS := if f_fit (tT g 6) (tB g 6) = 0 then f_refW g else if f_same (tT g 6) (tB g 6) (tT g i) (tB g i) = 0 then f_assign g i 6 else g
def f_swap (g : CS) (i k : Nat) : CS := f_assign (f_assign g 6 k) k i
def f_overR (g : CS) (i j k : Nat) : Int32 := if f_cmp (tT g k) 0 = 0 then -9 else f_setR (f_quo g 6 j k) i
def f_overW (g : CS) (i j k : Nat) : CS := if f_cmp (tT g k) 0 = 0 then f_refW g else f_setW (f_quo g 6 j k) i
def f_invR (g : CS) (i : Nat) : Int32 := if f_cmp (tT g i) 0 = 0 then -9 else f_setR (f_become g 6 (tB g i) (tT g i)) i
def f_invW (g : CS) (i : Nat) : CS := if f_cmp (tT g i) 0 = 0 then f_refW g else f_setW (f_become g 6 (tB g i) (tT g i)) i
def f_raiR (g : CS) (i : Nat) (x : Int32) : Int32 := if 0 ≤ x then f_setR (f_power g 6 i x) i else if f_cmp (tT g i) 0 = 0 then -9 else f_setR (f_power g 6 i x) i
def f_raiW (g : CS) (i : Nat) (x : Int32) : CS := if 0 ≤ x then f_setW (f_power g 6 i x) i else if f_cmp (tT g i) 0 = 0 then f_refW g else f_setW (f_power g 6 i x) i
def f_part (g : CS) (i : Nat) (w : Int32) : Int64 := if w = 0 then tT g i else if w = 1 then tB g i else if w = 2 then (f_cmp (tT g i) 0).toInt64 else f_floorOf (tT g i) (tB g i)
def f_term (g : CS) (k : Int32) : Int32 := if tC g 1 ≤ k then -9 else (f_at g 1 k).toInt32
def f_fsR (g : CS) (j i : Nat) : Int32 := if f_foldR g j = 0 then -9 else f_setR (f_foldW g j 6) i
def f_fsW (g : CS) (j i : Nat) : CS := if f_foldR g j = 0 then f_refW (f_foldW g j 6) else f_setW (f_foldW g j 6) i
def f_conR (g : CS) (i : Nat) (k : Int32) : Int32 := if tC g 1 ≤ k then -9 else f_fsR (f_keep g 1 (k + 1)) 1 i
def f_conW (g : CS) (i : Nat) (k : Int32) : CS := if tC g 1 ≤ k then f_refW g else f_fsW (f_keep g 1 (k + 1)) 1 i
def f_uns (g : CS) (x : Int32) : CS := if tC g 0 ≤ x then f_keep g 0 0 else f_keep g 0 (tC g 0 - x)
def f_upW (g : CS) (i : Nat) : CS := f_addTo (f_apart g 1 i) 1 (-1)
def f_stUR (g : CS) (i : Nat) : Int32 := f_foldR (f_upW g i) 1
def f_stUW (g : CS) (i : Nat) : CS := f_foldW (f_upW g i) 1 6
def f_dnG (g : CS) (b : Int32) : CS := if tC g 1 &&& 1 = 1 then (if b = 1 then f_addTo g 1 1 else f_addLast (f_addTo g 1 (-1)) 1 2) else (if b = 0 then f_addTo g 1 1 else f_addLast (f_addTo g 1 (-1)) 1 2)
def f_stDR (g : CS) (i : Nat) (b : Int32) : Int32 := f_foldR (f_dnG (f_apart g 1 i) b) 1
def f_stDW (g : CS) (i : Nat) (b : Int32) : CS := f_foldW (f_dnG (f_apart g 1 i) b) 1 6
def f_upR (g : CS) (i : Nat) : Int32 := if f_cmp (tT g i) 0 ≤ 0 then -9 else if f_one (tT g i) (tB g i) = 0 then (if f_stUR g i = 0 then -9 else f_setR (f_stUW g i) i) else -9
def f_upX (g : CS) (i : Nat) : CS := if f_cmp (tT g i) 0 ≤ 0 then f_refW g else if f_one (tT g i) (tB g i) = 0 then (if f_stUR g i = 0 then f_refW (f_stUW g i) else f_setW (f_stUW g i) i) else f_refW g
def f_dnR (g : CS) (i : Nat) (b : Int32) : Int32 := if f_cmp (tT g i) 0 ≤ 0 then -9 else if f_stDR g i b = 0 then -9 else f_setR (f_stDW g i b) i
def f_dnX (g : CS) (i : Nat) (b : Int32) : CS := if f_cmp (tT g i) 0 ≤ 0 then f_refW g else if f_stDR g i b = 0 then f_refW (f_stDW g i b) else f_setW (f_stDW g i b) i
def f_depR (g : CS) (i : Nat) : Int64 := if f_cmp (tT g i) 0 ≤ 0 then -9 else f_total (f_apart g 1 i) 1 - 1
def f_depW (g : CS) (i : Nat) : CS := if f_cmp (tT g i) 0 ≤ 0 then g else f_apart g 1 i
def f_befR (g : CS) (i : Nat) : Int32 := if f_cmp (tT g i) 0 ≤ 0 then -9 else if f_one (tT g i) (tB g i) = 0 then f_setR (f_fore g 6 i) i else -9
def f_befW (g : CS) (i : Nat) : CS := if f_cmp (tT g i) 0 ≤ 0 then f_refW g else if f_one (tT g i) (tB g i) = 0 then f_setW (f_fore g 6 i) i else f_refW g
def f_lbA (g : CS) (i : Nat) : Int64 := (tT g i * tB g 7 - tT g 7 * tB g i) * tB g 8
def f_lbB (g : CS) (i : Nat) : Int64 := (tT g 8 * tB g i - tT g i * tB g 8) * tB g 7
def f_lb (g : CS) (i : Nat) : Int32 := if f_lbA g i = f_lbB g i then (if tB g 7 ≤ tB g 8 then 1 else 0) else if f_lbA g i < f_lbB g i then 1 else 0
def f_bestG (g : CS) (j : Nat) (n : Int32) : CS := f_nb (f_nb g 7 j n 1) 8 j n (-1)
def f_best (g : CS) (j : Nat) (n : Int32) : CS := if f_lb (f_bestG g j n) j = 0 then f_assign (f_bestG g j n) 6 8 else f_assign (f_bestG g j n) 6 7
theorem f_foldR_b (g : CS) (j : Nat) : f_foldR g j = 0 ∨ f_foldR g j = 1 := by
  unfold f_foldR; split
  · exact Or.inl rfl
  · exact Or.inr rfl
theorem f_next_b (a b c d : Int64) : f_next a b c d = 0 ∨ f_next a b c d = 1 := by
  unfold f_next; split
  · exact Or.inr rfl
  · split
    · exact Or.inr rfl
    · exact Or.inl rfl
theorem f_same_b (a b c d : Int64) : f_same a b c d = 0 ∨ f_same a b c d = 1 := by
  unfold f_same; split
  · split
    · exact Or.inr rfl
    · exact Or.inl rfl
  · exact Or.inl rfl
