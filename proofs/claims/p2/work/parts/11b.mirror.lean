/-! ===== what the calls of the class do ===== -/
abbrev nn (x : Int32) : Nat := x.toNatClampNeg
theorem bR_lt {x : Int32} (h : bR x = 0) : nn x < 6 := by
  obtain ⟨h1, h2⟩ := bR_ok h
  have h3 := Int32.lt_iff_toInt_lt.mp h2
  have e0 : (6 : Int32).toInt = 6 := by decide
  have e1 : x.toNatClampNeg = x.toInt.toNat := rfl
  show x.toNatClampNeg < 6
  omega
theorem bR_in {x : Int32} (h : bR x = 0) : vp_in x 6 := by
  obtain ⟨h1, h2⟩ := bR_ok h
  exact vp_of2 (k := 6) (by decide) h1 (Int32.not_le.mpr h2)
theorem zb {v : Int32} (h : v = 0 ∨ v = 1) : narrow .boolean (.int v) = .int v := by
  rcases h with rfl | rfl <;> rfl
def f_refW (g : CS) : CS := uI g 0 (tI g 0 + 1)
def f_setR (g : CS) (i : Nat) : Int32 := if f_fit (tT g 6) (tB g 6) = 0 then -9 else if f_same (tT g 6) (tB g 6) (tT g i) (tB g i) = 0 then 1 else 0
def f_setW (g : CS) (i : Nat) : CS := if f_fit (tT g 6) (tB g 6) = 0 then f_refW g else if f_same (tT g 6) (tB g 6) (tT g i) (tB g i) = 0 then f_assign g i 6 else g
def f_swap (g : CS) (i k : Nat) : CS := f_assign (f_assign g 6 k) k i
def f_overR (g : CS) (i j k : Nat) : Int32 := if f_cmp (tT g k) 0 = 0 then -9 else f_setR (f_quo g 6 j k) i
def f_overW (g : CS) (i j k : Nat) : CS := if f_cmp (tT g k) 0 = 0 then f_refW g else f_setW (f_quo g 6 j k) i
def f_invR (g : CS) (i : Nat) : Int32 := if f_cmp (tT g i) 0 = 0 then -9 else f_setR (f_become g 6 (tB g i) (tT g i)) i
def f_invW (g : CS) (i : Nat) : CS := if f_cmp (tT g i) 0 = 0 then f_refW g else f_setW (f_become g 6 (tB g i) (tT g i)) i
def f_raiR (g : CS) (i : Nat) (x : Int32) : Int32 := if 0 ≤ x then f_setR (f_power g 6 i x) i else if f_cmp (tT g i) 0 = 0 then -9 else f_setR (f_power g 6 i x) i
def f_raiW (g : CS) (i : Nat) (x : Int32) : CS := if 0 ≤ x then f_setW (f_power g 6 i x) i else if f_cmp (tT g i) 0 = 0 then f_refW g else f_setW (f_power g 6 i x) i
def f_part (g : CS) (i : Nat) (w : Int32) : Int64 := if w = 0 then tT g i else if w = 1 then tB g i else if w = 2 then (f_cmp (tT g i) 0).toInt64 else f_floorOf (tT g i) (tB g i)
def f_term (g : CS) (k : Int32) : Int32 := if tC g 1 ≤ k then -9 else (f_at g 1 k).toInt32
def f_fsR (g : CS) (j i : Nat) : Int32 := if f_foldR g j = 0 then -9 else f_setR (f_foldW g j 6) i
def f_fsW (g : CS) (j i : Nat) : CS := if f_foldR g j = 0 then f_refW (f_foldW g j 6) else f_setW (f_foldW g j 6) i
def f_conR (g : CS) (i : Nat) (k : Int32) : Int32 := if tC g 1 ≤ k then -9 else f_fsR (f_keep g 1 (k + 1)) 1 i
def f_conW (g : CS) (i : Nat) (k : Int32) : CS := if tC g 1 ≤ k then f_refW g else f_fsW (f_keep g 1 (k + 1)) 1 i
def f_uns (g : CS) (x : Int32) : CS := if tC g 0 ≤ x then f_keep g 0 0 else f_keep g 0 (tC g 0 - x)
def f_upW (g : CS) (i : Nat) : CS := f_addTo (f_apart g 1 i) 1 (-1)
def f_stUR (g : CS) (i : Nat) : Int32 := f_foldR (f_upW g i) 1
def f_stUW (g : CS) (i : Nat) : CS := f_foldW (f_upW g i) 1 6
def f_dnG (g : CS) (b : Int32) : CS := if tC g 1 &&& 1 = 1 then (if b = 1 then f_addTo g 1 1 else f_addLast (f_addTo g 1 (-1)) 1 2) else (if b = 0 then f_addTo g 1 1 else f_addLast (f_addTo g 1 (-1)) 1 2)
def f_stDR (g : CS) (i : Nat) (b : Int32) : Int32 := f_foldR (f_dnG (f_apart g 1 i) b) 1
def f_stDW (g : CS) (i : Nat) (b : Int32) : CS := f_foldW (f_dnG (f_apart g 1 i) b) 1 6
def f_upR (g : CS) (i : Nat) : Int32 := if f_cmp (tT g i) 0 ≤ 0 then -9 else if f_one (tT g i) (tB g i) = 0 then (if f_stUR g i = 0 then -9 else f_setR (f_stUW g i) i) else -9
def f_upX (g : CS) (i : Nat) : CS := if f_cmp (tT g i) 0 ≤ 0 then f_refW g else if f_one (tT g i) (tB g i) = 0 then (if f_stUR g i = 0 then f_refW (f_stUW g i) else f_setW (f_stUW g i) i) else f_refW g
def f_dnR (g : CS) (i : Nat) (b : Int32) : Int32 := if f_cmp (tT g i) 0 ≤ 0 then -9 else if f_stDR g i b = 0 then -9 else f_setR (f_stDW g i b) i
def f_dnX (g : CS) (i : Nat) (b : Int32) : CS := if f_cmp (tT g i) 0 ≤ 0 then f_refW g else if f_stDR g i b = 0 then f_refW (f_stDW g i b) else f_setW (f_stDW g i b) i
def f_depR (g : CS) (i : Nat) : Int64 := if f_cmp (tT g i) 0 ≤ 0 then -9 else f_total (f_apart g 1 i) 1 - 1
def f_depW (g : CS) (i : Nat) : CS := if f_cmp (tT g i) 0 ≤ 0 then g else f_apart g 1 i
def f_befR (g : CS) (i : Nat) : Int32 := if f_cmp (tT g i) 0 ≤ 0 then -9 else if f_one (tT g i) (tB g i) = 0 then f_setR (f_fore g 6 i) i else -9
def f_befW (g : CS) (i : Nat) : CS := if f_cmp (tT g i) 0 ≤ 0 then f_refW g else if f_one (tT g i) (tB g i) = 0 then f_setW (f_fore g 6 i) i else f_refW g
def f_lbA (g : CS) (i : Nat) : Int64 := (tT g i * tB g 7 - tT g 7 * tB g i) * tB g 8
def f_lbB (g : CS) (i : Nat) : Int64 := (tT g 8 * tB g i - tT g i * tB g 8) * tB g 7
def f_lb (g : CS) (i : Nat) : Int32 := if f_lbA g i = f_lbB g i then (if tB g 7 ≤ tB g 8 then 1 else 0) else if f_lbA g i < f_lbB g i then 1 else 0
def f_bestG (g : CS) (j : Nat) (n : Int32) : CS := f_nb (f_nb g 7 j n 1) 8 j n (-1)
def f_best (g : CS) (j : Nat) (n : Int32) : CS := if f_lb (f_bestG g j n) j = 0 then f_assign (f_bestG g j n) 6 8 else f_assign (f_bestG g j n) 6 7
theorem f_foldR_b (g : CS) (j : Nat) : f_foldR g j = 0 ∨ f_foldR g j = 1 := by
  unfold f_foldR; split
  · exact Or.inl rfl
  · exact Or.inr rfl
theorem f_next_b (a b c d : Int64) : f_next a b c d = 0 ∨ f_next a b c d = 1 := by
  unfold f_next; split
  · exact Or.inr rfl
  · split
    · exact Or.inr rfl
    · exact Or.inl rfl
theorem f_same_b (a b c d : Int64) : f_same a b c d = 0 ∨ f_same a b c d = 1 := by
  unfold f_same; split
  · split
    · exact Or.inr rfl
    · exact Or.inl rfl
  · exact Or.inl rfl
def nxL : Nat → CS → CS ⊕ CS
  | 0, g => .inr g
  | n + 1, g => if f_fit (tT (f_foll g 6 6) 6) (tB (f_foll g 6 6) 6) = 0 then .inl (f_foll g 6 6) else nxL n (f_foll g 6 6)
def f_nxR (r : CS ⊕ CS) (i : Nat) : Int32 := match r with
  | .inl _ => -9
  | .inr g => f_setR g i
def f_nxW (r : CS ⊕ CS) (i : Nat) : CS := match r with
  | .inl g => f_refW g
  | .inr g => f_setW g i
def f_nextR (g : CS) (i : Nat) (m : Int32) : Int32 := if 0 < f_cmp (tT g i) 0 then f_nxR (nxL m.toNatClampNeg (f_assign g 6 i)) i else -9
def f_nextW (g : CS) (i : Nat) (m : Int32) : CS := if 0 < f_cmp (tT g i) 0 then f_nxW (nxL m.toNatClampNeg (f_assign g 6 i)) i else f_refW g
def f_clr (g : CS) : CS := uI (uI (f_become (f_become (f_become g 9 0 1) 10 0 1) 11 0 1) 2 0) 3 0
def f_max (a b : Int32) : Int32 := if a < b then b else a
def f_tk1 (g : CS) (i : Nat) (np md : Int32) : CS := f_gather (f_sum g 12 9 i) 13 (tT (f_sum g 12 9 i) 10) (tB (f_sum g 12 9 i) 10) (f_cutNum (tT (f_sum g 12 9 i) i) (tB (f_sum g 12 9 i) i) np md) (f_p10 np)
def f_tk4 (g : CS) : CS := f_assign (f_assign (f_assign g 9 12) 10 13) 11 14
def f_tk3 (g : CS) (np : Int32) : CS := uI (uI (f_tk4 g) 3 (f_max (tI (f_tk4 g) 3) np)) 2 (tI (uI (f_tk4 g) 3 (f_max (tI (f_tk4 g) 3) np)) 2 + 1)
def f_tk2R (g : CS) : Int32 := if f_fit (tT g 12) (tB g 12) = 0 then 0 else if f_fit (tT g 13) (tB g 13) = 0 then 0 else if f_fit (tT (f_dif g 14 12 13) 14) (tB (f_dif g 14 12 13) 14) = 0 then 0 else 1
def f_tk2W (g : CS) (np : Int32) : CS := if f_fit (tT g 12) (tB g 12) = 0 then g else if f_fit (tT g 13) (tB g 13) = 0 then g else if f_fit (tT (f_dif g 14 12 13) 14) (tB (f_dif g 14 12 13) 14) = 0 then f_dif g 14 12 13 else f_tk3 (f_dif g 14 12 13) np
def f_evR (g : CS) (i : Nat) : Int32 := f_same (tT (f_sum g i 10 11) i) (tB (f_sum g i 10 11) i) (tT (f_sum g i 10 11) 9) (tB (f_sum g i 10 11) 9)
def f_talR (g : CS) (i : Nat) (np md : Int32) : Int32 := if f_tk2R (f_tk1 g i np md) = 0 then -9 else tI (f_tk2W (f_tk1 g i np md) np) 2
def f_talW (g : CS) (i : Nat) (np md : Int32) : CS := if f_tk2R (f_tk1 g i np md) = 0 then f_refW (f_tk2W (f_tk1 g i np md) np) else f_tk2W (f_tk1 g i np md) np
def whL (g : CS) : Nat → Nat → Int32 → Int32
  | 0, _, a => a
  | n + 1, k, a => if tB g k = 1 then whL g n (k + 1) (a + 1) else whL g n (k + 1) a
def f_whole (g : CS) : Int32 := whL g 6 0 0
def f_cnt (g : CS) (w : Int32) : Int32 := if w = 0 then f_whole g else if w = 1 then tI g 0 else if w = 2 then tI g 1 else if w = 3 then tC g 0 else tI g 2
def smL (nT nB : Int64) (pl md : Int32) (w : Int64) : Nat → Nat → Option (Int64 × Int64)
  | 0, _ => none
  | n + 1, k => if f_cutNum (f_floorOf (nT * lN k) nB) (lN k) pl md = w then some (f_floorOf (nT * lN k) nB, lN k) else if f_cutNum (f_floorOf (nT * lN k) nB + 1) (lN k) pl md = w then some (f_floorOf (nT * lN k) nB + 1, lN k) else smL nT nB pl md w n (k + 1)
def f_smO (g : CS) (j : Nat) (pl md : Int32) : Option (Int64 × Int64) := smL (tT g j) (tB g j) pl md (f_cutNum (tT g j) (tB g j) pl md) (f_p10 pl).toInt.toNat 1
def f_sm (g : CS) (i j : Nat) (pl md : Int32) : CS := match f_smO g j pl md with
  | none => g
  | some q => f_become g i q.1 q.2
theorem f_tk2R_b (g : CS) : f_tk2R g = 0 ∨ f_tk2R g = 1 := by
  unfold f_tk2R; repeat' split
  all_goals first | exact Or.inl rfl | exact Or.inr rfl
theorem p10_bd : ∀ k, k < 10 → 1 ≤ (p10 k).toInt ∧ (p10 k).toInt ≤ 1000000000 := by decide
theorem f_p10_bd (x : Int32) : 1 ≤ (f_p10 x).toInt ∧ (f_p10 x).toInt ≤ 1000000000 := by
  unfold f_p10
  split
  · decide
  · split
    · decide
    · rename_i h1 h2
      have h3 := Int32.lt_iff_toInt_lt.mp (Int32.not_le.mp h2)
      have e0 : (10 : Int32).toInt = 10 := by decide
      have e1 : x.toNatClampNeg = x.toInt.toNat := rfl
      exact p10_bd _ (by omega)
theorem ll_lt {b y : Int64} {k : Nat} (hb : 0 ≤ b.toInt) (hx : y = lN k) (hk : k < 2 ^ 33) : b < y ↔ b.toInt.toNat < k := by
  subst hx
  rw [Int64.lt_iff_toInt_lt, pk_lT (by omega)]
  omega
theorem sm_t1 {u : Int64} (h : u.toInt < 4611686018427387904) : (u + 1).toInt = u.toInt + 1 := by
  have h1 := u.le_toInt
  have e1 : (1 : Int64).toInt = 1 := by decide
  rw [Int64.toInt_add, e1, Int.bmod_eq_of_le (by omega) (by omega)]
theorem sm_a {u : Int64} (h : u.toInt < 4611686018427387904) : ¬ u + 1 < u := by
  intro z
  have := Int64.lt_iff_toInt_lt.mp z
  rw [sm_t1 h] at this
  omega
theorem sm_b {u : Int64} (h : u.toInt < 4611686018427387904) : u + 1 < u + 1 + 1 := by
  rw [Int64.lt_iff_toInt_lt]
  have h1 := u.le_toInt
  have e1 : (1 : Int64).toInt = 1 := by decide
  rw [Int64.toInt_add (u + 1), sm_t1 h, e1, Int.bmod_eq_of_le (by omega) (by omega)]
  omega
