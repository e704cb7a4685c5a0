def f_min (a b : Int32) : Int32 := if b < a then b else a
def f_absI (a : Int32) : Int32 := if 0 ≤ a then a else -a
def f_absJ (a : Int64) : Int64 := if 0 ≤ a then a else -a
def f_can (a : Int32) : Int32 := if 255 < a then 0 else 1
/-- -10 to the k-th -/
def pP : Nat → Int32
  | 0 => -1
  | k + 1 => 10 * pP k
theorem pP_toInt : ∀ k, k < 10 → (pP k).toInt = -((10 ^ k : Nat) : Int) := by decide
/-- how many places a whole number takes: enough for its digits -/
def SSI (x r : Int32) : Prop := ∃ k : Nat, 1 ≤ k ∧ k ≤ 10 ∧ x.toInt.natAbs < 10 ^ k ∧ (k = 1 ∨ 10 ^ (k - 1) ≤ x.toInt.natAbs) ∧ r = nI (k + if x < 0 then 1 else 0)
theorem ss_neg {x : Int32} (h : ¬ x < 0) : (-x).toInt = -x.toInt := by
  have h0 : 0 ≤ x.toInt := by have := Int32.le_iff_toInt_le.mp (Int32.not_lt.mp h); simpa using this
  have h1 := x.toInt_lt
  rw [Int32.toInt_neg]
  simp only [Int.bmod]
  split <;> omega
theorem ss_abs {p X : Int32} {k : Nat} (hp : p = pP k) (hk : k < 10) (c : ¬ X ≤ p) (h0 : X.toInt ≤ 0) : X.toInt.natAbs < 10 ^ k := by
  have h1 := Int32.lt_iff_toInt_lt.mp (Int32.not_le.mp c)
  rw [hp, pP_toInt k hk] at h1
  generalize 10 ^ k = t at h1 ⊢
  omega
theorem ss_low {p X : Int32} {k : Nat} (hp : p = pP k) (hk : k < 10) (c : X ≤ p) : 10 ^ k ≤ X.toInt.natAbs := by
  have h1 := Int32.le_iff_toInt_le.mp c
  rw [hp, pP_toInt k hk] at h1
  generalize 10 ^ k = t at h1 ⊢
  omega
theorem ssA {x p y : Int32} {k : Nat} (hk : 1 ≤ k ∧ k ≤ 10) (hp : p = pP k) (hy : y = nI k) (hx : x < 0) (c0 : ¬ 10 ≤ y) (c : ¬ x ≤ p) (hlo : k = 1 ∨ 10 ^ (k - 1) ≤ x.toInt.natAbs) : SSI x (y + 1) := by
  have hlt : k < 10 := Nat.not_le.mp (fun z => c0 ((i_le (n := 10) hy (by decide) (by omega) (by decide)).mpr z))
  have h0 := Int32.lt_iff_toInt_lt.mp hx
  exact ⟨k, hk.1, hk.2, ss_abs hp hlt c (by simpa using Int.le_of_lt h0), hlo, by rw [if_pos hx]; exact i_up hy rfl⟩
theorem ssB {x X p y : Int32} {k : Nat} (hk : 1 ≤ k ∧ k ≤ 10) (hp : p = pP k) (hy : y = nI k) (hx : ¬ x < 0) (eX : X = -x) (c0 : ¬ 10 ≤ y) (c : ¬ X ≤ p) (hlo : k = 1 ∨ 10 ^ (k - 1) ≤ X.toInt.natAbs) : SSI x (y + 0) := by
  have hlt : k < 10 := Nat.not_le.mp (fun z => c0 ((i_le (n := 10) hy (by decide) (by omega) (by decide)).mpr z))
  have h0 : 0 ≤ x.toInt := by have := Int32.le_iff_toInt_le.mp (Int32.not_lt.mp hx); simpa using this
  have h1 := ss_neg hx
  rw [← eX] at h1
  have h2 := ss_abs hp hlt c (by omega)
  have e3 : x.toInt.natAbs = X.toInt.natAbs := by rw [h1, Int.natAbs_neg]
  exact ⟨k, hk.1, hk.2, by rw [e3]; exact h2, by rw [e3]; exact hlo, by rw [if_neg hx, hy]; simp⟩
theorem ssC {x : Int32} {y : Int32} {k : Nat} (hk : 1 ≤ k ∧ k ≤ 10) (hy : y = nI k) (c0 : 10 ≤ y) (hx : x < 0) (hlo : k = 1 ∨ 10 ^ (k - 1) ≤ x.toInt.natAbs) : SSI x (10 + 1) := by
  have h9 : 10 ≤ k := (i_le (n := 10) hy (by decide) (by omega) (by decide)).mp c0
  obtain rfl : k = 10 := by omega
  exact ⟨10, by decide, by decide, by have h1 := x.toInt_lt; have h2 := x.le_toInt; omega, hlo, by rw [if_pos hx]; rfl⟩
theorem ssD {x X : Int32} {y : Int32} {k : Nat} (hk : 1 ≤ k ∧ k ≤ 10) (hy : y = nI k) (c0 : 10 ≤ y) (hx : ¬ x < 0) (eX : X = -x) (hlo : k = 1 ∨ 10 ^ (k - 1) ≤ X.toInt.natAbs) : SSI x (10 + 0) := by
  have h9 : 10 ≤ k := (i_le (n := 10) hy (by decide) (by omega) (by decide)).mp c0
  obtain rfl : k = 10 := by omega
  have h1 := ss_neg hx
  rw [← eX] at h1
  have e3 : x.toInt.natAbs = X.toInt.natAbs := by rw [h1, Int.natAbs_neg]
  exact ⟨10, by decide, by decide, by have h1 := x.toInt_lt; have h2 := x.le_toInt; omega, by rw [e3]; exact hlo, by rw [if_neg hx]; rfl⟩
/-- -10 to the k-th -/
def pQ : Nat → Int64
  | 0 => -1
  | k + 1 => 10 * pQ k
theorem pQ_toInt : ∀ k, k < 19 → (pQ k).toInt = -((10 ^ k : Nat) : Int) := by decide
/-- how many places a whole number takes: enough for its digits -/
def SSJ (x : Int64) (r : Int32) : Prop := ∃ k : Nat, 1 ≤ k ∧ k ≤ 19 ∧ x.toInt.natAbs < 10 ^ k ∧ (k = 1 ∨ 10 ^ (k - 1) ≤ x.toInt.natAbs) ∧ r = nI (k + if x < 0 then 1 else 0)
theorem ss_negJ {x : Int64} (h : ¬ x < 0) : (-x).toInt = -x.toInt := by
  have h0 : 0 ≤ x.toInt := by have := Int64.le_iff_toInt_le.mp (Int64.not_lt.mp h); simpa using this
  have h1 := x.toInt_lt
  rw [Int64.toInt_neg]
  simp only [Int.bmod]
  split <;> omega
theorem ss_absJ {p X : Int64} {k : Nat} (hp : p = pQ k) (hk : k < 19) (c : ¬ X ≤ p) (h0 : X.toInt ≤ 0) : X.toInt.natAbs < 10 ^ k := by
  have h1 := Int64.lt_iff_toInt_lt.mp (Int64.not_le.mp c)
  rw [hp, pQ_toInt k hk] at h1
  generalize 10 ^ k = t at h1 ⊢
  omega
theorem ss_lowJ {p X : Int64} {k : Nat} (hp : p = pQ k) (hk : k < 19) (c : X ≤ p) : 10 ^ k ≤ X.toInt.natAbs := by
  have h1 := Int64.le_iff_toInt_le.mp c
  rw [hp, pQ_toInt k hk] at h1
  generalize 10 ^ k = t at h1 ⊢
  omega
theorem ssJA {x p : Int64} {y : Int32} {k : Nat} (hk : 1 ≤ k ∧ k ≤ 19) (hp : p = pQ k) (hy : y = nI k) (hx : x < 0) (c0 : ¬ 19 ≤ y) (c : ¬ x ≤ p) (hlo : k = 1 ∨ 10 ^ (k - 1) ≤ x.toInt.natAbs) : SSJ x (y + 1) := by
  have hlt : k < 19 := Nat.not_le.mp (fun z => c0 ((i_le (n := 19) hy (by decide) (by omega) (by decide)).mpr z))
  have h0 := Int64.lt_iff_toInt_lt.mp hx
  exact ⟨k, hk.1, hk.2, ss_absJ hp hlt c (by simpa using Int.le_of_lt h0), hlo, by rw [if_pos hx]; exact i_up hy rfl⟩
theorem ssJB {x X p : Int64} {y : Int32} {k : Nat} (hk : 1 ≤ k ∧ k ≤ 19) (hp : p = pQ k) (hy : y = nI k) (hx : ¬ x < 0) (eX : X = -x) (c0 : ¬ 19 ≤ y) (c : ¬ X ≤ p) (hlo : k = 1 ∨ 10 ^ (k - 1) ≤ X.toInt.natAbs) : SSJ x (y + 0) := by
  have hlt : k < 19 := Nat.not_le.mp (fun z => c0 ((i_le (n := 19) hy (by decide) (by omega) (by decide)).mpr z))
  have h0 : 0 ≤ x.toInt := by have := Int64.le_iff_toInt_le.mp (Int64.not_lt.mp hx); simpa using this
  have h1 := ss_negJ hx
  rw [← eX] at h1
  have h2 := ss_absJ hp hlt c (by omega)
  have e3 : x.toInt.natAbs = X.toInt.natAbs := by rw [h1, Int.natAbs_neg]
  exact ⟨k, hk.1, hk.2, by rw [e3]; exact h2, by rw [e3]; exact hlo, by rw [if_neg hx, hy]; simp⟩
theorem ssJC {x : Int64} {y : Int32} {k : Nat} (hk : 1 ≤ k ∧ k ≤ 19) (hy : y = nI k) (c0 : 19 ≤ y) (hx : x < 0) (hlo : k = 1 ∨ 10 ^ (k - 1) ≤ x.toInt.natAbs) : SSJ x (19 + 1) := by
  have h9 : 19 ≤ k := (i_le (n := 19) hy (by decide) (by omega) (by decide)).mp c0
  obtain rfl : k = 19 := by omega
  exact ⟨19, by decide, by decide, by have h1 := x.toInt_lt; have h2 := x.le_toInt; omega, hlo, by rw [if_pos hx]; rfl⟩
theorem ssJD {x X : Int64} {y : Int32} {k : Nat} (hk : 1 ≤ k ∧ k ≤ 19) (hy : y = nI k) (c0 : 19 ≤ y) (hx : ¬ x < 0) (eX : X = -x) (hlo : k = 1 ∨ 10 ^ (k - 1) ≤ X.toInt.natAbs) : SSJ x (19 + 0) := by
  have h9 : 19 ≤ k := (i_le (n := 19) hy (by decide) (by omega) (by decide)).mp c0
  obtain rfl : k = 19 := by omega
  have h1 := ss_negJ hx
  rw [← eX] at h1
  have e3 : x.toInt.natAbs = X.toInt.natAbs := by rw [h1, Int.natAbs_neg]
  exact ⟨19, by decide, by decide, by have h1 := x.toInt_lt; have h2 := x.le_toInt; omega, by rw [e3]; exact hlo, by rw [if_neg hx]; rfl⟩
/-- two digits off: what is left, and the two -/
theorem gc_div {X : Int32} (h0 : X.toInt ≤ 0) : (X / 100).toInt = -((-X.toInt) / 100) := by
  have h1 := X.le_toInt
  rw [Int32.toInt_div]
  have e : X.toInt.tdiv (Int32.toInt 100) = -((-X.toInt) / 100) := by
    show X.toInt.tdiv 100 = _
    have : X.toInt = -(-X.toInt) := by omega
    rw [this, Int.neg_tdiv, Int.tdiv_eq_ediv_of_nonneg (by omega)]
    simp
  rw [e]
  simp only [Int.bmod]
  split <;> omega
theorem gc_rem {X q : Int32} (h0 : X.toInt ≤ 0) (eq : q = X / 100) : (q * 100 - X).toInt = (-X.toInt) % 100 := by
  have h1 := X.le_toInt
  have hd := gc_div h0
  rw [← eq] at hd
  have e1 : (q * 100).toInt = -((-X.toInt) / 100) * 100 := by
    rw [Int32.toInt_mul, hd]
    show (-(-X.toInt / 100) * 100 : Int).bmod (2 ^ 32) = _
    simp only [Int.bmod]
    split <;> omega
  rw [Int32.toInt_sub, e1]
  simp only [Int.bmod]
  split <;> omega
theorem gc_in {y : Int32} {n : Nat} (h0 : 0 ≤ y.toInt) (h1 : y.toInt < n) : vp_in y n := by
  intro z
  rcases z with z | z
  · have := Int32.lt_iff_toInt_lt.mp z
    simp at this
    omega
  · have e : y.toNatClampNeg = y.toInt.toNat := rfl
    omega
theorem gc_step {X q : Int32} {k : Nat} (h0 : X.toInt ≤ 0) (hk : X.toInt.natAbs < 10 ^ k) (hc : X ≤ -100) (eq : q = X / 100) : 3 ≤ k ∧ q.toInt ≤ 0 ∧ q.toInt.natAbs < 10 ^ (k - 2) ∧ vp_in (q * 100 - X) 100 := by
  have hc' : X.toInt ≤ -100 := by have := Int32.le_iff_toInt_le.mp hc; simpa using this
  have hd := gc_div h0
  rw [← eq] at hd
  have hr := gc_rem h0 eq
  have hk3 : 3 ≤ k := by
    rcases Nat.lt_or_ge k 3 with z | z
    · have h2 : 10 ^ k ≤ 10 ^ 2 := Nat.pow_le_pow_right (by decide) (by omega)
      omega
    · exact z
  refine ⟨hk3, by omega, ?_, gc_in (by omega) (by omega)⟩
  have e : 10 ^ k = 10 ^ (k - 2) * 100 := by
    rw [show k = k - 2 + 2 by omega, Nat.pow_add]
    simp
  rw [e] at hk
  generalize 10 ^ (k - 2) = t at hk ⊢
  omega
/-- the last one or two digits -/
theorem gc_last {X : Int32} (h0 : X.toInt ≤ 0) (hc : ¬ X ≤ -100) : vp_in (-X) 100 := by
  have hc' : -100 < X.toInt := by have := Int32.lt_iff_toInt_lt.mp (Int32.not_le.mp hc); simpa using this
  have e : (-X).toInt = -X.toInt := by
    rw [Int32.toInt_neg]
    simp only [Int.bmod]
    split <;> omega
  exact gc_in (by omega) (by omega)
theorem gc_two {X : Int32} {k : Nat} (hk : X.toInt.natAbs < 10 ^ k) (hc : X < -9) : 2 ≤ k := by
  have hc' : X.toInt < -9 := by have := Int32.lt_iff_toInt_lt.mp hc; simpa using this
  rcases Nat.lt_or_ge k 2 with z | z
  · have h2 : 10 ^ k ≤ 10 ^ 1 := Nat.pow_le_pow_right (by decide) (by omega)
    omega
  · exact z
/-- the same of a long -/
theorem gcJ_div {X : Int64} (h0 : X.toInt ≤ 0) : (X / 100).toInt = -((-X.toInt) / 100) := by
  have h1 := X.le_toInt
  rw [Int64.toInt_div]
  have e : X.toInt.tdiv (Int64.toInt 100) = -((-X.toInt) / 100) := by
    show X.toInt.tdiv 100 = _
    have : X.toInt = -(-X.toInt) := by omega
    rw [this, Int.neg_tdiv, Int.tdiv_eq_ediv_of_nonneg (by omega)]
    simp
  rw [e]
  simp only [Int.bmod]
  split <;> omega
theorem gcJ_rem {X q : Int64} (h0 : X.toInt ≤ 0) (eq : q = X / 100) : (q * 100 - X).toInt = (-X.toInt) % 100 := by
  have h1 := X.le_toInt
  have hd := gcJ_div h0
  rw [← eq] at hd
  have e1 : (q * 100).toInt = -((-X.toInt) / 100) * 100 := by
    rw [Int64.toInt_mul, hd]
    show (-(-X.toInt / 100) * 100 : Int).bmod (2 ^ 64) = _
    simp only [Int.bmod]
    split <;> omega
  rw [Int64.toInt_sub, e1]
  simp only [Int.bmod]
  split <;> omega
theorem gcJ_step {X q : Int64} {k : Nat} (h0 : X.toInt ≤ 0) (hk : X.toInt.natAbs < 10 ^ k) (hc : X ≤ -2147483648) (eq : q = X / 100) : 3 ≤ k ∧ q.toInt ≤ 0 ∧ q.toInt.natAbs < 10 ^ (k - 2) ∧ vp_in (q * 100 - X).toInt32 100 := by
  have hc' : X.toInt ≤ -2147483648 := by have := Int64.le_iff_toInt_le.mp hc; simpa using this
  have hd := gcJ_div h0
  rw [← eq] at hd
  have hr := gcJ_rem h0 eq
  have hi : (q * 100 - X).toInt32.toInt = (-X.toInt) % 100 := by
    rw [Int64.toInt_toInt32, hr]
    simp only [Int.bmod]
    split <;> omega
  have hk3 : 3 ≤ k := by
    rcases Nat.lt_or_ge k 3 with z | z
    · have h2 : 10 ^ k ≤ 10 ^ 2 := Nat.pow_le_pow_right (by decide) (by omega)
      omega
    · exact z
  refine ⟨hk3, by omega, ?_, gc_in (by rw [hi]; omega) (by rw [hi]; omega)⟩
  have e : 10 ^ k = 10 ^ (k - 2) * 100 := by
    rw [show k = k - 2 + 2 by omega, Nat.pow_add]
    simp
  rw [e] at hk
  generalize 10 ^ (k - 2) = t at hk ⊢
  omega
/-- the whole number that is left fits an int -/
theorem gcJ_int {X : Int64} {k : Nat} (h0 : X.toInt ≤ 0) (hc : ¬ X ≤ -2147483648) (hk : X.toInt.natAbs < 10 ^ k) : X.toInt32.toInt ≤ 0 ∧ X.toInt32.toInt.natAbs < 10 ^ k := by
  have hc' : -2147483648 < X.toInt := by have := Int64.lt_iff_toInt_lt.mp (Int64.not_le.mp hc); simpa using this
  have e : X.toInt32.toInt = X.toInt := by
    rw [Int64.toInt_toInt32]
    simp only [Int.bmod]
    split <;> omega
  rw [e]
  exact ⟨h0, hk⟩
theorem i_dn {x y : Int32} {k : Nat} (hx : x = nI k) (hk : 1 ≤ k) (hy : y = x + -1) : y = nI (k - 1) := by
  obtain ⟨j, rfl⟩ : ∃ j, k = j + 1 := ⟨k - 1, by omega⟩
  have h : nI j + 1 = nI (j + 1) := i_up rfl rfl
  rw [hy, hx, ← h]
  show nI j + 1 + -1 = nI j
  rw [Int32.add_assoc, show (1 : Int32) + -1 = 0 from by decide, Int32.add_zero]
/-- an array of bytes, whatever it holds -/
def BA (D : va_G) (tk : Nat → ClassId) (b n : Nat) (H : Heap) : Prop := ∃ f : Nat → Int32, sb_Fit f ∧ c1 D b (.inl (tk 1, n, .inl f)) H
theorem BA.kept {D : va_G} {tk : Nat → ClassId} {b n : Nat} {H H1 : Heap} (h : BA D tk b n H) (hq : H1[b]? = H[b]?) : BA D tk b n H1 := h.elim fun f z => ⟨f, z.1, z.2.kept hq⟩
theorem BA.lt {D : va_G} {tk : Nat → ClassId} {b n : Nat} {H : Heap} (h : BA D tk b n H) : b < H.size := h.elim fun _ z => z.2.lt
/-- the classes of arrays of bytes that are met: that of the made ones, and those of the constants' -/
def tyB (tk : Nat → ClassId) (c : ClassId) : Prop := c = tk 1 ∨ ∃ j : Nat, j < 16 ∧ c = tk (40 + j)
/-- the same, a constant's or made -/
def BX (tk : Nat → ClassId) (b n : Nat) (H : Heap) : Prop := ∃ (f : Nat → Int32) (cell : Cell), sb_Fit f ∧ H[b]? = some cell ∧ tyB tk cell.cls ∧ cell.vm.isStatics = false ∧ cell.vm ≠ .unknown ∧ n ≤ cell.slots.size ∧ cell.slots.size.toInt32 = Int32.ofNat n ∧ ∀ j, j < n → cell.slots[j]? = some (.int (f j))
theorem BX.kept {tk : Nat → ClassId} {b n : Nat} {H H1 : Heap} (h : BX tk b n H) (hq : H1[b]? = H[b]?) : BX tk b n H1 := by
  obtain ⟨f, cell, h1, h2, h3⟩ := h
  exact ⟨f, cell, h1, hq.trans h2, h3⟩
theorem BX.lt {tk : Nat → ClassId} {b n : Nat} {H : Heap} (h : BX tk b n H) : b < H.size := by
  obtain ⟨f, cell, h1, h2, h3⟩ := h
  exact (Array.getElem?_eq_some_iff.mp h2).1
theorem Ctx.ones {D : va_G} {tk : Nat → ClassId} {N0 : Nat} {sa : Nat → Nat} {U : State} (h : Ctx D tk N0 sa U) : ZT N0 "java/lang/Integer" "DigitOnes" "[B" .byte (sa 2) 100 (fun j => .int (Int32.ofNat (48 + j % 10))) U U.heap := h.2.2.2.2.2.2.2.2.1
theorem Ctx.tens {D : va_G} {tk : Nat → ClassId} {N0 : Nat} {sa : Nat → Nat} {U : State} (h : Ctx D tk N0 sa U) : ZT N0 "java/lang/Integer" "DigitTens" "[B" .byte (sa 3) 100 (fun j => .int (Int32.ofNat (48 + j / 10))) U U.heap := h.2.2.2.2.2.2.2.2.2.1
section LR5
variable {p : Program} {l : Launch} {e : Env} {R : Room} {s : State} {m : MethodId} {args : Array Value} {below : List Frame} {meth : Method} {c : Code} {H : Heap} {locs : List Loc} {cells slots : Nat} {Q : State → Prop}
variable {cc : ByteArray} {pc nL : Nat} {ls : Array Slot} {rest st0 : List Value} {Ts : List Cond} {own : String} {D : va_G} {tk : Nat → ClassId} {N0 : Nat} {sa : Nat → Nat} {A0 A1 : Nat → Prop}
theorem r_bastB (E : CallFix p m c cc nL s args Ts own) (hC : Ctx D tk N0 sa s) {b n : Nat} (h : BA D tk b n H) (hS : va_S A0 s.heap H locs) (hA : A0 b) {i x : Int32} (hin : vp_in i n) (hdg : decode cc pc = .ok (.bastore, 1))
    (kk : ∀ (H1 : Heap) (locs1 : List Loc), BA D tk b n H1 → (∀ q, q ≠ b → H1[q]? = H[q]?) → H1.size = H.size → va_S A0 s.heap H1 locs1 → W p l e R s m args below meth c H1 locs1 cells slots Q (F0 m (pc + 1) ls rest)) : W p l e R s m args below meth c H locs cells slots Q (F0 m pc ls (.int x :: .int i :: .ref b :: rest)) := by
  obtain ⟨f, hf, h⟩ := h
  refine W.bast E.1 E.2.1 h ((hC.1.2 1 (tk 1, .byte) rfl).1 n (fun j => .int (f j))) (fun q => by cases q) (by show ¬ (i < 0 ∨ (arrV _ _ _).slots.size ≤ _); rw [arrV_size]; exact hin) rfl rfl hdg fun H1 e z oq => ?_
  refine kk H1 _ ⟨upd f i.toNatClampNeg (vp_nar .byte x), sb_fitU hf (by rw [vp_nar_byte]; exact pk_fb x), ?_⟩ oq z (hS.put z oq hA)
  show H1[b]? = some (vp_cell _ _)
  rw [e]
  rw [vp_cell_i, vp_cell_i, arrV_store]
  congr 2
  funext q
  by_cases hq : q = i.toNatClampNeg
  · subst hq
    simp [updV, upd, vp_nar]
    try rfl
  · simp [updV, upd, hq]
theorem r_alenB (E : CallFix p m c cc nL s args Ts own) (hC : Ctx D tk N0 sa s) {b n : Nat} (h : BA D tk b n H) {v : Int32} (hv : nI n = v) (hdg : decode cc pc = .ok (.arraylength, 1))
    (kk : W p l e R s m args below meth c H locs cells slots Q (F0 m (pc + 1) ls (.int v :: rest))) : W p l e R s m args below meth c H locs cells slots Q (F0 m pc ls (.ref b :: rest)) := by
  obtain ⟨f, hf, h⟩ := h
  exact va_alen E.1 E.2.1 hC.1 h.P 0 1 rfl rfl hv hdg kk
end LR5
theorem Ctx.cs {D : va_G} {tk : Nat → ClassId} {N0 : Nat} {sa : Nat → Nat} {U : State} (h : Ctx D tk N0 sa U) : va_Z "java/lang/String" "COMPACT_STRINGS" "Z" (.int 1) (NA N0) U U.heap := h.2.2.2.2.2.2.1
theorem Ctx.al {D : va_G} {tk : Nat → ClassId} {N0 : Nat} {sa : Nat → Nat} {U : State} (h : Ctx D tk N0 sa U) : ZT N0 "java/util/ArrayList" "DEFAULTCAPACITY_EMPTY_ELEMENTDATA" "[Ljava/lang/Object;" (.object "java/lang/Object") (sa 1) 0 (fun _ => .null) U U.heap := h.2.2.2.2.2.2.2.1
/-- a StringBuilder of Latin-1 at a: its bytes at v -/
abbrev SBo (D : va_G) (a v : Nat) (ml n : Int32) (H : Heap) : Prop := c1 D a (.inr (1, [.ref v, .int 0, .int ml, .int n])) H
theorem nI_toIntS {k : Nat} (hk : k ≤ 100000000) : (nI k).toInt = k := by
  show (Int32.ofNat k).toInt = k
  rw [Int32.toInt_ofNat_of_lt (by omega)]
theorem nc_len {x x3 x4 y mn : Int32} {cap mk : Nat} (hx : x = nI cap) (hm : mn = nI mk) (h3 : x3 = mn <<< (0 &&& 31)) (h4 : x4 = x3 - x) (hy : y = x + ((2 : Int32) <<< ((0 : Int32) &&& 31))) (hc : cap ≤ 1000000) (hk : mk ≤ 1000000) (hlt : cap < mk) : x + f_max x4 y = nI (max mk (2 * cap + 2)) := by
  have e3 : x3 = mn := by rw [h3, show (0 &&& 31 : Int32) = 0 from by decide, Int32.shiftLeft_zero]
  have ex : x.toInt = cap := by rw [hx]; exact nI_toIntS (by omega)
  have em : mn.toInt = mk := by rw [hm]; exact nI_toIntS (by omega)
  have e4 : x4.toInt = (mk : Int) - cap := by
    rw [h4, e3, Int32.toInt_sub, ex, em]
    simp only [Int.bmod]
    split <;> omega
  have ey : y.toInt = (cap : Int) + 2 := by
    rw [hy, show ((2 : Int32) <<< ((0 : Int32) &&& 31)) = 2 from by decide, Int32.toInt_add, ex]
    show ((cap : Int) + 2).bmod (2 ^ 32) = _
    simp only [Int.bmod]
    split <;> omega
  apply Int32.toInt_inj.mp
  rw [nI_toIntS (by omega), Int32.toInt_add, ex]
  unfold f_max
  split
  · rename_i h
    have h' := Int32.lt_iff_toInt_lt.mp h
    rw [e4, ey] at h'
    rw [ey]
    simp only [Int.bmod]
    split <;> omega
  · rename_i h
    have h' := Int32.le_iff_toInt_le.mp (Int32.not_lt.mp h)
    rw [e4, ey] at h'
    rw [e4]
    simp only [Int.bmod]
    split <;> omega
theorem nc_pos {k : Nat} (hk : k ≤ 100000000) (h0 : 0 < k) : 0 < nI k ∧ nI k ≤ 2147483639 ∧ ¬ nI k = 2147483647 := by
  have e := nI_toIntS hk
  refine ⟨Int32.lt_iff_toInt_lt.mpr (by rw [e]; show (0 : Int) < k; omega), Int32.le_iff_toInt_le.mpr (by rw [e]; show (k : Int) ≤ 2147483639; omega), fun z => ?_⟩
  have := congrArg Int32.toInt z
  rw [e] at this
  have h2 : (k : Int) = 2147483647 := this
  omega
theorem w_ab : Cond.arrayClass .byte ∈ GW := gw_t 181 (by decide +kernel) rfl
section LR6
variable {p : Program} {l : Launch} {e : Env} {R : Room} {s : State} {m : MethodId} {args : Array Value} {below : List Frame} {meth : Method} {c : Code} {H : Heap} {locs : List Loc} {cells slots : Nat} {Q : State → Prop}
variable {cc : ByteArray} {pc nL : Nat} {ls : Array Slot} {rest st0 : List Value} {own : String} {D : va_G} {tk : Nat → ClassId} {N0 : Nat} {sa : Nat → Nat} {A0 A1 : Nat → Prop} {w0 : Cond}
theorem r_newb (E : CallFix p m c cc nL s args (w0 :: GW) own) (hC : Ctx D tk N0 sa s) (hS : va_S A0 s.heap H locs) {n : Int32} {N : Nat} (hn : ¬ n < 0) (hN : n.toNatClampNeg = N) (hbytes : N * 1 ≤ 536870912) (hcells : cells + 1 ≤ R.cells) (hslots : slots + N ≤ R.slots) (hdg : decode cc pc = .ok (.newarray .byte, 2))
    (kk : ∀ (q : Nat) (H1 : Heap), q = H.size → BA D tk q N H1 → (∀ x : Nat, x < H.size → H1[x]? = H[x]?) → va_S A0 s.heap H1 locs → W p l e R s m args below meth c H1 locs (cells + 1) (slots + N) Q (F0 m (pc + 2) ls (.ref q :: rest))) : W p l e R s m args below meth c H locs cells slots Q (F0 m pc ls (.int n :: rest)) := by
  refine va_newaK (atype := .byte) E.1 E.2.1 (E.2.2.2.2 _ (List.mem_cons_of_mem _ w_ab)) rfl hdg rfl hn hN hbytes hcells hslots rfl fun H1 cA e1 z1 o1 hAr hNm => ?_
  have hcA : cA = tk 1 := Option.some.inj (hNm.symm.trans (hC.1.2 1 (tk 1, .byte) rfl).2)
  subst hcA
  refine kk H.size H1 rfl ⟨fun _ => 0, sb_fit0, ?_⟩ o1 ⟨Nat.le_trans hS.1 (by omega), fun x h1 h2 => (o1 x (Nat.lt_of_lt_of_le h1 hS.1)).trans (hS.2.1 x h1 h2), hS.2.2⟩
  show H1[H.size]? = some (vp_cell _ _)
  rw [vp_cell_i]
  exact e1
end LR6
