/-! ===== the reference's rows: their values taken out ===== -/
section LR14
variable {p : Program} {l : Launch} {e : Env} {R : Room} {s : State} {m : MethodId} {args : Array Value} {below : List Frame} {meth : Method} {c : Code} {H : Heap} {locs : List Loc} {cells slots : Nat} {Q : State → Prop}
variable {cc : ByteArray} {pc nL : Nat} {ls : Array Slot} {rest : List Value} {w0 : Cond} {own : String} {D : va_G} {tk : Nat → ClassId} {N0 : Nat} {sa : Nat → Nat}
theorem r_castO (E : CallFix p m c cc nL s args (w0 :: GW) own) (hC : Ctx D tk N0 sa s) {a ci k index : Nat} {v : Value} {q : vw_C} (h : xf D ci a k v H) (hc : vwCl[ci]? = some q) (w1 : Cond.classLink own index q.1 ∈ GW) (hdg : decode cc pc = .ok (.checkcast index, 3))
    (kk : W p l e R s m args below meth c H locs cells slots Q (F0 m (pc + 3) ls (.ref a :: rest))) : W p l e R s m args below meth c H locs cells slots Q (F0 m pc ls (.ref a :: rest)) :=
  va_castS E.1 E.2.1 E.2.2.2.1 (E.2.2.2.2 _ (List.mem_cons_of_mem _ w1)) (hC.1.1 ci q hc).2 (xf.recv hC h hc) hdg kk
end LR14
/-- what the folding asks of a row -/
def PF (n : Nat) (w : Nat → Value) : Prop := ∀ i, i < n → ∃ x : Int64, w i = .long x ∧ x.toInt.natAbs ≤ 1000000010 ∧ (1 ≤ i → 1 ≤ x.toInt)
theorem m_two {mn : Int32} {mj : Nat} (h : mn = nI (mj + 1)) : mn - 2 + 1 = nI mj := by
  have h0 : ∀ a : Int32, a - 2 + 1 = a - 1 := by
    intro a
    rw [Int32.sub_eq_add_neg, Int32.sub_eq_add_neg, Int32.add_assoc]
    rfl
  rw [h0, h]
  exact nI_pred mj
/-- one step of the folding -/
theorem m_fold {T B x y : Int64} {k : Nat} (hT : 1 ≤ T.toInt) (hT2 : T ≤ 4000000000) (hB : 1 ≤ B.toInt ∧ B.toInt ≤ 4000000000) (hx : x.toInt.natAbs ≤ 1000000010) (hx1 : 1 ≤ k → 1 ≤ x.toInt) (hy : y = x * T + B) : T.toInt ≤ 4000000000 ∧ y.toInt.natAbs ≤ 5000000000000000000 ∧ (1 ≤ k → 1 ≤ y.toInt) := by
  have h1 : T.toInt ≤ 4000000000 := by
    have := Int64.le_iff_toInt_le.mp hT2
    have e : (4000000000 : Int64).toInt = 4000000000 := by decide
    omega
  obtain ⟨e1, e2⟩ := m_mulB (x := x) (y := T) (B := 1000000010) (C := 4000000000) hx (by omega) (by decide)
  obtain ⟨f1, f2⟩ := m_addB (x := x * T) (y := B) (B := 1000000010 * 4000000000) (C := 4000000000) e2 (by omega) (by decide)
  refine ⟨h1, by rw [hy]; omega, fun hk => ?_⟩
  have h2 := hx1 hk
  have h3 := Int.mul_le_mul_of_nonneg_right h2 (show 0 ≤ T.toInt by omega)
  rw [hy, f1, e1]
  omega
/-- the last one changed by one -/
theorem PF.last {n j : Nat} {w : Nat → Value} {x y mo : Int64} (h : PT n w 0) (hj : j + 1 = n) (hx : w j = .long x) (hmo : mo.toInt = 1 ∨ mo.toInt = -1) (hy : y = x + mo) : PF n (va_up w j (.long y)) := by
  obtain ⟨x1, e1, e2, e3, e4⟩ := h j (by omega)
  have ex : x1 = x := by rw [hx] at e1; exact (Value.long.inj e1).symm
  subst ex
  have hm : mo.toInt.natAbs ≤ 1 := by omega
  obtain ⟨f1, f2⟩ := m_addB (x := x1) (y := mo) (B := 1000000001) (C := 1) e2 hm (by decide)
  intro i hi
  by_cases e : i = j
  · subst e
    refine ⟨y, va_up_self _ _ _, by rw [hy]; omega, fun z => ?_⟩
    have := e4 z hj rfl
    rw [hy, f1]
    omega
  · obtain ⟨x2, g1, g2, g3, -⟩ := h i hi
    exact ⟨x2, by rw [va_up_ne _ _ e]; exact g1, by omega, g3⟩
theorem m_ndg : ∀ (f k m : Nat), m < 10 ^ (k + 1) → ndg f m ≤ k + 1 := by
  intro f
  induction f with
  | zero => intro k m _; exact Nat.le_add_left 1 k
  | succ f ih =>
    intro k m h
    unfold ndg
    split
    · exact Nat.le_add_left 1 k
    · cases k with
      | zero => omega
      | succ k =>
        have h1 : m / 10 < 10 ^ (k + 1) := by
          rw [Nat.pow_succ] at h
          omega
        have := ih k (m / 10) h1
        omega
theorem m_dg {x : Int64} (h : x.toInt.natAbs < 10000000000) : dgJ x ≤ 11 := by
  have h1 := m_ndg 19 9 x.toInt.natAbs h
  unfold dgJ
  split <;> omega
/-- what the telling of a row takes -/
def m_tS : Nat → Nat
  | 0 => 0
  | k + 1 => m_tS k + (60 * k + 60)
theorem m_tSB {k : Nat} (h : k ≤ 43) : m_tS k ≤ 56760 := by
  have hall : ∀ i : Fin 44, m_tS i.val ≤ 56760 := by decide +kernel
  exact hall ⟨k, by omega⟩
/-- all whole numbers, none too great -/
def PV (n : Nat) (w : Nat → Value) : Prop := ∀ i, i < n → ∃ x : Int64, w i = .long x ∧ x.toInt.natAbs ≤ 1000000010
