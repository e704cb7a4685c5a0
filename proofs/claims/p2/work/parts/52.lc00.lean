/-! ===== the law's cases ===== -/
theorem lw_in {i j L : Nat} (h : i + j < L) (hL : L ≤ 320) {x : Int32} (hx : x = nI j) : vp_in (nI i + x) L := by
  rw [hx, nI_add]
  exact vp_in_nI h (by omega)
theorem nn16 {x : Int32} (h0 : 0 ≤ x) (h : x ≤ 16) : x.toNatClampNeg ≤ 64 := by
  have h1 := Int32.le_iff_toInt_le.mp h
  have e1 : (16 : Int32).toInt = 16 := by decide
  have e2 : x.toNatClampNeg = x.toInt.toNat := rfl
  omega
theorem MI.obj {D : va_G} {tk : Nat → ClassId} {sa : Nat → Nat} {P : Nat → Prop} {mo : Nat} {tt bb : Nat → Int64} {eT eB oT oB : Int64} {pk : Nat} {ca rf : Int32} {vs : Nat → Value} {kn : Int32} {n9 : Nat} {th : Int32} {H : Heap} (h : MI D tk sa P mo tt bb eT eB oT oB pk ca rf vs kn n9 th H) : ∃ fs, c1 D mo (.inr (13, fs)) H := by
  obtain ⟨ra, rl, ex, ro, rt, fo, -⟩ := h
  exact ⟨_, fo⟩
theorem MI.new {D : va_G} {tk : Nat → ClassId} {sa : Nat → Nat} {P : Nat → Prop} {mo : Nat} {tt bb : Nat → Int64} {eT eB oT oB : Int64} {pk : Nat} {ca rf : Int32} {vs : Nat → Value} {kn : Int32} {n9 : Nat} {th : Int32} {H H1 : Heap} (h : MI D tk sa P mo tt bb eT eB oT oB pk ca rf vs kn n9 th H) (hk : ∀ q : Nat, q < H.size → ¬ nwA H.size q → H1[q]? = H[q]?) : MI D tk sa P mo tt bb eT eB oT oB pk ca rf vs kn n9 th H1 := h.kept hk (fun _ hl _ => Nat.not_le.mpr hl) (fun _ _ hl => Nat.not_le.mpr hl)
