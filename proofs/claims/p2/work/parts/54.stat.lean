/-! ===== the statics at the start ===== -/
section ST2
variable {s : State} {args : Array Value}
theorem st_na : ∀ a : Nat, a < s.heap.size → ¬ NA s.heap.size a := fun a h => Nat.not_le.mpr h
theorem st_pow (hs : ∀ c ∈ flatC (Jvm.Cond.and given_1 narrow_1), c.before args s = true) : ∃ t : Nat, (Term.static "Bestratios" "POWERS_OF_TEN" "[J").eval args s none [] s = some (.ref t) ∧ va_T .long t 10 (fun j => .long (p10 j)) (NA s.heap.size) s s.heap :=
  va_Tof (tm := (.static "Bestratios" "POWERS_OF_TEN" "[J")) (by decide) (fl_i hs 218 (by decide +kernel)) (va_eqt (z := Int32.ofNat 10) (fl_i hs 219 (by decide +kernel))) (fun j hj => va_eqtl (fl_r hs (i0 := 220) (n := 10) (f := fun j => Cond.eq (.elem (.static "Bestratios" "POWERS_OF_TEN" "[J") (.int (Int32.ofNat j))) (.long (p10 j))) (by decide +kernel) j hj)) st_na
theorem st_ones (hs : ∀ c ∈ flatC (Jvm.Cond.and given_1 narrow_1), c.before args s = true) : ∃ t : Nat, (Term.static "java/lang/Integer" "DigitOnes" "[B").eval args s none [] s = some (.ref t) ∧ va_T .byte t 100 (fun j => .int (Int32.ofNat (48 + j % 10))) (NA s.heap.size) s s.heap :=
  va_Tof (tm := (.static "java/lang/Integer" "DigitOnes" "[B")) (by decide) (fl_i hs 10 (by decide +kernel)) (va_eqt (z := Int32.ofNat 100) (fl_i hs 11 (by decide +kernel))) (fun j hj => va_eqt (fl_r hs (i0 := 12) (n := 100) (f := fun j => Cond.eq (.elem (.static "java/lang/Integer" "DigitOnes" "[B") (.int (Int32.ofNat j))) (.int (Int32.ofNat (48 + j % 10)))) (by decide +kernel) j hj)) st_na
theorem st_tens (hs : ∀ c ∈ flatC (Jvm.Cond.and given_1 narrow_1), c.before args s = true) : ∃ t : Nat, (Term.static "java/lang/Integer" "DigitTens" "[B").eval args s none [] s = some (.ref t) ∧ va_T .byte t 100 (fun j => .int (Int32.ofNat (48 + j / 10))) (NA s.heap.size) s s.heap :=
  va_Tof (tm := (.static "java/lang/Integer" "DigitTens" "[B")) (by decide) (fl_i hs 113 (by decide +kernel)) (va_eqt (z := Int32.ofNat 100) (fl_i hs 114 (by decide +kernel))) (fun j hj => va_eqt (fl_r hs (i0 := 115) (n := 100) (f := fun j => Cond.eq (.elem (.static "java/lang/Integer" "DigitTens" "[B") (.int (Int32.ofNat j))) (.int (Int32.ofNat (48 + j / 10)))) (by decide +kernel) j hj)) st_na
theorem st_al (hs : ∀ c ∈ flatC (Jvm.Cond.and given_1 narrow_1), c.before args s = true) : ∃ t : Nat, (Term.static "java/util/ArrayList" "DEFAULTCAPACITY_EMPTY_ELEMENTDATA" "[Ljava/lang/Object;").eval args s none [] s = some (.ref t) ∧ va_T (.object "java/lang/Object") t 0 (fun _ => .null) (NA s.heap.size) s s.heap :=
  va_Tof (tm := .static "java/util/ArrayList" "DEFAULTCAPACITY_EMPTY_ELEMENTDATA" "[Ljava/lang/Object;") (by decide) (fl_i hs 231 (by decide +kernel)) (va_eqt (z := Int32.ofNat 0) (fl_i hs 233 (by decide +kernel))) (fun j hj => absurd hj (Nat.not_lt_zero j)) st_na
theorem st_i2 : ∀ k : Nat, k < 256 → (Int32.ofNat k - 128).toInt64 = Int64.ofNat k - 128 := by
  have hall : ∀ i : Fin 256, (Int32.ofNat i.val - 128).toInt64 = Int64.ofNat i.val - 128 := by decide +kernel
  exact fun k hk => hall ⟨k, hk⟩
theorem st_lc (hs : ∀ c ∈ flatC (Jvm.Cond.and given_1 narrow_1), c.before args s = true) : ∃ (ad : Nat → Nat) (t : Nat), bxC s.heap.size "java/lang/Long" "J" (fun j => .long (Int64.ofNat j - 128)) ad s s.heap ∧ (Term.static "java/lang/Long$LongCache" "cache" "[Ljava/lang/Long;").eval args s none [] s = some (.ref t) ∧ va_T (.object "java/lang/Long") t 256 (fun j => .ref (ad j)) (NA s.heap.size) s s.heap := by
  have hlen : (Term.length (.static "java/lang/Long$LongCache" "cache" "[Ljava/lang/Long;")).eval args s none [] s = some (.int (Int32.ofNat 256)) := va_eqt (z := Int32.ofNat 256) (fl_i hs 236 (by decide +kernel))
  obtain ⟨ad, h1, h2⟩ := st_box (E := "java/lang/Long") (d := "J") (u := .op1 .i2l (.sub (.index 0) (.int 128))) (v := fun j => .long (Int64.ofNat j - 128)) (st := (.static "java/lang/Long$LongCache" "cache" "[Ljava/lang/Long;")) rfl hlen (fl_i hs 237 (by decide +kernel)) (fun k hk => by rw [← st_i2 k hk]; rfl)
  obtain ⟨t, e, h3⟩ := va_Tof (tm := (.static "java/lang/Long$LongCache" "cache" "[Ljava/lang/Long;")) (ty := .object "java/lang/Long") (N := 256) (f := fun j => .ref (ad j)) (A := NA s.heap.size) (by decide) (fl_i hs 235 (by decide +kernel)) hlen h2 st_na
  exact ⟨ad, t, h1, e, h3⟩
theorem st_ic (hs : ∀ c ∈ flatC (Jvm.Cond.and given_1 narrow_1), c.before args s = true) : ∃ (ad : Nat → Nat) (t : Nat), bxC s.heap.size "java/lang/Integer" "I" (fun j => .int (Int32.ofNat j - 128)) ad s s.heap ∧ (Term.static "java/lang/Integer$IntegerCache" "cache" "[Ljava/lang/Integer;").eval args s none [] s = some (.ref t) ∧ va_T (.object "java/lang/Integer") t 256 (fun j => .ref (ad j)) (NA s.heap.size) s s.heap := by
  have hlen : (Term.length (.static "java/lang/Integer$IntegerCache" "cache" "[Ljava/lang/Integer;")).eval args s none [] s = some (.int (Int32.ofNat 256)) := va_eqt (z := Int32.ofNat 256) (fl_i hs 241 (by decide +kernel))
  obtain ⟨ad, h1, h2⟩ := st_box (E := "java/lang/Integer") (d := "I") (u := .sub (.index 0) (.int 128)) (v := fun j => .int (Int32.ofNat j - 128)) (st := (.static "java/lang/Integer$IntegerCache" "cache" "[Ljava/lang/Integer;")) rfl hlen (fl_i hs 242 (by decide +kernel)) (fun k hk => rfl)
  obtain ⟨t, e, h3⟩ := va_Tof (tm := (.static "java/lang/Integer$IntegerCache" "cache" "[Ljava/lang/Integer;")) (ty := .object "java/lang/Integer") (N := 256) (f := fun j => .ref (ad j)) (A := NA s.heap.size) (by decide) (fl_i hs 240 (by decide +kernel)) hlen h2 st_na
  exact ⟨ad, t, h1, e, h3⟩
theorem st_no {cell : Cell} (h : ∀ k, cell.vm ≠ .statics k) : cell.vm.isStatics = false := by
  cases hv : cell.vm with
  | statics k => exact absurd hv (h k)
  | _ => rfl
end ST2
