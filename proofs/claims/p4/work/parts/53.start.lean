/-! ===== the start: what every method is given, out of what the Statement gives of the start ===== -/
theorem tb_w (i : Nat) {w : Cond} (h : tables_1[i]? = some w) : w ∈ lw_tbl := List.mem_append_right _ (List.mem_of_getElem? h)
section ST1
variable {s : State} {args : Array Value}
theorem fl_i (hs : ∀ c ∈ flatC (Jvm.Cond.and given_1 narrow_1), c.before args s = true) (i : Nat) {c : Cond} (h : (flatC (Jvm.Cond.and given_1 narrow_1))[i]? = some c) : c.before args s = true := hs _ (List.mem_of_getElem? h)
theorem fl_r (hs : ∀ c ∈ flatC (Jvm.Cond.and given_1 narrow_1), c.before args s = true) {i0 n : Nat} {f : Nat → Cond} (h : ((flatC (Jvm.Cond.and given_1 narrow_1)).drop i0).take n = (List.range n).map f) : ∀ j, j < n → (f j).before args s = true := by
  intro j hj
  have h1 : f j ∈ ((flatC (Jvm.Cond.and given_1 narrow_1)).drop i0).take n := by
    rw [h]
    exact List.mem_map.mpr ⟨j, List.mem_range.mpr hj, rfl⟩
  exact hs _ (List.mem_of_mem_drop (List.mem_of_mem_take h1))
theorem st_pr {t : FieldType} (h : (Cond.arrayClass t).before args s = true) : ∃ cA : ClassId, ArrOfT s cA t ∧ s.vm.findClass ("[" ++ t.toString) = some cA := by
  obtain ⟨c, k, comp, h1, h2, h3⟩ := Cond.arrayClass_spec h
  exact ⟨c, fun n z => ⟨fun k h => (by cases h), k, h2, comp, h3⟩, h1⟩
theorem st_ob {C : String} (h : (Cond.arrayOver (.object C)).before args s = true) : ∃ cA : ClassId, ArrOfT s cA (.object C) ∧ va_RA s cA (.object C) := by
  obtain ⟨comp, c, k, h1, -, h3, h4, h5⟩ := Cond.arrayOver_spec h
  exact ⟨c, fun n z => ⟨fun k h => (by cases h), k, h3, comp, h4⟩, k, comp, h3, h4, h1, h5⟩
theorem st_ar {t : FieldType} (h : (Cond.arrayOver (.array t)).before args s = true) : ∃ cA : ClassId, ArrOfT s cA (.array t) ∧ va_RA s cA (.array t) := by
  obtain ⟨comp, c, k, h1, -, h3, h4, h5⟩ := arrayOverA_spec h
  exact ⟨c, fun n z => ⟨fun k h => (by cases h), k, h3, comp, h4⟩, h5⟩
/-- rows of a kind among what the start gives -/
theorem st_in {n : Nat} {f : Nat → Cond} (h : (List.range n).all (fun j => decide (f j ∈ flatC (Jvm.Cond.and given_1 narrow_1))) = true) (hs : ∀ c ∈ flatC (Jvm.Cond.and given_1 narrow_1), c.before args s = true) : ∀ j, j < n → (f j).before args s = true := by
  intro j hj
  exact hs _ (of_decide_eq_true (List.all_eq_true.mp h j (List.mem_range.mpr hj)))
/-- a String constant -/
theorem st_str {own tx : String} {k : Nat} {bs : List Int32} (hst : (Cond.stringRef own k tx).before args s = true) (hex : (Cond.exactly (.string own k) "java/lang/String").before args s = true) (hco : (Cond.eq (.field (.string own k) "java/lang/String" "coder" "B") (.int 0)).before args s = true)
    (har : (Cond.arrayOf (.field (.string own k) "java/lang/String" "value" "[B") .byte).before args s = true) (hle : (Cond.eq (.length (.field (.string own k) "java/lang/String" "value" "[B")) (.int (Int32.ofNat bs.length))).before args s = true) (hN : bs.length < 2 ^ 31)
    (hel : ∀ j, j < bs.length → (Cond.eq (.elem (.field (.string own k) "java/lang/String" "value" "[B") (.int (Int32.ofNat j))) (.int (bs.getD j 0))).before args s = true) :
    ∃ q : Nat × Nat, vk_R own k tx q.1 s ∧ va_O "java/lang/String" q.1 (NA s.heap.size) s s.heap ∧ va_OF "java/lang/String" "coder" "B" (.int 0) q.1 (NA s.heap.size) s s.heap ∧ va_OF "java/lang/String" "value" "[B" (.ref q.2) q.1 (NA s.heap.size) s s.heap ∧ va_T .byte q.2 bs.length (fun i => .int (bs.getD i 0)) (NA s.heap.size) s s.heap := by
  have hA : ∀ a : Nat, a < s.heap.size → ¬ NA s.heap.size a := fun a h => Nat.not_le.mpr h
  obtain ⟨a, c, cA, kA, q1, q2, q3, q4, q5, q6, -⟩ := Cond.exactly_spec (args := args) (first := s) (o := none) (s := s) (idx := []) (t := .string own k) (cls := "java/lang/String") hex
  obtain ⟨t, ht, hT⟩ := va_Tof (f := fun j => .int (bs.getD j 0)) (A := NA s.heap.size) hN har (va_eqt hle) (fun j hj => va_eqt (hel j hj)) hA
  exact ⟨(a, t), vk_R.of hst q1, ⟨cA, q3, q5, by rw [q6]; exact q2, hA a (Array.getElem?_eq_some_iff.mp q3).1⟩, vk_OFof q1 (va_eqt hco) hA, vk_OFof q1 ht hA, hT⟩
/-- a cache of boxes -/
theorem st_box {E d : String} {u : Term} {v : Nat → Value} {st : Term} (hc : st.closed = true) (hlen : (Term.length st).eval args s none [] s = some (.int (Int32.ofNat 256)))
    (hall : (Cond.all st (.and (.exactly (.elem st (.index 0)) E) (.eq (.field (.elem st (.index 0)) E "value" d) u))).before args s = true) (hu : ∀ k, k < 256 → u.eval args s none [k] s = some (v k)) :
    ∃ ad : Nat → Nat, bxC s.heap.size E d v ad s s.heap ∧ ∀ j : Nat, j < 256 → (Term.elem st (.int (Int32.ofNat j))).eval args s none [] s = some (.ref (ad j)) := by
  have hA : ∀ a : Nat, a < s.heap.size → ¬ NA s.heap.size a := fun a h => Nat.not_le.mpr h
  obtain ⟨b, cell, ht, hat, hv⟩ := Term.length_spec hlen
  have hsz : ∀ k : Nat, k < 256 → k < cell.slots.size := by
    intro k hk
    apply Nat.not_le.mp
    intro hle
    have e : Int32.ofNat cell.slots.size = Int32.ofNat 256 := (Value.int.inj hv).symm
    have h1 : (Int32.ofNat cell.slots.size).toNatClampNeg = cell.slots.size := Int32.toNatClampNeg_ofNat_of_lt (by omega)
    have h2 : (Int32.ofNat 256).toNatClampNeg = 256 := Int32.toNatClampNeg_ofNat_of_lt (by omega)
    rw [e, h2] at h1
    omega
  have hall' := Cond.all_elim ht hat (by simpa [Cond.before, Cond.holds] using hall)
  have h0 : ∀ k : Nat, ∃ a : Nat, k < 256 → (Term.elem st (.int (Int32.ofNat k))).eval args s none [] s = some (.ref a) ∧ va_O E a (NA s.heap.size) s s.heap ∧ va_OF E "value" d (v k) a (NA s.heap.size) s s.heap := by
    intro k
    by_cases hk : k < 256
    · obtain ⟨hE, hF⟩ := va_andE (hall' k (hsz k hk))
      obtain ⟨a, c, cA, kA, q1, q2, q3, q4, q5, q6, -⟩ := Cond.exactly_spec (args := args) (first := s) (o := none) (s := s) (idx := [k]) (t := .elem st (.index 0)) (cls := E) (by simp [Cond.holds, hE])
      have hfv := va_eqI hF (hu k hk)
      refine ⟨a, fun _ => ⟨?_, ⟨cA, q3, q5, by rw [q6]; exact q2, hA a (Array.getElem?_eq_some_iff.mp q3).1⟩, ?_⟩⟩
      · rw [← q1]
        simp only [Term.eval, Term.eval_closed none [k] st s hc]
        rfl
      · cases hfo : s.fieldFound? E "value" d with
        | none =>
          rw [va_fe q1] at hfv
          simp [State.fieldOf?, State.fieldNamed?, hfo] at hfv
        | some x =>
          obtain ⟨cf, kf, fi, f⟩ := x
          obtain ⟨g1, cell2, g2, g3, -, -, g6⟩ := Term.field_spec hfo q1 hfv
          exact ⟨cf, kf, fi, f, cell2, hfo, g1, g2, g3, g6, hA _ (Array.getElem?_eq_some_iff.mp g2).1⟩
    · exact ⟨0, fun h => absurd h hk⟩
  obtain ⟨ad, had⟩ := Classical.axiomOfChoice h0
  exact ⟨ad, ⟨fun k hk => (had k hk).2.1, fun k hk => (had k hk).2.2⟩, fun k hk => (had k hk).1⟩
theorem st_T {ty : FieldType} {t N : Nat} {f g : Nat → Value} {A : Nat → Prop} {H : Heap} (h : va_T ty t N f A s H) (e : ∀ j, j < N → f j = g j) : va_T ty t N g A s H := by
  obtain ⟨cell, h1, h2, h3, h4, h5, h6, h7⟩ := h
  exact ⟨cell, h1, h2, h3, h4, h5, fun j hj => (h6 j hj).trans (by rw [e j hj]), h7⟩
/-- one row of addresses, out of several -/
theorem st_sa (fx : Nat → Nat) (st : Nat → Nat × Nat) (lc ic : Nat → Nat) : ∃ sa : Nat → Nat, (∀ n, n < 10 → sa n = fx n) ∧ (∀ j, j < 16 → sa (10 + j) = (st j).1 ∧ sa (40 + j) = (st j).2) ∧ ∀ j, j < 256 → sa (1000 + j) = lc j ∧ sa (2000 + j) = ic j := by
  refine ⟨fun n => if n < 10 then fx n else if n < 40 then (st (n - 10)).1 else if n < 1000 then (st (n - 40)).2 else if n < 2000 then lc (n - 1000) else ic (n - 2000), fun n hn => ?_, fun j hj => ⟨?_, ?_⟩, fun j hj => ⟨?_, ?_⟩⟩
  · dsimp only
    rw [if_pos hn]
  · dsimp only
    rw [if_neg (by omega), if_pos (by omega), Nat.add_sub_cancel_left]
  · dsimp only
    rw [if_neg (by omega), if_neg (by omega), if_pos (by omega), Nat.add_sub_cancel_left]
  · dsimp only
    rw [if_neg (by omega), if_neg (by omega), if_neg (by omega), if_pos (by omega), Nat.add_sub_cancel_left]
  · dsimp only
    rw [if_neg (by omega), if_neg (by omega), if_neg (by omega), if_neg (by omega), Nat.add_sub_cancel_left]
theorem st_cls (hts : ∀ w ∈ lw_tbl, w.before args s = true) : ∃ D : va_G, ∀ (k : Nat) (q : vw_C), vwCl[k]? = some q → u_Kn s q.1 q.2.1 q.2.2 (D.1 k) (D.2 k) := by
  have hg : ∀ w ∈ Cond.initialized RL :: GW, w.before args s = true := fun w hw => hts w (by
    rcases List.mem_cons.mp hw with rfl | hw
    · exact (List.mem_filter.mp kw_0).1
    · exact (List.mem_filter.mp hw).1)
  have h0 : ∀ k : Nat, ∃ d : ClassId × (Nat → Nat), ∀ q : vw_C, vwCl[k]? = some q → u_Kn s q.1 q.2.1 q.2.2 d.1 d.2 := by
    intro k
    match k with
    | 0 =>
      obtain ⟨c, i, h⟩ := u_known (C := RJ0) (T := TJ0) (N := 4) (n := 4) hg uJ0 (hts _ (tb_w 320 (by decide +kernel)))
      exact ⟨(c, i), fun q hq => by cases hq; exact h⟩
    | 1 =>
      obtain ⟨c, i, h⟩ := u_known (C := RJ4) (T := TJ4) (N := 4) (n := 4) hg uJ4 (hts _ (tb_w 150 (by decide +kernel)))
      exact ⟨(c, i), fun q hq => by cases hq; exact h⟩
    | 2 =>
      obtain ⟨c, i, h⟩ := u_known (C := RJ6) (T := TJ6) (N := 1) (n := 1) hg uJ6 (hts _ (tb_w 1584 (by decide +kernel)))
      exact ⟨(c, i), fun q hq => by cases hq; exact h⟩
    | 3 =>
      obtain ⟨c, i, h⟩ := u_known (C := RJ13) (T := TJ13) (N := 1) (n := 1) hg uJ13 (hts _ (tb_w 1422 (by decide +kernel)))
      exact ⟨(c, i), fun q hq => by cases hq; exact h⟩
    | 4 =>
      obtain ⟨c, i, h⟩ := u_known (C := RJx00060) (T := TJx00060) (N := 6) (n := 6) hg uJx00060 (hts _ (tb_w 745 (by decide +kernel)))
      exact ⟨(c, i), fun q hq => by cases hq; exact h⟩
    | 5 =>
      obtain ⟨c, i, h⟩ := u_known (C := RJx7c733) (T := TJx7c733) (N := 6) (n := 6) hg uJx7c733 (hts _ (tb_w 711 (by decide +kernel)))
      exact ⟨(c, i), fun q hq => by cases hq; exact h⟩
    | 6 =>
      obtain ⟨c, i, h⟩ := u_known (C := RJx35411) (T := TJx35411) (N := 4) (n := 4) hg uJx35411 (hts _ (tb_w 1491 (by decide +kernel)))
      exact ⟨(c, i), fun q hq => by cases hq; exact h⟩
    | 7 =>
      obtain ⟨c, i, h⟩ := u_known (C := RJx4a65c) (T := TJx4a65c) (N := 3) (n := 3) hg uJx4a65c (hts _ (tb_w 1171 (by decide +kernel)))
      exact ⟨(c, i), fun q hq => by cases hq; exact h⟩
    | 8 =>
      obtain ⟨c, i, h⟩ := u_known (C := RX0) (T := TX0) (N := 2) (n := 2) hg uX0 (hts _ (tb_w 45 (by decide +kernel)))
      exact ⟨(c, i), fun q hq => by cases hq; exact h⟩
    | 9 =>
      obtain ⟨c, i, h⟩ := u_known (C := RX1) (T := TX1) (N := 8) (n := 8) hg uX1 (hts _ (tb_w 77 (by decide +kernel)))
      exact ⟨(c, i), fun q hq => by cases hq; exact h⟩
    | 10 =>
      obtain ⟨c, i, h⟩ := u_known (C := RX2) (T := TX2) (N := 2) (n := 2) hg uX2 (hts _ (tb_w 62 (by decide +kernel)))
      exact ⟨(c, i), fun q hq => by cases hq; exact h⟩
    | 11 =>
      obtain ⟨c, i, h⟩ := u_known (C := RX3) (T := TX3) (N := 9) (n := 9) hg uX3 (hts _ (tb_w 36 (by decide +kernel)))
      exact ⟨(c, i), fun q hq => by cases hq; exact h⟩
    | 12 =>
      obtain ⟨c, i, h⟩ := u_known (C := RX4) (T := TX4) (N := 2) (n := 2) hg uX4 (hts _ (tb_w 788 (by decide +kernel)))
      exact ⟨(c, i), fun q hq => by cases hq; exact h⟩
    | 13 =>
      obtain ⟨c, i, h⟩ := u_known (C := RX5) (T := TX5) (N := 9) (n := 9) hg uX5 (hts _ (tb_w 1163 (by decide +kernel)))
      exact ⟨(c, i), fun q hq => by cases hq; exact h⟩
    | k + 14 => exact ⟨(0, fun _ => 0), fun q hq => by simp [vwCl] at hq⟩
  obtain ⟨f, hf⟩ := Classical.axiomOfChoice h0
  exact ⟨(fun k => (f k).1, fun k => (f k).2), hf⟩
theorem st_strs (hts : ∀ w ∈ lw_tbl, w.before args s = true) (hs : ∀ c ∈ flatC (Jvm.Cond.and given_1 narrow_1), c.before args s = true) : ∃ st : Nat → Nat × Nat, ∀ (j : Nat) (q : String × Nat × String × List Int32), strK[j]? = some q → vk_R q.1 q.2.1 q.2.2.1 (st j).1 s ∧ va_O "java/lang/String" (st j).1 (NA s.heap.size) s s.heap ∧ va_OF "java/lang/String" "coder" "B" (.int 0) (st j).1 (NA s.heap.size) s s.heap ∧ va_OF "java/lang/String" "value" "[B" (.ref (st j).2) (st j).1 (NA s.heap.size) s s.heap ∧ va_T .byte (st j).2 q.2.2.2.length (fun i => .int (q.2.2.2.getD i 0)) (NA s.heap.size) s s.heap := by
  have h0 : ∀ j : Nat, ∃ st : Nat × Nat, ∀ q : String × Nat × String × List Int32, strK[j]? = some q → vk_R q.1 q.2.1 q.2.2.1 st.1 s ∧ va_O "java/lang/String" st.1 (NA s.heap.size) s s.heap ∧ va_OF "java/lang/String" "coder" "B" (.int 0) st.1 (NA s.heap.size) s s.heap ∧ va_OF "java/lang/String" "value" "[B" (.ref st.2) st.1 (NA s.heap.size) s s.heap ∧ va_T .byte st.2 q.2.2.2.length (fun i => .int (q.2.2.2.getD i 0)) (NA s.heap.size) s s.heap := by
    intro j
    match j with
    | 0 =>
      obtain ⟨st, h⟩ := st_str (own := "Bestratios") (tx := "!") (k := 316) (bs := [33]) (hts _ (tb_w 775 (by decide +kernel))) (fl_i hs 425 (by decide +kernel)) (fl_i hs 426 (by decide +kernel)) (fl_i hs 427 (by decide +kernel)) (fl_i hs 428 (by decide +kernel)) (by decide) (fl_r hs (i0 := 429) (n := 1) (f := fun j => Cond.eq (.elem (.field (.string "Bestratios" 316) "java/lang/String" "value" "[B") (.int (Int32.ofNat j))) (.int (([33] : List Int32).getD j 0))) (by decide +kernel))
      exact ⟨st, fun q hq => by cases hq; exact h⟩
    | 1 =>
      obtain ⟨st, h⟩ := st_str (own := "Bestratios") (tx := "there is no such RATIO") (k := 287) (bs := [116, 104, 101, 114, 101, 32, 105, 115, 32, 110, 111, 32, 115, 117, 99, 104, 32, 82, 65, 84, 73, 79]) (hts _ (tb_w 822 (by decide +kernel))) (fl_i hs 436 (by decide +kernel)) (fl_i hs 437 (by decide +kernel)) (fl_i hs 438 (by decide +kernel)) (fl_i hs 439 (by decide +kernel)) (by decide) (fl_r hs (i0 := 440) (n := 22) (f := fun j => Cond.eq (.elem (.field (.string "Bestratios" 287) "java/lang/String" "value" "[B") (.int (Int32.ofNat j))) (.int (([116, 104, 101, 114, 101, 32, 105, 115, 32, 110, 111, 32, 115, 117, 99, 104, 32, 82, 65, 84, 73, 79] : List Int32).getD j 0))) (by decide +kernel))
      exact ⟨st, fun q hq => by cases hq; exact h⟩
    | 2 =>
      obtain ⟨st, h⟩ := st_str (own := "Bestratios") (tx := "the bottom is 0") (k := 56) (bs := [116, 104, 101, 32, 98, 111, 116, 116, 111, 109, 32, 105, 115, 32, 48]) (hts _ (tb_w 827 (by decide +kernel))) (fl_i hs 469 (by decide +kernel)) (fl_i hs 470 (by decide +kernel)) (fl_i hs 471 (by decide +kernel)) (fl_i hs 472 (by decide +kernel)) (by decide) (fl_r hs (i0 := 473) (n := 15) (f := fun j => Cond.eq (.elem (.field (.string "Bestratios" 56) "java/lang/String" "value" "[B") (.int (Int32.ofNat j))) (.int (([116, 104, 101, 32, 98, 111, 116, 116, 111, 109, 32, 105, 115, 32, 48] : List Int32).getD j 0))) (by decide +kernel))
      exact ⟨st, fun q hq => by cases hq; exact h⟩
    | 3 =>
      obtain ⟨st, h⟩ := st_str (own := "Bestratios") (tx := "an argument is outside its bounds") (k := 290) (bs := [97, 110, 32, 97, 114, 103, 117, 109, 101, 110, 116, 32, 105, 115, 32, 111, 117, 116, 115, 105, 100, 101, 32, 105, 116, 115, 32, 98, 111, 117, 110, 100, 115]) (hts _ (tb_w 854 (by decide +kernel))) (fl_i hs 496 (by decide +kernel)) (fl_i hs 497 (by decide +kernel)) (fl_i hs 498 (by decide +kernel)) (fl_i hs 499 (by decide +kernel)) (by decide) (fl_r hs (i0 := 500) (n := 33) (f := fun j => Cond.eq (.elem (.field (.string "Bestratios" 290) "java/lang/String" "value" "[B") (.int (Int32.ofNat j))) (.int (([97, 110, 32, 97, 114, 103, 117, 109, 101, 110, 116, 32, 105, 115, 32, 111, 117, 116, 115, 105, 100, 101, 32, 105, 116, 115, 32, 98, 111, 117, 110, 100, 115] : List Int32).getD j 0))) (by decide +kernel))
      exact ⟨st, fun q hq => by cases hq; exact h⟩
    | 4 =>
      obtain ⟨st, h⟩ := st_str (own := "Bestratios") (tx := "an argument is below 0") (k := 292) (bs := [97, 110, 32, 97, 114, 103, 117, 109, 101, 110, 116, 32, 105, 115, 32, 98, 101, 108, 111, 119, 32, 48]) (hts _ (tb_w 990 (by decide +kernel))) (fl_i hs 542 (by decide +kernel)) (fl_i hs 543 (by decide +kernel)) (fl_i hs 544 (by decide +kernel)) (fl_i hs 545 (by decide +kernel)) (by decide) (fl_r hs (i0 := 546) (n := 22) (f := fun j => Cond.eq (.elem (.field (.string "Bestratios" 292) "java/lang/String" "value" "[B") (.int (Int32.ofNat j))) (.int (([97, 110, 32, 97, 114, 103, 117, 109, 101, 110, 116, 32, 105, 115, 32, 98, 101, 108, 111, 119, 32, 48] : List Int32).getD j 0))) (by decide +kernel))
      exact ⟨st, fun q hq => by cases hq; exact h⟩
    | 5 =>
      obtain ⟨st, h⟩ := st_str (own := "Bestratios") (tx := "the ROW is full") (k := 157) (bs := [116, 104, 101, 32, 82, 79, 87, 32, 105, 115, 32, 102, 117, 108, 108]) (hts _ (tb_w 1021 (by decide +kernel))) (fl_i hs 578 (by decide +kernel)) (fl_i hs 579 (by decide +kernel)) (fl_i hs 580 (by decide +kernel)) (fl_i hs 581 (by decide +kernel)) (by decide) (fl_r hs (i0 := 582) (n := 15) (f := fun j => Cond.eq (.elem (.field (.string "Bestratios" 157) "java/lang/String" "value" "[B") (.int (Int32.ofNat j))) (.int (([116, 104, 101, 32, 82, 79, 87, 32, 105, 115, 32, 102, 117, 108, 108] : List Int32).getD j 0))) (by decide +kernel))
      exact ⟨st, fun q hq => by cases hq; exact h⟩
    | 6 =>
      obtain ⟨st, h⟩ := st_str (own := "BestratiosModel") (tx := "") (k := 67) (bs := []) (hts _ (tb_w 1347 (by decide +kernel))) (fl_i hs 608 (by decide +kernel)) (fl_i hs 609 (by decide +kernel)) (fl_i hs 610 (by decide +kernel)) (fl_i hs 611 (by decide +kernel)) (by decide) (fun j hj => absurd hj (Nat.not_lt_zero j))
      exact ⟨st, fun q hq => by cases hq; exact h⟩
    | 7 =>
      obtain ⟨st, h⟩ := st_str (own := "BestratiosModel") (tx := "/") (k := 80) (bs := [47]) (hts _ (tb_w 1382 (by decide +kernel))) (fl_i hs 624 (by decide +kernel)) (fl_i hs 625 (by decide +kernel)) (fl_i hs 626 (by decide +kernel)) (fl_i hs 627 (by decide +kernel)) (by decide) (fl_r hs (i0 := 628) (n := 1) (f := fun j => Cond.eq (.elem (.field (.string "BestratiosModel" 80) "java/lang/String" "value" "[B") (.int (Int32.ofNat j))) (.int (([47] : List Int32).getD j 0))) (by decide +kernel))
      exact ⟨st, fun q hq => by cases hq; exact h⟩
    | 8 =>
      obtain ⟨st, h⟩ := st_str (own := "BestratiosModel") (tx := " ") (k := 194) (bs := [32]) (hts _ (tb_w 1541 (by decide +kernel))) (fl_i hs 642 (by decide +kernel)) (fl_i hs 643 (by decide +kernel)) (fl_i hs 644 (by decide +kernel)) (fl_i hs 645 (by decide +kernel)) (by decide) (fl_r hs (i0 := 646) (n := 1) (f := fun j => Cond.eq (.elem (.field (.string "BestratiosModel" 194) "java/lang/String" "value" "[B") (.int (Int32.ofNat j))) (.int (([32] : List Int32).getD j 0))) (by decide +kernel))
      exact ⟨st, fun q hq => by cases hq; exact h⟩
    | 9 =>
      obtain ⟨st, h⟩ := st_str (own := "BestratiosModel") (tx := "!") (k := 257) (bs := [33]) (hts _ (tb_w 1682 (by decide +kernel))) (fl_i hs 661 (by decide +kernel)) (fl_i hs 662 (by decide +kernel)) (fl_i hs 663 (by decide +kernel)) (fl_i hs 664 (by decide +kernel)) (by decide) (fl_r hs (i0 := 665) (n := 1) (f := fun j => Cond.eq (.elem (.field (.string "BestratiosModel" 257) "java/lang/String" "value" "[B") (.int (Int32.ofNat j))) (.int (([33] : List Int32).getD j 0))) (by decide +kernel))
      exact ⟨st, fun q hq => by cases hq; exact h⟩
    | 10 =>
      obtain ⟨st, h⟩ := st_str (own := "BestratiosModel") (tx := "R") (k := 259) (bs := [82]) (hts _ (tb_w 1683 (by decide +kernel))) (fl_i hs 681 (by decide +kernel)) (fl_i hs 682 (by decide +kernel)) (fl_i hs 683 (by decide +kernel)) (fl_i hs 684 (by decide +kernel)) (by decide) (fl_r hs (i0 := 685) (n := 1) (f := fun j => Cond.eq (.elem (.field (.string "BestratiosModel" 259) "java/lang/String" "value" "[B") (.int (Int32.ofNat j))) (.int (([82] : List Int32).getD j 0))) (by decide +kernel))
      exact ⟨st, fun q hq => by cases hq; exact h⟩
    | 11 =>
      obtain ⟨st, h⟩ := st_str (own := "BestratiosModel") (tx := "L") (k := 261) (bs := [76]) (hts _ (tb_w 1684 (by decide +kernel))) (fl_i hs 702 (by decide +kernel)) (fl_i hs 703 (by decide +kernel)) (fl_i hs 704 (by decide +kernel)) (fl_i hs 705 (by decide +kernel)) (by decide) (fl_r hs (i0 := 706) (n := 1) (f := fun j => Cond.eq (.elem (.field (.string "BestratiosModel" 261) "java/lang/String" "value" "[B") (.int (Int32.ofNat j))) (.int (([76] : List Int32).getD j 0))) (by decide +kernel))
      exact ⟨st, fun q hq => by cases hq; exact h⟩
    | 12 =>
      obtain ⟨st, h⟩ := st_str (own := "BestratiosModel") (tx := "0") (k := 273) (bs := [48]) (hts _ (tb_w 1711 (by decide +kernel))) (fl_i hs 724 (by decide +kernel)) (fl_i hs 725 (by decide +kernel)) (fl_i hs 726 (by decide +kernel)) (fl_i hs 727 (by decide +kernel)) (by decide) (fl_r hs (i0 := 728) (n := 1) (f := fun j => Cond.eq (.elem (.field (.string "BestratiosModel" 273) "java/lang/String" "value" "[B") (.int (Int32.ofNat j))) (.int (([48] : List Int32).getD j 0))) (by decide +kernel))
      exact ⟨st, fun q hq => by cases hq; exact h⟩
    | 13 =>
      obtain ⟨st, h⟩ := st_str (own := "BestratiosModel") (tx := "-") (k := 275) (bs := [45]) (hts _ (tb_w 1712 (by decide +kernel))) (fl_i hs 747 (by decide +kernel)) (fl_i hs 748 (by decide +kernel)) (fl_i hs 749 (by decide +kernel)) (fl_i hs 750 (by decide +kernel)) (by decide) (fl_r hs (i0 := 751) (n := 1) (f := fun j => Cond.eq (.elem (.field (.string "BestratiosModel" 275) "java/lang/String" "value" "[B") (.int (Int32.ofNat j))) (.int (([45] : List Int32).getD j 0))) (by decide +kernel))
      exact ⟨st, fun q hq => by cases hq; exact h⟩
    | 14 =>
      obtain ⟨st, h⟩ := st_str (own := "java/lang/StringLatin1") (tx := "") (k := 151) (bs := []) (hts _ (tb_w 1726 (by decide +kernel))) (fl_i hs 771 (by decide +kernel)) (fl_i hs 772 (by decide +kernel)) (fl_i hs 773 (by decide +kernel)) (fl_i hs 774 (by decide +kernel)) (by decide) (fun j hj => absurd hj (Nat.not_lt_zero j))
      exact ⟨st, fun q hq => by cases hq; exact h⟩
    | 15 =>
      obtain ⟨st, h⟩ := st_str (own := "BestratiosModel") (tx := ".") (k := 281) (bs := [46]) (hts _ (tb_w 1741 (by decide +kernel))) (fl_i hs 820 (by decide +kernel)) (fl_i hs 821 (by decide +kernel)) (fl_i hs 822 (by decide +kernel)) (fl_i hs 823 (by decide +kernel)) (by decide) (fl_r hs (i0 := 824) (n := 1) (f := fun j => Cond.eq (.elem (.field (.string "BestratiosModel" 281) "java/lang/String" "value" "[B") (.int (Int32.ofNat j))) (.int (([46] : List Int32).getD j 0))) (by decide +kernel))
      exact ⟨st, fun q hq => by cases hq; exact h⟩
    | j + 16 => exact ⟨(0, 0), fun q hq => by simp [strK] at hq⟩
  exact Classical.axiomOfChoice h0
end ST1
