/-! ===== boxes, arrays of Objects, ArrayList, its iterator ===== -/
theorem Ctx.lca {D : va_G} {tk : Nat → ClassId} {N0 : Nat} {sa : Nat → Nat} {U : State} (h : Ctx D tk N0 sa U) : ZT N0 "java/lang/Long$LongCache" "cache" "[Ljava/lang/Long;" (.object "java/lang/Long") (sa 4) 256 (fun j => .ref (sa (1000 + j))) U U.heap := h.2.2.2.2.2.2.2.2.2.2.1
theorem Ctx.ica {D : va_G} {tk : Nat → ClassId} {N0 : Nat} {sa : Nat → Nat} {U : State} (h : Ctx D tk N0 sa U) : ZT N0 "java/lang/Integer$IntegerCache" "cache" "[Ljava/lang/Integer;" (.object "java/lang/Integer") (sa 5) 256 (fun j => .ref (sa (2000 + j))) U U.heap := h.2.2.2.2.2.2.2.2.2.2.2.2.1
theorem Ctx.ihi {D : va_G} {tk : Nat → ClassId} {N0 : Nat} {sa : Nat → Nat} {U : State} (h : Ctx D tk N0 sa U) : va_Z "java/lang/Integer$IntegerCache" "high" "I" (.int 127) (NA N0) U U.heap := h.2.2.2.2.2.2.2.2.2.2.2.2.2.2.1
theorem box_of {D : va_G} {tk : Nat → ClassId} {N0 : Nat} {sa : Nat → Nat} {s : State} {A0 : Nat → Prop} {H : Heap} {locs : List Loc} (hC : Ctx D tk N0 sa s) (hS : va_S A0 s.heap H locs) (hA : ∀ q, A0 q → N0 ≤ q) {ci : Nat} {r : vw_C} (hc : vwCl[ci]? = some r) (h1 : (r.2.1 0).1 = r.1) {d : String} (h2 : (r.2.1 0).2.1 = "value" ∧ (r.2.1 0).2.2.1 = d) (hN : 0 < r.2.2) {v : Nat → Value} {ad : Nat → Nat} (hb : bxC N0 r.1 d v ad s s.heap) {j : Nat} (hj : j < 256) : xf D ci (ad j) 0 (v j) H := by
  have keep : ∀ a : Nat, a < s.heap.size → ¬ NA N0 a → H[a]? = s.heap[a]? := fun a h1 h2 => hS.2.1 a h1 (fun z => h2 (hA a z))
  obtain ⟨c0, o1, o2, o3, -⟩ := (hb.1 j hj).kept keep
  obtain ⟨cf, kf, i, f, cell, p1, p2, p3, p4, p5, -⟩ := (hb.2 j hj).kept keep
  obtain ⟨hSl, hfc, -⟩ := hC.1.1 ci r hc
  obtain ⟨cf', kf', fi', f', hi', hs'⟩ := hSl 0 hN
  rw [h1, h2.1, h2.2] at hi'
  cases p1.symm.trans hi'
  cases o1.symm.trans p3
  refine ⟨c0, o1, (Option.some.inj (hfc.symm.trans o3)).symm, o2, p4, ?_⟩
  rw [← hs']; exact p5
theorem Ctx.boxJ {D : va_G} {tk : Nat → ClassId} {N0 : Nat} {sa : Nat → Nat} {s : State} {A0 : Nat → Prop} {H : Heap} {locs : List Loc} (hC : Ctx D tk N0 sa s) (hS : va_S A0 s.heap H locs) (hA : ∀ q, A0 q → N0 ≤ q) {j : Nat} (hj : j < 256) : xf D 3 (sa (1000 + j)) 0 (.long (Int64.ofNat j - 128)) H :=
  box_of hC hS hA (ci := 3) (r := (RJ13, TJ13, 1)) rfl rfl ⟨rfl, rfl⟩ (by decide) (v := fun j => .long (Int64.ofNat j - 128)) (ad := fun j => sa (1000 + j)) hC.2.2.2.2.2.2.2.2.2.2.2.1 hj
theorem Ctx.boxI {D : va_G} {tk : Nat → ClassId} {N0 : Nat} {sa : Nat → Nat} {s : State} {A0 : Nat → Prop} {H : Heap} {locs : List Loc} (hC : Ctx D tk N0 sa s) (hS : va_S A0 s.heap H locs) (hA : ∀ q, A0 q → N0 ≤ q) {j : Nat} (hj : j < 256) : xf D 2 (sa (2000 + j)) 0 (.int (Int32.ofNat j - 128)) H :=
  box_of hC hS hA (ci := 2) (r := (RJ6, TJ6, 1)) rfl rfl ⟨rfl, rfl⟩ (by decide) (v := fun j => .int (Int32.ofNat j - 128)) (ad := fun j => sa (2000 + j)) hC.2.2.2.2.2.2.2.2.2.2.2.2.2.1 hj
theorem bxj {x : Int64} (h1 : ¬ x < (-128)) (h2 : ¬ 127 < x) : ∃ j : Nat, j < 256 ∧ x.toInt32 + 128 = nI j ∧ x = Int64.ofNat j - 128 := by
  have a1 : -128 ≤ x.toInt := by have := Int64.le_iff_toInt_le.mp (Int64.not_lt.mp h1); simpa using this
  have a2 : x.toInt ≤ 127 := by have := Int64.le_iff_toInt_le.mp (Int64.not_lt.mp h2); simpa using this
  refine ⟨(x.toInt + 128).toNat, by omega, ?_, ?_⟩
  · apply Int32.toInt_inj.mp
    rw [nI_toIntS (by omega), Int32.toInt_add, Int64.toInt_toInt32]
    show (x.toInt.bmod (2 ^ 32) + 128).bmod (2 ^ 32) = _
    simp only [Int.bmod]
    split <;> split <;> omega
  · apply Int64.toInt_inj.mp
    rw [Int64.toInt_sub, Int64.toInt_ofNat_of_lt (by omega)]
    show _ = (((x.toInt + 128).toNat : Int) - 128).bmod (2 ^ 64)
    simp only [Int.bmod]
    split <;> omega
/-- the elements of a row: all there, with their values -/
def EL (D : va_G) (ce n : Nat) (f : Nat → Option Nat) (vs : Nat → Value) (H : Heap) : Prop := ∀ i, i < n → ∃ q, f i = some q ∧ xf D ce q 0 (vs i) H
theorem EL.kept {D : va_G} {ce n : Nat} {f : Nat → Option Nat} {vs : Nat → Value} {P : Nat → Prop} {H H1 : Heap} (h : EL D ce n f vs H) (hq : ∀ q : Nat, q < H.size → ¬ P q → H1[q]? = H[q]?) (hp : ∀ q, clA q (D.1 ce) H → q < H.size → ¬ P q) : EL D ce n f vs H1 := fun i hi => by
  obtain ⟨q, h1, h2⟩ := h i hi
  exact ⟨q, h1, h2.kept (hq q h2.lt (hp q h2.cl h2.lt))⟩
theorem EL.new {D : va_G} {ce n : Nat} {f : Nat → Option Nat} {vs : Nat → Value} {H H1 : Heap} (h : EL D ce n f vs H) (hk : ∀ q : Nat, q < H.size → ¬ nwA H.size q → H1[q]? = H[q]?) : EL D ce n f vs H1 := h.kept hk (fun _ _ hl => Nat.not_le.mpr hl)
theorem EL.old {D : va_G} {ce n : Nat} {f : Nat → Option Nat} {vs : Nat → Value} {H H1 : Heap} (h : EL D ce n f vs H) (hk : ∀ q : Nat, q < H.size → H1[q]? = H[q]?) : EL D ce n f vs H1 := h.kept (P := fun _ => False) (fun q hl _ => hk q hl) (fun _ _ _ => id)
theorem EL.put {D : va_G} {ce n w : Nat} {f : Nat → Option Nat} {vs : Nat → Value} {H H1 : Heap} (h : EL D ce n f vs H) (ho : ∀ q : Nat, q ≠ w → H1[q]? = H[q]?) (hp : ∀ q, clA q (D.1 ce) H → q ≠ w) : EL D ce n f vs H1 := h.kept (P := fun q => q = w) (fun q _ hn => ho q hn) (fun q hc _ => hp q hc)
theorem EL.keep1 {D : va_G} {ce n w : Nat} {f : Nat → Option Nat} {vs : Nat → Value} {H H1 : Heap} (h : EL D ce n f vs H) (hk : ∀ q : Nat, q < H.size → ¬ inA1 w H.size q → H1[q]? = H[q]?) (hp : ∀ q, clA q (D.1 ce) H → q ≠ w) : EL D ce n f vs H1 := h.kept (P := inA1 w H.size) hk (fun q hc hl => inA1.not (hp q hc) hl)
theorem EL.keep2 {D : va_G} {ce n w u : Nat} {f : Nat → Option Nat} {vs : Nat → Value} {H H1 : Heap} (h : EL D ce n f vs H) (hk : ∀ q : Nat, q < H.size → ¬ inA2 w u H.size q → H1[q]? = H[q]?) (hp : ∀ q, clA q (D.1 ce) H → q ≠ w) (hu : ∀ q, clA q (D.1 ce) H → q ≠ u) : EL D ce n f vs H1 := h.kept (P := inA2 w u H.size) hk (fun q hc hl => inA2.not (hp q hc) (hu q hc) hl)
theorem EL.to {D : va_G} {ce n : Nat} {f g : Nat → Option Nat} {vs ws : Nat → Value} {H : Heap} (h : EL D ce n f vs H) (hf : ∀ i, i < n → g i = f i) (hv : ∀ i, i < n → ws i = vs i) : EL D ce n g ws H := fun i hi => by
  obtain ⟨q, h1, h2⟩ := h i hi
  exact ⟨q, (hf i hi).trans h1, by rw [hv i hi]; exact h2⟩
theorem EL.le {D : va_G} {ce n k : Nat} {f : Nat → Option Nat} {vs : Nat → Value} {H : Heap} (h : EL D ce n f vs H) (hk : k ≤ n) : EL D ce k f vs H := fun i hi => h i (Nat.lt_of_lt_of_le hi hk)
theorem EL.add {D : va_G} {ce n q : Nat} {f : Nat → Option Nat} {vs : Nat → Value} {w : Value} {H : Heap} (h : EL D ce n f vs H) (hx : xf D ce q 0 w H) : EL D ce (n + 1) (va_up f n (some q)) (va_up vs n w) H := fun i hi => by
  by_cases e : i = n
  · subst e
    exact ⟨q, va_up_self _ _ _, by rw [va_up_self]; exact hx⟩
  · obtain ⟨p, h1, h2⟩ := h i (by omega)
    exact ⟨p, by rw [va_up_ne _ _ e]; exact h1, by rw [va_up_ne _ _ e]; exact h2⟩
theorem EL.set {D : va_G} {ce n k q : Nat} {f : Nat → Option Nat} {vs : Nat → Value} {w : Value} {H : Heap} (h : EL D ce n f vs H) (hx : xf D ce q 0 w H) : EL D ce n (va_up f k (some q)) (va_up vs k w) H := fun i hi => by
  by_cases e : i = k
  · subst e
    exact ⟨q, va_up_self _ _ _, by rw [va_up_self]; exact hx⟩
  · obtain ⟨p, h1, h2⟩ := h i hi
    exact ⟨p, by rw [va_up_ne _ _ e]; exact h1, by rw [va_up_ne _ _ e]; exact h2⟩
theorem EL.nil {D : va_G} {ce : Nat} {f : Nat → Option Nat} {vs : Nat → Value} {H : Heap} : EL D ce 0 f vs H := fun i hi => absurd hi (Nat.not_lt_zero i)
/-- boxes' class is none of the others' -/
theorem Ctx.ceo {D : va_G} {tk : Nat → ClassId} {N0 : Nat} {sa : Nat → Nat} {s : State} (hC : Ctx D tk N0 sa s) {ce : Nat} (hce : ce = 3 ∨ ce = 2) (ci : Nat) {q : vw_C} (hc : vwCl[ci]? = some q) (hne : "java/lang/Long" ≠ q.1 ∧ "java/lang/Integer" ≠ q.1) : D.1 ce ≠ D.1 ci := by
  rcases hce with rfl | rfl
  · exact hC.oo 3 ci (q := (RJ13, TJ13, 1)) rfl hc hne.1
  · exact hC.oo 2 ci (q := (RJ6, TJ6, 1)) rfl hc hne.2
theorem Ctx.cea {D : va_G} {tk : Nat → ClassId} {N0 : Nat} {sa : Nat → Nat} {s : State} (hC : Ctx D tk N0 sa s) {ce : Nat} (hce : ce = 3 ∨ ce = 2) (j : Nat) {t : ClassId × FieldType} (ht : (tyG tk)[j]? = some t) : D.1 ce ≠ t.1 := by
  rcases hce with rfl | rfl
  · exact hC.oa 3 j (q := (RJ13, TJ13, 1)) rfl ht
  · exact hC.oa 2 j (q := (RJ6, TJ6, 1)) rfl ht
theorem BX.nec {D : va_G} {tk : Nat → ClassId} {N0 : Nat} {sa : Nat → Nat} {s : State} {b n a ce : Nat} {H : Heap} (h : BX tk b n H) (hC : Ctx D tk N0 sa s) (hce : ce = 3 ∨ ce = 2) (ha : clA a (D.1 ce) H) : b ≠ a := by
  rcases hce with rfl | rfl
  · exact h.neo hC ha (q := (RJ13, TJ13, 1)) rfl
  · exact h.neo hC ha (q := (RJ6, TJ6, 1)) rfl
theorem w_oo : Cond.arrayOver (.object "java/lang/Object") ∈ tables_1 := List.mem_of_getElem? (i := 1479) (by decide +kernel)
theorem w_cj : Cond.castable "java/lang/Long" "java/lang/Object" ∈ tables_1 := List.mem_of_getElem? (i := 1825) (by decide +kernel)
theorem w_cI : Cond.castable "java/lang/Integer" "java/lang/Object" ∈ tables_1 := List.mem_of_getElem? (i := 1826) (by decide +kernel)
theorem w_gs : Cond.selects "[Ljava/lang/Object;" ⟨"java/lang/Object", "getClass", "()Ljava/lang/Class;"⟩ ⟨"java/lang/Object", "getClass", "()Ljava/lang/Class;"⟩ ∈ GW := gw_t 1843 (by decide +kernel) rfl
theorem w_gi : Cond.instanceMethod ⟨"java/lang/Object", "getClass", "()Ljava/lang/Class;"⟩ ∈ GW := gw_t 1455 (by decide +kernel) rfl
theorem w_gn : Cond.native ⟨"java/lang/Object", "getClass", "()Ljava/lang/Class;"⟩ ∈ GW := gw_t 1474 (by decide +kernel) rfl
theorem w_gd : Cond.declares ⟨"java/lang/Object", "getClass", "()Ljava/lang/Class;"⟩ ∈ tables_1 := List.mem_of_getElem? (i := 1844) (by decide +kernel)
section LR9
variable {p : Program} {l : Launch} {e : Env} {R : Room} {s : State} {m : MethodId} {args : Array Value} {below : List Frame} {meth : Method} {c : Code} {H : Heap} {locs : List Loc} {cells slots : Nat} {Q : State → Prop}
variable {cc : ByteArray} {pc nL : Nat} {ls : Array Slot} {rest st0 : List Value} {Ts : List Cond} {own : String} {D : va_G} {tk : Nat → ClassId} {N0 : Nat} {sa : Nat → Nat} {A0 A1 : Nat → Prop} {w0 : Cond}
theorem xf.any {ce q k : Nat} {v : Value} (hC : Ctx D tk N0 sa s) (hce : ce = 3 ∨ ce = 2) (h : xf D ce q k v H) : va_Any "java/lang/Object" s H q := by
  obtain ⟨cell, q1, q2, q3, -⟩ := h
  have key : ∀ (r : vw_C), vwCl[ce]? = some r → Cond.castable r.1 "java/lang/Object" ∈ tables_1 → va_Any "java/lang/Object" s H q := by
    intro r hc hw
    have hf := (hC.1.1 ce r hc).2.1
    obtain ⟨kC, hkC, -⟩ := Vm.findClass_spec hf
    refine ⟨cell, q1, q3, ⟨kC, by rw [q2]; exact hkC⟩, fun comp hcomp => ?_⟩
    rw [q2]
    exact vb_asgC (hC.2.2.2.1 _ hw rfl) comp _ hcomp hf
  rcases hce with rfl | rfl
  · exact key (RJ13, TJ13, 1) rfl w_cj
  · exact key (RJ6, TJ6, 1) rfl w_cI
theorem r_aastM (E : CallFix p m c cc nL s args Ts own) (hC : Ctx D tk N0 sa s) {a v n : Nat} {f : Nat → Option Nat} (h : c1 D a (.inl (tk 4, n, .inr (.inr (.inr (.inr f))))) H) (hr : va_Any "java/lang/Object" s H v) (hS : va_S A0 s.heap H locs) (hA : A0 a) {i : Int32} (k : Nat) (hi : i = nI k) (hk : k < n) (hn : n < 2 ^ 31) (hdg : decode cc pc = .ok (.aastore, 1))
    (kk : ∀ (H1 : Heap) (locs1 : List Loc), c1 D a (.inl (tk 4, n, .inr (.inr (.inr (.inr (va_up f k (some v))))))) H1 → (∀ q, q ≠ a → H1[q]? = H[q]?) → H1.size = H.size → va_S A0 s.heap H1 locs1 → W p l e R s m args below meth c H1 locs1 cells slots Q (F0 m (pc + 1) ls rest)) : W p l e R s m args below meth c H locs cells slots Q (F0 m pc ls (.ref v :: .int i :: .ref a :: rest)) := by
  have hin : vp_in i n := by rw [hi]; exact vp_in_nI hk hn
  have hk9 : i.toNatClampNeg = k := by rw [hi]; exact nI_clamp (by omega)
  subst hk9
  have hK := hC.1
  have hlt : i.toNatClampNeg < n := Nat.not_le.mp fun q => hin (Or.inr q)
  have h0 : ¬ i < 0 := fun q => hin (Or.inl q)
  obtain ⟨cellV, g1, g3, ⟨kC, hkC⟩, hasg⟩ := hr
  obtain ⟨kA, comp, k1, k2, k3, -⟩ := (hK.2 4 (tk 4, .object "java/lang/Object") rfl).2
  obtain ⟨kE, hkE, -⟩ := Vm.findClass_spec k3
  refine W.aast E.1 E.2.1 h (fun q h => by cases h) (fun h => by cases h) k1 k2 rfl hkE ⟨h0, by show _ < (arrV _ _ _).slots.size; rw [arrV_size]; exact hlt⟩ g1 (fun q h => by rw [h] at g3; cases g3) hkC (hasg _ k3) rfl rfl hdg fun H1 e z oq => ?_
  refine kk H1 _ ?_ oq z (hS.put z oq hA)
  show H1[a]? = some (vp_cell _ _)
  rw [e]
  rw [vp_cell_q, vp_cell_q, arrV_store]
  congr 2
  funext q
  by_cases hq : q = i.toNatClampNeg
  · subst hq
    simp [updV, va_up, va_rf]
  · simp [updV, va_up, hq]
theorem r_aastNul (E : CallFix p m c cc nL s args Ts own) (hC : Ctx D tk N0 sa s) {a n : Nat} {f : Nat → Option Nat} (h : c1 D a (.inl (tk 4, n, .inr (.inr (.inr (.inr f))))) H) (hS : va_S A0 s.heap H locs) (hA : A0 a) {i : Int32} (k : Nat) (hi : i = nI k) (hk : k < n) (hn : n < 2 ^ 31) (hdg : decode cc pc = .ok (.aastore, 1))
    (kk : ∀ (H1 : Heap) (locs1 : List Loc), c1 D a (.inl (tk 4, n, .inr (.inr (.inr (.inr (va_up f k none)))))) H1 → (∀ q, q ≠ a → H1[q]? = H[q]?) → H1.size = H.size → va_S A0 s.heap H1 locs1 → W p l e R s m args below meth c H1 locs1 cells slots Q (F0 m (pc + 1) ls rest)) : W p l e R s m args below meth c H locs cells slots Q (F0 m pc ls (.null :: .int i :: .ref a :: rest)) := by
  have hin : vp_in i n := by rw [hi]; exact vp_in_nI hk hn
  have hk9 : i.toNatClampNeg = k := by rw [hi]; exact nI_clamp (by omega)
  subst hk9
  have hK := hC.1
  refine va_WaastN (C := "java/lang/Object") E.1 E.2.1 h ((hK.2 4 (tk 4, .object "java/lang/Object") rfl).1 n (fun j => va_rf (f j))) (fun h => by cases h) (by show ¬ (i < 0 ∨ (arrV _ _ _).slots.size ≤ _); rw [arrV_size]; exact hin) rfl rfl hdg fun H1 e z oq => ?_
  refine kk H1 _ ?_ oq z (hS.put z oq hA)
  show H1[a]? = some (vp_cell _ _)
  rw [e]
  rw [vp_cell_q, vp_cell_q, arrV_store]
  congr 2
  funext q
  by_cases hq : q = i.toNatClampNeg
  · subst hq
    simp [updV, va_up, va_rf]
  · simp [updV, va_up, hq]
theorem r_aaldM (E : CallFix p m c cc nL s args Ts own) (hC : Ctx D tk N0 sa s) {a n t0 : Nat} {C : String} {ct : ClassId} (ht : (tyG tk)[t0]? = some (ct, .object C)) {f : Nat → Option Nat} (h : c1 D a (.inl (ct, n, .inr (.inr (.inr (.inr f))))) H) {i : Int32} (k : Nat) (hi : i = nI k) (hk : k < n) (hn : n < 2 ^ 31) {q : Nat} (hq : f k = some q) (hdg : decode cc pc = .ok (.aaload, 1))
    (kk : W p l e R s m args below meth c H locs cells slots Q (F0 m (pc + 1) ls (.ref q :: rest))) : W p l e R s m args below meth c H locs cells slots Q (F0 m pc ls (.int i :: .ref a :: rest)) := by
  have hin : vp_in i n := by rw [hi]; exact vp_in_nI hk hn
  have hk9 : i.toNatClampNeg = k := by rw [hi]; exact nI_clamp (by omega)
  refine va_aldq E.1 E.2.1 hC.1 h.P 0 t0 rfl ht hin hdg ?_
  rw [hk9, hq]
  exact kk
theorem r_anewO (E : CallFix p m c cc nL s args (w0 :: GW) own) (hC : Ctx D tk N0 sa s) (hS : va_S A0 s.heap H locs) {index : Nat} (w1 : Cond.classLink own index "java/lang/Object" ∈ GW) {n : Int32} {N : Nat} (hn : ¬ n < 0) (hN : n.toNatClampNeg = N) (hbytes : N * 4 ≤ 536870912) (hcells : cells + 1 ≤ R.cells) (hslots : slots + N ≤ R.slots) (hdg : decode cc pc = .ok (.anewarray index, 3))
    (kk : ∀ (q : Nat) (H1 : Heap), q = H.size → c1 D q (.inl (tk 4, N, .inr (.inr (.inr (.inr (fun _ => none)))))) H1 → (∀ x : Nat, x < H.size → H1[x]? = H[x]?) → va_S A0 s.heap H1 locs → W p l e R s m args below meth c H1 locs (cells + 1) (slots + N) Q (F0 m (pc + 3) ls (.ref q :: rest))) : W p l e R s m args below meth c H locs cells slots Q (F0 m pc ls (.int n :: rest)) := by
  subst hN
  refine W.anew E.1 E.2.1 E.2.2.2.1 (E.2.2.2.2 _ (List.mem_cons_of_mem _ w1)) (va_AO.use (va_AO.of (hC.2.2.2.2.2.1 _ w_oo))) rfl hdg rfl hn hbytes hcells hslots fun cA kA comp f1 f2 f3 f4 => ?_
  obtain ⟨kA2, comp2, -, -, -, h2⟩ := (hC.1.2 4 (tk 4, .object "java/lang/Object") rfl).2
  have hcA : cA = tk 4 := Option.some.inj (f1.symm.trans h2)
  subst hcA
  generalize hH1 : H.push ({ cls := tk 4, slots := Array.replicate n.toNatClampNeg .null, vm := .none } : Cell) = H1
  have z1 : H1.size = H.size + 1 := by rw [← hH1, Array.size_push]
  have e1 : H1[H.size]? = some (arrV (tk 4) n.toNatClampNeg (fun _ => .null)) := by rw [← hH1, Array.getElem?_push_size, ← arrV_new]
  have o1 : ∀ q : Nat, q < H.size → H1[q]? = H[q]? := fun q hq => by rw [← hH1, Array.getElem?_push, if_neg (Nat.ne_of_lt hq)]
  refine kk H.size H1 rfl ?_ o1 ⟨Nat.le_trans hS.1 (by omega), fun x h1 h2 => (o1 x (Nat.lt_of_lt_of_le h1 hS.1)).trans (hS.2.1 x h1 h2), hS.2.2⟩
  show H1[H.size]? = some (vp_cell _ _)
  rw [vp_cell_q]
  exact e1
theorem r_acpyQ (E : CallFix p m c cc nL s args (w0 :: GW) own) (hC : Ctx D tk N0 sa s) (hl : ls.size = nL) {b0 n0 a n1 index ce N : Nat} {f g : Nat → Option Nat} {vs : Nat → Value} (hce : ce = 3 ∨ ce = 2) (h0 : c1 D b0 (.inl (tk 4, n0, .inr (.inr (.inr (.inr f))))) H) (hE : EL D ce N f vs H) (h1 : c1 D a (.inl (tk 4, n1, .inr (.inr (.inr (.inr g))))) H) (hS : va_S A0 s.heap H locs) (hA : A0 a) {n : Int32} (hn : n = nI N) (k4 : N ≤ n0) (k5 : N ≤ n1) (k6 : n0 < 2 ^ 31) (w1 : Cond.methodLink own index arraycopyName ∈ GW)
    (hframes : 1 ≤ R.frames) (hcat : (rest.map fun v => v.category).sum ≤ 8) (hlocals : 8 + (nativeFrameWords "java/lang/System" "arraycopy" 5 + 11) ≤ R.locals) (hdg : decode cc pc = .ok (.invokestatic index, 3))
    (kk : ∀ (H1 : Heap) (locs1 : List Loc), c1 D a (.inl (tk 4, n1, .inr (.inr (.inr (.inr (va_cpy f g 0 0 N)))))) H1 → (∀ q, q ≠ a → H1[q]? = H[q]?) → H1.size = H.size → va_S A0 s.heap H1 locs1 → W p l e R s m args below meth c H1 locs1 cells slots Q (F0 m (pc + 3) ls rest)) : W p l e R s m args below meth c H locs cells slots Q (F0 m pc ls (.int n :: .int 0 :: .ref a :: .int 0 :: .ref b0 :: rest)) := by
  have hw : ∀ w ∈ GW, w.before args s = true := fun w h => E.2.2.2.2 _ (List.mem_cons_of_mem _ h)
  have hb := E.2.1
  have hK := hC.1
  have hcl : n.toNatClampNeg = N := by rw [hn]; exact nI_clamp (by omega)
  have hti : n.toInt = (N : Int) := by rw [hn]; exact nI_toInt (by omega)
  intro T hT X
  have hc0 : H[b0]? = some (vp_cell (tk 4) (n0, .inr (.inr (.inr (.inr f))))) := h0
  have hc1 : H[a]? = some (vp_cell (tk 4) (n1, .inr (.inr (.inr (.inr g))))) := h1
  obtain ⟨-, k1, hk1, cm1, hkk1⟩ := (hK.2 4 (tk 4, .object "java/lang/Object") rfl).1 n1 (fun j => va_rf (g j))
  obtain ⟨vm', X', step⟩ := X.arraycopy E.1 E.2.2.2.1 (hw _ w1) (hw _ w_nc) (hw _ w_sc) (hw _ w_is) (src := b0) (dst := a) (cs := vp_cell (tk 4) (n0, .inr (.inr (.inr (.inr f))))) (cd := vp_cell (tk 4) (n1, .inr (.inr (.inr (.inr g))))) (srcPos := 0) (destPos := 0) (n := n) (by rw [hT]; exact hc0) (by rw [hT]; exact hc1)
    (fun _ h => by cases h) (fun _ h => by cases h) (fun h => by cases h) (fun h => by cases h) hk1 hk1 hkk1 hkk1 rfl (by decide) (by decide) (by rw [hn]; exact nI_pos (by omega))
    (by rw [hti]; show ¬ (0 + (N : Int)) > ((arrV (tk 4) n0 (fun j => va_rf (f j))).slots.size : Int); rw [arrV_size]; omega)
    (by rw [hti]; show ¬ (0 + (N : Int)) > ((arrV (tk 4) n1 (fun j => va_rf (g j))).slots.size : Int); rw [arrV_size]; omega)
    (fun vm₁ hal i hi => by
      rw [hcl] at hi
      have e : (vp_cell (tk 4) (n0, .inr (.inr (.inr (.inr f))))).slots.getD ((0 : Int32).toNatClampNeg + i) .null = va_rf (f i) := by
        show (arrV (tk 4) n0 (fun j => va_rf (f j))).slots.getD _ _ = _
        rw [sb_cl0, Nat.zero_add, Array.getD_eq_getD_getElem?, arrV_read _ _ (by omega)]
        rfl
      rw [e]
      obtain ⟨y, hy, hx9⟩ := hE i hi
      rw [hy]
      obtain ⟨cellV, g1, g2, ⟨kC, hkC⟩, hasg⟩ := hx9.any hC hce
      obtain ⟨kA, comp, r1, r2, r3, -⟩ := (hK.2 4 (tk 4, .object "java/lang/Object") rfl).2
      have hk1' : s.vm.classes[tk 4]? = some k1 := hk1
      cases hk1'.symm.trans r1
      cases hkk1.symm.trans r2
      obtain ⟨kE, hkE, -⟩ := Vm.findClass_spec r3
      obtain ⟨kC', hkC', -⟩ := hal.2.2 _ _ hkC
      obtain ⟨kE', hkE', -⟩ := hal.2.2 _ _ hkE
      refine ⟨rfl, cellV, (show T.heap[y]? = some cellV by rw [hT]; exact g1), (fun q h => by rw [h] at g2; cases g2), ⟨kC', hkC'⟩, ?_, ?_⟩
      · exact ⟨kE', hkE'⟩
      · show vm₁.assignable _ _ = true
        rw [hal.assignable]
        exact hasg _ r3)
    (g := F0 m pc ls (.int n :: .int 0 :: .ref a :: .int 0 :: .ref b0 :: rest)) rfl (by show ls.size = _; rw [hl]; exact E.2.2.1.symm) (rest := rest) rfl (by rw [hb]; exact hdg) hframes (by show 2 * 0 + _ + _ ≤ _; omega)
  have e1 : copied (vp_cell (tk 4) (n0, .inr (.inr (.inr (.inr f))))) (vp_cell (tk 4) (n1, .inr (.inr (.inr (.inr g))))) 0 0 n = vp_cell (tk 4) (n1, .inr (.inr (.inr (.inr (va_cpy f g 0 0 N))))) := by
    rw [vp_cell_q, vp_cell_q, vp_cell_q]
    have h4 : (0 : Int32).toNatClampNeg + n.toNatClampNeg ≤ n0 := by rw [hcl, sb_cl0]; omega
    have h5 : copied (arrV (tk 4) n0 (fun j => va_rf (f j))) (arrV (tk 4) n1 (fun j => va_rf (g j))) 0 0 n = arrV (tk 4) n1 (fun j => va_rf (va_cpy f g (0 : Int32).toNatClampNeg (0 : Int32).toNatClampNeg n.toNatClampNeg j)) := va_copied (fun z => va_rf z) (tk 4) (tk 4) f g h4
    rw [hcl, sb_cl0] at h5
    exact h5
  rw [e1] at X' step
  have hl2 : a < H.size := (Array.getElem?_eq_some_iff.mp hc1).1
  have hheap : ((T.setVm vm').setCell a (vp_cell (tk 4) (n1, .inr (.inr (.inr (.inr (va_cpy f g 0 0 N))))))).heap = H.setIfInBounds a (vp_cell (tk 4) (n1, .inr (.inr (.inr (.inr (va_cpy f g 0 0 N)))))) := by rw [← hT]; rfl
  have oq : ∀ q : Nat, q ≠ a → (H.setIfInBounds a (vp_cell (tk 4) (n1, .inr (.inr (.inr (.inr (va_cpy f g 0 0 N)))))))[q]? = H[q]? := fun q hq => by simp [Array.getElem?_setIfInBounds, Ne.symm hq]
  have hl3 : (H.setIfInBounds a (vp_cell (tk 4) (n1, .inr (.inr (.inr (.inr (va_cpy f g 0 0 N)))))))[a]? = some (vp_cell (tk 4) (n1, .inr (.inr (.inr (.inr (va_cpy f g 0 0 N)))))) := by simp [Array.getElem?_setIfInBounds, hl2]
  obtain ⟨t, a1, b1⟩ := kk (H.setIfInBounds a (vp_cell (tk 4) (n1, .inr (.inr (.inr (.inr (va_cpy f g 0 0 N))))))) _ hl3 oq (by simp) ⟨by simp; exact hS.1, fun q g1 g2 => by
      rw [oq q (fun e => g2 (by rw [e]; exact hA))]
      exact hS.2.1 q g1 g2, fun q hq => by
      rcases List.mem_append.mp hq with h | h
      · exact hS.2.2 q h
      · obtain ⟨z, -, hz⟩ := List.mem_map.mp h
        rw [← hz]
        exact hA⟩ _ hheap X'
  exact ⟨t, step t a1, b1⟩
/-- the class of an array of Objects -/
theorem r_getCls (E : CallFix p m c cc nL s args (w0 :: GW) own) (hC : Ctx D tk N0 sa s) (hl : ls.size = nL) {a n index : Nat} {f : Nat → Option Nat} (h : c1 D a (.inl (tk 4, n, .inr (.inr (.inr (.inr f))))) H) (w1 : Cond.methodLink own index ⟨"java/lang/Object", "getClass", "()Ljava/lang/Class;"⟩ ∈ GW)
    (hframes : 1 ≤ R.frames) (hcat : (rest.map fun v => v.category).sum ≤ 8) (hlocals : 22 ≤ R.locals) (hdg : decode cc pc = .ok (.invokevirtual index, 3))
    (k : W p l e R s m args below meth c H locs cells slots Q (F0 m (pc + 3) ls (.ref (sa 6) :: rest))) : W p l e R s m args below meth c H locs cells slots Q (F0 m pc ls (.ref a :: rest)) := by
  have hw : ∀ w ∈ GW, w.before args s = true := fun w h => E.2.2.2.2 _ (List.mem_cons_of_mem _ h)
  refine va_getC (C := "[Ljava/lang/Object;") E.1 E.2.1 (by rw [hl]; exact E.2.2.1) E.2.2.2.1 (hw _ w1) (va_Nw.use rfl (hC.2.2.2.1 _ w_gd rfl)) (hw _ w_gs) (hw _ w_gi) (hw _ w_gn) hC.xt.1 ⟨_, h, rfl, ?_⟩ hframes (by omega) hdg k
  exact va_nmO (hC.1.2 4 (tk 4, .object "java/lang/Object") rfl).2 rfl
end LR9
section KF
variable {p : Program} {l : Launch} {e : Env} {R : Room} {s : State} {m : MethodId} {args : Array Value} {below : List Frame} {meth : Method} {c : Code} {H : Heap} {locs : List Loc} {cells slots : Nat} {Q : State → Prop}
variable {cc : ByteArray} {pc nL : Nat} {ls : Array Slot} {rest st0 : List Value} {own : String} {D : va_G} {tk : Nat → ClassId} {N0 : Nat} {sa : Nat → Nat} {A0 A1 : Nat → Prop}
variable {x y : MethodName} {bytes : ByteArray} {maxL mc ms n index count : Nat} {ret : Option FieldType} {rm : Room} {F : Heap → Prop} {Qc : Array Value → State → Outcome → State → Prop} {As : List Value} {w0 : Cond} {b : Nat} {a : Array Value}
/-- a call through an interface -/
theorem k_F {ci : Nat} {q : vw_C} (hc : vwCl[ci]? = some q) (hW : va_Fw q.1 x y s) (E : CallFix p m c cc nL s args (w0 :: GW) own) (hC : Ctx D tk N0 sa s) (hS : va_S A0 s.heap H locs) (hA : ∀ q, A0 q → N0 ≤ q) (hl : ls.size = nL) (hrecv : ∃ cell : Cell, H[b]? = some cell ∧ cell.vm.isStatics = false ∧ s.vm.findClass q.1 = some cell.cls)
    (hM : Met l y (wsy y bytes maxL ret) rm (cP D tk N0 sa (.ref b :: As) H.size F) Qc mc ms A1) (w1 : Cond.methodLink own index x ∈ GW) (w2 : Cond.instanceMethod y ∈ GW) (w3 : Cond.selects q.1 x y ∈ GW) (w5 : Cond.initialized y.cls ∈ GW) (w4 : Cond.code y bytes maxL ret ∈ GW) (hd : okD x n = true) (hlen : As.length = n) (hR : okR rm R maxL mc ms cells slots)
    (hst : st0 = As.reverse ++ .ref b :: rest) (hcat : (rest.map fun v => v.category).sum ≤ 8) (hF : F H) (hdg : decode cc pc = .ok (.invokeinterface index count, 5)) :
    va_Run5 p l e R s m args below meth c H locs cells slots mc ms (F0 m pc ls st0) rest (Qc (Value.ref b :: As).toArray) A1 := by
  have hw : ∀ w ∈ GW, w.before args s = true := fun w h => E.2.2.2.2 _ (List.mem_cons_of_mem _ h)
  have hG : GoodIn (w0 :: GW) (wsy y bytes maxL ret) := gw_in w4
  refine va_runF (n := As.length) (C := q.1) (hC.1.1 ci q hc).2 E hM ⟨⟨hR.1.1, hR.1.2, hR.2.1.1, hR.2.1.2, pay_in E.2.2.2.2 hG, List.mem_cons_self⟩, hw _ w1, va_any rfl hW.1, va_any rfl hW.2.1, hw _ w3, hw _ w2, va_any rfl hW.2.2.1, va_any rfl hW.2.2.2.1, va_any rfl hW.2.2.2.2, hw _ w5, hw _ w4, ⟨(okD.of hd).1, (okD.of hd).2.1⟩, fun sig h => ?_⟩ ⟨(cP_pre hC hS hA hF).1, hrecv, (cP_pre hC hS hA hF).2⟩ rfl rfl hl hst (lv_room hcat) hdg hR.2.2
  have h2 := (okD.of (hlen ▸ hd)).2.2
  rw [h] at h2
  exact (Option.some.inj h2).symm
theorem k5_i {Rr : Int32 → Heap → Prop} (hr : va_Run5 p l e R s m args below meth c H locs cells slots mc ms (F0 m pc ls st0) rest (kQi Rr A1 a) A1) (hS : va_S A0 s.heap H locs) (hAA : ∀ q, q < H.size → A1 q → A0 q) (hnew : ∀ q, s.heap.size ≤ q → A0 q)
    (kk : ∀ (r : Int32) (H1 : Heap) (locs1 : List Loc), Rr r H1 → H.size ≤ H1.size → (∀ q : Nat, q < H.size → ¬ A1 q → H1[q]? = H[q]?) → va_S A0 s.heap H1 locs1 → W p l e R s m args below meth c H1 locs1 (cells + mc) (slots + ms) Q (F0 m (pc + 5) ls (.int r :: rest))) : W p l e R s m args below meth c H locs cells slots Q (F0 m pc ls st0) :=
  va_callFi hr hS hAA (fun q h => by
    rcases Nat.lt_or_ge q H.size with z | z
    · exact hAA q z h
    · exact hnew q (Nat.le_trans hS.1 z)) (fun r u t H1 locs1 ht _ hp hb hz hk hS1 => by
    have e9 : u = H1 := hb.symm.trans ht
    subst e9
    exact kk r u locs1 hp hz hk hS1)
theorem k5_r {Rr : Nat → Heap → Prop} (hr : va_Run5 p l e R s m args below meth c H locs cells slots mc ms (F0 m pc ls st0) rest (kQr Rr A1 a) A1) (hS : va_S A0 s.heap H locs) (hAA : ∀ q, q < H.size → A1 q → A0 q) (hnew : ∀ q, s.heap.size ≤ q → A0 q)
    (kk : ∀ (r : Nat) (H1 : Heap) (locs1 : List Loc), Rr r H1 → H.size ≤ H1.size → (∀ q : Nat, q < H.size → ¬ A1 q → H1[q]? = H[q]?) → va_S A0 s.heap H1 locs1 → W p l e R s m args below meth c H1 locs1 (cells + mc) (slots + ms) Q (F0 m (pc + 5) ls (.ref r :: rest))) : W p l e R s m args below meth c H locs cells slots Q (F0 m pc ls st0) :=
  va_callFr hr hS hAA (fun q h => by
    rcases Nat.lt_or_ge q H.size with z | z
    · exact hAA q z h
    · exact hnew q (Nat.le_trans hS.1 z)) (fun u ra t H1 locs1 ht _ _ hb hz hk hS1 => by
    have e9 : u = H1 := hb.1.symm.trans ht
    subst e9
    exact kk ra u locs1 hb.2 hz hk hS1)
end KF
theorem growlen {x2 mn : Int32} {cap : Nat} (hx : x2 = nI cap) (hm : mn = nI (cap + 1)) (h2 : 2 ≤ cap) (hc : cap ≤ 40000) : x2 + f_max (mn - x2) (x2 >>> ((1 : Int32) &&& 31)) = nI (cap + cap / 2) := by
  have e1 : mn - x2 = nI 1 := by
    rw [hm, hx, pk_sub (by omega)]
    congr 1
    omega
  have e2 : x2 >>> ((1 : Int32) &&& 31) = nI (cap / 2) := by
    have k := pk_shrN (n := cap) (by omega) ((1 : Int32) &&& 31) 1 (by decide)
    rw [Nat.pow_one] at k
    rw [hx]
    exact k
  rw [e1, e2, hx]
  have e3 : f_max (nI 1) (nI (cap / 2)) = nI (cap / 2) := by
    unfold f_max
    split
    · rfl
    · rename_i h
      rcases Nat.lt_or_ge 1 (cap / 2) with z | z
      · exact absurd (nI_lt z (by omega)) h
      · have : cap / 2 = 1 := by omega
        rw [this]
  rw [e3]
  exact nI_add cap (cap / 2)
set_option maxHeartbeats 4000000 in
set_option maxRecDepth 100000 in
/-- java/lang/Long.valueOf(J)Ljava/lang/Long; -/
theorem c_J13_valueOf_928b6 (l : Launch) (D : va_G) (tk : Nat → ClassId) (N0 : Nat) (sa : Nat → Nat)  (sz : Nat) (x : Int64) : Met l yJ13_valueOf_928b6 (wsy yJ13_valueOf_928b6 cJ13_valueOf_928b6 3 (some (.object "java/lang/Long"))) ({ frames := 3, cells := 1, slots := 1, locals := 62 } : Room) (cP D tk N0 sa [.long x] sz (fun H => True)) (kQr (fun r H => xf D 3 r 0 (.long x) H) (nwA sz)) (1) (1) (nwA sz) := by
  refine mStart RJ13 rfl (by decide +kernel) (Nat.le_of_ble_eq_true rfl) ?_
  intro p e s m args below meth c E hr hlk hnm hsz hC hF ls hl
  subst hsz
  obtain ⟨hx, hb, -⟩ := id E
  have hA : ∀ q, (nwA s.heap.size) q → N0 ≤ q := fun q h => Nat.le_trans hC.2.1 h
  have hn : ∀ q, s.heap.size ≤ q → (nwA s.heap.size) q := fun q h => h
  have hS : va_S (nwA s.heap.size) s.heap s.heap [] := va_S.rf
  have hl : lv_has ls 3 [(0, .long x)] := hl
  refine lv_sipush (pc := 0) (v := 128) hx hb dJ13_valueOf_928b6_0 (by decide) ?_
  refine lv_istore_n (pc := 3) (lv' := [(2, .int 128), (0, .long x)]) hx hb dJ13_valueOf_928b6_3 rfl hl (by decide) rfl (fun ls hl => ?_)
  refine lv_lload_n (pc := 4) hx hb dJ13_valueOf_928b6_4 rfl (lv_at hl 1 rfl) ?_
  refine lv_ldc2 (pc := 5) (v := (-128)) hx hb E.2.2.2.1 (E.2.2.2.2 _ (List.mem_cons_of_mem _ kw_1417)) dJ13_valueOf_928b6_5 ?_
  refine r_lclt (pc := 8) (tgt := 31) E dJ13_valueOf_928b6_8 dJ13_valueOf_928b6_9 (by decide) (fun c_1 => ?_) (fun c_1 => ?_)
  · have hS0_ := hS
    refine r_new (pc := 31) E hC hS tyJ13_ok uJ13 (List.mem_cons_of_mem _ kw_1421) (List.mem_cons_of_mem _ kw_1422) (List.mem_cons_of_mem _ kw_17) (ci := 3) rfl (fs := [.long 0]) (by decide) (by decide) (by decide) dJ13_valueOf_928b6_31 (fun qf2 H zq_ n_ ho_ hS => ?_)
    have f2 := n_
    have s_f2 : s.heap.size ≤ qf2 := zq_ ▸ hS0_.1
    have g_f2 := hn _ s_f2
    refine lv_dup (pc := 34) hx hb dJ13_valueOf_928b6_34 rfl ?_
    refine lv_lload_n (pc := 35) hx hb dJ13_valueOf_928b6_35 rfl (lv_at hl 1 rfl) ?_
    refine k_v (pc := 36) (k_I E hC hS hA hl.1 (c_J13_init_e45a9 l D tk N0 sa H.size qf2 x (hA _ g_f2)) kw_1423 kw_1424 kw_17 kw_1425 rfl (n := 1) (by decide +kernel) rfl ⟨⟨rfl, rfl⟩, ⟨by decide, by decide⟩, by decide, by decide⟩ rfl (Nat.le_of_ble_eq_true rfl) f2 dJ13_valueOf_928b6_36) hS (inA1.to g_f2) hn (fun H locs hR hz hk hS => ?_)
    have f2 := hR
    refine r_aret (pc := 39) E hr (Or.inl ⟨_, rfl⟩) hlk hS (by decide) (by decide) ?_ dJ13_valueOf_928b6_39
    exact c1.xf f2 rfl 0 (by decide) rfl
  · refine lv_lload_n (pc := 12) hx hb dJ13_valueOf_928b6_12 rfl (lv_at hl 1 rfl) ?_
    refine lv_ldc2 (pc := 13) (v := 127) hx hb E.2.2.2.1 (E.2.2.2.2 _ (List.mem_cons_of_mem _ kw_1418)) dJ13_valueOf_928b6_13 ?_
    refine r_lcgt (pc := 16) (tgt := 31) E dJ13_valueOf_928b6_16 dJ13_valueOf_928b6_17 (by decide) (fun c_4 => ?_) (fun c_4 => ?_)
    · have hS0_ := hS
      refine r_new (pc := 31) E hC hS tyJ13_ok uJ13 (List.mem_cons_of_mem _ kw_1421) (List.mem_cons_of_mem _ kw_1422) (List.mem_cons_of_mem _ kw_17) (ci := 3) rfl (fs := [.long 0]) (by decide) (by decide) (by decide) dJ13_valueOf_928b6_31 (fun qf5 H zq_ n_ ho_ hS => ?_)
      have f5 := n_
      have s_f5 : s.heap.size ≤ qf5 := zq_ ▸ hS0_.1
      have g_f5 := hn _ s_f5
      refine lv_dup (pc := 34) hx hb dJ13_valueOf_928b6_34 rfl ?_
      refine lv_lload_n (pc := 35) hx hb dJ13_valueOf_928b6_35 rfl (lv_at hl 1 rfl) ?_
      refine k_v (pc := 36) (k_I E hC hS hA hl.1 (c_J13_init_e45a9 l D tk N0 sa H.size qf5 x (hA _ g_f5)) kw_1423 kw_1424 kw_17 kw_1425 rfl (n := 1) (by decide +kernel) rfl ⟨⟨rfl, rfl⟩, ⟨by decide, by decide⟩, by decide, by decide⟩ rfl (Nat.le_of_ble_eq_true rfl) f5 dJ13_valueOf_928b6_36) hS (inA1.to g_f5) hn (fun H locs hR hz hk hS => ?_)
      have f5 := hR
      refine r_aret (pc := 39) E hr (Or.inl ⟨_, rfl⟩) hlk hS (by decide) (by decide) ?_ dJ13_valueOf_928b6_39
      exact c1.xf f5 rfl 0 (by decide) rfl
    · obtain ⟨j9, hj1, hj2, hj3⟩ := bxj c_1 c_4
      refine va_gets (pc := 20) hx hb (hC.lca.1.narrow hA) hS E.2.2.2.1 (E.2.2.2.2 _ (List.mem_cons_of_mem _ kw_1419)) (fun _ h => h) dJ13_valueOf_928b6_20 ?_
      refine lv_lload_n (pc := 23) hx hb dJ13_valueOf_928b6_23 rfl (lv_at hl 1 rfl) ?_
      refine lv_l2i (pc := 24) (v := x.toInt32) hx hb dJ13_valueOf_928b6_24 rfl ?_
      refine lv_sipush (pc := 25) (v := 128) hx hb dJ13_valueOf_928b6_25 (by decide) ?_
      refine lv_iadd (pc := 28) hx hb dJ13_valueOf_928b6_28 ?_
      refine vb_tq (pc := 29) hx hb (hC.lca.2.narrow hA) hS (by rw [hj2]; exact vp_in_nI hj1 (by decide)) (v := .ref (sa (1000 + j9))) (by show Value.ref (sa (1000 + _)) = _; rw [hj2, nI_clamp (by omega)]) dJ13_valueOf_928b6_29 ?_
      refine r_aret (pc := 30) E hr (Or.inl ⟨_, rfl⟩) hlk hS (by decide) (by decide) ?_ dJ13_valueOf_928b6_30
      exact (by rw [hj3]; exact hC.boxJ hS hA hj1)
set_option maxHeartbeats 4000000 in
set_option maxRecDepth 100000 in
/-- java/lang/Integer.valueOf(I)Ljava/lang/Integer; -/
theorem c_J6_valueOf_2dffe (l : Launch) (D : va_G) (tk : Nat → ClassId) (N0 : Nat) (sa : Nat → Nat)  (sz : Nat) (x : Int32) : Met l yJ6_valueOf_2dffe (wsy yJ6_valueOf_2dffe cJ6_valueOf_2dffe 1 (some (.object "java/lang/Integer"))) ({ frames := 3, cells := 1, slots := 1, locals := 61 } : Room) (cP D tk N0 sa [.int x] sz (fun H => True)) (kQr (fun r H => xf D 2 r 0 (.int x) H) (nwA sz)) (1) (1) (nwA sz) := by
  refine mStart RJ6 rfl (by decide +kernel) (Nat.le_of_ble_eq_true rfl) ?_
  intro p e s m args below meth c E hr hlk hnm hsz hC hF ls hl
  subst hsz
  obtain ⟨hx, hb, -⟩ := id E
  have hA : ∀ q, (nwA s.heap.size) q → N0 ≤ q := fun q h => Nat.le_trans hC.2.1 h
  have hn : ∀ q, s.heap.size ≤ q → (nwA s.heap.size) q := fun q h => h
  have hS : va_S (nwA s.heap.size) s.heap s.heap [] := va_S.rf
  have hl : lv_has ls 1 [(0, .int x)] := hl
  refine lv_iload_n (pc := 0) hx hb dJ6_valueOf_2dffe_0 rfl (lv_at hl 0 rfl) ?_
  refine lv_bipush (pc := 1) (v := (-128)) hx hb dJ6_valueOf_2dffe_1 (by decide) ?_
  refine lv_icmp_lt (pc := 3) (tgt := 23) hx hb dJ6_valueOf_2dffe_3 (by decide) (fun c_1 => ?_) (fun c_1 => ?_)
  · have hS0_ := hS
    refine r_new (pc := 23) E hC hS tyJ6_ok uJ6 (List.mem_cons_of_mem _ kw_1583) (List.mem_cons_of_mem _ kw_1584) (List.mem_cons_of_mem _ kw_22) (ci := 2) rfl (fs := [.int 0]) (by decide) (by decide) (by decide) dJ6_valueOf_2dffe_23 (fun qf2 H zq_ n_ ho_ hS => ?_)
    have f2 := n_
    have s_f2 : s.heap.size ≤ qf2 := zq_ ▸ hS0_.1
    have g_f2 := hn _ s_f2
    refine lv_dup (pc := 26) hx hb dJ6_valueOf_2dffe_26 rfl ?_
    refine lv_iload_n (pc := 27) hx hb dJ6_valueOf_2dffe_27 rfl (lv_at hl 0 rfl) ?_
    refine k_v (pc := 28) (k_I E hC hS hA hl.1 (c_J6_init_d00df l D tk N0 sa H.size qf2 x (hA _ g_f2)) kw_1585 kw_1586 kw_22 kw_1587 rfl (n := 1) (by decide +kernel) rfl ⟨⟨rfl, rfl⟩, ⟨by decide, by decide⟩, by decide, by decide⟩ rfl (Nat.le_of_ble_eq_true rfl) f2 dJ6_valueOf_2dffe_28) hS (inA1.to g_f2) hn (fun H locs hR hz hk hS => ?_)
    have f2 := hR
    refine r_aret (pc := 31) E hr (Or.inl ⟨_, rfl⟩) hlk hS (by decide) (by decide) ?_ dJ6_valueOf_2dffe_31
    exact c1.xf f2 rfl 0 (by decide) rfl
  · refine lv_iload_n (pc := 6) hx hb dJ6_valueOf_2dffe_6 rfl (lv_at hl 0 rfl) ?_
    refine va_gets (pc := 7) hx hb (hC.ihi.narrow hA) hS E.2.2.2.1 (E.2.2.2.2 _ (List.mem_cons_of_mem _ kw_1579)) (fun _ h => h) dJ6_valueOf_2dffe_7 ?_
    refine lv_icmp_gt (pc := 10) (tgt := 23) hx hb dJ6_valueOf_2dffe_10 (by decide) (fun c_4 => ?_) (fun c_4 => ?_)
    · have hS0_ := hS
      refine r_new (pc := 23) E hC hS tyJ6_ok uJ6 (List.mem_cons_of_mem _ kw_1583) (List.mem_cons_of_mem _ kw_1584) (List.mem_cons_of_mem _ kw_22) (ci := 2) rfl (fs := [.int 0]) (by decide) (by decide) (by decide) dJ6_valueOf_2dffe_23 (fun qf5 H zq_ n_ ho_ hS => ?_)
      have f5 := n_
      have s_f5 : s.heap.size ≤ qf5 := zq_ ▸ hS0_.1
      have g_f5 := hn _ s_f5
      refine lv_dup (pc := 26) hx hb dJ6_valueOf_2dffe_26 rfl ?_
      refine lv_iload_n (pc := 27) hx hb dJ6_valueOf_2dffe_27 rfl (lv_at hl 0 rfl) ?_
      refine k_v (pc := 28) (k_I E hC hS hA hl.1 (c_J6_init_d00df l D tk N0 sa H.size qf5 x (hA _ g_f5)) kw_1585 kw_1586 kw_22 kw_1587 rfl (n := 1) (by decide +kernel) rfl ⟨⟨rfl, rfl⟩, ⟨by decide, by decide⟩, by decide, by decide⟩ rfl (Nat.le_of_ble_eq_true rfl) f5 dJ6_valueOf_2dffe_28) hS (inA1.to g_f5) hn (fun H locs hR hz hk hS => ?_)
      have f5 := hR
      refine r_aret (pc := 31) E hr (Or.inl ⟨_, rfl⟩) hlk hS (by decide) (by decide) ?_ dJ6_valueOf_2dffe_31
      exact c1.xf f5 rfl 0 (by decide) rfl
    · obtain ⟨j9, hj1, hj2, hj3⟩ := bx_small c_1 c_4
      refine va_gets (pc := 13) hx hb (hC.ica.1.narrow hA) hS E.2.2.2.1 (E.2.2.2.2 _ (List.mem_cons_of_mem _ kw_1581)) (fun _ h => h) dJ6_valueOf_2dffe_13 ?_
      refine lv_iload_n (pc := 16) hx hb dJ6_valueOf_2dffe_16 rfl (lv_at hl 0 rfl) ?_
      refine lv_sipush (pc := 17) (v := 128) hx hb dJ6_valueOf_2dffe_17 (by decide) ?_
      refine lv_iadd (pc := 20) hx hb dJ6_valueOf_2dffe_20 ?_
      refine vb_tq (pc := 21) hx hb (hC.ica.2.narrow hA) hS (by rw [hj2]; exact vp_in_nI hj1 (by decide)) (v := .ref (sa (2000 + j9))) (by show Value.ref (sa (2000 + _)) = _; rw [hj2, nI_clamp (by omega)]) dJ6_valueOf_2dffe_21 ?_
      refine r_aret (pc := 22) E hr (Or.inl ⟨_, rfl⟩) hlk hS (by decide) (by decide) ?_ dJ6_valueOf_2dffe_22
      exact (by rw [hj3]; exact hC.boxI hS hA hj1)
set_option maxHeartbeats 4000000 in
set_option maxRecDepth 100000 in
/-- java/util/AbstractCollection.<init>()V -/
theorem c_Jxa1e45_init_da8c8 (l : Launch) (D : va_G) (tk : Nat → ClassId) (N0 : Nat) (sa : Nat → Nat)  (sz : Nat) (a : Nat) : Met l yJxa1e45_init_da8c8 (wsy yJxa1e45_init_da8c8 cJxa1e45_init_da8c8 1 none) ({ frames := 1, cells := 0, slots := 0, locals := 20 } : Room) (cP D tk N0 sa [.ref a] sz (fun H => True)) (kQv (fun H => True) (nwA sz)) (0) (0) (nwA sz) := by
  refine mStart RJxa1e45 rfl (by decide +kernel) (Nat.le_of_ble_eq_true rfl) ?_
  intro p e s m args below meth c E hr hlk hnm hsz hC hF ls hl
  subst hsz
  obtain ⟨hx, hb, -⟩ := id E
  have hA : ∀ q, (nwA s.heap.size) q → N0 ≤ q := fun q h => Nat.le_trans hC.2.1 h
  have hn : ∀ q, s.heap.size ≤ q → (nwA s.heap.size) q := fun q h => h
  have hS : va_S (nwA s.heap.size) s.heap s.heap [] := va_S.rf
  have hl : lv_has ls 1 [(0, .ref a)] := hl
  refine lv_aload_n (pc := 0) hx hb dJxa1e45_init_da8c8_0 rfl (lv_at hl 0 rfl) ?_
  refine r_oinit (pc := 1) E hl.1 kw_1181 (Nat.le_of_ble_eq_true rfl) (by decide) (by decide) dJxa1e45_init_da8c8_1 ?_
  refine r_vret (pc := 4) E hr hlk hS (by decide) (by decide) ?_ dJxa1e45_init_da8c8_4
  exact trivial
set_option maxHeartbeats 4000000 in
set_option maxRecDepth 100000 in
/-- java/util/AbstractList.<init>()V -/
theorem c_Jxc12de_init_da8c8 (l : Launch) (D : va_G) (tk : Nat → ClassId) (N0 : Nat) (sa : Nat → Nat)  (sz : Nat) (a : Nat) (ha9 : N0 ≤ a) : Met l yJxc12de_init_da8c8 (wsy yJxc12de_init_da8c8 cJxc12de_init_da8c8 1 none) ({ frames := 2, cells := 0, slots := 0, locals := 40 } : Room) (cP D tk N0 sa [.ref a] sz (fun H => c1 D a (.inr (7, [.int 0, .null, .int 0])) H)) (kQv (fun H => c1 D a (.inr (7, [.int 0, .null, .int 0])) H) (inA1 a sz)) (0) (0) (inA1 a sz) := by
  refine mStart RJxc12de rfl (by decide +kernel) (Nat.le_of_ble_eq_true rfl) ?_
  intro p e s m args below meth c E hr hlk hnm hsz hC hF ls hl
  subst hsz
  obtain ⟨hx, hb, -⟩ := id E
  have hA : ∀ q, (inA1 a s.heap.size) q → N0 ≤ q := fun q h => h.elim (fun z => z ▸ ha9) (fun z => Nat.le_trans hC.2.1 z)
  have hn : ∀ q, s.heap.size ≤ q → (inA1 a s.heap.size) q := fun q h => Or.inr h
  have hS : va_S (inA1 a s.heap.size) s.heap s.heap [] := va_S.rf
  have hl : lv_has ls 1 [(0, .ref a)] := hl
  have f0 : c1 D a (.inr (7, [.int 0, .null, .int 0])) s.heap := hF
  have g_f0 : (inA1 a s.heap.size) a := Or.inl rfl
  refine lv_aload_n (pc := 0) hx hb dJxc12de_init_da8c8_0 rfl (lv_at hl 0 rfl) ?_
  refine k_v (pc := 1) (k_I E hC hS hA hl.1 (c_Jxa1e45_init_da8c8 l D tk N0 sa s.heap.size a) kw_1178 kw_1179 kw_6 kw_1180 rfl (n := 0) (by decide +kernel) rfl ⟨⟨rfl, rfl⟩, ⟨by decide, by decide⟩, by decide, by decide⟩ rfl (Nat.le_of_ble_eq_true rfl) trivial dJxc12de_init_da8c8_1) hS (fun q z w => absurd w (Nat.not_le.mpr z)) hn (fun H locs hR hz hk hS => ?_)
  have f0 := f0.kept (hk _ f0.lt (Nat.not_le.mpr f0.lt))
  refine lv_aload_n (pc := 4) hx hb dJxc12de_init_da8c8_4 rfl (lv_at hl 0 rfl) ?_
  refine lv_iconst (pc := 5) (v := 0) hx hb dJxc12de_init_da8c8_5 (by decide) ?_
  refine r_put (pc := 6) E hC f0 hS g_f0 0 tyJx4a65c tyJx4a65c_ok nmJx4a65c rfl (by decide) (Nat.le_of_ble_eq_true rfl) uJx4a65c (List.mem_cons_of_mem _ kw_1188) (fun _ h => h) rfl rfl rfl dJxc12de_init_da8c8_6 (fun H locs n_ ho hz hS => ?_)
  have f0 : c1 D a (.inr (7, [.int 0, .null, .int 0])) H := n_
  refine r_vret (pc := 9) E hr hlk hS (by decide) (by decide) ?_ dJxc12de_init_da8c8_9
  exact f0
set_option maxHeartbeats 4000000 in
set_option maxRecDepth 100000 in
/-- java/util/ArrayList.<init>()V -/
theorem c_Jx4a65c_init_da8c8 (l : Launch) (D : va_G) (tk : Nat → ClassId) (N0 : Nat) (sa : Nat → Nat)  (sz : Nat) (a : Nat) (ha9 : N0 ≤ a) : Met l yJx4a65c_init_da8c8 (wsy yJx4a65c_init_da8c8 cJx4a65c_init_da8c8 1 none) ({ frames := 3, cells := 0, slots := 0, locals := 60 } : Room) (cP D tk N0 sa [.ref a] sz (fun H => c1 D a (.inr (7, [.int 0, .null, .int 0])) H)) (kQv (fun H => c1 D a (.inr (7, [.int 0, .ref (sa 1), .int 0])) H) (inA1 a sz)) (0) (0) (inA1 a sz) := by
  refine mStart RJx4a65c rfl (by decide +kernel) (Nat.le_of_ble_eq_true rfl) ?_
  intro p e s m args below meth c E hr hlk hnm hsz hC hF ls hl
  subst hsz
  obtain ⟨hx, hb, -⟩ := id E
  have hA : ∀ q, (inA1 a s.heap.size) q → N0 ≤ q := fun q h => h.elim (fun z => z ▸ ha9) (fun z => Nat.le_trans hC.2.1 z)
  have hn : ∀ q, s.heap.size ≤ q → (inA1 a s.heap.size) q := fun q h => Or.inr h
  have hS : va_S (inA1 a s.heap.size) s.heap s.heap [] := va_S.rf
  have hl : lv_has ls 1 [(0, .ref a)] := hl
  have f0 : c1 D a (.inr (7, [.int 0, .null, .int 0])) s.heap := hF
  have g_f0 : (inA1 a s.heap.size) a := Or.inl rfl
  refine lv_aload_n (pc := 0) hx hb dJx4a65c_init_da8c8_0 rfl (lv_at hl 0 rfl) ?_
  refine k_v (pc := 1) (k_I E hC hS hA hl.1 (c_Jxc12de_init_da8c8 l D tk N0 sa s.heap.size a (hA _ g_f0)) kw_1175 kw_1176 kw_7 kw_1177 rfl (n := 0) (by decide +kernel) rfl ⟨⟨rfl, rfl⟩, ⟨by decide, by decide⟩, by decide, by decide⟩ rfl (Nat.le_of_ble_eq_true rfl) f0 dJx4a65c_init_da8c8_1) hS (inA1.to g_f0) hn (fun H locs hR hz hk hS => ?_)
  have f0 := hR
  refine lv_aload_n (pc := 4) hx hb dJx4a65c_init_da8c8_4 rfl (lv_at hl 0 rfl) ?_
  refine va_gets (pc := 5) hx hb (hC.al.1.narrow hA) hS E.2.2.2.1 (E.2.2.2.2 _ (List.mem_cons_of_mem _ kw_1182)) (fun _ h => h) dJx4a65c_init_da8c8_5 ?_
  refine r_put (pc := 8) E hC f0 hS g_f0 1 tyJx4a65c tyJx4a65c_ok nmJx4a65c rfl (by decide) (Nat.le_of_ble_eq_true rfl) uJx4a65c (List.mem_cons_of_mem _ kw_1184) (fun _ h => h) rfl rfl rfl dJx4a65c_init_da8c8_8 (fun H locs n_ ho hz hS => ?_)
  have f0 : c1 D a (.inr (7, [.int 0, .ref (sa 1), .int 0])) H := n_
  refine r_vret (pc := 11) E hr hlk hS (by decide) (by decide) ?_ dJx4a65c_init_da8c8_11
  exact f0
set_option maxHeartbeats 4000000 in
set_option maxRecDepth 100000 in
/-- java/util/ArrayList.size()I -/
theorem c_Jx4a65c_size_8abf5 (l : Launch) (D : va_G) (tk : Nat → ClassId) (N0 : Nat) (sa : Nat → Nat)  (sz : Nat) (a b n : Nat) (md : Int32) : Met l yJx4a65c_size_8abf5 (wsy yJx4a65c_size_8abf5 cJx4a65c_size_8abf5 1 (some .int)) ({ frames := 0, cells := 0, slots := 0, locals := 0 } : Room) (cP D tk N0 sa [.ref a] sz (fun H => c1 D a (.inr (7, [.int md, .ref b, .int (nI n)])) H)) (kQi (fun r H => r = nI n) (nwA sz)) (0) (0) (nwA sz) := by
  refine mStart RJx4a65c rfl (by decide +kernel) (Nat.le_of_ble_eq_true rfl) ?_
  intro p e s m args below meth c E hr hlk hnm hsz hC hF ls hl
  subst hsz
  obtain ⟨hx, hb, -⟩ := id E
  have hA : ∀ q, (nwA s.heap.size) q → N0 ≤ q := fun q h => Nat.le_trans hC.2.1 h
  have hn : ∀ q, s.heap.size ≤ q → (nwA s.heap.size) q := fun q h => h
  have hS : va_S (nwA s.heap.size) s.heap s.heap [] := va_S.rf
  have hl : lv_has ls 1 [(0, .ref a)] := hl
  have f0 : c1 D a (.inr (7, [.int md, .ref b, .int (nI n)])) s.heap := hF
  refine lv_aload_n (pc := 0) hx hb dJx4a65c_size_8abf5_0 rfl (lv_at hl 0 rfl) ?_
  refine r_get (pc := 1) E hC f0 2 (v := .int (nI n)) rfl rfl (by decide) uJx4a65c (List.mem_cons_of_mem _ kw_1187) (fun _ h => h) dJx4a65c_size_8abf5_1 ?_
  refine r_iret (pc := 4) E hr hlk hS (by decide) (by decide) ?_ dJx4a65c_size_8abf5_4
  rfl
set_option maxHeartbeats 4000000 in
set_option maxRecDepth 100000 in
/-- java/util/ArrayList.elementData(I)Ljava/lang/Object; -/
theorem c_Jx4a65c_elementData_915e3 (l : Launch) (D : va_G) (tk : Nat → ClassId) (N0 : Nat) (sa : Nat → Nat)  (sz : Nat) (a b n cap i q : Nat) (md ix : Int32) (f : Nat → Option Nat) (hix : ix = nI i) (hin : i < n) (hnc : n ≤ cap) (hcap : cap ≤ 100000000) (hq : f i = some q) : Met l yJx4a65c_elementData_915e3 (wsy yJx4a65c_elementData_915e3 cJx4a65c_elementData_915e3 2 (some (.object "java/lang/Object"))) ({ frames := 0, cells := 0, slots := 0, locals := 0 } : Room) (cP D tk N0 sa [.ref a, .int ix] sz (fun H => c1 D a (.inr (7, [.int md, .ref b, .int (nI n)])) H ∧ c1 D b (.inl (tk 4, cap, .inr (.inr (.inr (.inr f))))) H)) (kQr (fun r H => r = q) (nwA sz)) (0) (0) (nwA sz) := by
  refine mStart RJx4a65c rfl (by decide +kernel) (Nat.le_of_ble_eq_true rfl) ?_
  intro p e s m args below meth c E hr hlk hnm hsz hC hF ls hl
  subst hsz
  obtain ⟨hx, hb, -⟩ := id E
  have hA : ∀ q, (nwA s.heap.size) q → N0 ≤ q := fun q h => Nat.le_trans hC.2.1 h
  have hn : ∀ q, s.heap.size ≤ q → (nwA s.heap.size) q := fun q h => h
  have hS : va_S (nwA s.heap.size) s.heap s.heap [] := va_S.rf
  have hl : lv_has ls 2 [(0, .ref a), (1, .int ix)] := hl
  obtain ⟨f0, fR⟩ : c1 D a (.inr (7, [.int md, .ref b, .int (nI n)])) s.heap ∧ c1 D b (.inl (tk 4, cap, .inr (.inr (.inr (.inr f))))) s.heap := hF
  refine lv_aload_n (pc := 0) hx hb dJx4a65c_elementData_915e3_0 rfl (lv_at hl 0 rfl) ?_
  refine r_get (pc := 1) E hC f0 1 (v := .ref b) rfl rfl (by decide) uJx4a65c (List.mem_cons_of_mem _ kw_1184) (fun _ h => h) dJx4a65c_elementData_915e3_1 ?_
  refine lv_iload_n (pc := 4) hx hb dJx4a65c_elementData_915e3_4 rfl (lv_at hl 1 rfl) ?_
  refine r_aaldM (pc := 5) E hC (t0 := 4) rfl fR i hix (by omega) (by omega) hq dJx4a65c_elementData_915e3_5 ?_
  refine r_aret (pc := 6) E hr (Or.inl ⟨_, rfl⟩) hlk hS (by decide) (by decide) ?_ dJx4a65c_elementData_915e3_6
  rfl
set_option maxHeartbeats 4000000 in
set_option maxRecDepth 100000 in
/-- java/util/ArrayList.get(I)Ljava/lang/Object; -/
theorem c_Jx4a65c_get_915e3 (l : Launch) (D : va_G) (tk : Nat → ClassId) (N0 : Nat) (sa : Nat → Nat)  (sz : Nat) (a b n cap i q : Nat) (md ix : Int32) (f : Nat → Option Nat) (hix : ix = nI i) (hin : i < n) (hnc : n ≤ cap) (hcap : cap ≤ 100000000) (hq : f i = some q) : Met l yJx4a65c_get_915e3 (wsy yJx4a65c_get_915e3 cJx4a65c_get_915e3 2 (some (.object "java/lang/Object"))) ({ frames := 2, cells := 0, slots := 0, locals := 43 } : Room) (cP D tk N0 sa [.ref a, .int ix] sz (fun H => c1 D a (.inr (7, [.int md, .ref b, .int (nI n)])) H ∧ c1 D b (.inl (tk 4, cap, .inr (.inr (.inr (.inr f))))) H)) (kQr (fun r H => r = q) (nwA sz)) (0) (0) (nwA sz) := by
  refine mStart RJx4a65c rfl (by decide +kernel) (Nat.le_of_ble_eq_true rfl) ?_
  intro p e s m args below meth c E hr hlk hnm hsz hC hF ls hl
  subst hsz
  obtain ⟨hx, hb, -⟩ := id E
  have hA : ∀ q, (nwA s.heap.size) q → N0 ≤ q := fun q h => Nat.le_trans hC.2.1 h
  have hn : ∀ q, s.heap.size ≤ q → (nwA s.heap.size) q := fun q h => h
  have hS : va_S (nwA s.heap.size) s.heap s.heap [] := va_S.rf
  have hl : lv_has ls 2 [(0, .ref a), (1, .int ix)] := hl
  obtain ⟨f0, fR⟩ : c1 D a (.inr (7, [.int md, .ref b, .int (nI n)])) s.heap ∧ c1 D b (.inl (tk 4, cap, .inr (.inr (.inr (.inr f))))) s.heap := hF
  refine lv_iload_n (pc := 0) hx hb dJx4a65c_get_915e3_0 rfl (lv_at hl 1 rfl) ?_
  refine lv_aload_n (pc := 1) hx hb dJx4a65c_get_915e3_1 rfl (lv_at hl 0 rfl) ?_
  refine r_get (pc := 2) E hC f0 2 (v := .int (nI n)) rfl rfl (by decide) uJx4a65c (List.mem_cons_of_mem _ kw_1187) (fun _ h => h) dJx4a65c_get_915e3_2 ?_
  refine k_i (pc := 5) (k_S E hC hS hA hl.1 (c_J15_checkIndex_7cf53 l D tk N0 sa s.heap.size ix (nI n) i n hix rfl hin (by omega)) kw_1554 kw_1555 kw_30 kw_1556 (n := 2) (by decide +kernel) rfl ⟨⟨rfl, rfl⟩, ⟨by decide, by decide⟩, by decide, by decide⟩ rfl (Nat.le_of_ble_eq_true rfl) trivial dJx4a65c_get_915e3_5) hS (fun q z w => absurd w (Nat.not_le.mpr z)) hn (fun r_1 H locs hR hz hk hS => ?_)
  have f0 := f0.kept (hk _ f0.lt (Nat.not_le.mpr f0.lt))
  have fR := fR.kept (hk _ fR.lt (Nat.not_le.mpr fR.lt))
  rw [show r_1 = ix from hR]
  refine lv_pop (pc := 8) hx hb dJx4a65c_get_915e3_8 rfl ?_
  refine lv_aload_n (pc := 9) hx hb dJx4a65c_get_915e3_9 rfl (lv_at hl 0 rfl) ?_
  refine lv_iload_n (pc := 10) hx hb dJx4a65c_get_915e3_10 rfl (lv_at hl 1 rfl) ?_
  refine k_r (pc := 11) (k_V E hC hS hA hl.1 (c1.recv hC f0 rfl) rfl (c_Jx4a65c_elementData_915e3 l D tk N0 sa H.size a b n cap i q md ix f hix hin hnc hcap hq) kw_1558 kw_1559 kw_1560 kw_8 kw_1561 (n := 1) (by decide +kernel) rfl ⟨⟨rfl, rfl⟩, ⟨by decide, by decide⟩, by decide, by decide⟩ rfl (Nat.le_of_ble_eq_true rfl) ⟨f0, fR⟩ dJx4a65c_get_915e3_11) hS (fun q z w => absurd w (Nat.not_le.mpr z)) hn (fun r_2 H locs hR hz hk hS => ?_)
  have f0 := f0.kept (hk _ f0.lt (Nat.not_le.mpr f0.lt))
  have fR := fR.kept (hk _ fR.lt (Nat.not_le.mpr fR.lt))
  rw [show r_2 = q from hR]
  refine r_aret (pc := 14) E hr (Or.inl ⟨_, rfl⟩) hlk hS (by decide) (by decide) ?_ dJx4a65c_get_915e3_14
  rfl
set_option maxHeartbeats 4000000 in
set_option maxRecDepth 100000 in
/-- java/util/ArrayList.set(ILjava/lang/Object;)Ljava/lang/Object; -/
theorem c_Jx4a65c_set_bcc79 (l : Launch) (D : va_G) (tk : Nat → ClassId) (N0 : Nat) (sa : Nat → Nat)  (sz : Nat) (a b n cap i q y ce : Nat) (md ix : Int32) (f : Nat → Option Nat) (vs : Nat → Value) (w : Value) (ha9 : N0 ≤ b) (hce : ce = 3 ∨ ce = 2) (hix : ix = nI i) (hin : i < n) (hnc : n ≤ cap) (hcap : cap ≤ 100000000) (hq : f i = some q) : Met l yJx4a65c_set_bcc79 (wsy yJx4a65c_set_bcc79 cJx4a65c_set_bcc79 4 (some (.object "java/lang/Object"))) ({ frames := 2, cells := 0, slots := 0, locals := 43 } : Room) (cP D tk N0 sa [.ref a, .int ix, .ref y] sz (fun H => c1 D a (.inr (7, [.int md, .ref b, .int (nI n)])) H ∧ c1 D b (.inl (tk 4, cap, .inr (.inr (.inr (.inr f))))) H ∧ EL D ce n f vs H ∧ xf D ce y 0 w H)) (kQr (fun r H => c1 D a (.inr (7, [.int md, .ref b, .int (nI n)])) H ∧ c1 D b (.inl (tk 4, cap, .inr (.inr (.inr (.inr (va_up f i (some y))))))) H ∧ EL D ce n (va_up f i (some y)) (va_up vs i w) H) (inA1 b sz)) (0) (0) (inA1 b sz) := by
  refine mStart RJx4a65c rfl (by decide +kernel) (Nat.le_of_ble_eq_true rfl) ?_
  intro p e s m args below meth c E hr hlk hnm hsz hC hF ls hl
  subst hsz
  obtain ⟨hx, hb, -⟩ := id E
  have hA : ∀ q, (inA1 b s.heap.size) q → N0 ≤ q := fun q h => h.elim (fun z => z ▸ ha9) (fun z => Nat.le_trans hC.2.1 z)
  have hn : ∀ q, s.heap.size ≤ q → (inA1 b s.heap.size) q := fun q h => Or.inr h
  have hS : va_S (inA1 b s.heap.size) s.heap s.heap [] := va_S.rf
  have hl : lv_has ls 4 [(0, .ref a), (1, .int ix), (2, .ref y)] := hl
  obtain ⟨f0, fR, el, x9⟩ : c1 D a (.inr (7, [.int md, .ref b, .int (nI n)])) s.heap ∧ c1 D b (.inl (tk 4, cap, .inr (.inr (.inr (.inr f))))) s.heap ∧ EL D ce n f vs s.heap ∧ xf D ce y 0 w s.heap := hF
  have g_fR : (inA1 b s.heap.size) b := Or.inl rfl
  refine lv_iload_n (pc := 0) hx hb dJx4a65c_set_bcc79_0 rfl (lv_at hl 1 rfl) ?_
  refine lv_aload_n (pc := 1) hx hb dJx4a65c_set_bcc79_1 rfl (lv_at hl 0 rfl) ?_
  refine r_get (pc := 2) E hC f0 2 (v := .int (nI n)) rfl rfl (by decide) uJx4a65c (List.mem_cons_of_mem _ kw_1187) (fun _ h => h) dJx4a65c_set_bcc79_2 ?_
  refine k_i (pc := 5) (k_S E hC hS hA hl.1 (c_J15_checkIndex_7cf53 l D tk N0 sa s.heap.size ix (nI n) i n hix rfl hin (by omega)) kw_1554 kw_1555 kw_30 kw_1556 (n := 2) (by decide +kernel) rfl ⟨⟨rfl, rfl⟩, ⟨by decide, by decide⟩, by decide, by decide⟩ rfl (Nat.le_of_ble_eq_true rfl) trivial dJx4a65c_set_bcc79_5) hS (fun q z w => absurd w (Nat.not_le.mpr z)) hn (fun r_1 H locs hR hz hk hS => ?_)
  have f0 := f0.kept (hk _ f0.lt (Nat.not_le.mpr f0.lt))
  have fR := fR.kept (hk _ fR.lt (Nat.not_le.mpr fR.lt))
  have el := el.new hk
  have x9 := x9.kept (hk _ x9.lt (Nat.not_le.mpr x9.lt))
  rw [show r_1 = ix from hR]
  refine lv_pop (pc := 8) hx hb dJx4a65c_set_bcc79_8 rfl ?_
  refine lv_aload_n (pc := 9) hx hb dJx4a65c_set_bcc79_9 rfl (lv_at hl 0 rfl) ?_
  refine lv_iload_n (pc := 10) hx hb dJx4a65c_set_bcc79_10 rfl (lv_at hl 1 rfl) ?_
  refine k_r (pc := 11) (k_V E hC hS hA hl.1 (c1.recv hC f0 rfl) rfl (c_Jx4a65c_elementData_915e3 l D tk N0 sa H.size a b n cap i q md ix f hix hin hnc hcap hq) kw_1558 kw_1559 kw_1560 kw_8 kw_1561 (n := 1) (by decide +kernel) rfl ⟨⟨rfl, rfl⟩, ⟨by decide, by decide⟩, by decide, by decide⟩ rfl (Nat.le_of_ble_eq_true rfl) ⟨f0, fR⟩ dJx4a65c_set_bcc79_11) hS (fun q z w => absurd w (Nat.not_le.mpr z)) hn (fun r_2 H locs hR hz hk hS => ?_)
  have f0 := f0.kept (hk _ f0.lt (Nat.not_le.mpr f0.lt))
  have fR := fR.kept (hk _ fR.lt (Nat.not_le.mpr fR.lt))
  have el := el.new hk
  have x9 := x9.kept (hk _ x9.lt (Nat.not_le.mpr x9.lt))
  rw [show r_2 = q from hR]
  refine lv_astore_n (pc := 14) (lv' := [(3, .ref q), (0, .ref a), (1, .int ix), (2, .ref y)]) hx hb dJx4a65c_set_bcc79_14 rfl hl (by decide) rfl (fun ls hl => ?_)
  refine lv_aload_n (pc := 15) hx hb dJx4a65c_set_bcc79_15 rfl (lv_at hl 1 rfl) ?_
  refine r_get (pc := 16) E hC f0 1 (v := .ref b) rfl rfl (by decide) uJx4a65c (List.mem_cons_of_mem _ kw_1184) (fun _ h => h) dJx4a65c_set_bcc79_16 ?_
  refine lv_iload_n (pc := 19) hx hb dJx4a65c_set_bcc79_19 rfl (lv_at hl 2 rfl) ?_
  refine lv_aload_n (pc := 20) hx hb dJx4a65c_set_bcc79_20 rfl (lv_at hl 3 rfl) ?_
  refine r_aastM (pc := 21) E hC fR (x9.any hC hce) hS g_fR i hix (by omega) (by omega) dJx4a65c_set_bcc79_21 (fun H locs n_ ho hz hS => ?_)
  have f0 := f0.kept (ho _ (clA.ne f0.cl fR.cla (hC.oa 7 4 rfl rfl)))
  have el := el.put ho (fun q9 h9 => clA.ne h9 fR.cla (hC.cea hce 4 rfl))
  have x9 := x9.kept (ho _ (clA.ne x9.cl fR.cla (hC.cea hce 4 rfl)))
  have fR := n_
  refine lv_aload_n (pc := 22) hx hb dJx4a65c_set_bcc79_22 rfl (lv_at hl 0 rfl) ?_
  refine r_aret (pc := 23) E hr (Or.inl ⟨_, rfl⟩) hlk hS (by decide) (by decide) ?_ dJx4a65c_set_bcc79_23
  exact ⟨f0, fR, el.set x9⟩
set_option maxHeartbeats 4000000 in
set_option maxRecDepth 100000 in
/-- java/util/Arrays.copyOf([Ljava/lang/Object;ILjava/lang/Class;)[Ljava/lang/Object; -/
theorem c_J7_copyOf_6403c (l : Launch) (D : va_G) (tk : Nat → ClassId) (N0 : Nat) (sa : Nat → Nat)  (sz : Nat) (b n k ce : Nat) (nl : Int32) (f : Nat → Option Nat) (vs : Nat → Value) (hce : ce = 3 ∨ ce = 2) (hnl : nl = nI k) (hlt : n < k) (hk9 : k ≤ 100000) : Met l yJ7_copyOf_6403c (wsy yJ7_copyOf_6403c cJ7_copyOf_6403c 4 (some (.array (.object "java/lang/Object")))) ({ frames := 1, cells := 1, slots := k, locals := 26 } : Room) (cP D tk N0 sa [.ref b, .int nl, .ref (sa 6)] sz (fun H => c1 D b (.inl (tk 4, n, .inr (.inr (.inr (.inr f))))) H ∧ EL D ce n f vs H)) (kQr (fun r H => ∃ f1, sz ≤ r ∧ c1 D r (.inl (tk 4, k, .inr (.inr (.inr (.inr f1))))) H ∧ EL D ce n f1 vs H) (nwA sz)) (1) (k) (nwA sz) := by
  refine mStart RJ7 rfl (by decide +kernel) (Nat.le_of_ble_eq_true rfl) ?_
  intro p e s m args below meth c E hr hlk hnm hsz hC hF ls hl
  subst hsz
  obtain ⟨hx, hb, -⟩ := id E
  have hA : ∀ q, (nwA s.heap.size) q → N0 ≤ q := fun q h => Nat.le_trans hC.2.1 h
  have hn : ∀ q, s.heap.size ≤ q → (nwA s.heap.size) q := fun q h => h
  have hS : va_S (nwA s.heap.size) s.heap s.heap [] := va_S.rf
  have hl : lv_has ls 4 [(0, .ref b), (1, .int nl), (2, .ref (sa 6))] := hl
  obtain ⟨fR, el⟩ : c1 D b (.inl (tk 4, n, .inr (.inr (.inr (.inr f))))) s.heap ∧ EL D ce n f vs s.heap := hF
  refine lv_aload_n (pc := 0) hx hb dJ7_copyOf_6403c_0 rfl (lv_at hl 2 rfl) ?_
  refine va_ldcM (pc := 1) hx hb E.2.2.2.1 (E.2.2.2.2 _ (List.mem_cons_of_mem _ kw_1478)) hC.xt.1 dJ7_copyOf_6403c_1 ?_
  refine lv_acmp_ne (pc := 3) (rx := (some (sa 6))) (ry := (some (sa 6))) (tgt := 13) hx hb dJ7_copyOf_6403c_3 (by decide) (fun c9 => absurd rfl c9) (fun _ => ?_)
  refine lv_iload_n (pc := 6) hx hb dJ7_copyOf_6403c_6 rfl (lv_at hl 1 rfl) ?_
  have hS0_ := hS
  refine r_anewO (pc := 7) E hC hS kw_1480 (N := k) (by rw [hnl]; exact nI_pos (by omega)) (by rw [hnl]; exact nI_clamp (by omega)) (by omega) (by dsimp only; omega) (by dsimp only; omega) dJ7_copyOf_6403c_7 (fun qf1 H zq_ n_ ho_ hS => ?_)
  have l_fR_f1 : b < qf1 := zq_ ▸ fR.lt
  have fR := fR.kept (ho_ _ fR.lt)
  have el := el.old ho_
  have f1 := n_
  have s_f1 : s.heap.size ≤ qf1 := zq_ ▸ hS0_.1
  have g_f1 := hn _ s_f1
  refine lv_goto (pc := 10) (tgt := 24) hx hb dJ7_copyOf_6403c_10 (by decide) ?_
  refine lv_astore_n (pc := 24) (lv' := [(3, .ref qf1), (0, .ref b), (1, .int nl), (2, .ref (sa 6))]) hx hb dJ7_copyOf_6403c_24 rfl hl (by decide) rfl (fun ls hl => ?_)
  refine lv_aload_n (pc := 25) hx hb dJ7_copyOf_6403c_25 rfl (lv_at hl 1 rfl) ?_
  refine lv_iconst (pc := 26) (v := 0) hx hb dJ7_copyOf_6403c_26 (by decide) ?_
  refine lv_aload_n (pc := 27) hx hb dJ7_copyOf_6403c_27 rfl (lv_at hl 0 rfl) ?_
  refine lv_iconst (pc := 28) (v := 0) hx hb dJ7_copyOf_6403c_28 (by decide) ?_
  refine lv_aload_n (pc := 29) hx hb dJ7_copyOf_6403c_29 rfl (lv_at hl 1 rfl) ?_
  obtain ⟨x_2, ex_2⟩ : ∃ z9 : Int32, z9 = nI n := ⟨_, rfl⟩
  refine r_alen (pc := 30) E hC fR 4 rfl (v := x_2) ex_2.symm dJ7_copyOf_6403c_30 ?_
  refine lv_iload_n (pc := 31) hx hb dJ7_copyOf_6403c_31 rfl (lv_at hl 2 rfl) ?_
  refine k_i (pc := 32) (k_S E hC hS hA hl.1 (c_J9_min_7cf53 l D tk N0 sa H.size x_2 nl ) kw_218 kw_219 kw_9 kw_220 (n := 2) (by decide +kernel) rfl ⟨⟨rfl, rfl⟩, ⟨Nat.le_of_ble_eq_true rfl, Nat.le_of_ble_eq_true rfl⟩, (by dsimp only; omega), (by dsimp only; omega)⟩ rfl (Nat.le_of_ble_eq_true rfl) trivial dJ7_copyOf_6403c_32) hS (fun q z w => absurd w (Nat.not_le.mpr z)) hn (fun r_3 H locs hR hz hk hS => ?_)
  have er_3 := hR
  have fR := fR.kept (hk _ fR.lt (Nat.not_le.mpr fR.lt))
  have el := el.new hk
  have f1 := f1.kept (hk _ f1.lt (Nat.not_le.mpr f1.lt))
  have hm9 : r_3 = nI n := by rw [er_3, hnl, ex_2]; exact f_min9 hlt (by omega)
  refine r_acpyQ (pc := 35) E hC hl.1 (N := n) hce fR el f1 hS g_f1 hm9 (by omega) (by omega) (by omega) kw_221 (by exact Nat.le_of_ble_eq_true rfl) (by decide) (by exact Nat.le_of_ble_eq_true rfl) dJ7_copyOf_6403c_35 (fun H locs n_ ho hz hS => ?_)
  have fR := fR.kept (ho _ (Nat.ne_of_lt l_fR_f1))
  have el := el.put ho (fun q9 h9 => clA.ne h9 f1.cla (hC.cea hce 4 rfl))
  have f1 := n_
  refine lv_aload_n (pc := 38) hx hb dJ7_copyOf_6403c_38 rfl (lv_at hl 0 rfl) ?_
  refine r_aret (pc := 39) E hr (Or.inr ⟨_, rfl⟩) hlk hS (by omega) (by omega) ?_ dJ7_copyOf_6403c_39
  exact ⟨_, s_f1, f1, el.to (fun i hi => by rw [pk_cpy_in (Nat.zero_le _) (by omega)]; congr 1; omega) (fun _ _ => rfl)⟩
set_option maxHeartbeats 4000000 in
set_option maxRecDepth 100000 in
/-- java/util/Arrays.copyOf([Ljava/lang/Object;I)[Ljava/lang/Object; -/
theorem c_J7_copyOf_1904c (l : Launch) (D : va_G) (tk : Nat → ClassId) (N0 : Nat) (sa : Nat → Nat)  (sz : Nat) (b n k ce : Nat) (nl : Int32) (f : Nat → Option Nat) (vs : Nat → Value) (hce : ce = 3 ∨ ce = 2) (hnl : nl = nI k) (hlt : n < k) (hk9 : k ≤ 100000) : Met l yJ7_copyOf_1904c (wsy yJ7_copyOf_1904c cJ7_copyOf_1904c 2 (some (.array (.object "java/lang/Object")))) ({ frames := 2, cells := 1, slots := k, locals := 49 } : Room) (cP D tk N0 sa [.ref b, .int nl] sz (fun H => c1 D b (.inl (tk 4, n, .inr (.inr (.inr (.inr f))))) H ∧ EL D ce n f vs H)) (kQr (fun r H => ∃ f1, sz ≤ r ∧ c1 D r (.inl (tk 4, k, .inr (.inr (.inr (.inr f1))))) H ∧ EL D ce n f1 vs H) (nwA sz)) (1) (k) (nwA sz) := by
  refine mStart RJ7 rfl (by decide +kernel) (Nat.le_of_ble_eq_true rfl) ?_
  intro p e s m args below meth c E hr hlk hnm hsz hC hF ls hl
  subst hsz
  obtain ⟨hx, hb, -⟩ := id E
  have hA : ∀ q, (nwA s.heap.size) q → N0 ≤ q := fun q h => Nat.le_trans hC.2.1 h
  have hn : ∀ q, s.heap.size ≤ q → (nwA s.heap.size) q := fun q h => h
  have hS : va_S (nwA s.heap.size) s.heap s.heap [] := va_S.rf
  have hl : lv_has ls 2 [(0, .ref b), (1, .int nl)] := hl
  obtain ⟨fR, el⟩ : c1 D b (.inl (tk 4, n, .inr (.inr (.inr (.inr f))))) s.heap ∧ EL D ce n f vs s.heap := hF
  refine lv_aload_n (pc := 0) hx hb dJ7_copyOf_1904c_0 rfl (lv_at hl 0 rfl) ?_
  refine lv_iload_n (pc := 1) hx hb dJ7_copyOf_1904c_1 rfl (lv_at hl 1 rfl) ?_
  refine lv_aload_n (pc := 2) hx hb dJ7_copyOf_1904c_2 rfl (lv_at hl 0 rfl) ?_
  refine r_getCls (pc := 3) E hC hl.1 fR kw_1454 (by exact Nat.le_of_ble_eq_true rfl) (by exact Nat.le_of_ble_eq_true rfl) (by exact Nat.le_of_ble_eq_true rfl) dJ7_copyOf_1904c_3 ?_
  have hZ0_ := hS.1
  have t_fR := fR.lt
  refine k_r (pc := 6) (k_S E hC hS hA hl.1 (c_J7_copyOf_6403c l D tk N0 sa s.heap.size b n k ce nl f vs hce hnl hlt hk9) kw_1475 kw_1476 kw_24 kw_1477 (n := 3) (by decide +kernel) rfl ⟨⟨rfl, rfl⟩, ⟨Nat.le_of_ble_eq_true rfl, Nat.le_of_ble_eq_true rfl⟩, (by dsimp only; omega), (by dsimp only; omega)⟩ rfl (Nat.le_of_ble_eq_true rfl) ⟨fR, el⟩ dJ7_copyOf_1904c_6) hS (fun q z w => absurd w (Nat.not_le.mpr z)) hn (fun r_1 H locs hR hz hk hS => ?_)
  have fR := fR.kept (hk _ fR.lt (Nat.not_le.mpr fR.lt))
  obtain ⟨f_2, z9_, f2, el⟩ := hR
  have s_f2 : s.heap.size ≤ r_1 := Nat.le_trans hZ0_ z9_
  have g_f2 := hn _ s_f2
  have l_fR_f2 : b < r_1 := Nat.lt_of_lt_of_le t_fR z9_
  refine r_aret (pc := 9) E hr (Or.inr ⟨_, rfl⟩) hlk hS (by omega) (by omega) ?_ dJ7_copyOf_1904c_9
  exact ⟨_, s_f2, f2, el⟩
set_option maxHeartbeats 4000000 in
set_option maxRecDepth 100000 in
/-- java/util/ArrayList.grow(I)[Ljava/lang/Object; -/
theorem c_Jx4a65c_grow_92f84_E (l : Launch) (D : va_G) (tk : Nat → ClassId) (N0 : Nat) (sa : Nat → Nat)  (sz : Nat) (a : Nat) (md ml : Int32) (ha9 : N0 ≤ a) (hml : ml = 1) : Met l yJx4a65c_grow_92f84 (wsy yJx4a65c_grow_92f84 cJx4a65c_grow_92f84 4 (some (.array (.object "java/lang/Object")))) ({ frames := 1, cells := 1, slots := 10, locals := 21 } : Room) (cP D tk N0 sa [.ref a, .int ml] sz (fun H => c1 D a (.inr (7, [.int md, .ref (sa 1), .int 0])) H)) (kQr (fun r H => ∃ q, r = q ∧ sz ≤ q ∧ c1 D a (.inr (7, [.int md, .ref q, .int 0])) H ∧ c1 D q (.inl (tk 4, 10, .inr (.inr (.inr (.inr (fun _ => none)))))) H) (inA1 a sz)) (1) (10) (inA1 a sz) := by
  refine mStart RJx4a65c rfl (by decide +kernel) (Nat.le_of_ble_eq_true rfl) ?_
  intro p e s m args below meth c E hr hlk hnm hsz hC hF ls hl
  subst hsz
  obtain ⟨hx, hb, -⟩ := id E
  have hA : ∀ q, (inA1 a s.heap.size) q → N0 ≤ q := fun q h => h.elim (fun z => z ▸ ha9) (fun z => Nat.le_trans hC.2.1 z)
  have hn : ∀ q, s.heap.size ≤ q → (inA1 a s.heap.size) q := fun q h => Or.inr h
  have hS : va_S (inA1 a s.heap.size) s.heap s.heap [] := va_S.rf
  have hl : lv_has ls 4 [(0, .ref a), (1, .int ml)] := hl
  have f0 : c1 D a (.inr (7, [.int md, .ref (sa 1), .int 0])) s.heap := hF
  have g_f0 : (inA1 a s.heap.size) a := Or.inl rfl
  refine lv_aload_n (pc := 0) hx hb dJx4a65c_grow_92f84_0 rfl (lv_at hl 0 rfl) ?_
  refine r_get (pc := 1) E hC f0 1 (v := .ref (sa 1)) rfl rfl (by decide) uJx4a65c (List.mem_cons_of_mem _ kw_1184) (fun _ h => h) dJx4a65c_grow_92f84_1 ?_
  refine va_tlen (pc := 4) hx hb (hC.al.2.narrow hA) hS (v := 0) rfl dJx4a65c_grow_92f84_4 ?_
  refine lv_istore_n (pc := 5) (lv' := [(2, .int 0), (0, .ref a), (1, .int ml)]) hx hb dJx4a65c_grow_92f84_5 rfl hl (by decide) rfl (fun ls hl => ?_)
  refine lv_iload_n (pc := 6) hx hb dJx4a65c_grow_92f84_6 rfl (lv_at hl 0 rfl) ?_
  refine lv_if_gt (pc := 7) (tgt := 20) hx hb dJx4a65c_grow_92f84_7 (by decide) (fun c_1 => ?_) (fun c_1 => ?_)
  · exact absurd c_1 (by decide)
  refine lv_aload_n (pc := 10) hx hb dJx4a65c_grow_92f84_10 rfl (lv_at hl 1 rfl) ?_
  refine r_get (pc := 11) E hC f0 1 (v := .ref (sa 1)) rfl rfl (by decide) uJx4a65c (List.mem_cons_of_mem _ kw_1184) (fun _ h => h) dJx4a65c_grow_92f84_11 ?_
  refine va_gets (pc := 14) hx hb (hC.al.1.narrow hA) hS E.2.2.2.1 (E.2.2.2.2 _ (List.mem_cons_of_mem _ kw_1182)) (fun _ h => h) dJx4a65c_grow_92f84_14 ?_
  refine lv_acmp_eq (pc := 17) (rx := (some (sa 1))) (ry := (some (sa 1))) (tgt := 45) hx hb dJx4a65c_grow_92f84_17 (by decide) (fun _ => ?_) (fun c9 => absurd rfl c9)
  refine lv_aload_n (pc := 45) hx hb dJx4a65c_grow_92f84_45 rfl (lv_at hl 1 rfl) ?_
  refine lv_bipush (pc := 46) (v := 10) hx hb dJx4a65c_grow_92f84_46 (by decide) ?_
  refine lv_iload_n (pc := 48) hx hb dJx4a65c_grow_92f84_48 rfl (lv_at hl 2 rfl) ?_
  refine k_i (pc := 49) (k_S E hC hS hA hl.1 (c_J9_max_7cf53 l D tk N0 sa s.heap.size 10 ml ) kw_1481 kw_201 kw_9 kw_202 (n := 2) (by decide +kernel) rfl ⟨⟨rfl, rfl⟩, ⟨by decide, by decide⟩, by decide, by decide⟩ rfl (Nat.le_of_ble_eq_true rfl) trivial dJx4a65c_grow_92f84_49) hS (fun q z w => absurd w (Nat.not_le.mpr z)) hn (fun r_2 H locs hR hz hk hS => ?_)
  have er_2 := hR
  have f0 := f0.kept (hk _ f0.lt (Nat.not_le.mpr f0.lt))
  have hm9 : r_2 = 10 := by rw [er_2, hml]; decide
  have hS0_ := hS
  refine r_anewO (pc := 52) E hC hS kw_1482 (N := 10) (by rw [hm9]; decide) (by rw [hm9]; decide) (by decide) (by decide) (by decide) dJx4a65c_grow_92f84_52 (fun qf4 H zq_ n_ ho_ hS => ?_)
  have l_f0_f4 : a < qf4 := zq_ ▸ f0.lt
  have f0 := f0.kept (ho_ _ f0.lt)
  have f4 := n_
  have s_f4 : s.heap.size ≤ qf4 := zq_ ▸ hS0_.1
  have g_f4 := hn _ s_f4
  refine lv_dup_x1 (pc := 55) hx hb dJx4a65c_grow_92f84_55 rfl rfl ?_
  refine r_put (pc := 56) E hC f0 hS g_f0 1 tyJx4a65c tyJx4a65c_ok nmJx4a65c rfl (by decide) (Nat.le_of_ble_eq_true rfl) uJx4a65c (List.mem_cons_of_mem _ kw_1184) (fun _ h => h) rfl rfl rfl dJx4a65c_grow_92f84_56 (fun H locs n_ ho hz hS => ?_)
  have f4 := f4.kept (ho _ (clA.ne f4.cla f0.cl (hC.ao 7 4 rfl rfl)))
  have f0 : c1 D a (.inr (7, [.int md, .ref qf4, .int 0])) H := n_
  refine r_aret (pc := 59) E hr (Or.inr ⟨_, rfl⟩) hlk hS (by decide) (by decide) ?_ dJx4a65c_grow_92f84_59
  exact ⟨_, rfl, s_f4, f0, f4⟩
set_option maxHeartbeats 4000000 in
set_option maxRecDepth 100000 in
/-- java/util/ArrayList.grow()[Ljava/lang/Object; -/
theorem c_Jx4a65c_grow_d5877_E (l : Launch) (D : va_G) (tk : Nat → ClassId) (N0 : Nat) (sa : Nat → Nat)  (sz : Nat) (a : Nat) (md : Int32) (ha9 : N0 ≤ a) : Met l yJx4a65c_grow_d5877 (wsy yJx4a65c_grow_d5877 cJx4a65c_grow_d5877 1 (some (.array (.object "java/lang/Object")))) ({ frames := 2, cells := 1, slots := 10, locals := 44 } : Room) (cP D tk N0 sa [.ref a] sz (fun H => c1 D a (.inr (7, [.int md, .ref (sa 1), .int 0])) H)) (kQr (fun r H => ∃ q, r = q ∧ sz ≤ q ∧ c1 D a (.inr (7, [.int md, .ref q, .int 0])) H ∧ c1 D q (.inl (tk 4, 10, .inr (.inr (.inr (.inr (fun _ => none)))))) H) (inA1 a sz)) (1) (10) (inA1 a sz) := by
  refine mStart RJx4a65c rfl (by decide +kernel) (Nat.le_of_ble_eq_true rfl) ?_
  intro p e s m args below meth c E hr hlk hnm hsz hC hF ls hl
  subst hsz
  obtain ⟨hx, hb, -⟩ := id E
  have hA : ∀ q, (inA1 a s.heap.size) q → N0 ≤ q := fun q h => h.elim (fun z => z ▸ ha9) (fun z => Nat.le_trans hC.2.1 z)
  have hn : ∀ q, s.heap.size ≤ q → (inA1 a s.heap.size) q := fun q h => Or.inr h
  have hS : va_S (inA1 a s.heap.size) s.heap s.heap [] := va_S.rf
  have hl : lv_has ls 1 [(0, .ref a)] := hl
  have f0 : c1 D a (.inr (7, [.int md, .ref (sa 1), .int 0])) s.heap := hF
  have g_f0 : (inA1 a s.heap.size) a := Or.inl rfl
  refine lv_aload_n (pc := 0) hx hb dJx4a65c_grow_d5877_0 rfl (lv_at hl 0 rfl) ?_
  refine lv_aload_n (pc := 1) hx hb dJx4a65c_grow_d5877_1 rfl (lv_at hl 0 rfl) ?_
  refine r_get (pc := 2) E hC f0 2 (v := .int 0) rfl rfl (by decide) uJx4a65c (List.mem_cons_of_mem _ kw_1187) (fun _ h => h) dJx4a65c_grow_d5877_2 ?_
  refine lv_iconst (pc := 5) (v := 1) hx hb dJx4a65c_grow_d5877_5 (by decide) ?_
  refine lv_iadd (pc := 6) hx hb dJx4a65c_grow_d5877_6 ?_
  have hZ0_ := hS.1
  have t_f0 := f0.lt
  refine k_r (pc := 7) (k_V E hC hS hA hl.1 (c1.recv hC f0 rfl) rfl (c_Jx4a65c_grow_92f84_E l D tk N0 sa s.heap.size a md (0 + 1) (hA _ g_f0) (by decide)) kw_1446 kw_1448 kp_27 kw_8 kw_1449 (n := 1) (by decide +kernel) rfl ⟨⟨rfl, rfl⟩, ⟨by decide, by decide⟩, by decide, by decide⟩ rfl (Nat.le_of_ble_eq_true rfl) f0 dJx4a65c_grow_d5877_7) hS (inA1.to g_f0) hn (fun r_1 H locs hR hz hk hS => ?_)
  obtain ⟨q2, hr9, z9_, f0, f2⟩ := hR
  rw [hr9]
  have s_f2 : s.heap.size ≤ q2 := Nat.le_trans hZ0_ z9_
  have g_f2 := hn _ s_f2
  have l_f0_f2 : a < q2 := Nat.lt_of_lt_of_le t_f0 z9_
  refine r_aret (pc := 10) E hr (Or.inr ⟨_, rfl⟩) hlk hS (by decide) (by decide) ?_ dJx4a65c_grow_d5877_10
  exact ⟨_, rfl, s_f2, f0, f2⟩
set_option maxHeartbeats 4000000 in
set_option maxRecDepth 100000 in
/-- java/util/ArrayList.add(Ljava/lang/Object;[Ljava/lang/Object;I)V -/
theorem c_Jx4a65c_add_72be8_E (l : Launch) (D : va_G) (tk : Nat → ClassId) (N0 : Nat) (sa : Nat → Nat)  (sz : Nat) (a y ce : Nat) (md : Int32) (w : Value) (vs : Nat → Value) (ha9 : N0 ≤ a) (hce : ce = 3 ∨ ce = 2) : Met l yJx4a65c_add_72be8 (wsy yJx4a65c_add_72be8 cJx4a65c_add_72be8 4 none) ({ frames := 3, cells := 1, slots := 10, locals := 64 } : Room) (cP D tk N0 sa [.ref a, .ref y, .ref (sa 1), .int 0] sz (fun H => c1 D a (.inr (7, [.int md, .ref (sa 1), .int 0])) H ∧ xf D ce y 0 w H)) (kQv (fun H => ∃ q, sz ≤ q ∧ c1 D a (.inr (7, [.int md, .ref q, .int (nI 1)])) H ∧ c1 D q (.inl (tk 4, 10, .inr (.inr (.inr (.inr (va_up (fun _ => none) 0 (some y))))))) H ∧ EL D ce 1 (va_up (fun _ => none) 0 (some y)) (va_up vs 0 w) H) (inA1 a sz)) (1) (10) (inA1 a sz) := by
  refine mStart RJx4a65c rfl (by decide +kernel) (Nat.le_of_ble_eq_true rfl) ?_
  intro p e s m args below meth c E hr hlk hnm hsz hC hF ls hl
  subst hsz
  obtain ⟨hx, hb, -⟩ := id E
  have hA : ∀ q, (inA1 a s.heap.size) q → N0 ≤ q := fun q h => h.elim (fun z => z ▸ ha9) (fun z => Nat.le_trans hC.2.1 z)
  have hn : ∀ q, s.heap.size ≤ q → (inA1 a s.heap.size) q := fun q h => Or.inr h
  have hS : va_S (inA1 a s.heap.size) s.heap s.heap [] := va_S.rf
  have hl : lv_has ls 4 [(0, .ref a), (1, .ref y), (2, .ref (sa 1)), (3, .int 0)] := hl
  obtain ⟨f0, x9⟩ : c1 D a (.inr (7, [.int md, .ref (sa 1), .int 0])) s.heap ∧ xf D ce y 0 w s.heap := hF
  have g_f0 : (inA1 a s.heap.size) a := Or.inl rfl
  refine lv_iload_n (pc := 0) hx hb dJx4a65c_add_72be8_0 rfl (lv_at hl 3 rfl) ?_
  refine lv_aload_n (pc := 1) hx hb dJx4a65c_add_72be8_1 rfl (lv_at hl 2 rfl) ?_
  refine va_tlen (pc := 2) hx hb (hC.al.2.narrow hA) hS (v := 0) rfl dJx4a65c_add_72be8_2 ?_
  refine lv_icmp_ne (pc := 3) (tgt := 11) hx hb dJx4a65c_add_72be8_3 (by decide) (fun c_1 => ?_) (fun c_1 => ?_)
  · exact absurd (by decide) c_1
  refine lv_aload_n (pc := 6) hx hb dJx4a65c_add_72be8_6 rfl (lv_at hl 0 rfl) ?_
  have hZ0_ := hS.1
  have t_f0 := f0.lt
  have t_x9 := x9.lt
  refine k_r (pc := 7) (k_V E hC hS hA hl.1 (c1.recv hC f0 rfl) rfl (c_Jx4a65c_grow_d5877_E l D tk N0 sa s.heap.size a md (hA _ g_f0)) kw_1442 kw_1444 kp_26 kw_8 kw_1445 (n := 0) (by decide +kernel) rfl ⟨⟨rfl, rfl⟩, ⟨by decide, by decide⟩, by decide, by decide⟩ rfl (Nat.le_of_ble_eq_true rfl) f0 dJx4a65c_add_72be8_7) hS (inA1.to g_f0) hn (fun r_2 H locs hR hz hk hS => ?_)
  have x9 := x9.kept (hk _ x9.lt (inA1.not (clA.ne x9.cl f0.cl (hC.ceo hce 7 rfl (by decide))) x9.lt))
  obtain ⟨q3, hr9, z9_, f0, f3⟩ := hR
  rw [hr9]
  have s_f3 : s.heap.size ≤ q3 := Nat.le_trans hZ0_ z9_
  have g_f3 := hn _ s_f3
  have l_f0_f3 : a < q3 := Nat.lt_of_lt_of_le t_f0 z9_
  have l_x9_f3 : y < q3 := Nat.lt_of_lt_of_le t_x9 z9_
  refine lv_astore_n (pc := 10) (lv' := [(2, .ref q3), (0, .ref a), (1, .ref y), (3, .int 0)]) hx hb dJx4a65c_add_72be8_10 rfl hl (by decide) rfl (fun ls hl => ?_)
  refine lv_aload_n (pc := 11) hx hb dJx4a65c_add_72be8_11 rfl (lv_at hl 0 rfl) ?_
  refine lv_iload_n (pc := 12) hx hb dJx4a65c_add_72be8_12 rfl (lv_at hl 3 rfl) ?_
  refine lv_aload_n (pc := 13) hx hb dJx4a65c_add_72be8_13 rfl (lv_at hl 2 rfl) ?_
  refine r_aastM (pc := 14) E hC f3 (x9.any hC hce) hS g_f3 0 rfl (by decide) (by decide) dJx4a65c_add_72be8_14 (fun H locs n_ ho hz hS => ?_)
  have f0 := f0.kept (ho _ (clA.ne f0.cl f3.cla (hC.oa 7 4 rfl rfl)))
  have x9 := x9.kept (ho _ (clA.ne x9.cl f3.cla (hC.cea hce 4 rfl)))
  have f3 := n_
  refine lv_aload_n (pc := 15) hx hb dJx4a65c_add_72be8_15 rfl (lv_at hl 1 rfl) ?_
  refine lv_iload_n (pc := 16) hx hb dJx4a65c_add_72be8_16 rfl (lv_at hl 3 rfl) ?_
  refine lv_iconst (pc := 17) (v := 1) hx hb dJx4a65c_add_72be8_17 (by decide) ?_
  refine lv_iadd (pc := 18) hx hb dJx4a65c_add_72be8_18 ?_
  refine r_put (pc := 19) E hC f0 hS g_f0 2 tyJx4a65c tyJx4a65c_ok nmJx4a65c rfl (by decide) (Nat.le_of_ble_eq_true rfl) uJx4a65c (List.mem_cons_of_mem _ kw_1187) (fun _ h => h) rfl rfl rfl dJx4a65c_add_72be8_19 (fun H locs n_ ho hz hS => ?_)
  have x9 := x9.kept (ho _ (clA.ne x9.cl f0.cl (hC.ceo hce 7 rfl (by decide))))
  have f3 := f3.kept (ho _ (clA.ne f3.cla f0.cl (hC.ao 7 4 rfl rfl)))
  have f0 : c1 D a (.inr (7, [.int md, .ref q3, .int (0 + 1)])) H := n_
  refine r_vret (pc := 22) E hr hlk hS (by decide) (by decide) ?_ dJx4a65c_add_72be8_22
  exact ⟨_, s_f3, (by have h9 := f0; rw [show (0 : Int32) + 1 = nI 1 from by decide] at h9; exact h9), f3, EL.nil.add x9⟩
set_option maxHeartbeats 4000000 in
set_option maxRecDepth 100000 in
/-- java/util/ArrayList.add(Ljava/lang/Object;)Z -/
theorem c_Jx4a65c_add_9ea2d_E (l : Launch) (D : va_G) (tk : Nat → ClassId) (N0 : Nat) (sa : Nat → Nat)  (sz : Nat) (a y ce : Nat) (md : Int32) (w : Value) (vs : Nat → Value) (ha9 : N0 ≤ a) (hce : ce = 3 ∨ ce = 2) : Met l yJx4a65c_add_9ea2d (wsy yJx4a65c_add_9ea2d cJx4a65c_add_9ea2d 2 (some .boolean)) ({ frames := 4, cells := 1, slots := 10, locals := 87 } : Room) (cP D tk N0 sa [.ref a, .ref y] sz (fun H => c1 D a (.inr (7, [.int md, .ref (sa 1), .int 0])) H ∧ xf D ce y 0 w H)) (kQi (fun r H => r = 1 ∧ ∃ q, sz ≤ q ∧ c1 D a (.inr (7, [.int (md + 1), .ref q, .int (nI 1)])) H ∧ c1 D q (.inl (tk 4, 10, .inr (.inr (.inr (.inr (va_up (fun _ => none) 0 (some y))))))) H ∧ EL D ce 1 (va_up (fun _ => none) 0 (some y)) (va_up vs 0 w) H) (inA1 a sz)) (1) (10) (inA1 a sz) := by
  refine mStart RJx4a65c rfl (by decide +kernel) (Nat.le_of_ble_eq_true rfl) ?_
  intro p e s m args below meth c E hr hlk hnm hsz hC hF ls hl
  subst hsz
  obtain ⟨hx, hb, -⟩ := id E
  have hA : ∀ q, (inA1 a s.heap.size) q → N0 ≤ q := fun q h => h.elim (fun z => z ▸ ha9) (fun z => Nat.le_trans hC.2.1 z)
  have hn : ∀ q, s.heap.size ≤ q → (inA1 a s.heap.size) q := fun q h => Or.inr h
  have hS : va_S (inA1 a s.heap.size) s.heap s.heap [] := va_S.rf
  have hl : lv_has ls 2 [(0, .ref a), (1, .ref y)] := hl
  obtain ⟨f0, x9⟩ : c1 D a (.inr (7, [.int md, .ref (sa 1), .int 0])) s.heap ∧ xf D ce y 0 w s.heap := hF
  have g_f0 : (inA1 a s.heap.size) a := Or.inl rfl
  refine lv_aload_n (pc := 0) hx hb dJx4a65c_add_9ea2d_0 rfl (lv_at hl 0 rfl) ?_
  refine lv_dup (pc := 1) hx hb dJx4a65c_add_9ea2d_1 rfl ?_
  refine r_get (pc := 2) E hC f0 0 (v := .int md) rfl rfl (by decide) uJx4a65c (List.mem_cons_of_mem _ kw_1191) (fun x9 h9 => u_same (E.2.2.2.2 _ (List.mem_cons_of_mem _ kw_1190)) x9 h9) dJx4a65c_add_9ea2d_2 ?_
  refine lv_iconst (pc := 5) (v := 1) hx hb dJx4a65c_add_9ea2d_5 (by decide) ?_
  refine lv_iadd (pc := 6) hx hb dJx4a65c_add_9ea2d_6 ?_
  refine r_put (pc := 7) E hC f0 hS g_f0 0 tyJx4a65c tyJx4a65c_ok nmJx4a65c rfl (by decide) (Nat.le_of_ble_eq_true rfl) uJx4a65c (List.mem_cons_of_mem _ kw_1191) (fun x9 h9 => u_same (E.2.2.2.2 _ (List.mem_cons_of_mem _ kw_1190)) x9 h9) rfl rfl rfl dJx4a65c_add_9ea2d_7 (fun H locs n_ ho hz hS => ?_)
  have x9 := x9.kept (ho _ (clA.ne x9.cl f0.cl (hC.ceo hce 7 rfl (by decide))))
  have f0 : c1 D a (.inr (7, [.int (md + 1), .ref (sa 1), .int 0])) H := n_
  refine lv_aload_n (pc := 10) hx hb dJx4a65c_add_9ea2d_10 rfl (lv_at hl 0 rfl) ?_
  refine lv_aload_n (pc := 11) hx hb dJx4a65c_add_9ea2d_11 rfl (lv_at hl 1 rfl) ?_
  refine lv_aload_n (pc := 12) hx hb dJx4a65c_add_9ea2d_12 rfl (lv_at hl 0 rfl) ?_
  refine r_get (pc := 13) E hC f0 1 (v := .ref (sa 1)) rfl rfl (by decide) uJx4a65c (List.mem_cons_of_mem _ kw_1184) (fun _ h => h) dJx4a65c_add_9ea2d_13 ?_
  refine lv_aload_n (pc := 16) hx hb dJx4a65c_add_9ea2d_16 rfl (lv_at hl 0 rfl) ?_
  refine r_get (pc := 17) E hC f0 2 (v := .int 0) rfl rfl (by decide) uJx4a65c (List.mem_cons_of_mem _ kw_1187) (fun _ h => h) dJx4a65c_add_9ea2d_17 ?_
  have hZ0_ := hS.1
  have t_f0 := f0.lt
  have t_x9 := x9.lt
  refine k_v (pc := 20) (k_V E hC hS hA hl.1 (c1.recv hC f0 rfl) rfl (c_Jx4a65c_add_72be8_E l D tk N0 sa H.size a y ce (md + 1) w vs (hA _ g_f0) hce) kw_1438 kw_1440 kp_25 kw_8 kw_1441 (n := 3) (by decide +kernel) rfl ⟨⟨rfl, rfl⟩, ⟨by decide, by decide⟩, by decide, by decide⟩ rfl (Nat.le_of_ble_eq_true rfl) ⟨f0, x9⟩ dJx4a65c_add_9ea2d_20) hS (inA1.to g_f0) hn (fun H locs hR hz hk hS => ?_)
  have x9 := x9.kept (hk _ x9.lt (inA1.not (clA.ne x9.cl f0.cl (hC.ceo hce 7 rfl (by decide))) x9.lt))
  obtain ⟨q2, z9_, f0, f2, e2⟩ := hR
  have s_f2 : s.heap.size ≤ q2 := Nat.le_trans hZ0_ z9_
  have g_f2 := hn _ s_f2
  have l_f0_f2 : a < q2 := Nat.lt_of_lt_of_le t_f0 z9_
  have l_x9_f2 : y < q2 := Nat.lt_of_lt_of_le t_x9 z9_
  refine lv_iconst (pc := 23) (v := 1) hx hb dJx4a65c_add_9ea2d_23 (by decide) ?_
  refine r_zret (pc := 24) E hr hlk hS (by decide) (by decide) rfl ?_ dJx4a65c_add_9ea2d_24
  exact ⟨rfl, _, s_f2, f0, f2, e2⟩
set_option maxHeartbeats 4000000 in
set_option maxRecDepth 100000 in
/-- java/util/ArrayList.grow(I)[Ljava/lang/Object; -/
theorem c_Jx4a65c_grow_92f84_G (l : Launch) (D : va_G) (tk : Nat → ClassId) (N0 : Nat) (sa : Nat → Nat)  (sz : Nat) (a b n ce : Nat) (md ml : Int32) (f : Nat → Option Nat) (vs : Nat → Value) (ha9 : N0 ≤ a) (hce : ce = 3 ∨ ce = 2) (h2n : 2 ≤ n) (hn9 : n ≤ 40000) (hml : ml = nI (n + 1)) : Met l yJx4a65c_grow_92f84 (wsy yJx4a65c_grow_92f84 cJx4a65c_grow_92f84 4 (some (.array (.object "java/lang/Object")))) ({ frames := 3, cells := 1, slots := n + n / 2, locals := 70 } : Room) (cP D tk N0 sa [.ref a, .int ml] sz (fun H => c1 D a (.inr (7, [.int md, .ref b, .int (nI n)])) H ∧ c1 D b (.inl (tk 4, n, .inr (.inr (.inr (.inr f))))) H ∧ EL D ce n f vs H)) (kQr (fun r H => ∃ q f1, r = q ∧ sz ≤ q ∧ c1 D a (.inr (7, [.int md, .ref q, .int (nI n)])) H ∧ c1 D q (.inl (tk 4, n + n / 2, .inr (.inr (.inr (.inr f1))))) H ∧ EL D ce n f1 vs H) (inA1 a sz)) (1) (n + n / 2) (inA1 a sz) := by
  refine mStart RJx4a65c rfl (by decide +kernel) (Nat.le_of_ble_eq_true rfl) ?_
  intro p e s m args below meth c E hr hlk hnm hsz hC hF ls hl
  subst hsz
  obtain ⟨hx, hb, -⟩ := id E
  have hA : ∀ q, (inA1 a s.heap.size) q → N0 ≤ q := fun q h => h.elim (fun z => z ▸ ha9) (fun z => Nat.le_trans hC.2.1 z)
  have hn : ∀ q, s.heap.size ≤ q → (inA1 a s.heap.size) q := fun q h => Or.inr h
  have hS : va_S (inA1 a s.heap.size) s.heap s.heap [] := va_S.rf
  have hl : lv_has ls 4 [(0, .ref a), (1, .int ml)] := hl
  obtain ⟨f0, fR, el⟩ : c1 D a (.inr (7, [.int md, .ref b, .int (nI n)])) s.heap ∧ c1 D b (.inl (tk 4, n, .inr (.inr (.inr (.inr f))))) s.heap ∧ EL D ce n f vs s.heap := hF
  have g_f0 : (inA1 a s.heap.size) a := Or.inl rfl
  refine lv_aload_n (pc := 0) hx hb dJx4a65c_grow_92f84_0 rfl (lv_at hl 0 rfl) ?_
  refine r_get (pc := 1) E hC f0 1 (v := .ref b) rfl rfl (by decide) uJx4a65c (List.mem_cons_of_mem _ kw_1184) (fun _ h => h) dJx4a65c_grow_92f84_1 ?_
  obtain ⟨x_1, ex_1⟩ : ∃ z9 : Int32, z9 = nI n := ⟨_, rfl⟩
  refine r_alen (pc := 4) E hC fR 4 rfl (v := x_1) ex_1.symm dJx4a65c_grow_92f84_4 ?_
  refine lv_istore_n (pc := 5) (lv' := [(2, .int x_1), (0, .ref a), (1, .int ml)]) hx hb dJx4a65c_grow_92f84_5 rfl hl (by decide) rfl (fun ls hl => ?_)
  refine lv_iload_n (pc := 6) hx hb dJx4a65c_grow_92f84_6 rfl (lv_at hl 0 rfl) ?_
  refine lv_if_gt (pc := 7) (tgt := 20) hx hb dJx4a65c_grow_92f84_7 (by decide) (fun c_2 => ?_) (fun c_2 => ?_)
  rotate_left
  · exact absurd (by rw [ex_1]; exact nI_lt (a := 0) (by omega) (by omega)) c_2
  refine lv_iload_n (pc := 20) hx hb dJx4a65c_grow_92f84_20 rfl (lv_at hl 0 rfl) ?_
  refine lv_iload_n (pc := 21) hx hb dJx4a65c_grow_92f84_21 rfl (lv_at hl 2 rfl) ?_
  refine lv_iload_n (pc := 22) hx hb dJx4a65c_grow_92f84_22 rfl (lv_at hl 0 rfl) ?_
  refine lv_isub (pc := 23) hx hb dJx4a65c_grow_92f84_23 ?_
  refine lv_iload_n (pc := 24) hx hb dJx4a65c_grow_92f84_24 rfl (lv_at hl 0 rfl) ?_
  refine lv_iconst (pc := 25) (v := 1) hx hb dJx4a65c_grow_92f84_25 (by decide) ?_
  refine lv_ishr (pc := 26) hx hb dJx4a65c_grow_92f84_26 ?_
  have hgl : x_1 + f_max (ml - x_1) (x_1 >>> (1 &&& 31)) = nI (n + n / 2) := growlen ex_1 hml h2n hn9
  obtain ⟨hq1, hq2, hq3⟩ := nc_pos (k := n + n / 2) (by omega) (by omega)
  have hq4 : (0 : Int32) < x_1 + f_max (ml - x_1) (x_1 >>> (1 &&& 31)) := by rw [hgl]; exact hq1
  have hq5 : x_1 + f_max (ml - x_1) (x_1 >>> (1 &&& 31)) ≤ 2147483639 := by rw [hgl]; exact hq2
  refine k_i (pc := 27) (k_S E hC hS hA hl.1 (c_J8_newLength_cabcc l D tk N0 sa s.heap.size x_1 (ml - x_1) (x_1 >>> (1 &&& 31)) (by assumption) (by assumption)) kw_1450 kw_198 kw_23 kw_199 (n := 3) (by decide +kernel) rfl ⟨⟨rfl, rfl⟩, ⟨Nat.le_of_ble_eq_true rfl, Nat.le_of_ble_eq_true rfl⟩, (by dsimp only; omega), (by dsimp only; omega)⟩ rfl (Nat.le_of_ble_eq_true rfl) trivial dJx4a65c_grow_92f84_27) hS (fun q z w => absurd w (Nat.not_le.mpr z)) hn (fun r_3 H locs hR hz hk hS => ?_)
  have er_3 := hR
  have f0 := f0.kept (hk _ f0.lt (Nat.not_le.mpr f0.lt))
  have fR := fR.kept (hk _ fR.lt (Nat.not_le.mpr fR.lt))
  have el := el.new hk
  refine lv_istore_n (pc := 30) (lv' := [(3, .int r_3), (2, .int x_1), (0, .ref a), (1, .int ml)]) hx hb dJx4a65c_grow_92f84_30 rfl hl (by decide) rfl (fun ls hl => ?_)
  refine lv_aload_n (pc := 31) hx hb dJx4a65c_grow_92f84_31 rfl (lv_at hl 2 rfl) ?_
  refine lv_aload_n (pc := 32) hx hb dJx4a65c_grow_92f84_32 rfl (lv_at hl 2 rfl) ?_
  refine r_get (pc := 33) E hC f0 1 (v := .ref b) rfl rfl (by decide) uJx4a65c (List.mem_cons_of_mem _ kw_1184) (fun _ h => h) dJx4a65c_grow_92f84_33 ?_
  refine lv_iload_n (pc := 36) hx hb dJx4a65c_grow_92f84_36 rfl (lv_at hl 0 rfl) ?_
  have hZ0_ := hS.1
  have t_f0 := f0.lt
  have t_fR := fR.lt
  refine k_r (pc := 37) (k_S E hC hS hA hl.1 (c_J7_copyOf_1904c l D tk N0 sa H.size b n ((n + n / 2)) ce r_3 f vs hce (by rw [er_3, hgl]) (by omega) (by omega)) kw_1451 kw_1452 kw_24 kw_1453 (n := 2) (by decide +kernel) rfl ⟨⟨rfl, rfl⟩, ⟨Nat.le_of_ble_eq_true rfl, Nat.le_of_ble_eq_true rfl⟩, (by dsimp only; omega), (by dsimp only; omega)⟩ rfl (Nat.le_of_ble_eq_true rfl) ⟨fR, el⟩ dJx4a65c_grow_92f84_37) hS (fun q z w => absurd w (Nat.not_le.mpr z)) hn (fun r_5 H locs hR hz hk hS => ?_)
  have f0 := f0.kept (hk _ f0.lt (Nat.not_le.mpr f0.lt))
  have fR := fR.kept (hk _ fR.lt (Nat.not_le.mpr fR.lt))
  obtain ⟨f_6, z9_, f6, el⟩ := hR
  have s_f6 : s.heap.size ≤ r_5 := Nat.le_trans hZ0_ z9_
  have g_f6 := hn _ s_f6
  have l_f0_f6 : a < r_5 := Nat.lt_of_lt_of_le t_f0 z9_
  have l_fR_f6 : b < r_5 := Nat.lt_of_lt_of_le t_fR z9_
  refine lv_dup_x1 (pc := 40) hx hb dJx4a65c_grow_92f84_40 rfl rfl ?_
  refine r_put (pc := 41) E hC f0 hS g_f0 1 tyJx4a65c tyJx4a65c_ok nmJx4a65c rfl (by decide) (Nat.le_of_ble_eq_true rfl) uJx4a65c (List.mem_cons_of_mem _ kw_1184) (fun _ h => h) rfl rfl rfl dJx4a65c_grow_92f84_41 (fun H locs n_ ho hz hS => ?_)
  have fR := fR.kept (ho _ (clA.ne fR.cla f0.cl (hC.ao 7 4 rfl rfl)))
  have f6 := f6.kept (ho _ (clA.ne f6.cla f0.cl (hC.ao 7 4 rfl rfl)))
  have el := el.put ho (fun q9 h9 => clA.ne h9 f0.cl (hC.ceo hce 7 rfl (by decide)))
  have f0 : c1 D a (.inr (7, [.int md, .ref r_5, .int (nI n)])) H := n_
  refine r_aret (pc := 44) E hr (Or.inr ⟨_, rfl⟩) hlk hS (by omega) (by omega) ?_ dJx4a65c_grow_92f84_44
  exact ⟨_, _, rfl, s_f6, f0, f6, el⟩
set_option maxHeartbeats 4000000 in
set_option maxRecDepth 100000 in
/-- java/util/ArrayList.grow()[Ljava/lang/Object; -/
theorem c_Jx4a65c_grow_d5877_G (l : Launch) (D : va_G) (tk : Nat → ClassId) (N0 : Nat) (sa : Nat → Nat)  (sz : Nat) (a b n ce : Nat) (md : Int32) (f : Nat → Option Nat) (vs : Nat → Value) (ha9 : N0 ≤ a) (hce : ce = 3 ∨ ce = 2) (h2n : 2 ≤ n) (hn9 : n ≤ 40000) : Met l yJx4a65c_grow_d5877 (wsy yJx4a65c_grow_d5877 cJx4a65c_grow_d5877 1 (some (.array (.object "java/lang/Object")))) ({ frames := 4, cells := 1, slots := n + n / 2, locals := 93 } : Room) (cP D tk N0 sa [.ref a] sz (fun H => c1 D a (.inr (7, [.int md, .ref b, .int (nI n)])) H ∧ c1 D b (.inl (tk 4, n, .inr (.inr (.inr (.inr f))))) H ∧ EL D ce n f vs H)) (kQr (fun r H => ∃ q f1, r = q ∧ sz ≤ q ∧ c1 D a (.inr (7, [.int md, .ref q, .int (nI n)])) H ∧ c1 D q (.inl (tk 4, n + n / 2, .inr (.inr (.inr (.inr f1))))) H ∧ EL D ce n f1 vs H) (inA1 a sz)) (1) (n + n / 2) (inA1 a sz) := by
  refine mStart RJx4a65c rfl (by decide +kernel) (Nat.le_of_ble_eq_true rfl) ?_
  intro p e s m args below meth c E hr hlk hnm hsz hC hF ls hl
  subst hsz
  obtain ⟨hx, hb, -⟩ := id E
  have hA : ∀ q, (inA1 a s.heap.size) q → N0 ≤ q := fun q h => h.elim (fun z => z ▸ ha9) (fun z => Nat.le_trans hC.2.1 z)
  have hn : ∀ q, s.heap.size ≤ q → (inA1 a s.heap.size) q := fun q h => Or.inr h
  have hS : va_S (inA1 a s.heap.size) s.heap s.heap [] := va_S.rf
  have hl : lv_has ls 1 [(0, .ref a)] := hl
  obtain ⟨f0, fR, el⟩ : c1 D a (.inr (7, [.int md, .ref b, .int (nI n)])) s.heap ∧ c1 D b (.inl (tk 4, n, .inr (.inr (.inr (.inr f))))) s.heap ∧ EL D ce n f vs s.heap := hF
  have g_f0 : (inA1 a s.heap.size) a := Or.inl rfl
  refine lv_aload_n (pc := 0) hx hb dJx4a65c_grow_d5877_0 rfl (lv_at hl 0 rfl) ?_
  refine lv_aload_n (pc := 1) hx hb dJx4a65c_grow_d5877_1 rfl (lv_at hl 0 rfl) ?_
  refine r_get (pc := 2) E hC f0 2 (v := .int (nI n)) rfl rfl (by decide) uJx4a65c (List.mem_cons_of_mem _ kw_1187) (fun _ h => h) dJx4a65c_grow_d5877_2 ?_
  refine lv_iconst (pc := 5) (v := 1) hx hb dJx4a65c_grow_d5877_5 (by decide) ?_
  refine lv_iadd (pc := 6) hx hb dJx4a65c_grow_d5877_6 ?_
  have hZ0_ := hS.1
  have t_f0 := f0.lt
  have t_fR := fR.lt
  refine k_r (pc := 7) (k_V E hC hS hA hl.1 (c1.recv hC f0 rfl) rfl (c_Jx4a65c_grow_92f84_G l D tk N0 sa s.heap.size a b n ce md ((nI n) + 1) f vs (hA _ g_f0) hce h2n hn9 (nI_1 _)) kw_1446 kw_1448 kp_27 kw_8 kw_1449 (n := 1) (by decide +kernel) rfl ⟨⟨rfl, rfl⟩, ⟨Nat.le_of_ble_eq_true rfl, Nat.le_of_ble_eq_true rfl⟩, (by dsimp only; omega), (by dsimp only; omega)⟩ rfl (Nat.le_of_ble_eq_true rfl) ⟨f0, fR, el⟩ dJx4a65c_grow_d5877_7) hS (inA1.to g_f0) hn (fun r_1 H locs hR hz hk hS => ?_)
  have fR := fR.kept (hk _ fR.lt (inA1.not (clA.ne fR.cla f0.cl (hC.ao 7 4 rfl rfl)) fR.lt))
  obtain ⟨q2, f_2, hr9, z9_, f0, f2, el⟩ := hR
  rw [hr9]
  have s_f2 : s.heap.size ≤ q2 := Nat.le_trans hZ0_ z9_
  have g_f2 := hn _ s_f2
  have l_f0_f2 : a < q2 := Nat.lt_of_lt_of_le t_f0 z9_
  have l_fR_f2 : b < q2 := Nat.lt_of_lt_of_le t_fR z9_
  refine r_aret (pc := 10) E hr (Or.inr ⟨_, rfl⟩) hlk hS (by omega) (by omega) ?_ dJx4a65c_grow_d5877_10
  exact ⟨_, _, rfl, s_f2, f0, f2, el⟩
set_option maxHeartbeats 4000000 in
set_option maxRecDepth 100000 in
/-- java/util/ArrayList.add(Ljava/lang/Object;[Ljava/lang/Object;I)V -/
theorem c_Jx4a65c_add_72be8_G (l : Launch) (D : va_G) (tk : Nat → ClassId) (N0 : Nat) (sa : Nat → Nat)  (sz : Nat) (a b n y ce : Nat) (md : Int32) (w : Value) (f : Nat → Option Nat) (vs : Nat → Value) (ha9 : N0 ≤ a) (hce : ce = 3 ∨ ce = 2) (h2n : 2 ≤ n) (hn9 : n ≤ 40000) : Met l yJx4a65c_add_72be8 (wsy yJx4a65c_add_72be8 cJx4a65c_add_72be8 4 none) ({ frames := 5, cells := 1, slots := n + n / 2, locals := 113 } : Room) (cP D tk N0 sa [.ref a, .ref y, .ref b, .int (nI n)] sz (fun H => c1 D a (.inr (7, [.int md, .ref b, .int (nI n)])) H ∧ c1 D b (.inl (tk 4, n, .inr (.inr (.inr (.inr f))))) H ∧ EL D ce n f vs H ∧ xf D ce y 0 w H)) (kQv (fun H => ∃ q f1, sz ≤ q ∧ c1 D a (.inr (7, [.int md, .ref q, .int (nI (n + 1))])) H ∧ c1 D q (.inl (tk 4, n + n / 2, .inr (.inr (.inr (.inr f1))))) H ∧ EL D ce (n + 1) f1 (va_up vs n w) H) (inA1 a sz)) (1) (n + n / 2) (inA1 a sz) := by
  refine mStart RJx4a65c rfl (by decide +kernel) (Nat.le_of_ble_eq_true rfl) ?_
  intro p e s m args below meth c E hr hlk hnm hsz hC hF ls hl
  subst hsz
  obtain ⟨hx, hb, -⟩ := id E
  have hA : ∀ q, (inA1 a s.heap.size) q → N0 ≤ q := fun q h => h.elim (fun z => z ▸ ha9) (fun z => Nat.le_trans hC.2.1 z)
  have hn : ∀ q, s.heap.size ≤ q → (inA1 a s.heap.size) q := fun q h => Or.inr h
  have hS : va_S (inA1 a s.heap.size) s.heap s.heap [] := va_S.rf
  have hl : lv_has ls 4 [(0, .ref a), (1, .ref y), (2, .ref b), (3, .int (nI n))] := hl
  obtain ⟨f0, fR, el, x9⟩ : c1 D a (.inr (7, [.int md, .ref b, .int (nI n)])) s.heap ∧ c1 D b (.inl (tk 4, n, .inr (.inr (.inr (.inr f))))) s.heap ∧ EL D ce n f vs s.heap ∧ xf D ce y 0 w s.heap := hF
  have g_f0 : (inA1 a s.heap.size) a := Or.inl rfl
  refine lv_iload_n (pc := 0) hx hb dJx4a65c_add_72be8_0 rfl (lv_at hl 3 rfl) ?_
  refine lv_aload_n (pc := 1) hx hb dJx4a65c_add_72be8_1 rfl (lv_at hl 2 rfl) ?_
  obtain ⟨x_1, ex_1⟩ : ∃ z9 : Int32, z9 = nI n := ⟨_, rfl⟩
  refine r_alen (pc := 2) E hC fR 4 rfl (v := x_1) ex_1.symm dJx4a65c_add_72be8_2 ?_
  refine lv_icmp_ne (pc := 3) (tgt := 11) hx hb dJx4a65c_add_72be8_3 (by decide) (fun c_2 => ?_) (fun c_2 => ?_)
  · exact absurd ex_1.symm c_2
  refine lv_aload_n (pc := 6) hx hb dJx4a65c_add_72be8_6 rfl (lv_at hl 0 rfl) ?_
  have hZ0_ := hS.1
  have t_f0 := f0.lt
  have t_fR := fR.lt
  have t_x9 := x9.lt
  refine k_r (pc := 7) (k_V E hC hS hA hl.1 (c1.recv hC f0 rfl) rfl (c_Jx4a65c_grow_d5877_G l D tk N0 sa s.heap.size a b n ce md f vs (hA _ g_f0) hce h2n hn9) kw_1442 kw_1444 kp_26 kw_8 kw_1445 (n := 0) (by decide +kernel) rfl ⟨⟨rfl, rfl⟩, ⟨Nat.le_of_ble_eq_true rfl, Nat.le_of_ble_eq_true rfl⟩, (by dsimp only; omega), (by dsimp only; omega)⟩ rfl (Nat.le_of_ble_eq_true rfl) ⟨f0, fR, el⟩ dJx4a65c_add_72be8_7) hS (inA1.to g_f0) hn (fun r_3 H locs hR hz hk hS => ?_)
  have fR := fR.kept (hk _ fR.lt (inA1.not (clA.ne fR.cla f0.cl (hC.ao 7 4 rfl rfl)) fR.lt))
  have x9 := x9.kept (hk _ x9.lt (inA1.not (clA.ne x9.cl f0.cl (hC.ceo hce 7 rfl (by decide))) x9.lt))
  obtain ⟨q4, f_4, hr9, z9_, f0, f4, el⟩ := hR
  rw [hr9]
  have s_f4 : s.heap.size ≤ q4 := Nat.le_trans hZ0_ z9_
  have g_f4 := hn _ s_f4
  have l_f0_f4 : a < q4 := Nat.lt_of_lt_of_le t_f0 z9_
  have l_fR_f4 : b < q4 := Nat.lt_of_lt_of_le t_fR z9_
  have l_x9_f4 : y < q4 := Nat.lt_of_lt_of_le t_x9 z9_
  refine lv_astore_n (pc := 10) (lv' := [(2, .ref q4), (0, .ref a), (1, .ref y), (3, .int (nI n))]) hx hb dJx4a65c_add_72be8_10 rfl hl (by decide) rfl (fun ls hl => ?_)
  refine lv_aload_n (pc := 11) hx hb dJx4a65c_add_72be8_11 rfl (lv_at hl 0 rfl) ?_
  refine lv_iload_n (pc := 12) hx hb dJx4a65c_add_72be8_12 rfl (lv_at hl 3 rfl) ?_
  refine lv_aload_n (pc := 13) hx hb dJx4a65c_add_72be8_13 rfl (lv_at hl 2 rfl) ?_
  refine r_aastM (pc := 14) E hC f4 (x9.any hC hce) hS g_f4 n rfl (by omega) (by omega) dJx4a65c_add_72be8_14 (fun H locs n_ ho hz hS => ?_)
  have f0 := f0.kept (ho _ (clA.ne f0.cl f4.cla (hC.oa 7 4 rfl rfl)))
  have fR := fR.kept (ho _ (Nat.ne_of_lt l_fR_f4))
  have x9 := x9.kept (ho _ (clA.ne x9.cl f4.cla (hC.cea hce 4 rfl)))
  have el := el.put ho (fun q9 h9 => clA.ne h9 f4.cla (hC.cea hce 4 rfl))
  have f4 := n_
  refine lv_aload_n (pc := 15) hx hb dJx4a65c_add_72be8_15 rfl (lv_at hl 1 rfl) ?_
  refine lv_iload_n (pc := 16) hx hb dJx4a65c_add_72be8_16 rfl (lv_at hl 3 rfl) ?_
  refine lv_iconst (pc := 17) (v := 1) hx hb dJx4a65c_add_72be8_17 (by decide) ?_
  refine lv_iadd (pc := 18) hx hb dJx4a65c_add_72be8_18 ?_
  refine r_put (pc := 19) E hC f0 hS g_f0 2 tyJx4a65c tyJx4a65c_ok nmJx4a65c rfl (by decide) (Nat.le_of_ble_eq_true rfl) uJx4a65c (List.mem_cons_of_mem _ kw_1187) (fun _ h => h) rfl rfl rfl dJx4a65c_add_72be8_19 (fun H locs n_ ho hz hS => ?_)
  have fR := fR.kept (ho _ (clA.ne fR.cla f0.cl (hC.ao 7 4 rfl rfl)))
  have x9 := x9.kept (ho _ (clA.ne x9.cl f0.cl (hC.ceo hce 7 rfl (by decide))))
  have f4 := f4.kept (ho _ (clA.ne f4.cla f0.cl (hC.ao 7 4 rfl rfl)))
  have el := el.put ho (fun q9 h9 => clA.ne h9 f0.cl (hC.ceo hce 7 rfl (by decide)))
  have f0 : c1 D a (.inr (7, [.int md, .ref q4, .int ((nI n) + 1)])) H := n_
  refine r_vret (pc := 22) E hr hlk hS (by omega) (by omega) ?_ dJx4a65c_add_72be8_22
  exact ⟨_, _, s_f4, (by have h9 := f0; rw [nI_1] at h9; exact h9), f4, el.add x9⟩
set_option maxHeartbeats 4000000 in
set_option maxRecDepth 100000 in
/-- java/util/ArrayList.add(Ljava/lang/Object;)Z -/
theorem c_Jx4a65c_add_9ea2d_G (l : Launch) (D : va_G) (tk : Nat → ClassId) (N0 : Nat) (sa : Nat → Nat)  (sz : Nat) (a b n y ce : Nat) (md : Int32) (w : Value) (f : Nat → Option Nat) (vs : Nat → Value) (ha9 : N0 ≤ a) (hce : ce = 3 ∨ ce = 2) (h2n : 2 ≤ n) (hn9 : n ≤ 40000) : Met l yJx4a65c_add_9ea2d (wsy yJx4a65c_add_9ea2d cJx4a65c_add_9ea2d 2 (some .boolean)) ({ frames := 6, cells := 1, slots := n + n / 2, locals := 136 } : Room) (cP D tk N0 sa [.ref a, .ref y] sz (fun H => c1 D a (.inr (7, [.int md, .ref b, .int (nI n)])) H ∧ c1 D b (.inl (tk 4, n, .inr (.inr (.inr (.inr f))))) H ∧ EL D ce n f vs H ∧ xf D ce y 0 w H)) (kQi (fun r H => r = 1 ∧ ∃ q f1, sz ≤ q ∧ c1 D a (.inr (7, [.int (md + 1), .ref q, .int (nI (n + 1))])) H ∧ c1 D q (.inl (tk 4, n + n / 2, .inr (.inr (.inr (.inr f1))))) H ∧ EL D ce (n + 1) f1 (va_up vs n w) H) (inA1 a sz)) (1) (n + n / 2) (inA1 a sz) := by
  refine mStart RJx4a65c rfl (by decide +kernel) (Nat.le_of_ble_eq_true rfl) ?_
  intro p e s m args below meth c E hr hlk hnm hsz hC hF ls hl
  subst hsz
  obtain ⟨hx, hb, -⟩ := id E
  have hA : ∀ q, (inA1 a s.heap.size) q → N0 ≤ q := fun q h => h.elim (fun z => z ▸ ha9) (fun z => Nat.le_trans hC.2.1 z)
  have hn : ∀ q, s.heap.size ≤ q → (inA1 a s.heap.size) q := fun q h => Or.inr h
  have hS : va_S (inA1 a s.heap.size) s.heap s.heap [] := va_S.rf
  have hl : lv_has ls 2 [(0, .ref a), (1, .ref y)] := hl
  obtain ⟨f0, fR, el, x9⟩ : c1 D a (.inr (7, [.int md, .ref b, .int (nI n)])) s.heap ∧ c1 D b (.inl (tk 4, n, .inr (.inr (.inr (.inr f))))) s.heap ∧ EL D ce n f vs s.heap ∧ xf D ce y 0 w s.heap := hF
  have g_f0 : (inA1 a s.heap.size) a := Or.inl rfl
  refine lv_aload_n (pc := 0) hx hb dJx4a65c_add_9ea2d_0 rfl (lv_at hl 0 rfl) ?_
  refine lv_dup (pc := 1) hx hb dJx4a65c_add_9ea2d_1 rfl ?_
  refine r_get (pc := 2) E hC f0 0 (v := .int md) rfl rfl (by decide) uJx4a65c (List.mem_cons_of_mem _ kw_1191) (fun x9 h9 => u_same (E.2.2.2.2 _ (List.mem_cons_of_mem _ kw_1190)) x9 h9) dJx4a65c_add_9ea2d_2 ?_
  refine lv_iconst (pc := 5) (v := 1) hx hb dJx4a65c_add_9ea2d_5 (by decide) ?_
  refine lv_iadd (pc := 6) hx hb dJx4a65c_add_9ea2d_6 ?_
  refine r_put (pc := 7) E hC f0 hS g_f0 0 tyJx4a65c tyJx4a65c_ok nmJx4a65c rfl (by decide) (Nat.le_of_ble_eq_true rfl) uJx4a65c (List.mem_cons_of_mem _ kw_1191) (fun x9 h9 => u_same (E.2.2.2.2 _ (List.mem_cons_of_mem _ kw_1190)) x9 h9) rfl rfl rfl dJx4a65c_add_9ea2d_7 (fun H locs n_ ho hz hS => ?_)
  have fR := fR.kept (ho _ (clA.ne fR.cla f0.cl (hC.ao 7 4 rfl rfl)))
  have el := el.put ho (fun q9 h9 => clA.ne h9 f0.cl (hC.ceo hce 7 rfl (by decide)))
  have x9 := x9.kept (ho _ (clA.ne x9.cl f0.cl (hC.ceo hce 7 rfl (by decide))))
  have f0 : c1 D a (.inr (7, [.int (md + 1), .ref b, .int (nI n)])) H := n_
  refine lv_aload_n (pc := 10) hx hb dJx4a65c_add_9ea2d_10 rfl (lv_at hl 0 rfl) ?_
  refine lv_aload_n (pc := 11) hx hb dJx4a65c_add_9ea2d_11 rfl (lv_at hl 1 rfl) ?_
  refine lv_aload_n (pc := 12) hx hb dJx4a65c_add_9ea2d_12 rfl (lv_at hl 0 rfl) ?_
  refine r_get (pc := 13) E hC f0 1 (v := .ref b) rfl rfl (by decide) uJx4a65c (List.mem_cons_of_mem _ kw_1184) (fun _ h => h) dJx4a65c_add_9ea2d_13 ?_
  refine lv_aload_n (pc := 16) hx hb dJx4a65c_add_9ea2d_16 rfl (lv_at hl 0 rfl) ?_
  refine r_get (pc := 17) E hC f0 2 (v := .int (nI n)) rfl rfl (by decide) uJx4a65c (List.mem_cons_of_mem _ kw_1187) (fun _ h => h) dJx4a65c_add_9ea2d_17 ?_
  have hZ0_ := hS.1
  have t_f0 := f0.lt
  have t_fR := fR.lt
  have t_x9 := x9.lt
  refine k_v (pc := 20) (k_V E hC hS hA hl.1 (c1.recv hC f0 rfl) rfl (c_Jx4a65c_add_72be8_G l D tk N0 sa H.size a b n y ce (md + 1) w f vs (hA _ g_f0) hce h2n hn9) kw_1438 kw_1440 kp_25 kw_8 kw_1441 (n := 3) (by decide +kernel) rfl ⟨⟨rfl, rfl⟩, ⟨Nat.le_of_ble_eq_true rfl, Nat.le_of_ble_eq_true rfl⟩, (by dsimp only; omega), (by dsimp only; omega)⟩ rfl (Nat.le_of_ble_eq_true rfl) ⟨f0, fR, el, x9⟩ dJx4a65c_add_9ea2d_20) hS (inA1.to g_f0) hn (fun H locs hR hz hk hS => ?_)
  have fR := fR.kept (hk _ fR.lt (inA1.not (clA.ne fR.cla f0.cl (hC.ao 7 4 rfl rfl)) fR.lt))
  have x9 := x9.kept (hk _ x9.lt (inA1.not (clA.ne x9.cl f0.cl (hC.ceo hce 7 rfl (by decide))) x9.lt))
  obtain ⟨q2, f_2, z9_, f0, f2, el⟩ := hR
  have s_f2 : s.heap.size ≤ q2 := Nat.le_trans hZ0_ z9_
  have g_f2 := hn _ s_f2
  have l_f0_f2 : a < q2 := Nat.lt_of_lt_of_le t_f0 z9_
  have l_fR_f2 : b < q2 := Nat.lt_of_lt_of_le t_fR z9_
  have l_x9_f2 : y < q2 := Nat.lt_of_lt_of_le t_x9 z9_
  refine lv_iconst (pc := 23) (v := 1) hx hb dJx4a65c_add_9ea2d_23 (by decide) ?_
  refine r_zret (pc := 24) E hr hlk hS (by omega) (by omega) rfl ?_ dJx4a65c_add_9ea2d_24
  exact ⟨rfl, _, _, s_f2, f0, f2, el⟩
set_option maxHeartbeats 4000000 in
set_option maxRecDepth 100000 in
/-- java/util/ArrayList.add(Ljava/lang/Object;[Ljava/lang/Object;I)V -/
theorem c_Jx4a65c_add_72be8 (l : Launch) (D : va_G) (tk : Nat → ClassId) (N0 : Nat) (sa : Nat → Nat)  (sz : Nat) (a b n cap y ce : Nat) (md : Int32) (w : Value) (f : Nat → Option Nat) (vs : Nat → Value) (ha9 : N0 ≤ a) (hv9 : N0 ≤ b) (hce : ce = 3 ∨ ce = 2) (hnc : n < cap) (hcap : cap ≤ 100000) : Met l yJx4a65c_add_72be8 (wsy yJx4a65c_add_72be8 cJx4a65c_add_72be8 4 none) ({ frames := 0, cells := 0, slots := 0, locals := 0 } : Room) (cP D tk N0 sa [.ref a, .ref y, .ref b, .int (nI n)] sz (fun H => c1 D a (.inr (7, [.int md, .ref b, .int (nI n)])) H ∧ c1 D b (.inl (tk 4, cap, .inr (.inr (.inr (.inr f))))) H ∧ EL D ce n f vs H ∧ xf D ce y 0 w H)) (kQv (fun H => c1 D a (.inr (7, [.int md, .ref b, .int (nI (n + 1))])) H ∧ c1 D b (.inl (tk 4, cap, .inr (.inr (.inr (.inr (va_up f n (some y))))))) H ∧ EL D ce (n + 1) (va_up f n (some y)) (va_up vs n w) H) (inA2 a b sz)) (0) (0) (inA2 a b sz) := by
  refine mStart RJx4a65c rfl (by decide +kernel) (Nat.le_of_ble_eq_true rfl) ?_
  intro p e s m args below meth c E hr hlk hnm hsz hC hF ls hl
  subst hsz
  obtain ⟨hx, hb, -⟩ := id E
  have hA : ∀ q, (inA2 a b s.heap.size) q → N0 ≤ q := fun q h => h.elim (fun z => z ▸ ha9) (fun z => z.elim (fun w => w ▸ hv9) (fun w => Nat.le_trans hC.2.1 w))
  have hn : ∀ q, s.heap.size ≤ q → (inA2 a b s.heap.size) q := fun q h => Or.inr (Or.inr h)
  have hS : va_S (inA2 a b s.heap.size) s.heap s.heap [] := va_S.rf
  have hl : lv_has ls 4 [(0, .ref a), (1, .ref y), (2, .ref b), (3, .int (nI n))] := hl
  obtain ⟨f0, fR, el, x9⟩ : c1 D a (.inr (7, [.int md, .ref b, .int (nI n)])) s.heap ∧ c1 D b (.inl (tk 4, cap, .inr (.inr (.inr (.inr f))))) s.heap ∧ EL D ce n f vs s.heap ∧ xf D ce y 0 w s.heap := hF
  have g_f0 : (inA2 a b s.heap.size) a := Or.inl rfl
  have g_fR : (inA2 a b s.heap.size) b := Or.inr (Or.inl rfl)
  refine lv_iload_n (pc := 0) hx hb dJx4a65c_add_72be8_0 rfl (lv_at hl 3 rfl) ?_
  refine lv_aload_n (pc := 1) hx hb dJx4a65c_add_72be8_1 rfl (lv_at hl 2 rfl) ?_
  obtain ⟨x_1, ex_1⟩ : ∃ z9 : Int32, z9 = nI cap := ⟨_, rfl⟩
  refine r_alen (pc := 2) E hC fR 4 rfl (v := x_1) ex_1.symm dJx4a65c_add_72be8_2 ?_
  refine lv_icmp_ne (pc := 3) (tgt := 11) hx hb dJx4a65c_add_72be8_3 (by decide) (fun c_2 => ?_) (fun c_2 => ?_)
  rotate_left
  · exact absurd c_2 (by rw [ex_1]; exact nI_ne9 (by omega) (by omega) (by omega))
  refine lv_aload_n (pc := 11) hx hb dJx4a65c_add_72be8_11 rfl (lv_at hl 2 rfl) ?_
  refine lv_iload_n (pc := 12) hx hb dJx4a65c_add_72be8_12 rfl (lv_at hl 3 rfl) ?_
  refine lv_aload_n (pc := 13) hx hb dJx4a65c_add_72be8_13 rfl (lv_at hl 1 rfl) ?_
  refine r_aastM (pc := 14) E hC fR (x9.any hC hce) hS g_fR n rfl hnc (by omega) dJx4a65c_add_72be8_14 (fun H locs n_ ho hz hS => ?_)
  have f0 := f0.kept (ho _ (clA.ne f0.cl fR.cla (hC.oa 7 4 rfl rfl)))
  have el := el.put ho (fun q9 h9 => clA.ne h9 fR.cla (hC.cea hce 4 rfl))
  have x9 := x9.kept (ho _ (clA.ne x9.cl fR.cla (hC.cea hce 4 rfl)))
  have fR := n_
  refine lv_aload_n (pc := 15) hx hb dJx4a65c_add_72be8_15 rfl (lv_at hl 0 rfl) ?_
  refine lv_iload_n (pc := 16) hx hb dJx4a65c_add_72be8_16 rfl (lv_at hl 3 rfl) ?_
  refine lv_iconst (pc := 17) (v := 1) hx hb dJx4a65c_add_72be8_17 (by decide) ?_
  refine lv_iadd (pc := 18) hx hb dJx4a65c_add_72be8_18 ?_
  refine r_put (pc := 19) E hC f0 hS g_f0 2 tyJx4a65c tyJx4a65c_ok nmJx4a65c rfl (by decide) (Nat.le_of_ble_eq_true rfl) uJx4a65c (List.mem_cons_of_mem _ kw_1187) (fun _ h => h) rfl rfl rfl dJx4a65c_add_72be8_19 (fun H locs n_ ho hz hS => ?_)
  have fR := fR.kept (ho _ (clA.ne fR.cla f0.cl (hC.ao 7 4 rfl rfl)))
  have el := el.put ho (fun q9 h9 => clA.ne h9 f0.cl (hC.ceo hce 7 rfl (by decide)))
  have x9 := x9.kept (ho _ (clA.ne x9.cl f0.cl (hC.ceo hce 7 rfl (by decide))))
  have f0 : c1 D a (.inr (7, [.int md, .ref b, .int ((nI n) + 1)])) H := n_
  refine r_vret (pc := 22) E hr hlk hS (by decide) (by decide) ?_ dJx4a65c_add_72be8_22
  exact ⟨(by have h9 := f0; rw [nI_1] at h9; exact h9), fR, el.add x9⟩
set_option maxHeartbeats 4000000 in
set_option maxRecDepth 100000 in
/-- java/util/ArrayList.add(Ljava/lang/Object;)Z -/
theorem c_Jx4a65c_add_9ea2d (l : Launch) (D : va_G) (tk : Nat → ClassId) (N0 : Nat) (sa : Nat → Nat)  (sz : Nat) (a b n cap y ce : Nat) (md : Int32) (w : Value) (f : Nat → Option Nat) (vs : Nat → Value) (ha9 : N0 ≤ a) (hv9 : N0 ≤ b) (hce : ce = 3 ∨ ce = 2) (hnc : n < cap) (hcap : cap ≤ 100000) : Met l yJx4a65c_add_9ea2d (wsy yJx4a65c_add_9ea2d cJx4a65c_add_9ea2d 2 (some .boolean)) ({ frames := 1, cells := 0, slots := 0, locals := 23 } : Room) (cP D tk N0 sa [.ref a, .ref y] sz (fun H => c1 D a (.inr (7, [.int md, .ref b, .int (nI n)])) H ∧ c1 D b (.inl (tk 4, cap, .inr (.inr (.inr (.inr f))))) H ∧ EL D ce n f vs H ∧ xf D ce y 0 w H)) (kQi (fun r H => r = 1 ∧ c1 D a (.inr (7, [.int (md + 1), .ref b, .int (nI (n + 1))])) H ∧ c1 D b (.inl (tk 4, cap, .inr (.inr (.inr (.inr (va_up f n (some y))))))) H ∧ EL D ce (n + 1) (va_up f n (some y)) (va_up vs n w) H) (inA2 a b sz)) (0) (0) (inA2 a b sz) := by
  refine mStart RJx4a65c rfl (by decide +kernel) (Nat.le_of_ble_eq_true rfl) ?_
  intro p e s m args below meth c E hr hlk hnm hsz hC hF ls hl
  subst hsz
  obtain ⟨hx, hb, -⟩ := id E
  have hA : ∀ q, (inA2 a b s.heap.size) q → N0 ≤ q := fun q h => h.elim (fun z => z ▸ ha9) (fun z => z.elim (fun w => w ▸ hv9) (fun w => Nat.le_trans hC.2.1 w))
  have hn : ∀ q, s.heap.size ≤ q → (inA2 a b s.heap.size) q := fun q h => Or.inr (Or.inr h)
  have hS : va_S (inA2 a b s.heap.size) s.heap s.heap [] := va_S.rf
  have hl : lv_has ls 2 [(0, .ref a), (1, .ref y)] := hl
  obtain ⟨f0, fR, el, x9⟩ : c1 D a (.inr (7, [.int md, .ref b, .int (nI n)])) s.heap ∧ c1 D b (.inl (tk 4, cap, .inr (.inr (.inr (.inr f))))) s.heap ∧ EL D ce n f vs s.heap ∧ xf D ce y 0 w s.heap := hF
  have g_f0 : (inA2 a b s.heap.size) a := Or.inl rfl
  have g_fR : (inA2 a b s.heap.size) b := Or.inr (Or.inl rfl)
  refine lv_aload_n (pc := 0) hx hb dJx4a65c_add_9ea2d_0 rfl (lv_at hl 0 rfl) ?_
  refine lv_dup (pc := 1) hx hb dJx4a65c_add_9ea2d_1 rfl ?_
  refine r_get (pc := 2) E hC f0 0 (v := .int md) rfl rfl (by decide) uJx4a65c (List.mem_cons_of_mem _ kw_1191) (fun x9 h9 => u_same (E.2.2.2.2 _ (List.mem_cons_of_mem _ kw_1190)) x9 h9) dJx4a65c_add_9ea2d_2 ?_
  refine lv_iconst (pc := 5) (v := 1) hx hb dJx4a65c_add_9ea2d_5 (by decide) ?_
  refine lv_iadd (pc := 6) hx hb dJx4a65c_add_9ea2d_6 ?_
  refine r_put (pc := 7) E hC f0 hS g_f0 0 tyJx4a65c tyJx4a65c_ok nmJx4a65c rfl (by decide) (Nat.le_of_ble_eq_true rfl) uJx4a65c (List.mem_cons_of_mem _ kw_1191) (fun x9 h9 => u_same (E.2.2.2.2 _ (List.mem_cons_of_mem _ kw_1190)) x9 h9) rfl rfl rfl dJx4a65c_add_9ea2d_7 (fun H locs n_ ho hz hS => ?_)
  have fR := fR.kept (ho _ (clA.ne fR.cla f0.cl (hC.ao 7 4 rfl rfl)))
  have el := el.put ho (fun q9 h9 => clA.ne h9 f0.cl (hC.ceo hce 7 rfl (by decide)))
  have x9 := x9.kept (ho _ (clA.ne x9.cl f0.cl (hC.ceo hce 7 rfl (by decide))))
  have f0 : c1 D a (.inr (7, [.int (md + 1), .ref b, .int (nI n)])) H := n_
  refine lv_aload_n (pc := 10) hx hb dJx4a65c_add_9ea2d_10 rfl (lv_at hl 0 rfl) ?_
  refine lv_aload_n (pc := 11) hx hb dJx4a65c_add_9ea2d_11 rfl (lv_at hl 1 rfl) ?_
  refine lv_aload_n (pc := 12) hx hb dJx4a65c_add_9ea2d_12 rfl (lv_at hl 0 rfl) ?_
  refine r_get (pc := 13) E hC f0 1 (v := .ref b) rfl rfl (by decide) uJx4a65c (List.mem_cons_of_mem _ kw_1184) (fun _ h => h) dJx4a65c_add_9ea2d_13 ?_
  refine lv_aload_n (pc := 16) hx hb dJx4a65c_add_9ea2d_16 rfl (lv_at hl 0 rfl) ?_
  refine r_get (pc := 17) E hC f0 2 (v := .int (nI n)) rfl rfl (by decide) uJx4a65c (List.mem_cons_of_mem _ kw_1187) (fun _ h => h) dJx4a65c_add_9ea2d_17 ?_
  refine k_v (pc := 20) (k_V E hC hS hA hl.1 (c1.recv hC f0 rfl) rfl (c_Jx4a65c_add_72be8 l D tk N0 sa H.size a b n cap y ce (md + 1) w f vs (hA _ g_f0) (hA _ g_fR) hce hnc hcap) kw_1438 kw_1440 kp_25 kw_8 kw_1441 (n := 3) (by decide +kernel) rfl ⟨⟨rfl, rfl⟩, ⟨by decide, by decide⟩, by decide, by decide⟩ rfl (Nat.le_of_ble_eq_true rfl) ⟨f0, fR, el, x9⟩ dJx4a65c_add_9ea2d_20) hS (inA2.to g_f0 g_fR) hn (fun H locs hR hz hk hS => ?_)
  have x9 := x9.kept (hk _ x9.lt (inA2.not (clA.ne x9.cl f0.cl (hC.ceo hce 7 rfl (by decide))) (clA.ne x9.cl fR.cla (hC.cea hce 4 rfl)) x9.lt))
  obtain ⟨f0, fR, el⟩ := hR
  refine lv_iconst (pc := 23) (v := 1) hx hb dJx4a65c_add_9ea2d_23 (by decide) ?_
  refine r_zret (pc := 24) E hr hlk hS (by decide) (by decide) rfl ?_ dJx4a65c_add_9ea2d_24
  exact ⟨rfl, f0, fR, el⟩
set_option maxHeartbeats 4000000 in
set_option maxRecDepth 100000 in
/-- java/util/ArrayList.fastRemove([Ljava/lang/Object;I)V -/
theorem c_Jx4a65c_fastRemove_b59b0 (l : Launch) (D : va_G) (tk : Nat → ClassId) (N0 : Nat) (sa : Nat → Nat)  (sz : Nat) (a b i cap ce q : Nat) (md ix : Int32) (f : Nat → Option Nat) (vs : Nat → Value) (ha9 : N0 ≤ a) (hv9 : N0 ≤ b) (hce : ce = 3 ∨ ce = 2) (hix : ix = nI i) (hin : i < cap) (hcap : cap ≤ 100000) (hq : f i = some q) : Met l yJx4a65c_fastRemove_b59b0 (wsy yJx4a65c_fastRemove_b59b0 cJx4a65c_fastRemove_b59b0 4 none) ({ frames := 0, cells := 0, slots := 0, locals := 0 } : Room) (cP D tk N0 sa [.ref a, .ref b, .int ix] sz (fun H => c1 D a (.inr (7, [.int md, .ref b, .int (nI (i + 1))])) H ∧ c1 D b (.inl (tk 4, cap, .inr (.inr (.inr (.inr f))))) H ∧ EL D ce (i + 1) f vs H)) (kQv (fun H => c1 D a (.inr (7, [.int (md + 1), .ref b, .int (nI i)])) H ∧ c1 D b (.inl (tk 4, cap, .inr (.inr (.inr (.inr (va_up f i none)))))) H ∧ EL D ce i (va_up f i none) vs H) (inA2 a b sz)) (0) (0) (inA2 a b sz) := by
  refine mStart RJx4a65c rfl (by decide +kernel) (Nat.le_of_ble_eq_true rfl) ?_
  intro p e s m args below meth c E hr hlk hnm hsz hC hF ls hl
  subst hsz
  obtain ⟨hx, hb, -⟩ := id E
  have hA : ∀ q, (inA2 a b s.heap.size) q → N0 ≤ q := fun q h => h.elim (fun z => z ▸ ha9) (fun z => z.elim (fun w => w ▸ hv9) (fun w => Nat.le_trans hC.2.1 w))
  have hn : ∀ q, s.heap.size ≤ q → (inA2 a b s.heap.size) q := fun q h => Or.inr (Or.inr h)
  have hS : va_S (inA2 a b s.heap.size) s.heap s.heap [] := va_S.rf
  have hl : lv_has ls 4 [(0, .ref a), (1, .ref b), (2, .int ix)] := hl
  obtain ⟨f0, fR, el⟩ : c1 D a (.inr (7, [.int md, .ref b, .int (nI (i + 1))])) s.heap ∧ c1 D b (.inl (tk 4, cap, .inr (.inr (.inr (.inr f))))) s.heap ∧ EL D ce (i + 1) f vs s.heap := hF
  have g_f0 : (inA2 a b s.heap.size) a := Or.inl rfl
  have g_fR : (inA2 a b s.heap.size) b := Or.inr (Or.inl rfl)
  refine lv_aload_n (pc := 0) hx hb dJx4a65c_fastRemove_b59b0_0 rfl (lv_at hl 0 rfl) ?_
  refine lv_dup (pc := 1) hx hb dJx4a65c_fastRemove_b59b0_1 rfl ?_
  refine r_get (pc := 2) E hC f0 0 (v := .int md) rfl rfl (by decide) uJx4a65c (List.mem_cons_of_mem _ kw_1191) (fun x9 h9 => u_same (E.2.2.2.2 _ (List.mem_cons_of_mem _ kw_1190)) x9 h9) dJx4a65c_fastRemove_b59b0_2 ?_
  refine lv_iconst (pc := 5) (v := 1) hx hb dJx4a65c_fastRemove_b59b0_5 (by decide) ?_
  refine lv_iadd (pc := 6) hx hb dJx4a65c_fastRemove_b59b0_6 ?_
  refine r_put (pc := 7) E hC f0 hS g_f0 0 tyJx4a65c tyJx4a65c_ok nmJx4a65c rfl (by decide) (Nat.le_of_ble_eq_true rfl) uJx4a65c (List.mem_cons_of_mem _ kw_1191) (fun x9 h9 => u_same (E.2.2.2.2 _ (List.mem_cons_of_mem _ kw_1190)) x9 h9) rfl rfl rfl dJx4a65c_fastRemove_b59b0_7 (fun H locs n_ ho hz hS => ?_)
  have fR := fR.kept (ho _ (clA.ne fR.cla f0.cl (hC.ao 7 4 rfl rfl)))
  have el := el.put ho (fun q9 h9 => clA.ne h9 f0.cl (hC.ceo hce 7 rfl (by decide)))
  have f0 : c1 D a (.inr (7, [.int (md + 1), .ref b, .int (nI (i + 1))])) H := n_
  refine lv_aload_n (pc := 10) hx hb dJx4a65c_fastRemove_b59b0_10 rfl (lv_at hl 0 rfl) ?_
  refine r_get (pc := 11) E hC f0 2 (v := .int (nI (i + 1))) rfl rfl (by decide) uJx4a65c (List.mem_cons_of_mem _ kw_1187) (fun _ h => h) dJx4a65c_fastRemove_b59b0_11 ?_
  refine lv_iconst (pc := 14) (v := 1) hx hb dJx4a65c_fastRemove_b59b0_14 (by decide) ?_
  refine lv_isub (pc := 15) hx hb dJx4a65c_fastRemove_b59b0_15 ?_
  refine lv_dup (pc := 16) hx hb dJx4a65c_fastRemove_b59b0_16 rfl ?_
  obtain ⟨x_1, ex_1⟩ : ∃ z9 : Int32, z9 = (nI (i + 1)) - 1 := ⟨_, rfl⟩
  rw [← ex_1]
  refine lv_istore_n (pc := 17) (lv' := [(3, .int x_1), (0, .ref a), (1, .ref b), (2, .int ix)]) hx hb dJx4a65c_fastRemove_b59b0_17 rfl hl (by decide) rfl (fun ls hl => ?_)
  have hx9 : x_1 = nI i := by rw [ex_1]; exact nI_pred i
  refine lv_iload_n (pc := 18) hx hb dJx4a65c_fastRemove_b59b0_18 rfl (lv_at hl 3 rfl) ?_
  refine lv_icmp_le (pc := 19) (tgt := 34) hx hb dJx4a65c_fastRemove_b59b0_19 (by decide) (fun c_2 => ?_) (fun c_2 => ?_)
  rotate_left
  · exact absurd (by rw [hx9, hix]; exact Int32.le_refl _) c_2
  refine lv_aload_n (pc := 34) hx hb dJx4a65c_fastRemove_b59b0_34 rfl (lv_at hl 2 rfl) ?_
  refine lv_aload_n (pc := 35) hx hb dJx4a65c_fastRemove_b59b0_35 rfl (lv_at hl 1 rfl) ?_
  refine lv_iload_n (pc := 36) hx hb dJx4a65c_fastRemove_b59b0_36 rfl (lv_at hl 0 rfl) ?_
  refine lv_dup_x1 (pc := 37) hx hb dJx4a65c_fastRemove_b59b0_37 rfl rfl ?_
  refine r_put (pc := 38) E hC f0 hS g_f0 2 tyJx4a65c tyJx4a65c_ok nmJx4a65c rfl (by decide) (Nat.le_of_ble_eq_true rfl) uJx4a65c (List.mem_cons_of_mem _ kw_1187) (fun _ h => h) rfl rfl rfl dJx4a65c_fastRemove_b59b0_38 (fun H locs n_ ho hz hS => ?_)
  have fR := fR.kept (ho _ (clA.ne fR.cla f0.cl (hC.ao 7 4 rfl rfl)))
  have el := el.put ho (fun q9 h9 => clA.ne h9 f0.cl (hC.ceo hce 7 rfl (by decide)))
  have f0 : c1 D a (.inr (7, [.int (md + 1), .ref b, .int x_1])) H := n_
  refine lv_null (pc := 41) hx hb dJx4a65c_fastRemove_b59b0_41 ?_
  refine r_aastNul (pc := 42) E hC fR hS g_fR i hx9 hin (by omega) dJx4a65c_fastRemove_b59b0_42 (fun H locs n_ ho hz hS => ?_)
  have f0 := f0.kept (ho _ (clA.ne f0.cl fR.cla (hC.oa 7 4 rfl rfl)))
  have el := el.put ho (fun q9 h9 => clA.ne h9 fR.cla (hC.cea hce 4 rfl))
  have fR := n_
  refine r_vret (pc := 43) E hr hlk hS (by decide) (by decide) ?_ dJx4a65c_fastRemove_b59b0_43
  exact ⟨(by have h9 := f0; rw [hx9] at h9; exact h9), fR, (el.le (Nat.le_succ i)).to (fun j hj => va_up_ne _ _ (by omega)) (fun _ _ => rfl)⟩
set_option maxHeartbeats 4000000 in
set_option maxRecDepth 100000 in
/-- java/util/ArrayList.remove(I)Ljava/lang/Object; -/
theorem c_Jx4a65c_remove_915e3 (l : Launch) (D : va_G) (tk : Nat → ClassId) (N0 : Nat) (sa : Nat → Nat)  (sz : Nat) (a b i cap ce q : Nat) (md ix : Int32) (f : Nat → Option Nat) (vs : Nat → Value) (ha9 : N0 ≤ a) (hv9 : N0 ≤ b) (hce : ce = 3 ∨ ce = 2) (hix : ix = nI i) (hin : i < cap) (hcap : cap ≤ 100000) (hq : f i = some q) : Met l yJx4a65c_remove_915e3 (wsy yJx4a65c_remove_915e3 cJx4a65c_remove_915e3 4 (some (.object "java/lang/Object"))) ({ frames := 2, cells := 0, slots := 0, locals := 43 } : Room) (cP D tk N0 sa [.ref a, .int ix] sz (fun H => c1 D a (.inr (7, [.int md, .ref b, .int (nI (i + 1))])) H ∧ c1 D b (.inl (tk 4, cap, .inr (.inr (.inr (.inr f))))) H ∧ EL D ce (i + 1) f vs H)) (kQr (fun r H => r = q ∧ c1 D a (.inr (7, [.int (md + 1), .ref b, .int (nI i)])) H ∧ c1 D b (.inl (tk 4, cap, .inr (.inr (.inr (.inr (va_up f i none)))))) H ∧ EL D ce i (va_up f i none) vs H) (inA2 a b sz)) (0) (0) (inA2 a b sz) := by
  refine mStart RJx4a65c rfl (by decide +kernel) (Nat.le_of_ble_eq_true rfl) ?_
  intro p e s m args below meth c E hr hlk hnm hsz hC hF ls hl
  subst hsz
  obtain ⟨hx, hb, -⟩ := id E
  have hA : ∀ q, (inA2 a b s.heap.size) q → N0 ≤ q := fun q h => h.elim (fun z => z ▸ ha9) (fun z => z.elim (fun w => w ▸ hv9) (fun w => Nat.le_trans hC.2.1 w))
  have hn : ∀ q, s.heap.size ≤ q → (inA2 a b s.heap.size) q := fun q h => Or.inr (Or.inr h)
  have hS : va_S (inA2 a b s.heap.size) s.heap s.heap [] := va_S.rf
  have hl : lv_has ls 4 [(0, .ref a), (1, .int ix)] := hl
  obtain ⟨f0, fR, el⟩ : c1 D a (.inr (7, [.int md, .ref b, .int (nI (i + 1))])) s.heap ∧ c1 D b (.inl (tk 4, cap, .inr (.inr (.inr (.inr f))))) s.heap ∧ EL D ce (i + 1) f vs s.heap := hF
  have g_f0 : (inA2 a b s.heap.size) a := Or.inl rfl
  have g_fR : (inA2 a b s.heap.size) b := Or.inr (Or.inl rfl)
  refine lv_iload_n (pc := 0) hx hb dJx4a65c_remove_915e3_0 rfl (lv_at hl 1 rfl) ?_
  refine lv_aload_n (pc := 1) hx hb dJx4a65c_remove_915e3_1 rfl (lv_at hl 0 rfl) ?_
  refine r_get (pc := 2) E hC f0 2 (v := .int (nI (i + 1))) rfl rfl (by decide) uJx4a65c (List.mem_cons_of_mem _ kw_1187) (fun _ h => h) dJx4a65c_remove_915e3_2 ?_
  refine k_i (pc := 5) (k_S E hC hS hA hl.1 (c_J15_checkIndex_7cf53 l D tk N0 sa s.heap.size ix (nI (i + 1)) i (i + 1) hix rfl (by omega) (by omega)) kw_1554 kw_1555 kw_30 kw_1556 (n := 2) (by decide +kernel) rfl ⟨⟨rfl, rfl⟩, ⟨by decide, by decide⟩, by decide, by decide⟩ rfl (Nat.le_of_ble_eq_true rfl) trivial dJx4a65c_remove_915e3_5) hS (fun q z w => absurd w (Nat.not_le.mpr z)) hn (fun r_1 H locs hR hz hk hS => ?_)
  have f0 := f0.kept (hk _ f0.lt (Nat.not_le.mpr f0.lt))
  have fR := fR.kept (hk _ fR.lt (Nat.not_le.mpr fR.lt))
  have el := el.new hk
  rw [show r_1 = ix from hR]
  refine lv_pop (pc := 8) hx hb dJx4a65c_remove_915e3_8 rfl ?_
  refine lv_aload_n (pc := 9) hx hb dJx4a65c_remove_915e3_9 rfl (lv_at hl 0 rfl) ?_
  refine r_get (pc := 10) E hC f0 1 (v := .ref b) rfl rfl (by decide) uJx4a65c (List.mem_cons_of_mem _ kw_1184) (fun _ h => h) dJx4a65c_remove_915e3_10 ?_
  refine lv_astore_n (pc := 13) (lv' := [(2, .ref b), (0, .ref a), (1, .int ix)]) hx hb dJx4a65c_remove_915e3_13 rfl hl (by decide) rfl (fun ls hl => ?_)
  refine lv_aload_n (pc := 14) hx hb dJx4a65c_remove_915e3_14 rfl (lv_at hl 0 rfl) ?_
  refine lv_iload_n (pc := 15) hx hb dJx4a65c_remove_915e3_15 rfl (lv_at hl 2 rfl) ?_
  refine r_aaldM (pc := 16) E hC (t0 := 4) rfl fR i hix hin (by omega) hq dJx4a65c_remove_915e3_16 ?_
  refine lv_astore_n (pc := 17) (lv' := [(3, .ref q), (2, .ref b), (0, .ref a), (1, .int ix)]) hx hb dJx4a65c_remove_915e3_17 rfl hl (by decide) rfl (fun ls hl => ?_)
  refine lv_aload_n (pc := 18) hx hb dJx4a65c_remove_915e3_18 rfl (lv_at hl 2 rfl) ?_
  refine lv_aload_n (pc := 19) hx hb dJx4a65c_remove_915e3_19 rfl (lv_at hl 1 rfl) ?_
  refine lv_iload_n (pc := 20) hx hb dJx4a65c_remove_915e3_20 rfl (lv_at hl 3 rfl) ?_
  refine k_v (pc := 21) (k_V E hC hS hA hl.1 (c1.recv hC f0 rfl) rfl (c_Jx4a65c_fastRemove_b59b0 l D tk N0 sa H.size a b i cap ce q md ix f vs (hA _ g_f0) (hA _ g_fR) hce hix hin hcap hq) kw_1601 kw_1603 kp_28 kw_8 kw_1604 (n := 2) (by decide +kernel) rfl ⟨⟨rfl, rfl⟩, ⟨by decide, by decide⟩, by decide, by decide⟩ rfl (Nat.le_of_ble_eq_true rfl) ⟨f0, fR, el⟩ dJx4a65c_remove_915e3_21) hS (inA2.to g_f0 g_fR) hn (fun H locs hR hz hk hS => ?_)
  obtain ⟨f0, fR, el⟩ := hR
  refine lv_aload_n (pc := 24) hx hb dJx4a65c_remove_915e3_24 rfl (lv_at hl 0 rfl) ?_
  refine r_aret (pc := 25) E hr (Or.inl ⟨_, rfl⟩) hlk hS (by decide) (by decide) ?_ dJx4a65c_remove_915e3_25
  exact ⟨rfl, f0, fR, el⟩
set_option maxHeartbeats 4000000 in
set_option maxRecDepth 100000 in
/-- java/util/ArrayList$Itr.<init>(Ljava/util/ArrayList;)V -/
theorem c_Jx35411_init_45d68 (l : Launch) (D : va_G) (tk : Nat → ClassId) (N0 : Nat) (sa : Nat → Nat)  (sz : Nat) (u a b n : Nat) (md : Int32) (ha9 : N0 ≤ u) : Met l yJx35411_init_45d68 (wsy yJx35411_init_45d68 cJx35411_init_45d68 2 none) ({ frames := 1, cells := 0, slots := 0, locals := 20 } : Room) (cP D tk N0 sa [.ref u, .ref a] sz (fun H => c1 D u (.inr (6, [.int 0, .int 0, .int 0, .null])) H ∧ c1 D a (.inr (7, [.int md, .ref b, .int (nI n)])) H)) (kQv (fun H => c1 D u (.inr (6, [.int 0, .int (-1), .int md, .ref a])) H) (inA1 u sz)) (0) (0) (inA1 u sz) := by
  refine mStart RJx35411 rfl (by decide +kernel) (Nat.le_of_ble_eq_true rfl) ?_
  intro p e s m args below meth c E hr hlk hnm hsz hC hF ls hl
  subst hsz
  obtain ⟨hx, hb, -⟩ := id E
  have hA : ∀ q, (inA1 u s.heap.size) q → N0 ≤ q := fun q h => h.elim (fun z => z ▸ ha9) (fun z => Nat.le_trans hC.2.1 z)
  have hn : ∀ q, s.heap.size ≤ q → (inA1 u s.heap.size) q := fun q h => Or.inr h
  have hS : va_S (inA1 u s.heap.size) s.heap s.heap [] := va_S.rf
  have hl : lv_has ls 2 [(0, .ref u), (1, .ref a)] := hl
  obtain ⟨fU, f0⟩ : c1 D u (.inr (6, [.int 0, .int 0, .int 0, .null])) s.heap ∧ c1 D a (.inr (7, [.int md, .ref b, .int (nI n)])) s.heap := hF
  have g_fU : (inA1 u s.heap.size) u := Or.inl rfl
  refine lv_aload_n (pc := 0) hx hb dJx35411_init_45d68_0 rfl (lv_at hl 0 rfl) ?_
  refine lv_aload_n (pc := 1) hx hb dJx35411_init_45d68_1 rfl (lv_at hl 1 rfl) ?_
  refine r_putF (pc := 2) E hC (hnm.trans rfl) fU hS g_fU 3 tyJx35411 tyJx35411_ok nmJx35411 rfl (by decide) (Nat.le_of_ble_eq_true rfl) uJx35411 (List.mem_cons_of_mem _ kw_1499) (fun _ h => h) rfl rfl rfl rfl dJx35411_init_45d68_2 (fun H locs n_ ho hz hS => ?_)
  have f0 := f0.kept (ho _ (clA.ne f0.cl fU.cl (hC.oo 7 6 rfl rfl (by decide))))
  have fU : c1 D u (.inr (6, [.int 0, .int 0, .int 0, .ref a])) H := n_
  refine lv_aload_n (pc := 5) hx hb dJx35411_init_45d68_5 rfl (lv_at hl 0 rfl) ?_
  refine r_oinit (pc := 6) E hl.1 kw_1495 (Nat.le_of_ble_eq_true rfl) (by decide) (by decide) dJx35411_init_45d68_6 ?_
  refine lv_aload_n (pc := 9) hx hb dJx35411_init_45d68_9 rfl (lv_at hl 0 rfl) ?_
  refine lv_iconst (pc := 10) (v := (-1)) hx hb dJx35411_init_45d68_10 (by decide) ?_
  refine r_put (pc := 11) E hC fU hS g_fU 1 tyJx35411 tyJx35411_ok nmJx35411 rfl (by decide) (Nat.le_of_ble_eq_true rfl) uJx35411 (List.mem_cons_of_mem _ kw_1497) (fun _ h => h) rfl rfl rfl dJx35411_init_45d68_11 (fun H locs n_ ho hz hS => ?_)
  have f0 := f0.kept (ho _ (clA.ne f0.cl fU.cl (hC.oo 7 6 rfl rfl (by decide))))
  have fU : c1 D u (.inr (6, [.int 0, .int ((-1)), .int 0, .ref a])) H := n_
  refine lv_aload_n (pc := 14) hx hb dJx35411_init_45d68_14 rfl (lv_at hl 0 rfl) ?_
  refine lv_aload_n (pc := 15) hx hb dJx35411_init_45d68_15 rfl (lv_at hl 0 rfl) ?_
  refine r_get (pc := 16) E hC fU 3 (v := .ref a) rfl rfl (by decide) uJx35411 (List.mem_cons_of_mem _ kw_1499) (fun _ h => h) dJx35411_init_45d68_16 ?_
  refine r_get (pc := 19) E hC f0 0 (v := .int md) rfl rfl (by decide) uJx4a65c (List.mem_cons_of_mem _ kw_1189) (fun x9 h9 => u_same (E.2.2.2.2 _ (List.mem_cons_of_mem _ kw_1190)) x9 h9) dJx35411_init_45d68_19 ?_
  refine r_put (pc := 22) E hC fU hS g_fU 2 tyJx35411 tyJx35411_ok nmJx35411 rfl (by decide) (Nat.le_of_ble_eq_true rfl) uJx35411 (List.mem_cons_of_mem _ kw_1498) (fun _ h => h) rfl rfl rfl dJx35411_init_45d68_22 (fun H locs n_ ho hz hS => ?_)
  have f0 := f0.kept (ho _ (clA.ne f0.cl fU.cl (hC.oo 7 6 rfl rfl (by decide))))
  have fU : c1 D u (.inr (6, [.int 0, .int ((-1)), .int md, .ref a])) H := n_
  refine r_vret (pc := 25) E hr hlk hS (by decide) (by decide) ?_ dJx35411_init_45d68_25
  exact fU
set_option maxHeartbeats 4000000 in
set_option maxRecDepth 100000 in
/-- java/util/ArrayList.iterator()Ljava/util/Iterator; -/
theorem c_Jx4a65c_iterator_32c93 (l : Launch) (D : va_G) (tk : Nat → ClassId) (N0 : Nat) (sa : Nat → Nat)  (sz : Nat) (a b n : Nat) (md : Int32) : Met l yJx4a65c_iterator_32c93 (wsy yJx4a65c_iterator_32c93 cJx4a65c_iterator_32c93 1 (some (.object "java/util/Iterator"))) ({ frames := 2, cells := 1, slots := 4, locals := 41 } : Room) (cP D tk N0 sa [.ref a] sz (fun H => c1 D a (.inr (7, [.int md, .ref b, .int (nI n)])) H)) (kQr (fun r H => sz ≤ r ∧ c1 D r (.inr (6, [.int 0, .int (-1), .int md, .ref a])) H) (nwA sz)) (1) (4) (nwA sz) := by
  refine mStart RJx4a65c rfl (by decide +kernel) (Nat.le_of_ble_eq_true rfl) ?_
  intro p e s m args below meth c E hr hlk hnm hsz hC hF ls hl
  subst hsz
  obtain ⟨hx, hb, -⟩ := id E
  have hA : ∀ q, (nwA s.heap.size) q → N0 ≤ q := fun q h => Nat.le_trans hC.2.1 h
  have hn : ∀ q, s.heap.size ≤ q → (nwA s.heap.size) q := fun q h => h
  have hS : va_S (nwA s.heap.size) s.heap s.heap [] := va_S.rf
  have hl : lv_has ls 1 [(0, .ref a)] := hl
  have f0 : c1 D a (.inr (7, [.int md, .ref b, .int (nI n)])) s.heap := hF
  have hS0_ := hS
  refine r_new (pc := 0) E hC hS tyJx35411_ok uJx35411 (List.mem_cons_of_mem _ kw_1490) (List.mem_cons_of_mem _ kw_1491) (List.mem_cons_of_mem _ kw_29) (ci := 6) rfl (fs := [.int 0, .int 0, .int 0, .null]) (by decide) (by decide) (by decide) dJx4a65c_iterator_32c93_0 (fun qf1 H zq_ n_ ho_ hS => ?_)
  have l_f0_f1 : a < qf1 := zq_ ▸ f0.lt
  have f0 := f0.kept (ho_ _ f0.lt)
  have f1 := n_
  have s_f1 : s.heap.size ≤ qf1 := zq_ ▸ hS0_.1
  have g_f1 := hn _ s_f1
  refine lv_dup (pc := 3) hx hb dJx4a65c_iterator_32c93_3 rfl ?_
  refine lv_aload_n (pc := 4) hx hb dJx4a65c_iterator_32c93_4 rfl (lv_at hl 0 rfl) ?_
  refine k_v (pc := 5) (k_I E hC hS hA hl.1 (c_Jx35411_init_45d68 l D tk N0 sa H.size qf1 a b n md (hA _ g_f1)) kw_1492 kw_1493 kw_29 kw_1494 rfl (n := 1) (by decide +kernel) rfl ⟨⟨rfl, rfl⟩, ⟨by decide, by decide⟩, by decide, by decide⟩ rfl (Nat.le_of_ble_eq_true rfl) ⟨f1, f0⟩ dJx4a65c_iterator_32c93_5) hS (inA1.to g_f1) hn (fun H locs hR hz hk hS => ?_)
  have f0 := f0.kept (hk _ f0.lt (inA1.not (clA.ne f0.cl f1.cl (hC.oo 7 6 rfl rfl (by decide))) f0.lt))
  have f1 := hR
  refine r_aret (pc := 8) E hr (Or.inl ⟨_, rfl⟩) hlk hS (by decide) (by decide) ?_ dJx4a65c_iterator_32c93_8
  exact ⟨s_f1, f1⟩
set_option maxHeartbeats 4000000 in
set_option maxRecDepth 100000 in
/-- java/util/ArrayList$Itr.checkForComodification()V -/
theorem c_Jx35411_checkForComodification_da8c8 (l : Launch) (D : va_G) (tk : Nat → ClassId) (N0 : Nat) (sa : Nat → Nat)  (sz : Nat) (u a b n i : Nat) (md lr : Int32) : Met l yJx35411_checkForComodification_da8c8 (wsy yJx35411_checkForComodification_da8c8 cJx35411_checkForComodification_da8c8 1 none) ({ frames := 0, cells := 0, slots := 0, locals := 0 } : Room) (cP D tk N0 sa [.ref u] sz (fun H => c1 D u (.inr (6, [.int (nI i), .int lr, .int md, .ref a])) H ∧ c1 D a (.inr (7, [.int md, .ref b, .int (nI n)])) H)) (kQv (fun H => True) (nwA sz)) (0) (0) (nwA sz) := by
  refine mStart RJx35411 rfl (by decide +kernel) (Nat.le_of_ble_eq_true rfl) ?_
  intro p e s m args below meth c E hr hlk hnm hsz hC hF ls hl
  subst hsz
  obtain ⟨hx, hb, -⟩ := id E
  have hA : ∀ q, (nwA s.heap.size) q → N0 ≤ q := fun q h => Nat.le_trans hC.2.1 h
  have hn : ∀ q, s.heap.size ≤ q → (nwA s.heap.size) q := fun q h => h
  have hS : va_S (nwA s.heap.size) s.heap s.heap [] := va_S.rf
  have hl : lv_has ls 1 [(0, .ref u)] := hl
  obtain ⟨fU, f0⟩ : c1 D u (.inr (6, [.int (nI i), .int lr, .int md, .ref a])) s.heap ∧ c1 D a (.inr (7, [.int md, .ref b, .int (nI n)])) s.heap := hF
  refine lv_aload_n (pc := 0) hx hb dJx35411_checkForComodification_da8c8_0 rfl (lv_at hl 0 rfl) ?_
  refine r_get (pc := 1) E hC fU 3 (v := .ref a) rfl rfl (by decide) uJx35411 (List.mem_cons_of_mem _ kw_1499) (fun _ h => h) dJx35411_checkForComodification_da8c8_1 ?_
  refine r_get (pc := 4) E hC f0 0 (v := .int md) rfl rfl (by decide) uJx4a65c (List.mem_cons_of_mem _ kw_1189) (fun x9 h9 => u_same (E.2.2.2.2 _ (List.mem_cons_of_mem _ kw_1190)) x9 h9) dJx35411_checkForComodification_da8c8_4 ?_
  refine lv_aload_n (pc := 7) hx hb dJx35411_checkForComodification_da8c8_7 rfl (lv_at hl 0 rfl) ?_
  refine r_get (pc := 8) E hC fU 2 (v := .int md) rfl rfl (by decide) uJx35411 (List.mem_cons_of_mem _ kw_1498) (fun _ h => h) dJx35411_checkForComodification_da8c8_8 ?_
  refine lv_icmp_eq (pc := 11) (tgt := 22) hx hb dJx35411_checkForComodification_da8c8_11 (by decide) (fun c_1 => ?_) (fun c_1 => ?_)
  rotate_left
  · exact absurd rfl c_1
  refine r_vret (pc := 22) E hr hlk hS (by decide) (by decide) ?_ dJx35411_checkForComodification_da8c8_22
  exact trivial
set_option maxHeartbeats 4000000 in
set_option maxRecDepth 100000 in
/-- java/util/ArrayList$Itr.hasNext()Z -/
theorem c_Jx35411_hasNext_aae02 (l : Launch) (D : va_G) (tk : Nat → ClassId) (N0 : Nat) (sa : Nat → Nat)  (sz : Nat) (u a b n i : Nat) (md lr : Int32) (hi9 : i ≤ 100000) (hn9 : n ≤ 100000) : Met l yJx35411_hasNext_aae02 (wsy yJx35411_hasNext_aae02 cJx35411_hasNext_aae02 1 (some .boolean)) ({ frames := 0, cells := 0, slots := 0, locals := 0 } : Room) (cP D tk N0 sa [.ref u] sz (fun H => c1 D u (.inr (6, [.int (nI i), .int lr, .int md, .ref a])) H ∧ c1 D a (.inr (7, [.int md, .ref b, .int (nI n)])) H)) (kQi (fun r H => (r = 0 ∧ i = n) ∨ (r = 1 ∧ i ≠ n)) (nwA sz)) (0) (0) (nwA sz) := by
  refine mStart RJx35411 rfl (by decide +kernel) (Nat.le_of_ble_eq_true rfl) ?_
  intro p e s m args below meth c E hr hlk hnm hsz hC hF ls hl
  subst hsz
  obtain ⟨hx, hb, -⟩ := id E
  have hA : ∀ q, (nwA s.heap.size) q → N0 ≤ q := fun q h => Nat.le_trans hC.2.1 h
  have hn : ∀ q, s.heap.size ≤ q → (nwA s.heap.size) q := fun q h => h
  have hS : va_S (nwA s.heap.size) s.heap s.heap [] := va_S.rf
  have hl : lv_has ls 1 [(0, .ref u)] := hl
  obtain ⟨fU, f0⟩ : c1 D u (.inr (6, [.int (nI i), .int lr, .int md, .ref a])) s.heap ∧ c1 D a (.inr (7, [.int md, .ref b, .int (nI n)])) s.heap := hF
  refine lv_aload_n (pc := 0) hx hb dJx35411_hasNext_aae02_0 rfl (lv_at hl 0 rfl) ?_
  refine r_get (pc := 1) E hC fU 0 (v := .int (nI i)) rfl rfl (by decide) uJx35411 (List.mem_cons_of_mem _ kw_1496) (fun _ h => h) dJx35411_hasNext_aae02_1 ?_
  refine lv_aload_n (pc := 4) hx hb dJx35411_hasNext_aae02_4 rfl (lv_at hl 0 rfl) ?_
  refine r_get (pc := 5) E hC fU 3 (v := .ref a) rfl rfl (by decide) uJx35411 (List.mem_cons_of_mem _ kw_1499) (fun _ h => h) dJx35411_hasNext_aae02_5 ?_
  refine r_getN (pc := 8) "java/util/ArrayList" E hC f0 2 (v := .int (nI n)) rfl rfl (by decide) uJx4a65c kn_1186 (fun _ h => h) dJx35411_hasNext_aae02_8 ?_
  refine lv_icmp_eq (pc := 11) (tgt := 18) hx hb dJx35411_hasNext_aae02_11 (by decide) (fun c_1 => ?_) (fun c_1 => ?_)
  · refine lv_iconst (pc := 18) (v := 0) hx hb dJx35411_hasNext_aae02_18 (by decide) ?_
    refine r_zret (pc := 19) E hr hlk hS (by decide) (by decide) rfl ?_ dJx35411_hasNext_aae02_19
    exact Or.inl ⟨rfl, (nI_eq (by omega) (by omega)).mp c_1⟩
  · refine lv_iconst (pc := 14) (v := 1) hx hb dJx35411_hasNext_aae02_14 (by decide) ?_
    refine lv_goto (pc := 15) (tgt := 19) hx hb dJx35411_hasNext_aae02_15 (by decide) ?_
    refine r_zret (pc := 19) E hr hlk hS (by decide) (by decide) rfl ?_ dJx35411_hasNext_aae02_19
    exact Or.inr ⟨rfl, fun z9 => c_1 (by rw [z9])⟩
set_option maxHeartbeats 4000000 in
set_option maxRecDepth 100000 in
/-- java/util/ArrayList$Itr.next()Ljava/lang/Object; -/
theorem c_Jx35411_next_0502b (l : Launch) (D : va_G) (tk : Nat → ClassId) (N0 : Nat) (sa : Nat → Nat)  (sz : Nat) (u a b n i cap q : Nat) (md lr : Int32) (f : Nat → Option Nat) (ha9 : N0 ≤ u) (hin : i < n) (hnc : n ≤ cap) (hcap : cap ≤ 100000) (hq : f i = some q) : Met l yJx35411_next_0502b (wsy yJx35411_next_0502b cJx35411_next_0502b 3 (some (.object "java/lang/Object"))) ({ frames := 1, cells := 0, slots := 0, locals := 20 } : Room) (cP D tk N0 sa [.ref u] sz (fun H => c1 D u (.inr (6, [.int (nI i), .int lr, .int md, .ref a])) H ∧ c1 D a (.inr (7, [.int md, .ref b, .int (nI n)])) H ∧ c1 D b (.inl (tk 4, cap, .inr (.inr (.inr (.inr f))))) H)) (kQr (fun r H => r = q ∧ c1 D u (.inr (6, [.int (nI (i + 1)), .int (nI i), .int md, .ref a])) H) (inA1 u sz)) (0) (0) (inA1 u sz) := by
  refine mStart RJx35411 rfl (by decide +kernel) (Nat.le_of_ble_eq_true rfl) ?_
  intro p e s m args below meth c E hr hlk hnm hsz hC hF ls hl
  subst hsz
  obtain ⟨hx, hb, -⟩ := id E
  have hA : ∀ q, (inA1 u s.heap.size) q → N0 ≤ q := fun q h => h.elim (fun z => z ▸ ha9) (fun z => Nat.le_trans hC.2.1 z)
  have hn : ∀ q, s.heap.size ≤ q → (inA1 u s.heap.size) q := fun q h => Or.inr h
  have hS : va_S (inA1 u s.heap.size) s.heap s.heap [] := va_S.rf
  have hl : lv_has ls 3 [(0, .ref u)] := hl
  obtain ⟨fU, f0, fR⟩ : c1 D u (.inr (6, [.int (nI i), .int lr, .int md, .ref a])) s.heap ∧ c1 D a (.inr (7, [.int md, .ref b, .int (nI n)])) s.heap ∧ c1 D b (.inl (tk 4, cap, .inr (.inr (.inr (.inr f))))) s.heap := hF
  have g_fU : (inA1 u s.heap.size) u := Or.inl rfl
  refine lv_aload_n (pc := 0) hx hb dJx35411_next_0502b_0 rfl (lv_at hl 0 rfl) ?_
  refine k_v (pc := 1) (k_V E hC hS hA hl.1 (c1.recv hC fU rfl) rfl (c_Jx35411_checkForComodification_da8c8 l D tk N0 sa s.heap.size u a b n i md lr) kw_1528 kw_1529 kw_1530 kw_29 kw_1531 (n := 0) (by decide +kernel) rfl ⟨⟨rfl, rfl⟩, ⟨by decide, by decide⟩, by decide, by decide⟩ rfl (Nat.le_of_ble_eq_true rfl) ⟨fU, f0⟩ dJx35411_next_0502b_1) hS (fun q z w => absurd w (Nat.not_le.mpr z)) hn (fun H locs hR hz hk hS => ?_)
  have f0 := f0.kept (hk _ f0.lt (Nat.not_le.mpr f0.lt))
  have fU := fU.kept (hk _ fU.lt (Nat.not_le.mpr fU.lt))
  have fR := fR.kept (hk _ fR.lt (Nat.not_le.mpr fR.lt))
  refine lv_aload_n (pc := 4) hx hb dJx35411_next_0502b_4 rfl (lv_at hl 0 rfl) ?_
  refine r_get (pc := 5) E hC fU 0 (v := .int (nI i)) rfl rfl (by decide) uJx35411 (List.mem_cons_of_mem _ kw_1496) (fun _ h => h) dJx35411_next_0502b_5 ?_
  obtain ⟨x_2, ex_2⟩ : ∃ z9 : Int32, z9 = nI i := ⟨_, rfl⟩
  rw [← ex_2]
  refine lv_istore_n (pc := 8) (lv' := [(1, .int x_2), (0, .ref u)]) hx hb dJx35411_next_0502b_8 rfl hl (by decide) rfl (fun ls hl => ?_)
  refine lv_iload_n (pc := 9) hx hb dJx35411_next_0502b_9 rfl (lv_at hl 0 rfl) ?_
  refine lv_aload_n (pc := 10) hx hb dJx35411_next_0502b_10 rfl (lv_at hl 1 rfl) ?_
  refine r_get (pc := 11) E hC fU 3 (v := .ref a) rfl rfl (by decide) uJx35411 (List.mem_cons_of_mem _ kw_1499) (fun _ h => h) dJx35411_next_0502b_11 ?_
  refine r_getN (pc := 14) "java/util/ArrayList" E hC f0 2 (v := .int (nI n)) rfl rfl (by decide) uJx4a65c kn_1186 (fun _ h => h) dJx35411_next_0502b_14 ?_
  refine lv_icmp_lt (pc := 17) (tgt := 28) hx hb dJx35411_next_0502b_17 (by decide) (fun c_3 => ?_) (fun c_3 => ?_)
  rotate_left
  · exact absurd (by rw [ex_2]; exact nI_lt hin (by omega)) c_3
  refine lv_aload_n (pc := 28) hx hb dJx35411_next_0502b_28 rfl (lv_at hl 1 rfl) ?_
  refine r_get (pc := 29) E hC fU 3 (v := .ref a) rfl rfl (by decide) uJx35411 (List.mem_cons_of_mem _ kw_1499) (fun _ h => h) dJx35411_next_0502b_29 ?_
  refine r_get (pc := 32) E hC f0 1 (v := .ref b) rfl rfl (by decide) uJx4a65c (List.mem_cons_of_mem _ kw_1185) (fun _ h => h) dJx35411_next_0502b_32 ?_
  refine lv_astore_n (pc := 35) (lv' := [(2, .ref b), (1, .int x_2), (0, .ref u)]) hx hb dJx35411_next_0502b_35 rfl hl (by decide) rfl (fun ls hl => ?_)
  refine lv_iload_n (pc := 36) hx hb dJx35411_next_0502b_36 rfl (lv_at hl 1 rfl) ?_
  refine lv_aload_n (pc := 37) hx hb dJx35411_next_0502b_37 rfl (lv_at hl 0 rfl) ?_
  obtain ⟨x_4, ex_4⟩ : ∃ z9 : Int32, z9 = nI cap := ⟨_, rfl⟩
  refine r_alen (pc := 38) E hC fR 4 rfl (v := x_4) ex_4.symm dJx35411_next_0502b_38 ?_
  refine lv_icmp_lt (pc := 39) (tgt := 50) hx hb dJx35411_next_0502b_39 (by decide) (fun c_5 => ?_) (fun c_5 => ?_)
  rotate_left
  · exact absurd (by rw [ex_2, ex_4]; exact nI_lt (by omega) (by omega)) c_5
  refine lv_aload_n (pc := 50) hx hb dJx35411_next_0502b_50 rfl (lv_at hl 2 rfl) ?_
  refine lv_iload_n (pc := 51) hx hb dJx35411_next_0502b_51 rfl (lv_at hl 1 rfl) ?_
  refine lv_iconst (pc := 52) (v := 1) hx hb dJx35411_next_0502b_52 (by decide) ?_
  refine lv_iadd (pc := 53) hx hb dJx35411_next_0502b_53 ?_
  refine r_put (pc := 54) E hC fU hS g_fU 0 tyJx35411 tyJx35411_ok nmJx35411 rfl (by decide) (Nat.le_of_ble_eq_true rfl) uJx35411 (List.mem_cons_of_mem _ kw_1496) (fun _ h => h) rfl rfl rfl dJx35411_next_0502b_54 (fun H locs n_ ho hz hS => ?_)
  have f0 := f0.kept (ho _ (clA.ne f0.cl fU.cl (hC.oo 7 6 rfl rfl (by decide))))
  have fR := fR.kept (ho _ (clA.ne fR.cla fU.cl (hC.ao 6 4 rfl rfl)))
  have fU : c1 D u (.inr (6, [.int (x_2 + 1), .int lr, .int md, .ref a])) H := n_
  refine lv_aload_n (pc := 57) hx hb dJx35411_next_0502b_57 rfl (lv_at hl 0 rfl) ?_
  refine lv_aload_n (pc := 58) hx hb dJx35411_next_0502b_58 rfl (lv_at hl 2 rfl) ?_
  refine lv_iload_n (pc := 59) hx hb dJx35411_next_0502b_59 rfl (lv_at hl 1 rfl) ?_
  refine lv_dup_x1 (pc := 60) hx hb dJx35411_next_0502b_60 rfl rfl ?_
  refine r_put (pc := 61) E hC fU hS g_fU 1 tyJx35411 tyJx35411_ok nmJx35411 rfl (by decide) (Nat.le_of_ble_eq_true rfl) uJx35411 (List.mem_cons_of_mem _ kw_1497) (fun _ h => h) rfl rfl rfl dJx35411_next_0502b_61 (fun H locs n_ ho hz hS => ?_)
  have f0 := f0.kept (ho _ (clA.ne f0.cl fU.cl (hC.oo 7 6 rfl rfl (by decide))))
  have fR := fR.kept (ho _ (clA.ne fR.cla fU.cl (hC.ao 6 4 rfl rfl)))
  have fU : c1 D u (.inr (6, [.int (x_2 + 1), .int x_2, .int md, .ref a])) H := n_
  refine r_aaldM (pc := 64) E hC (t0 := 4) rfl fR i ex_2 (by omega) (by omega) hq dJx35411_next_0502b_64 ?_
  refine r_aret (pc := 65) E hr (Or.inl ⟨_, rfl⟩) hlk hS (by decide) (by decide) ?_ dJx35411_next_0502b_65
  exact ⟨rfl, (by have h9 := fU; rw [ex_2, nI_1] at h9; rw [ex_2]; exact h9)⟩
/-! ===== the class's texts: how long they are, and what the builder's room is then: (letters, capacity) ===== -/
def inC2 (ad : Nat → Nat) (a v sz : Nat) : Nat → Prop := fun q => cwA ad sz q ∨ q = a ∨ q = v
theorem inC2.to {A0 : Nat → Prop} {ad : Nat → Nat} {a v sz : Nat} (hc9 : ∀ q, cwA ad sz q → A0 q) (h : A0 a) (h2 : A0 v) : ∀ q, q < sz → inC2 ad a v sz q → A0 q :=
  fun q _ z => z.elim (hc9 q) (fun w => w.elim (fun e => e ▸ h) (fun e => e ▸ h2))
theorem cwN {ad : Nat → Nat} {sz q : Nat} (hw : ∀ k, k < 22 → ad k ≠ q) (hq : q < sz) : ¬ cwA ad sz q := by
  rintro (⟨k, hk, e⟩ | w)
  · exact hw k hk e.symm
  · omega
theorem cw_cl {D : va_G} {tk : Nat → ClassId} {ad : Nat → Nat} {g : CS} {H : Heap} (h : CW D tk ad g H) {k : Nat} (hk : k < 22) : (∃ ci, 8 ≤ ci ∧ ci ≤ 11 ∧ clA (ad k) (D.1 ci) H) ∨ clA (ad k) (tk 0) H ∨ clA (ad k) (tk 2) H := by
  rcases Nat.lt_or_ge k 15 with z | z
  · exact Or.inl ⟨8, by decide, by decide, (h.fr z).cl⟩
  · obtain rfl | rfl | rfl | rfl | rfl | rfl | rfl : k = 15 ∨ k = 16 ∨ k = 17 ∨ k = 18 ∨ k = 19 ∨ k = 20 ∨ k = 21 := by omega
    · exact Or.inl ⟨11, by decide, by decide, h.obj.cl⟩
    · exact Or.inr (Or.inr h.row.cla)
    · exact Or.inl ⟨10, by decide, by decide, (h.tm (j := 0) (by decide)).cl⟩
    · exact Or.inr (Or.inl (h.vl (j := 0) (by decide)).cla)
    · exact Or.inl ⟨10, by decide, by decide, (h.tm (j := 1) (by decide)).cl⟩
    · exact Or.inr (Or.inl (h.vl (j := 1) (by decide)).cla)
    · exact Or.inl ⟨9, by decide, by decide, h.tal.cl⟩
theorem cwO {D : va_G} {tk : Nat → ClassId} {N0 : Nat} {sa : Nat → Nat} {s : State} {ad : Nat → Nat} {g : CS} {H : Heap} (hC : Ctx D tk N0 sa s) (h : CW D tk ad g H) {a : Nat} (ha : clA a (D.1 1) H) : ∀ k, k < 22 → ad k ≠ a := by
  intro k hk
  rcases cw_cl h hk with ⟨ci, h1, h2, hc⟩ | hc | hc
  · obtain rfl | rfl | rfl | rfl : ci = 8 ∨ ci = 9 ∨ ci = 10 ∨ ci = 11 := by omega
    · exact clA.ne hc ha (hC.oo 8 1 rfl rfl (by decide))
    · exact clA.ne hc ha (hC.oo 9 1 rfl rfl (by decide))
    · exact clA.ne hc ha (hC.oo 10 1 rfl rfl (by decide))
    · exact clA.ne hc ha (hC.oo 11 1 rfl rfl (by decide))
  · exact clA.ne hc ha (hC.ao 1 0 rfl rfl)
  · exact clA.ne hc ha (hC.ao 1 2 rfl rfl)
theorem cwB {D : va_G} {tk : Nat → ClassId} {N0 : Nat} {sa : Nat → Nat} {s : State} {ad : Nat → Nat} {g : CS} {H : Heap} (hC : Ctx D tk N0 sa s) (h : CW D tk ad g H) {a : Nat} (ha : clA a (tk 1) H) : ∀ k, k < 22 → ad k ≠ a := by
  intro k hk
  rcases cw_cl h hk with ⟨ci, h1, h2, hc⟩ | hc | hc
  · obtain rfl | rfl | rfl | rfl : ci = 8 ∨ ci = 9 ∨ ci = 10 ∨ ci = 11 := by omega
    · exact clA.ne hc ha (hC.oa 8 1 rfl rfl)
    · exact clA.ne hc ha (hC.oa 9 1 rfl rfl)
    · exact clA.ne hc ha (hC.oa 10 1 rfl rfl)
    · exact clA.ne hc ha (hC.oa 11 1 rfl rfl)
  · exact clA.ne hc ha (hC.aa 0 1 rfl rfl (show FieldType.long ≠ FieldType.byte by decide))
  · exact clA.ne hc ha (hC.aa 2 1 rfl rfl (show FieldType.object "Bestratios$Fraction" ≠ FieldType.byte by decide))
theorem tx_gb (c9 q : Nat) : q ≤ sbC c9 q ∧ c9 ≤ sbC c9 q ∧ sbC c9 q ≤ max c9 (2 * q) ∧ c9 + sbK c9 q ≤ sbC c9 q ∧ 2 * c9 + sbS c9 q ≤ 2 * sbC c9 q := by
  unfold sbC sbK sbS
  split <;> omega
theorem tx_gz (c9 : Nat) : sbC c9 0 = c9 ∧ sbK c9 0 = 0 ∧ sbS c9 0 = 0 := ⟨if_pos (Nat.zero_le _), if_pos (Nat.zero_le _), if_pos (Nat.zero_le _)⟩
def tx_ap (q : Nat × Nat) (k : Nat) : Nat × Nat := (q.1 + k, sbC q.2 (q.1 + k))
/-- not shorter, not longer than by N; room for all, not less than before, not more than twice the letters -/
def tx_ok (N : Nat) (q r : Nat × Nat) : Prop := q.1 ≤ r.1 ∧ r.1 ≤ q.1 + N ∧ r.1 ≤ r.2 ∧ q.2 ≤ r.2 ∧ r.2 ≤ max q.2 (2 * r.1)
theorem tx_ok.rf {q : Nat × Nat} (h : q.1 ≤ q.2) : tx_ok 0 q q := by
  unfold tx_ok; omega
theorem tx_ok.mono {N M : Nat} {q r : Nat × Nat} (h : tx_ok N q r) (hN : N ≤ M) : tx_ok M q r := by
  unfold tx_ok at *; omega
theorem tx_ok.ap {N k K : Nat} {q r : Nat × Nat} (h : tx_ok N q r) (hk : k ≤ K) : tx_ok (N + K) q (tx_ap r k) := by
  unfold tx_ok tx_ap at *
  have := tx_gb r.2 (r.1 + k)
  dsimp only
  omega
theorem tx_ok.tr {N M : Nat} {q r t : Nat × Nat} (h : tx_ok N q r) (h2 : tx_ok M r t) : tx_ok (N + M) q t := by
  unfold tx_ok at *; omega
theorem tx_ap_m (q : Nat × Nat) (k : Nat) : q.2 ≤ (tx_ap q k).2 := (tx_gb q.2 (q.1 + k)).2.1
/-- a RATIO's text -/
def tx_wf (t b : Int64) (q : Nat × Nat) : Nat × Nat := if b = 1 then tx_ap q (dgI t.toInt32) else tx_ap (tx_ap (tx_ap q (dgI t.toInt32)) 1) (dgI b.toInt32)
theorem tx_wf_ok (t b : Int64) {q : Nat × Nat} (h : q.1 ≤ q.2) : tx_ok 43 q (tx_wf t b q) := by
  unfold tx_wf
  split
  · exact ((tx_ok.rf h).ap (dgI_le _)).mono (by decide)
  · exact ((((tx_ok.rf h).ap (dgI_le _)).ap (Nat.le_refl 1)).ap (dgI_le _)).mono (by decide)
theorem tx_wf_m1 (t b : Int64) (q : Nat × Nat) : (tx_ap q (dgI t.toInt32)).2 ≤ (tx_wf t b q).2 := by
  unfold tx_wf
  split
  · exact Nat.le_refl _
  · exact Nat.le_trans (tx_ap_m _ _) (tx_ap_m _ _)
theorem tx_wf_m (t b : Int64) (q : Nat × Nat) : q.2 ≤ (tx_wf t b q).2 := Nat.le_trans (tx_ap_m _ _) (tx_wf_m1 t b q)
/-- a decimal -/
def tx_wdL : Nat → Nat × Nat → Nat × Nat
  | 0, q => q
  | n + 1, q => tx_wdL n (tx_ap q 1)
theorem tx_wdL_m : ∀ (n : Nat) (q : Nat × Nat), q.2 ≤ (tx_wdL n q).2 := by
  intro n
  induction n with
  | zero => intro q; exact Nat.le_refl _
  | succ n ih => intro q; exact Nat.le_trans (tx_ap_m q 1) (ih _)
theorem tx_wdL_ok : ∀ (n N : Nat) (q0 q : Nat × Nat), tx_ok N q0 q → tx_ok (N + n) q0 (tx_wdL n q) := by
  intro n
  induction n with
  | zero => intro N q0 q h; exact h
  | succ n ih => intro N q0 q h; exact (ih (N + 1) q0 _ (h.ap (Nat.le_refl 1))).mono (by omega)
def tx_wd1 (x : Int64) (q : Nat × Nat) : Nat × Nat := if 0 ≤ x then q else tx_ap q 1
def tx_wd2 (x : Int64) (kp : Nat) (q : Nat × Nat) : Nat × Nat := tx_ap (tx_wd1 x q) (dgI (f_floorOf (absL x) (f_p10 (nI kp))).toInt32)
def tx_wd3 (x : Int64) (kp : Nat) (q : Nat × Nat) : Nat × Nat := if kp = 0 then tx_wd2 x kp q else tx_ap (tx_wd2 x kp q) 1
def tx_wd (x : Int64) (kp : Nat) (q : Nat × Nat) : Nat × Nat := tx_wdL kp (tx_wd3 x kp q)
theorem tx_wd1_m (x : Int64) (q : Nat × Nat) : q.2 ≤ (tx_wd1 x q).2 := by
  unfold tx_wd1; split
  · exact Nat.le_refl _
  · exact tx_ap_m _ _
theorem tx_wd2_m (x : Int64) (kp : Nat) (q : Nat × Nat) : (tx_wd1 x q).2 ≤ (tx_wd2 x kp q).2 := tx_ap_m _ _
theorem tx_wd3_m (x : Int64) (kp : Nat) (q : Nat × Nat) : (tx_wd2 x kp q).2 ≤ (tx_wd3 x kp q).2 := by
  unfold tx_wd3; split
  · exact Nat.le_refl _
  · exact tx_ap_m _ _
theorem tx_wd_m3 (x : Int64) (kp : Nat) (q : Nat × Nat) : (tx_wd3 x kp q).2 ≤ (tx_wd x kp q).2 := tx_wdL_m _ _
theorem tx_wd_m2 (x : Int64) (kp : Nat) (q : Nat × Nat) : (tx_wd2 x kp q).2 ≤ (tx_wd x kp q).2 := Nat.le_trans (tx_wd3_m x kp q) (tx_wd_m3 x kp q)
theorem tx_wd_m1 (x : Int64) (kp : Nat) (q : Nat × Nat) : (tx_wd1 x q).2 ≤ (tx_wd x kp q).2 := Nat.le_trans (tx_wd2_m x kp q) (tx_wd_m2 x kp q)
theorem tx_wd_m (x : Int64) (kp : Nat) (q : Nat × Nat) : q.2 ≤ (tx_wd x kp q).2 := Nat.le_trans (tx_wd1_m x q) (tx_wd_m1 x kp q)
theorem tx_wd_ok (x : Int64) (kp : Nat) {q : Nat × Nat} (h : q.1 ≤ q.2) : tx_ok (23 + kp) q (tx_wd x kp q) := by
  have h1 : tx_ok 1 q (tx_wd1 x q) := by
    unfold tx_wd1; split
    · exact (tx_ok.rf h).mono (by decide)
    · exact ((tx_ok.rf h).ap (Nat.le_refl 1)).mono (by decide)
  have h2 : tx_ok 22 q (tx_wd2 x kp q) := (h1.ap (dgI_le _)).mono (by decide)
  have h3 : tx_ok 23 q (tx_wd3 x kp q) := by
    unfold tx_wd3; split
    · exact h2.mono (by decide)
    · exact (h2.ap (Nat.le_refl 1)).mono (by decide)
  exact tx_wdL_ok kp 23 q _ h3
/-- the places of x's amount are no negative numbers -/
def txD (x : Int64) (kp : Nat) : Prop := ∀ k, k < kp → 0 ≤ f_floorOf (absL x) (f_p10 (nI k))
theorem tx_dig {a : Int64} (h : 0 ≤ a) : ∃ kc, kc < 256 ∧ (((48 : Int64) + (a - a / 10 * 10)).toInt32.toUInt32 % 65536).toInt32 = nI kc := by
  have h0 : 0 ≤ a.toInt := by have := Int64.le_iff_toInt_le.mp h; simpa using this
  have h9 := a.toInt_lt
  have hd : (a / 10).toInt = a.toInt / 10 := by
    rw [Int64.toInt_div]
    have e : a.toInt.tdiv (Int64.toInt 10) = a.toInt / 10 := by
      show a.toInt.tdiv 10 = _
      rw [Int.tdiv_eq_ediv_of_nonneg h0]
    rw [e]
    simp only [Int.bmod]
    split <;> omega
  have e1 : (a / 10 * 10).toInt = a.toInt / 10 * 10 := by
    rw [Int64.toInt_mul, hd]
    show (a.toInt / 10 * 10 : Int).bmod (2 ^ 64) = _
    simp only [Int.bmod]
    split <;> omega
  have e2 : (a - a / 10 * 10).toInt = a.toInt % 10 := by
    rw [Int64.toInt_sub, e1]
    simp only [Int.bmod]
    split <;> omega
  have hall : ∀ i : Fin 10, (((48 : Int64) + Int64.ofInt (i.val : Int)).toInt32.toUInt32 % 65536).toInt32 = nI (48 + i.val) := by decide +kernel
  have hof : ∀ i : Fin 10, (Int64.ofInt (i.val : Int)).toInt = (i.val : Int) := by decide +kernel
  have hi : (a.toInt % 10).toNat < 10 := by omega
  have e3 : a - a / 10 * 10 = Int64.ofInt ((⟨(a.toInt % 10).toNat, hi⟩ : Fin 10).val : Int) := by
    apply Int64.toInt_inj.mp
    rw [e2, hof]
    show a.toInt % 10 = (((a.toInt % 10).toNat : Nat) : Int)
    omega
  rw [e3]
  exact ⟨48 + (a.toInt % 10).toNat, by omega, hall _⟩
/-- a row of numbers -/
def tx_rtS (g : CS) (j k : Nat) (q : Nat × Nat) : Nat × Nat := tx_ap (if k = 0 then q else tx_ap q 1) (dgI (f_at g j (nI k)).toInt32)
def tx_rtL (g : CS) (j : Nat) : Nat → Nat → Nat × Nat → Nat × Nat
  | 0, _, q => q
  | n + 1, k, q => tx_rtL g j n (k + 1) (tx_rtS g j k q)
theorem tx_rtS_m (g : CS) (j k : Nat) (q : Nat × Nat) : q.2 ≤ (tx_rtS g j k q).2 := by
  unfold tx_rtS; split
  · exact tx_ap_m _ _
  · exact Nat.le_trans (tx_ap_m _ _) (tx_ap_m _ _)
theorem tx_rtL_m (g : CS) (j : Nat) : ∀ (n k : Nat) (q : Nat × Nat), q.2 ≤ (tx_rtL g j n k q).2 := by
  intro n
  induction n with
  | zero => intro k q; exact Nat.le_refl _
  | succ n ih => intro k q; exact Nat.le_trans (tx_rtS_m g j k q) (ih _ _)
theorem tx_rtS_ok (g : CS) (j k : Nat) {N : Nat} {q0 q : Nat × Nat} (h : tx_ok N q0 q) : tx_ok (N + 22) q0 (tx_rtS g j k q) := by
  unfold tx_rtS; split
  · exact (h.ap (dgI_le _)).mono (by omega)
  · exact ((h.ap (Nat.le_refl 1)).ap (dgI_le _)).mono (by omega)
theorem tx_rtL_ok (g : CS) (j : Nat) : ∀ (n k N : Nat) (q0 q : Nat × Nat), tx_ok N q0 q → tx_ok (N + 22 * n) q0 (tx_rtL g j n k q) := by
  intro n
  induction n with
  | zero => intro k N q0 q h; exact h.mono (by omega)
  | succ n ih => intro k N q0 q h; exact (ih (k + 1) _ q0 _ (tx_rtS_ok g j k h)).mono (by omega)
def tx_rt (g : CS) (j : Nat) : Nat × Nat := tx_rtL g j (tC g j).toNatClampNeg 0 (0, 16)
/-- a way -/
def tx_wyS (g : CS) (k : Nat) (q : Nat × Nat) : Nat × Nat := if f_at g 1 (nI k) ≤ 0 then q else tx_ap (tx_ap (if q.1 = 0 then q else tx_ap q 1) 1) (dgI (f_at g 1 (nI k)).toInt32)
def tx_wyL (g : CS) : Nat → Nat → Nat × Nat → Nat × Nat
  | 0, _, q => q
  | n + 1, k, q => tx_wyL g n (k + 1) (tx_wyS g k q)
theorem tx_wyS_m (g : CS) (k : Nat) (q : Nat × Nat) : q.2 ≤ (tx_wyS g k q).2 := by
  unfold tx_wyS; split
  · exact Nat.le_refl _
  · split
    · exact Nat.le_trans (tx_ap_m _ _) (tx_ap_m _ _)
    · exact Nat.le_trans (tx_ap_m _ _) (Nat.le_trans (tx_ap_m _ _) (tx_ap_m _ _))
theorem tx_wyL_m (g : CS) : ∀ (n k : Nat) (q : Nat × Nat), q.2 ≤ (tx_wyL g n k q).2 := by
  intro n
  induction n with
  | zero => intro k q; exact Nat.le_refl _
  | succ n ih => intro k q; exact Nat.le_trans (tx_wyS_m g k q) (ih _ _)
theorem tx_wyS_ok (g : CS) (k : Nat) {N : Nat} {q0 q : Nat × Nat} (h : tx_ok N q0 q) : tx_ok (N + 23) q0 (tx_wyS g k q) := by
  unfold tx_wyS; split
  · exact h.mono (by omega)
  · split
    · exact ((h.ap (Nat.le_refl 1)).ap (dgI_le _)).mono (by omega)
    · exact (((h.ap (Nat.le_refl 1)).ap (Nat.le_refl 1)).ap (dgI_le _)).mono (by omega)
theorem tx_wyL_ok (g : CS) : ∀ (n k N : Nat) (q0 q : Nat × Nat), tx_ok N q0 q → tx_ok (N + 23 * n) q0 (tx_wyL g n k q) := by
  intro n
  induction n with
  | zero => intro k N q0 q h; exact h.mono (by omega)
  | succ n ih => intro k N q0 q h; exact (ih (k + 1) _ q0 _ (tx_wyS_ok g k h)).mono (by omega)
def tx_wyg (g : CS) (i : Nat) : CS := f_addTo (f_apart g 1 i) 1 (-1)
def tx_wyW (g : CS) (i : Nat) : CS := if f_cmp (tT g i) 0 ≤ 0 then g else tx_wyg g i
def tx_wy (g : CS) (i : Nat) (q : Nat × Nat) : Nat × Nat := if f_cmp (tT g i) 0 ≤ 0 then tx_ap q 1 else tx_wyL (tx_wyg g i) (tC (tx_wyg g i) 1).toNatClampNeg 0 q
theorem tx_wy_m (g : CS) (i : Nat) (q : Nat × Nat) : q.2 ≤ (tx_wy g i q).2 := by
  unfold tx_wy; split
  · exact tx_ap_m _ _
  · exact tx_wyL_m _ _ _ _
/-- at most 64 TERMS -/
theorem tx_last (g : CS) (j : Nat) (v : Int64) (h : (tC g j).toNatClampNeg ≤ 64) : (tC (f_addLast g j v) j).toNatClampNeg ≤ 64 := by
  unfold f_addLast
  split
  · exact h
  · split
    · exact h
    · rename_i h1 h2
      have h3 := Int32.lt_iff_toInt_lt.mp (Int32.not_le.mp h2)
      have h4 : 0 ≤ (tC g j).toInt := by have := Int32.le_iff_toInt_le.mp (Int32.not_lt.mp h1); simpa using this
      have e6 : (64 : Int32).toInt = 64 := by decide
      have e7 : tC (uC (uV g j (tC g j).toNatClampNeg v) j (tC g j + 1)) j = tC g j + 1 := by simp [tC, uC, uV, va_up]
      rw [e7]
      have e8 : (tC g j + 1).toInt = (tC g j).toInt + 1 := by
        rw [Int32.toInt_add]
        show ((tC g j).toInt + 1 : Int).bmod (2 ^ 32) = _
        simp only [Int.bmod]
        split <;> omega
      show (tC g j + 1).toInt.toNat ≤ 64
      omega
theorem tx_aprtL (j : Nat) : ∀ (n : Nat) (g : CS) (t b : Int64), (tC g j).toNatClampNeg ≤ 64 → (tC (apartL j n g t b) j).toNatClampNeg ≤ 64 := by
  intro n
  induction n with
  | zero => intro g t b h; exact h
  | succ n ih =>
    intro g t b h
    unfold apartL
    split
    · exact h
    · exact ih _ _ _ (tx_last g j _ h)
theorem tx_aprt (g : CS) (j i : Nat) : (tC (f_apart g j i) j).toNatClampNeg ≤ 64 := by
  unfold f_apart
  refine tx_aprtL j 64 _ _ _ ?_
  have e7 : tC (uC g j 0) j = 0 := by simp [tC, uC, va_up]
  rw [e7]
  decide
theorem tx_addTo (g : CS) (j k : Nat) (v : Int64) : tC (f_addTo g j v) k = tC g k := by
  unfold f_addTo
  split
  · rfl
  · split <;> rfl
theorem tx_wyc (g : CS) (i : Nat) : (tC (tx_wyg g i) 1).toNatClampNeg ≤ 64 := by
  unfold tx_wyg
  rw [tx_addTo]
  exact tx_aprt g 1 i
theorem tx_wy_ok (g : CS) (i : Nat) {q : Nat × Nat} (h : q.1 ≤ q.2) : tx_ok 1472 q (tx_wy g i q) := by
  have := tx_wyc g i
  unfold tx_wy; split
  · exact ((tx_ok.rf h).ap (Nat.le_refl 1)).mono (by decide)
  · exact (tx_wyL_ok _ _ 0 0 q q (tx_ok.rf h)).mono (by omega)
theorem bW_k {x : Int32} {k : Nat} {K : Int32} (hK : K.toInt = (k : Int)) (h : bW x 0 K = 0) : x = nI (nn x) ∧ nn x ≤ k := by
  unfold bW at h
  split at h
  · cases h
  · split at h
    · rename_i h1 h2
      have h3 := Int32.le_iff_toInt_le.mp h2
      have h4 : 0 ≤ x.toInt := by have := Int32.le_iff_toInt_le.mp (Int32.not_lt.mp h1); simpa using this
      have h5 : nn x = x.toInt.toNat := rfl
      have h6 : nn x < 2 ^ 31 := Int32.toNatClampNeg_lt x
      refine ⟨?_, by omega⟩
      apply Int32.toInt_inj.mp
      rw [nI_toInt h6]
      omega
    · cases h

