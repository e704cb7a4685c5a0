section KC
variable {p : Program} {l : Launch} {e : Env} {R : Room} {s : State} {m : MethodId} {args : Array Value} {below : List Frame} {meth : Method} {c : Code} {H : Heap} {locs : List Loc} {cells slots : Nat} {Q : State → Prop}
variable {cc : ByteArray} {pc nL : Nat} {ls : Array Slot} {rest st0 : List Value} {own : String} {D : va_G} {tk : Nat → ClassId} {N0 : Nat} {sa : Nat → Nat} {A0 A1 : Nat → Prop}
variable {y : MethodName} {bytes : ByteArray} {maxL mc ms n index : Nat} {ret : Option FieldType} {rm : Room} {F : Heap → Prop} {Qc : Array Value → State → Outcome → State → Prop} {As : List Value} {w0 : Cond} {b : Nat} {a : Array Value}
/-- what a call owes to the tables: the descriptor -/
def okD (y : MethodName) (n : Nat) : Bool := decide (y.cls ≠ "java/lang/invoke/MethodHandle") && decide (y.cls ≠ "java/lang/invoke/VarHandle") && decide ((parseMethodDescriptor y.desc).map (fun d => d.parameters.length) = some n)
theorem okD.of {y : MethodName} {n : Nat} (h : okD y n = true) : y.cls ≠ "java/lang/invoke/MethodHandle" ∧ y.cls ≠ "java/lang/invoke/VarHandle" ∧ (parseMethodDescriptor y.desc).map (fun d => d.parameters.length) = some n := by
  simp only [okD, Bool.and_eq_true, decide_eq_true_eq] at h
  exact ⟨h.1.1, h.1.2, h.2⟩
/-- the room of a callee -/
def okR (rm R : Room) (maxL mc ms cells slots : Nat) : Prop := (rm.cells = mc ∧ rm.slots = ms) ∧ (rm.frames + 1 ≤ R.frames ∧ 8 + (maxL + 11) + rm.locals ≤ R.locals) ∧ cells + mc ≤ R.cells ∧ slots + ms ≤ R.slots
theorem k_S (E : CallFix p m c cc nL s args (w0 :: GW) own) (hC : Ctx D tk N0 sa s) (hS : va_S A0 s.heap H locs) (hA : ∀ q, A0 q → N0 ≤ q) (hl : ls.size = nL)
    (hM : Met l y (wsy y bytes maxL ret) rm (cP D tk N0 sa As H.size F) Qc mc ms A1) (w1 : Cond.methodLink own index y ∈ GW) (w2 : Cond.static y ∈ GW) (w3 : Cond.initialized y.cls ∈ GW) (w4 : Cond.code y bytes maxL ret ∈ GW) (hd : okD y n = true) (hlen : As.length = n) (hR : okR rm R maxL mc ms cells slots)
    (hst : st0 = As.reverse ++ rest) (hcat : (rest.map fun v => v.category).sum ≤ 8) (hF : F H) (hdg : decode cc pc = .ok (.invokestatic index, 3)) :
    va_Run p l e R s m args below meth c H locs cells slots mc ms (F0 m pc ls st0) rest (Qc As.toArray) A1 :=
  va_runS (n := As.length) E hM (va_cwS As.length E.2.2.2.2 (goodIn_app (fun w hw => by
    simp only [List.mem_cons, List.not_mem_nil, or_false] at hw
    have hm : w ∈ GW := by rcases hw with rfl | rfl | rfl <;> assumption
    exact ⟨List.mem_cons_of_mem _ hm, good_of_word (List.mem_filter.mp hm).2⟩) (gw_in w4)) rfl hR.1.1 hR.1.2 (okD.of (hlen ▸ hd)) hR.2.1) (cP_pre hC hS hA hF) rfl rfl hl hst (lv_room hcat) hdg hR.2.2
theorem k_SN (host : String) (E : CallFix p m c cc nL s args (w0 :: GW) own) (hC : Ctx D tk N0 sa s) (hS : va_S A0 s.heap H locs) (hA : ∀ q, A0 q → N0 ≤ q) (hl : ls.size = nL)
    (hM : Met l y (wsy y bytes maxL ret) rm (cP D tk N0 sa As H.size F) Qc mc ms A1) (w1 : Cond.methodLinkNest own index y host ∈ tables_1) (w2 : Cond.static y ∈ GW) (w3 : Cond.initialized y.cls ∈ GW) (w4 : Cond.code y bytes maxL ret ∈ GW) (hd : okD y n = true) (hlen : As.length = n) (hR : okR rm R maxL mc ms cells slots)
    (hst : st0 = As.reverse ++ rest) (hcat : (rest.map fun v => v.category).sum ≤ 8) (hF : F H) (hdg : decode cc pc = .ok (.invokestatic index, 3)) :
    va_Run p l e R s m args below meth c H locs cells slots mc ms (F0 m pc ls st0) rest (Qc As.toArray) A1 :=
  va_runSN (n := As.length) E hM ⟨va_cnB As.length E.2.2.2.2 (gw_in w4) rfl hR.1.1 hR.1.2 (hC.2.2.2.1 _ w1 rfl) (E.2.2.2.2 _ (List.mem_cons_of_mem _ w3)) (okD.of (hlen ▸ hd)) hR.2.1, E.2.2.2.2 _ (List.mem_cons_of_mem _ w2), trivial⟩ (cP_pre hC hS hA hF) rfl rfl hl hst (lv_room hcat) hdg hR.2.2
/-- the receiver: an object that is known -/
theorem c1.recv {ci : Nat} {fs : List Value} {q : vw_C} (hC : Ctx D tk N0 sa s) (h : c1 D b (.inr (ci, fs)) H) (hc : vwCl[ci]? = some q) : ∃ cell : Cell, H[b]? = some cell ∧ cell.vm.isStatics = false ∧ s.vm.findClass q.1 = some cell.cls :=
  va_recv hC.1 h.P (q0 := 0) hc rfl
theorem k_V {C : String} (E : CallFix p m c cc nL s args (w0 :: GW) own) (hC : Ctx D tk N0 sa s) (hS : va_S A0 s.heap H locs) (hA : ∀ q, A0 q → N0 ≤ q) (hl : ls.size = nL) (hrecv : ∃ cell : Cell, H[b]? = some cell ∧ cell.vm.isStatics = false ∧ s.vm.findClass C = some cell.cls) (hyC : y.cls = C)
    (hM : Met l y (wsy y bytes maxL ret) rm (cP D tk N0 sa (.ref b :: As) H.size F) Qc mc ms A1) (w1 : Cond.methodLink own index y ∈ GW) (w2 : Cond.instanceMethod y ∈ GW) (w3 : Cond.selects C y y ∈ GW) (w5 : Cond.initialized C ∈ GW) (w4 : Cond.code y bytes maxL ret ∈ GW) (hd : okD y n = true) (hlen : As.length = n) (hR : okR rm R maxL mc ms cells slots)
    (hst : st0 = As.reverse ++ .ref b :: rest) (hcat : (rest.map fun v => v.category).sum ≤ 8) (hF : F H) (hdg : decode cc pc = .ok (.invokevirtual index, 3)) :
    va_Run p l e R s m args below meth c H locs cells slots mc ms (F0 m pc ls st0) rest (Qc (Value.ref b :: As).toArray) A1 :=
  va_runV (n := As.length) E hM (cwV As.length E.2.2.2.2 (goodIn_app (fun w hw => by
    simp only [List.mem_cons, List.not_mem_nil, or_false] at hw
    have hm : w ∈ GW := by rcases hw with rfl | rfl | rfl | rfl <;> assumption
    exact ⟨List.mem_cons_of_mem _ hm, good_of_word (List.mem_filter.mp hm).2⟩) (gw_in w4)) rfl hR.1.1 hR.1.2 ⟨hyC, okD.of (hlen ▸ hd)⟩ hR.2.1) ⟨(cP_pre hC hS hA hF).1, hrecv, (cP_pre hC hS hA hF).2⟩ rfl rfl hl hst (lv_room hcat) hdg hR.2.2
theorem k_VN (host : String) {C : String} (E : CallFix p m c cc nL s args (w0 :: GW) own) (hC : Ctx D tk N0 sa s) (hS : va_S A0 s.heap H locs) (hA : ∀ q, A0 q → N0 ≤ q) (hl : ls.size = nL) (hrecv : ∃ cell : Cell, H[b]? = some cell ∧ cell.vm.isStatics = false ∧ s.vm.findClass C = some cell.cls)
    (hM : Met l y (wsy y bytes maxL ret) rm (cP D tk N0 sa (.ref b :: As) H.size F) Qc mc ms A1) (w1 : Cond.methodLinkNest own index y host ∈ tables_1) (w2 : Cond.instanceMethod y ∈ GW) (w3 : Cond.selects C y y ∈ GW) (w5 : Cond.initialized y.cls ∈ GW) (w4 : Cond.code y bytes maxL ret ∈ GW) (hd : okD y n = true) (hlen : As.length = n) (hR : okR rm R maxL mc ms cells slots)
    (hst : st0 = As.reverse ++ .ref b :: rest) (hcat : (rest.map fun v => v.category).sum ≤ 8) (hF : F H) (hdg : decode cc pc = .ok (.invokevirtual index, 3)) :
    va_Run p l e R s m args below meth c H locs cells slots mc ms (F0 m pc ls st0) rest (Qc (Value.ref b :: As).toArray) A1 :=
  va_runVN (n := As.length) E hM ⟨va_cnB As.length E.2.2.2.2 (gw_in w4) rfl hR.1.1 hR.1.2 (hC.2.2.2.1 _ w1 rfl) (E.2.2.2.2 _ (List.mem_cons_of_mem _ w5)) (okD.of (hlen ▸ hd)) hR.2.1, E.2.2.2.2 _ (List.mem_cons_of_mem _ w2), E.2.2.2.2 _ (List.mem_cons_of_mem _ w3)⟩ ⟨(cP_pre hC hS hA hF).1, hrecv, (cP_pre hC hS hA hF).2⟩ rfl rfl hl hst (lv_room hcat) hdg hR.2.2
theorem k_I (E : CallFix p m c cc nL s args (w0 :: GW) own) (hC : Ctx D tk N0 sa s) (hS : va_S A0 s.heap H locs) (hA : ∀ q, A0 q → N0 ≤ q) (hl : ls.size = nL)
    (hM : Met l y (wsy y bytes maxL none) rm (cP D tk N0 sa (.ref b :: As) H.size F) Qc mc ms A1) (w1 : Cond.methodLink own index y ∈ GW) (w2 : Cond.instanceMethod y ∈ GW) (w3 : Cond.initialized y.cls ∈ GW) (w4 : Cond.code y bytes maxL none ∈ GW) (hy1 : y.name = "<init>") (hd : okD y n = true) (hlen : As.length = n) (hR : okR rm R maxL mc ms cells slots)
    (hst : st0 = As.reverse ++ .ref b :: rest) (hcat : (rest.map fun v => v.category).sum ≤ 8) (hF : F H) (hdg : decode cc pc = .ok (.invokespecial index, 3)) :
    va_Run p l e R s m args below meth c H locs cells slots mc ms (F0 m pc ls st0) rest (Qc (Value.ref b :: As).toArray) A1 :=
  va_runI (n := As.length) E hM (cwI As.length E.2.2.2.2 (gw_in w4) rfl hR.1.1 hR.1.2 (E.2.2.2.2 _ (List.mem_cons_of_mem _ w3)) (E.2.2.2.2 _ (List.mem_cons_of_mem _ w1)) (E.2.2.2.2 _ (List.mem_cons_of_mem _ w2)) hy1 (okD.of (hlen ▸ hd)) hR.2.1) (cP_pre hC hS hA hF) rfl rfl hl hst (lv_room hcat) hdg hR.2.2
/-- behind a call: what it answers, and what has not changed -/
theorem k_l {Rr : Int64 → Heap → Prop} (hr : va_Run p l e R s m args below meth c H locs cells slots mc ms (F0 m pc ls st0) rest (kQl Rr A1 a) A1) (hS : va_S A0 s.heap H locs) (hAA : ∀ q, q < H.size → A1 q → A0 q) (hnew : ∀ q, s.heap.size ≤ q → A0 q)
    (kk : ∀ (r : Int64) (H1 : Heap) (locs1 : List Loc), Rr r H1 → H.size ≤ H1.size → (∀ q : Nat, q < H.size → ¬ A1 q → H1[q]? = H[q]?) → va_S A0 s.heap H1 locs1 → W p l e R s m args below meth c H1 locs1 (cells + mc) (slots + ms) Q (F0 m (pc + 3) ls (.long r :: rest))) : W p l e R s m args below meth c H locs cells slots Q (F0 m pc ls st0) :=
  va_calll hr hS hAA (fun q h => by
    rcases Nat.lt_or_ge q H.size with z | z
    · exact hAA q z h
    · exact hnew q (Nat.le_trans hS.1 z)) (fun r u t H1 locs1 ht _ hp hb hz hk hS1 => by
    have e9 : u = H1 := hb.symm.trans ht
    subst e9
    exact kk r u locs1 hp hz hk hS1)
theorem k_i {Rr : Int32 → Heap → Prop} (hr : va_Run p l e R s m args below meth c H locs cells slots mc ms (F0 m pc ls st0) rest (kQi Rr A1 a) A1) (hS : va_S A0 s.heap H locs) (hAA : ∀ q, q < H.size → A1 q → A0 q) (hnew : ∀ q, s.heap.size ≤ q → A0 q)
    (kk : ∀ (r : Int32) (H1 : Heap) (locs1 : List Loc), Rr r H1 → H.size ≤ H1.size → (∀ q : Nat, q < H.size → ¬ A1 q → H1[q]? = H[q]?) → va_S A0 s.heap H1 locs1 → W p l e R s m args below meth c H1 locs1 (cells + mc) (slots + ms) Q (F0 m (pc + 3) ls (.int r :: rest))) : W p l e R s m args below meth c H locs cells slots Q (F0 m pc ls st0) :=
  va_calli hr hS hAA (fun q h => by
    rcases Nat.lt_or_ge q H.size with z | z
    · exact hAA q z h
    · exact hnew q (Nat.le_trans hS.1 z)) (fun r u t H1 locs1 ht _ hp hb hz hk hS1 => by
    have e9 : u = H1 := hb.symm.trans ht
    subst e9
    exact kk r u locs1 hp hz hk hS1)
theorem k_v {Rr : Heap → Prop} (hr : va_Run p l e R s m args below meth c H locs cells slots mc ms (F0 m pc ls st0) rest (kQv Rr A1 a) A1) (hS : va_S A0 s.heap H locs) (hAA : ∀ q, q < H.size → A1 q → A0 q) (hnew : ∀ q, s.heap.size ≤ q → A0 q)
    (kk : ∀ (H1 : Heap) (locs1 : List Loc), Rr H1 → H.size ≤ H1.size → (∀ q : Nat, q < H.size → ¬ A1 q → H1[q]? = H[q]?) → va_S A0 s.heap H1 locs1 → W p l e R s m args below meth c H1 locs1 (cells + mc) (slots + ms) Q (F0 m (pc + 3) ls rest)) : W p l e R s m args below meth c H locs cells slots Q (F0 m pc ls st0) :=
  va_callv hr hS hAA (fun q h => by
    rcases Nat.lt_or_ge q H.size with z | z
    · exact hAA q z h
    · exact hnew q (Nat.le_trans hS.1 z)) (fun u t H1 locs1 ht _ hp hb hz hk hS1 => by
    have e9 : u = H1 := hb.symm.trans ht
    subst e9
    exact kk u locs1 hp hz hk hS1)
theorem k_r {Rr : Nat → Heap → Prop} (hr : va_Run p l e R s m args below meth c H locs cells slots mc ms (F0 m pc ls st0) rest (kQr Rr A1 a) A1) (hS : va_S A0 s.heap H locs) (hAA : ∀ q, q < H.size → A1 q → A0 q) (hnew : ∀ q, s.heap.size ≤ q → A0 q)
    (kk : ∀ (r : Nat) (H1 : Heap) (locs1 : List Loc), Rr r H1 → H.size ≤ H1.size → (∀ q : Nat, q < H.size → ¬ A1 q → H1[q]? = H[q]?) → va_S A0 s.heap H1 locs1 → W p l e R s m args below meth c H1 locs1 (cells + mc) (slots + ms) Q (F0 m (pc + 3) ls (.ref r :: rest))) : W p l e R s m args below meth c H locs cells slots Q (F0 m pc ls st0) :=
  va_callr hr hS hAA (fun q h => by
    rcases Nat.lt_or_ge q H.size with z | z
    · exact hAA q z h
    · exact hnew q (Nat.le_trans hS.1 z)) (fun u ra t H1 locs1 ht _ _ hb hz hk hS1 => by
    have e9 : u = H1 := hb.1.symm.trans ht
    subst e9
    exact kk ra u locs1 hb.2 hz hk hS1)
end KC
/-! ===== the class's world: 22 cells (0 .. 14 the Fractions: 0 .. 5 the RATIOS, 6 made, 7 below, 8 above, 9 .. 14 the TALLY's; 15 the object; 16 its row of RATIOS; 17, 18 said and its values; 19, 20 found and its values; 21 the TALLY) ===== -/
/-- the numbers of a state: tops, bottoms, the values of both rows of TERMS, their counts, the ints (0 refusals, 1 knocks, 2 came, 3 places) -/
abbrev CS : Type := (Nat → Int64) × (Nat → Int64) × (Nat → Nat → Int64) × (Nat → Int32) × (Nat → Int32)
def tT (g : CS) : Nat → Int64 := g.1
def tB (g : CS) : Nat → Int64 := g.2.1
def tV (g : CS) : Nat → Nat → Int64 := g.2.2.1
def tC (g : CS) : Nat → Int32 := g.2.2.2.1
def tI (g : CS) : Nat → Int32 := g.2.2.2.2
def uT (g : CS) (i : Nat) (v : Int64) : CS := (va_up g.1 i v, g.2)
def uB (g : CS) (i : Nat) (v : Int64) : CS := (g.1, va_up g.2.1 i v, g.2.2)
def uV (g : CS) (j k : Nat) (v : Int64) : CS := (g.1, g.2.1, va_up g.2.2.1 j (vp_updL (g.2.2.1 j) k v), g.2.2.2)
def uC (g : CS) (j : Nat) (v : Int32) : CS := (g.1, g.2.1, g.2.2.1, va_up g.2.2.2.1 j v, g.2.2.2.2)
def uI (g : CS) (j : Nat) (v : Int32) : CS := (g.1, g.2.1, g.2.2.1, g.2.2.2.1, va_up g.2.2.2.2 j v)
/-- what a cell holds -/
def cwE (tk : Nat → ClassId) (ad : Nat → Nat) (g : CS) : Nat → va_E
  | 15 => .inr (11, [.ref (ad 16), .ref (ad 17), .ref (ad 21), .int (tI g 0), .int (tI g 1), .ref (ad 6), .ref (ad 7), .ref (ad 8), .ref (ad 19)])
  | 16 => .inl (tk 2, 6, .inr (.inr (.inr (.inr (fun k => some (ad k))))))
  | 17 => .inr (10, [.ref (ad 18), .int (tC g 0)])
  | 18 => .inl (tk 0, 64, .inr (.inl (tV g 0)))
  | 19 => .inr (10, [.ref (ad 20), .int (tC g 1)])
  | 20 => .inl (tk 0, 64, .inr (.inl (tV g 1)))
  | 21 => .inr (9, [.ref (ad 9), .ref (ad 10), .ref (ad 11), .ref (ad 12), .ref (ad 13), .ref (ad 14), .int (tI g 2), .int (tI g 3)])
  | i => .inr (8, [.long (tT g i), .long (tB g i)])
def CW (D : va_G) (tk : Nat → ClassId) (ad : Nat → Nat) (g : CS) (H : Heap) : Prop := ∀ k, k < 22 → c1 D (ad k) (cwE tk ad g k) H
/-- the addresses: apart, and none of the start's -/
def ADok (N0 : Nat) (ad : Nat → Nat) : Prop := (∀ i j, i < 22 → j < 22 → ad i = ad j → i = j) ∧ ∀ i, i < 22 → N0 ≤ ad i
/-- what a method of the class may write: its world, and what it makes -/
def cwA (ad : Nat → Nat) (sz : Nat) : Nat → Prop := fun q => (∃ i, i < 22 ∧ q = ad i) ∨ sz ≤ q
abbrev nwA (sz : Nat) : Nat → Prop := fun q => sz ≤ q
theorem cwA.ge {N0 sz : Nat} {ad : Nat → Nat} (h : ADok N0 ad) (hz : N0 ≤ sz) : ∀ q, cwA ad sz q → N0 ≤ q := by
  rintro q (⟨i, hi, rfl⟩ | h1)
  · exact h.2 i hi
  · exact Nat.le_trans hz h1
theorem cwA.go {ad : Nat → Nat} {sz sz1 : Nat} (h : sz ≤ sz1) : ∀ q, cwA ad sz1 q → cwA ad sz q := by
  rintro q (h1 | h1)
  · exact Or.inl h1
  · exact Or.inr (Nat.le_trans h h1)
theorem cwE_fr {tk : Nat → ClassId} {ad : Nat → Nat} {g : CS} {i : Nat} (h : i < 15) : cwE tk ad g i = .inr (8, [.long (tT g i), .long (tB g i)]) := by
  unfold cwE
  split <;> first | omega | rfl
theorem CW.fr {D : va_G} {tk : Nat → ClassId} {ad : Nat → Nat} {g : CS} {H : Heap} (h : CW D tk ad g H) {i : Nat} (hi : i < 15) : c1 D (ad i) (.inr (8, [.long (tT g i), .long (tB g i)])) H := by
  have := h i (by omega)
  rw [cwE_fr hi] at this
  exact this
/-- one cell has changed -/
theorem CW.upd {D : va_G} {tk : Nat → ClassId} {N0 : Nat} {ad : Nat → Nat} {g g1 : CS} {H H1 : Heap} (h : CW D tk ad g H) (hd : ADok N0 ad) {i : Nat} (hi : i < 22) {e : va_E} (h1 : c1 D (ad i) e H1) (he : cwE tk ad g1 i = e) (ho : ∀ q, q ≠ ad i → H1[q]? = H[q]?) (hx : ∀ k, k < 22 → k ≠ i → cwE tk ad g1 k = cwE tk ad g k) : CW D tk ad g1 H1 := by
  intro k hk
  by_cases hki : k = i
  · subst hki
    rw [he]; exact h1
  · rw [hx k hk hki]
    exact (h k hk).kept (ho _ (fun z => hki (hd.1 _ _ hk hi z)))
theorem CW.kept {D : va_G} {tk : Nat → ClassId} {ad : Nat → Nat} {g : CS} {H H1 : Heap} (h : CW D tk ad g H) (ho : ∀ k, k < 22 → H1[ad k]? = H[ad k]?) : CW D tk ad g H1 := fun k hk => (h k hk).kept (ho k hk)
theorem CW.setT {D : va_G} {tk : Nat → ClassId} {N0 : Nat} {ad : Nat → Nat} {g : CS} {H H1 : Heap} (h : CW D tk ad g H) (hd : ADok N0 ad) {i : Nat} (hi : i < 15) {v : Int64} (h1 : c1 D (ad i) (.inr (8, [.long v, .long (tB g i)])) H1) (ho : ∀ q, q ≠ ad i → H1[q]? = H[q]?) : CW D tk ad (uT g i v) H1 :=
  h.upd hd (by omega) h1 (by rw [cwE_fr hi]; simp [tT, tB, uT, va_up]) ho (fun k hk hki => by unfold cwE; split <;> first | rfl | (simp [tT, tB, uT, va_up, hki]))
theorem CW.setB {D : va_G} {tk : Nat → ClassId} {N0 : Nat} {ad : Nat → Nat} {g : CS} {H H1 : Heap} (h : CW D tk ad g H) (hd : ADok N0 ad) {i : Nat} (hi : i < 15) {v : Int64} (h1 : c1 D (ad i) (.inr (8, [.long (tT g i), .long v])) H1) (ho : ∀ q, q ≠ ad i → H1[q]? = H[q]?) : CW D tk ad (uB g i v) H1 :=
  h.upd hd (by omega) h1 (by rw [cwE_fr hi]; simp [tT, tB, uB, va_up]) ho (fun k hk hki => by unfold cwE; split <;> first | rfl | (simp [tT, tB, uB, va_up, hki]))
