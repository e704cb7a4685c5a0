/-! ===== my library: one list of words for all methods; what every method is given; facts of single cells; calls ===== -/
def GW : List Cond := lw_tbl.filter goodWord
theorem gw_m {w : Cond} (h : w ∈ lw_tbl) (g : goodWord w = true) : w ∈ GW := List.mem_filter.mpr ⟨h, g⟩
theorem gw_t (i : Nat) {w : Cond} (h : tables_1[i]? = some w) (g : goodWord w = true) : w ∈ GW := gw_m (List.mem_append_right _ (List.mem_of_getElem? h)) g
theorem gw_s (i : Nat) {w : Cond} (h : (k2_sels lw_privs)[i]? = some w) (g : goodWord w = true) : w ∈ GW := gw_m (List.mem_append_left _ (List.mem_of_getElem? h)) g
abbrev wsy (y : MethodName) (b : ByteArray) (n : Nat) (r : Option FieldType) : List Cond := Cond.code y b n r :: GW
theorem gw_in {y : MethodName} {b : ByteArray} {n : Nat} {r : Option FieldType} {w0 : Cond} (h : Cond.code y b n r ∈ GW) : GoodIn (w0 :: GW) (wsy y b n r) := by
  intro w hw
  have hm : w ∈ GW := by
    rcases List.mem_cons.mp hw with rfl | hw
    · exact h
    · exact hw
  exact ⟨List.mem_cons_of_mem _ hm, good_of_word (List.mem_filter.mp hm).2⟩
/-- words that the tables decide, but that no call hands on: they ride with the world -/
def isNest : Cond → Bool
  | .methodLinkNest _ _ _ _ => true
  | .fieldLinkNest _ _ _ _ _ _ => true
  | .castable _ _ => true
  | .declares _ => true
  | .privateMethod _ => true
  | _ => false
theorem nest_warm {w : Cond} {s U : State} (h : isNest w = true) (hW : s.WarmedH U.vm) (hZ : va_Nw w s) : va_Nw w U := by
  cases w <;> first | exact va_Nw.warmM hW hZ | exact va_Nw.warmF hW hZ | exact va_Nw.warmC hW hZ | exact va_Nw.warmD hW hZ | exact va_tabs rfl (rfl : (s.setVm U.vm).vm = U.vm) (by rw [Cond.privateMethod_setVm hW.alike]; exact hZ) | (simp [isNest] at h)
def p10 (j : Nat) : Int64 := Int64.ofNat (10 ^ j)
def tyG (k : Nat → ClassId) : List (ClassId × FieldType) := [(k 0, .long), (k 1, .byte), (k 2, .object "Bestratios$Fraction"), (k 3, .array .long), (k 4, .object "java/lang/Object"), (k 5, .int)]
abbrev NA (N0 : Nat) : Nat → Prop := fun q => N0 ≤ q
def SG (N0 : Nat) (sa : Nat → Nat) (U : State) (H : Heap) : Prop :=
  (va_Z "Bestratios" "POWERS_OF_TEN" "[J" (.ref (sa 0)) (NA N0) U H ∧ va_T .long (sa 0) 10 (fun j => .long (p10 j)) (NA N0) U H) ∧
  (vx_Zq Bundle.tN "UNASSIGNED_STACK" Bundle.steD (NA N0) U H ∧ vx_Zq Bundle.tN "SUPPRESSED_SENTINEL" Bundle.listD (NA N0) U H)
theorem SG.moved {N0 : Nat} {sa : Nat → Nat} {u U : State} {H : Heap} (hvm : u.vm.Alike U.vm) (h : SG N0 sa u H) : SG N0 sa U H :=
  ⟨⟨h.1.1.moved hvm, h.1.2.moved hvm⟩, h.2.1.moved hvm, h.2.2.moved hvm⟩
theorem SG.kept {N0 : Nat} {sa : Nat → Nat} {U : State} {H H1 : Heap} (h : SG N0 sa U H) (hq : ∀ a : Nat, a < H.size → ¬ NA N0 a → H1[a]? = H[a]?) : SG N0 sa U H1 :=
  ⟨⟨h.1.1.kept hq, h.1.2.kept hq⟩, h.2.1.kept hq, h.2.2.kept hq⟩
/-- the String constants: whose, its entry, the text, its bytes; number j lies at sa (10 + j), its bytes at sa (40 + j) -/
def strK : List (String × Nat × String × List Int32) := [
  ("Bestratios", 316, "!", [33]),
  ("Bestratios", 287, "there is no such RATIO", [116, 104, 101, 114, 101, 32, 105, 115, 32, 110, 111, 32, 115, 117, 99, 104, 32, 82, 65, 84, 73, 79]),
  ("Bestratios", 56, "the bottom is 0", [116, 104, 101, 32, 98, 111, 116, 116, 111, 109, 32, 105, 115, 32, 48]),
  ("Bestratios", 290, "an argument is outside its bounds", [97, 110, 32, 97, 114, 103, 117, 109, 101, 110, 116, 32, 105, 115, 32, 111, 117, 116, 115, 105, 100, 101, 32, 105, 116, 115, 32, 98, 111, 117, 110, 100, 115]),
  ("Bestratios", 292, "an argument is below 0", [97, 110, 32, 97, 114, 103, 117, 109, 101, 110, 116, 32, 105, 115, 32, 98, 101, 108, 111, 119, 32, 48]),
  ("Bestratios", 157, "the ROW is full", [116, 104, 101, 32, 82, 79, 87, 32, 105, 115, 32, 102, 117, 108, 108]),
  ("BestratiosModel", 67, "", []),
  ("BestratiosModel", 80, "/", [47]),
  ("BestratiosModel", 194, " ", [32]),
  ("BestratiosModel", 257, "!", [33]),
  ("BestratiosModel", 259, "R", [82]),
  ("BestratiosModel", 261, "L", [76]),
  ("BestratiosModel", 273, "0", [48]),
  ("BestratiosModel", 275, "-", [45]),
  ("java/lang/StringLatin1", 151, "", []),
  ("BestratiosModel", 281, ".", [46])]
def SK1 (N0 : Nat) (sa : Nat → Nat) (U : State) (H : Heap) (j : Nat) (q : String × Nat × String × List Int32) : Prop :=
  vk_R q.1 q.2.1 q.2.2.1 (sa (10 + j)) U ∧ va_O "java/lang/String" (sa (10 + j)) (NA N0) U H ∧ va_OF "java/lang/String" "coder" "B" (.int 0) (sa (10 + j)) (NA N0) U H ∧ va_OF "java/lang/String" "value" "[B" (.ref (sa (40 + j))) (sa (10 + j)) (NA N0) U H ∧ va_T .byte (sa (40 + j)) q.2.2.2.length (fun i => .int (q.2.2.2.getD i 0)) (NA N0) U H
def SK (N0 : Nat) (sa : Nat → Nat) (U : State) (H : Heap) : Prop := ∀ (j : Nat) (q : String × Nat × String × List Int32), strK[j]? = some q → SK1 N0 sa U H j q
theorem SK.go {N0 : Nat} {sa : Nat → Nat} {u U : State} {H H1 : Heap} (hW : u.WarmedH U.vm) (h : SK N0 sa u H) (hq : ∀ a : Nat, a < H.size → ¬ NA N0 a → H1[a]? = H[a]?) : SK N0 sa U H1 := fun j q hj => by
  obtain ⟨h1, h2, h3, h4, h5⟩ := h j q hj
  exact ⟨h1.warm hW, (h2.moved hW.alike).kept hq, (h3.moved hW.alike).kept hq, (h4.moved hW.alike).kept hq, (h5.moved hW.alike).kept hq⟩
theorem SK.same {N0 : Nat} {sa : Nat → Nat} {u U : State} {H : Heap} (hv : U.vm = u.vm) (h : SK N0 sa u H) : SK N0 sa U H := fun j q hj => by
  obtain ⟨h1, h2, h3, h4, h5⟩ := h j q hj
  have ha : u.vm.Alike U.vm := by rw [hv]; exact Vm.Alike.refl _
  exact ⟨h1.same hv, h2.moved ha, h3.moved ha, h4.moved ha, h5.moved ha⟩
/-- more statics: arrays' classes, ArrayList's empty array, the digits, the caches -/
theorem ao_vm {t : FieldType} {A A' : Array Value} {u U : State} (h : u.vm = U.vm) (hb : (Cond.arrayOver t).before A u = true) : (Cond.arrayOver t).before A' U = true := by
  simp only [Cond.before, Cond.holds, Cond.value] at hb ⊢
  rw [← h]
  exact hb
theorem ao_warm {t : FieldType} {s U : State} (hW : s.WarmedH U.vm) (hZ : va_Nw (.arrayOver t) s) : va_Nw (.arrayOver t) U := ao_vm (u := s.setVm U.vm) (A := #[]) rfl (by rw [Cond.arrayOver_setVmC hW.alike]; exact hZ)
def ZT (N0 : Nat) (C n d : String) (ty : FieldType) (t N : Nat) (f : Nat → Value) (U : State) (H : Heap) : Prop := va_Z C n d (.ref t) (NA N0) U H ∧ va_T ty t N f (NA N0) U H
theorem ZT.moved {N0 : Nat} {C n d : String} {ty : FieldType} {t N : Nat} {f : Nat → Value} {u U : State} {H : Heap} (hvm : u.vm.Alike U.vm) (h : ZT N0 C n d ty t N f u H) : ZT N0 C n d ty t N f U H := ⟨h.1.moved hvm, h.2.moved hvm⟩
theorem ZT.kept {N0 : Nat} {C n d : String} {ty : FieldType} {t N : Nat} {f : Nat → Value} {U : State} {H H1 : Heap} (h : ZT N0 C n d ty t N f U H) (hq : ∀ a : Nat, a < H.size → ¬ NA N0 a → H1[a]? = H[a]?) : ZT N0 C n d ty t N f U H1 := ⟨h.1.kept hq, h.2.kept hq⟩
def bxC (N0 : Nat) (E d : String) (v : Nat → Value) (ad : Nat → Nat) (U : State) (H : Heap) : Prop := (∀ k : Nat, k < 256 → va_O E (ad k) (NA N0) U H) ∧ va_Ef 256 E "value" d v ad (NA N0) U H
theorem bxC.moved {N0 : Nat} {E d : String} {v : Nat → Value} {ad : Nat → Nat} {u U : State} {H : Heap} (hvm : u.vm.Alike U.vm) (h : bxC N0 E d v ad u H) : bxC N0 E d v ad U H := ⟨fun k hk => va_O.moved hvm (h.1 k hk), va_Ef.moved hvm h.2⟩
theorem bxC.kept {N0 : Nat} {E d : String} {v : Nat → Value} {ad : Nat → Nat} {U : State} {H H1 : Heap} (h : bxC N0 E d v ad U H) (hq : ∀ a : Nat, a < H.size → ¬ NA N0 a → H1[a]? = H[a]?) : bxC N0 E d v ad U H1 := ⟨fun k hk => (h.1 k hk).kept hq, h.2.kept hq⟩
abbrev xHN : MethodName := ⟨"java/util/Iterator", "hasNext", "()Z"⟩
abbrev xNX : MethodName := ⟨"java/util/Iterator", "next", "()Ljava/lang/Object;"⟩
/-- the Class object of the arrays of Objects; a static that is only carried; the constants' bytes: arrays of bytes, of a class that has a number -/
def XT (tk : Nat → ClassId) (N0 : Nat) (sa : Nat → Nat) (U : State) (H : Heap) : Prop := va_Mi "[Ljava/lang/Object;" (sa 6) U ∧ va_Zq "jdk/internal/util/Preconditions" "SIOOBE_FORMATTER" "Ljava/util/function/BiFunction;" (NA N0) U H ∧ (∀ j : Nat, j < 16 → ∃ cell : Cell, H[sa (40 + j)]? = some cell ∧ cell.vm.isStatics = false ∧ cell.cls = tk (40 + j) ∧ U.isArrayOf cell .byte ∧ ¬ NA N0 (sa (40 + j))) ∧ va_Fw "java/util/ArrayList$Itr" xHN yJx35411_hasNext_aae02 U ∧ va_Fw "java/util/ArrayList$Itr" xNX yJx35411_next_0502b U
theorem XT.moved {tk : Nat → ClassId} {N0 : Nat} {sa : Nat → Nat} {u U : State} {H : Heap} (hvm : u.vm.Alike U.vm) (h : XT tk N0 sa u H) : XT tk N0 sa U H := ⟨h.1.moved hvm, h.2.1.moved hvm, fun j hj => by
  obtain ⟨cell, h1, h2, h3, h4, h5⟩ := h.2.2.1 j hj
  exact ⟨cell, h1, h2, h3, State.isArrayOf_alike hvm h4, h5⟩, h.2.2.2.1.moved (by decide) hvm, h.2.2.2.2.moved (by decide) hvm⟩
theorem XT.kept {tk : Nat → ClassId} {N0 : Nat} {sa : Nat → Nat} {U : State} {H H1 : Heap} (h : XT tk N0 sa U H) (hq : ∀ a : Nat, a < H.size → ¬ NA N0 a → H1[a]? = H[a]?) : XT tk N0 sa U H1 := ⟨h.1, h.2.1.kept hq, fun j hj => by
  obtain ⟨cell, h1, h2, h3, h4, h5⟩ := h.2.2.1 j hj
  exact ⟨cell, (hq _ (Array.getElem?_eq_some_iff.mp h1).1 h5).trans h1, h2, h3, h4, h5⟩, h.2.2.2⟩
/-- the statics that the JDK's own code reads -/
def XS (tk : Nat → ClassId) (N0 : Nat) (sa : Nat → Nat) (U : State) (H : Heap) : Prop :=
  va_Z "java/lang/String" "COMPACT_STRINGS" "Z" (.int 1) (NA N0) U H ∧
  ZT N0 "java/util/ArrayList" "DEFAULTCAPACITY_EMPTY_ELEMENTDATA" "[Ljava/lang/Object;" (.object "java/lang/Object") (sa 1) 0 (fun _ => .null) U H ∧
  ZT N0 "java/lang/Integer" "DigitOnes" "[B" .byte (sa 2) 100 (fun j => .int (Int32.ofNat (48 + j % 10))) U H ∧
  ZT N0 "java/lang/Integer" "DigitTens" "[B" .byte (sa 3) 100 (fun j => .int (Int32.ofNat (48 + j / 10))) U H ∧
  ZT N0 "java/lang/Long$LongCache" "cache" "[Ljava/lang/Long;" (.object "java/lang/Long") (sa 4) 256 (fun j => .ref (sa (1000 + j))) U H ∧
  bxC N0 "java/lang/Long" "J" (fun j => .long (Int64.ofNat j - 128)) (fun j => sa (1000 + j)) U H ∧
  ZT N0 "java/lang/Integer$IntegerCache" "cache" "[Ljava/lang/Integer;" (.object "java/lang/Integer") (sa 5) 256 (fun j => .ref (sa (2000 + j))) U H ∧
  bxC N0 "java/lang/Integer" "I" (fun j => .int (Int32.ofNat j - 128)) (fun j => sa (2000 + j)) U H ∧
  va_Z "java/lang/Integer$IntegerCache" "high" "I" (.int 127) (NA N0) U H ∧ XT tk N0 sa U H
theorem XS.moved {tk : Nat → ClassId} {N0 : Nat} {sa : Nat → Nat} {u U : State} {H : Heap} (hvm : u.vm.Alike U.vm) (h : XS tk N0 sa u H) : XS tk N0 sa U H := by
  obtain ⟨h1, h2, h3, h4, h5, h6, h7, h8, h9, h10⟩ := h
  exact ⟨h1.moved hvm, h2.moved hvm, h3.moved hvm, h4.moved hvm, h5.moved hvm, h6.moved hvm, h7.moved hvm, h8.moved hvm, h9.moved hvm, h10.moved hvm⟩
theorem XS.kept {tk : Nat → ClassId} {N0 : Nat} {sa : Nat → Nat} {U : State} {H H1 : Heap} (h : XS tk N0 sa U H) (hq : ∀ a : Nat, a < H.size → ¬ NA N0 a → H1[a]? = H[a]?) : XS tk N0 sa U H1 := by
  obtain ⟨h1, h2, h3, h4, h5, h6, h7, h8, h9, h10⟩ := h
  exact ⟨h1.kept hq, h2.kept hq, h3.kept hq, h4.kept hq, h5.kept hq, h6.kept hq, h7.kept hq, h8.kept hq, h9.kept hq, h10.kept hq⟩
def XG (tk : Nat → ClassId) (N0 : Nat) (sa : Nat → Nat) (U : State) (H : Heap) : Prop := (∀ t, Cond.arrayOver t ∈ tables_1 → va_Nw (.arrayOver t) U) ∧ XS tk N0 sa U H
theorem XG.go {tk : Nat → ClassId} {N0 : Nat} {sa : Nat → Nat} {u U : State} {H H1 : Heap} (hW : u.WarmedH U.vm) (h : XG tk N0 sa u H) (hq : ∀ a : Nat, a < H.size → ¬ NA N0 a → H1[a]? = H[a]?) : XG tk N0 sa U H1 := ⟨fun t ht => ao_warm hW (h.1 t ht), (h.2.moved hW.alike).kept hq⟩
theorem XG.same {tk : Nat → ClassId} {N0 : Nat} {sa : Nat → Nat} {u U : State} {H : Heap} (hv : U.vm = u.vm) (h : XG tk N0 sa u H) : XG tk N0 sa U H := ⟨fun t ht => ao_vm (A := #[]) hv.symm (h.1 t ht), h.2.moved (by rw [hv]; exact Vm.Alike.refl _)⟩
/-- what every method is given: the tables, the statics -/
def Ctx (D : va_G) (tk : Nat → ClassId) (N0 : Nat) (sa : Nat → Nat) (U : State) : Prop :=
  va_K D vwCl (tyG tk) U ∧ N0 ≤ U.heap.size ∧ SG N0 sa U U.heap ∧ (∀ w ∈ tables_1, isNest w = true → va_Nw w U) ∧ SK N0 sa U U.heap ∧ XG tk N0 sa U U.heap
theorem Ctx.go {D : va_G} {tk : Nat → ClassId} {N0 : Nat} {sa : Nat → Nat} {s U : State} {A : Nat → Prop} {H : Heap} {locs : List Loc} (h : Ctx D tk N0 sa s) (hS : va_S A s.heap H locs) (hA : ∀ q, A q → N0 ≤ q) (hU : U.heap = H) (hW : s.WarmedH U.vm) : Ctx D tk N0 sa U := by
  obtain ⟨h1, h2, h3, h4, h5, h6⟩ := h
  have hq : ∀ a : Nat, a < s.heap.size → ¬ NA N0 a → H[a]? = s.heap[a]? := fun a ha hn => hS.2.1 a ha (fun z => hn (hA a z))
  refine ⟨va_K.moved hW.alike h1, by rw [hU]; exact Nat.le_trans h2 hS.1, ?_, fun w hw hn => nest_warm hn hW (h4 w hw hn), ?_, ?_⟩
  · rw [hU]
    exact (h3.moved hW.alike).kept hq
  · rw [hU]
    exact h5.go hW hq
  · rw [hU]
    exact h6.go hW hq
theorem Ctx.call {D : va_G} {tk : Nat → ClassId} {N0 : Nat} {sa : Nat → Nat} {U : State} {g : JFrame} {mk : MethodId} {a : Array Value} (h : Ctx D tk N0 sa U) : Ctx D tk N0 sa (U.calling g mk a) := by
  obtain ⟨h1, h2, h3, h4, h5, h6⟩ := h
  exact ⟨va_K.moved (u := U) (U := U.calling g mk a) (Vm.Alike.refl U.vm) h1, h2, SG.moved (u := U) (U := U.calling g mk a) (Vm.Alike.refl U.vm) h3, fun w hw hn => va_Nw.same (by cases w <;> first | rfl | (simp [isNest] at hn)) (u := U) (U := U.calling g mk a) rfl (h4 w hw hn), SK.same (u := U) (U := U.calling g mk a) rfl h5, XG.same (u := U) (U := U.calling g mk a) rfl h6⟩
abbrev cP (D : va_G) (tk : Nat → ClassId) (N0 : Nat) (sa : Nat → Nat) (av : List Value) (sz : Nat) (F : Heap → Prop) : Array Value → State → Prop := va_Pc av (fun U => U.heap.size = sz ∧ Ctx D tk N0 sa U ∧ F U.heap)
theorem cP_blind {D : va_G} {tk : Nat → ClassId} {N0 : Nat} {sa : Nat → Nat} {av : List Value} {sz : Nat} {F : Heap → Prop} : FrameBlind (cP D tk N0 sa av sz F) := fun a U g mk q => ⟨q.1, q.2.1, q.2.2.1.call, q.2.2.2⟩
theorem cP_pre {D : va_G} {tk : Nat → ClassId} {N0 : Nat} {sa : Nat → Nat} {As : List Value} {F : Heap → Prop} {s : State} {A : Nat → Prop} {H : Heap} {locs : List Loc} (h : Ctx D tk N0 sa s) (hS : va_S A s.heap H locs) (hA : ∀ q, A q → N0 ≤ q) (hF : F H) : PreS s H (cP D tk N0 sa As H.size F) As :=
  ⟨cP_blind, fun U hU hW => ⟨rfl, by rw [hU], h.go hS hA hU hW, by rw [hU]; exact hF⟩⟩
abbrev kQl (Rr : Int64 → Heap → Prop) (A : Nat → Prop) : Array Value → State → Outcome → State → Prop := va_Ql (S := Heap) Rr (fun h t => t.heap = h) A
abbrev kQi (Rr : Int32 → Heap → Prop) (A : Nat → Prop) : Array Value → State → Outcome → State → Prop := va_Qi (S := Heap) Rr (fun h t => t.heap = h) A
abbrev kQv (Rr : Heap → Prop) (A : Nat → Prop) : Array Value → State → Outcome → State → Prop := va_Qv (S := Heap) Rr (fun h t => t.heap = h) A
/-- an answer that is a reference: its address -/
def kQr (Rr : Nat → Heap → Prop) (A : Nat → Prop) : Array Value → State → Outcome → State → Prop := va_Qr (S := Heap) (fun _ => True) (fun h a t => t.heap = h ∧ Rr a h) A
section LB
variable {l : Launch} {D : va_G} {tk : Nat → ClassId} {N0 : Nat} {sa : Nat → Nat}
theorem mStart {y : MethodName} {cc : ByteArray} {maxL : Nat} {ret : Option FieldType} {rm : Room} {av : List Value} {sz : Nat} {F : Heap → Prop} {Qc : Array Value → State → Outcome → State → Prop} {mc ms : Nat} {A : Nat → Prop} (own : String) (hown : y.cls = own) (hy : plainFor y = true) (hlen : (lg_sl av).length ≤ maxL)
    (body : ∀ p e s m args below meth c, CallFix p m c cc maxL s args (wsy y cc maxL ret) own → meth.sig.returnType = ret → meth.locks = false → meth.name = y.name → s.heap.size = sz → Ctx D tk N0 sa s → F s.heap →
      ∀ ls, lv_has ls maxL (lv_args 0 av) → W p l e rm s m args below meth c s.heap [] 0 0 (MQ below Qc args s mc ms A) (F0 m 0 ls [])) : Met l y (wsy y cc maxL ret) rm (cP D tk N0 sa av sz F) Qc mc ms A := by
  refine MetFree.of_bodySF (code := cc) (maxLocals := maxL) (ret := ret) hy ?_ ?_
  · intro args s m h hn
    obtain ⟨meth, c, h1, h2, h3, h4, h5, h6, -, -⟩ := Cond.code_spec hn (atoms_spec (ws := wsy y cc maxL ret) h _ List.mem_cons_self)
    exact ⟨meth, c, h1, h2, h3, h4, h5, h6⟩
  · intro p e s m args below meth c s₁ B hml hv _
    obtain ⟨rfl, hsz, hC, hF⟩ := hv
    have hl := lv_entry av (n := maxL) hlen
    have hh0 : s₁.heap = s.heap := by rw [B.state]; rfl
    rw [lg_entry_eq]
    obtain ⟨t, a1, o, b1, b2, b3⟩ := body p e s m _ below meth c ⟨B.exec, B.bytes, hml, by rw [← hown]; exact findClass_of_methodNamed B.named, atoms_spec (ws := wsy y cc maxL ret) B.pre⟩ B.returns B.notSynchronized (name_of_methodNamed B.named B.method).1 hsz hC hF _ hl s₁ hh0 (Stand.of_body B)
    exact ⟨t, o, a1, b1, b2, ⟨b3.1, b3.2⟩⟩
end LB
def c1 (D : va_G) (a : Nat) (e : va_E) (H : Heap) : Prop := va_at D vwCl (a, e) H
theorem c1.P {D : va_G} {a : Nat} {e : va_E} {H : Heap} (h : c1 D a e H) : va_P D vwCl [(a, e)] H := by
  intro k q hk
  match k, hk with
  | 0, hk => cases hk; exact h
  | k + 1, hk => simp at hk
theorem c1.kept {D : va_G} {a : Nat} {e : va_E} {H H1 : Heap} (h : c1 D a e H) (hq : H1[a]? = H[a]?) : c1 D a e H1 := va_at.kept h hq
theorem c1.lt {D : va_G} {a : Nat} {e : va_E} {H : Heap} (h : c1 D a e H) : a < H.size := va_at.lt h
section LR
variable {p : Program} {l : Launch} {e : Env} {R : Room} {s : State} {m : MethodId} {args : Array Value} {below : List Frame} {meth : Method} {c : Code} {H : Heap} {locs : List Loc} {cells slots : Nat} {Q : State → Prop}
variable {cc : ByteArray} {pc nL : Nat} {ls : Array Slot} {rest st0 : List Value} {Ts : List Cond} {own : String} {D : va_G} {tk : Nat → ClassId} {N0 : Nat} {sa : Nat → Nat} {A0 A1 : Nat → Prop}
/-- lcmp and the branch behind it -/
theorem r_lcge (E : CallFix p m c cc nL s args Ts own) {x y : Int64} {off : Int} {tgt : Nat} (d1 : decode cc pc = .ok (.lcmp, 1)) (d2 : decode cc (pc + 1) = .ok (.ifCond .ge off, 3)) (ht : ((pc + 1 : Nat) : Int) + off = (tgt : Int))
    (kt : y ≤ x → W p l e R s m args below meth c H locs cells slots Q (F0 m tgt ls rest)) (kf : ¬ y ≤ x → W p l e R s m args below meth c H locs cells slots Q (F0 m (pc + 1 + 3) ls rest)) : W p l e R s m args below meth c H locs cells slots Q (F0 m pc ls (.long y :: .long x :: rest)) :=
  W.lcmp E.1 E.2.1 d1 (lv_if_ge E.1 E.2.1 d2 ht (fun h => kt ((lg_cmp_ge x y).mp h)) (fun h => kf (fun z => h ((lg_cmp_ge x y).mpr z))))
theorem r_lcle (E : CallFix p m c cc nL s args Ts own) {x y : Int64} {off : Int} {tgt : Nat} (d1 : decode cc pc = .ok (.lcmp, 1)) (d2 : decode cc (pc + 1) = .ok (.ifCond .le off, 3)) (ht : ((pc + 1 : Nat) : Int) + off = (tgt : Int))
    (kt : x ≤ y → W p l e R s m args below meth c H locs cells slots Q (F0 m tgt ls rest)) (kf : ¬ x ≤ y → W p l e R s m args below meth c H locs cells slots Q (F0 m (pc + 1 + 3) ls rest)) : W p l e R s m args below meth c H locs cells slots Q (F0 m pc ls (.long y :: .long x :: rest)) :=
  W.lcmp E.1 E.2.1 d1 (lv_if_le E.1 E.2.1 d2 ht (fun h => kt ((lg_cmp_le x y).mp h)) (fun h => kf (fun z => h ((lg_cmp_le x y).mpr z))))
theorem r_lcgt (E : CallFix p m c cc nL s args Ts own) {x y : Int64} {off : Int} {tgt : Nat} (d1 : decode cc pc = .ok (.lcmp, 1)) (d2 : decode cc (pc + 1) = .ok (.ifCond .gt off, 3)) (ht : ((pc + 1 : Nat) : Int) + off = (tgt : Int))
    (kt : y < x → W p l e R s m args below meth c H locs cells slots Q (F0 m tgt ls rest)) (kf : ¬ y < x → W p l e R s m args below meth c H locs cells slots Q (F0 m (pc + 1 + 3) ls rest)) : W p l e R s m args below meth c H locs cells slots Q (F0 m pc ls (.long y :: .long x :: rest)) :=
  W.lcmp E.1 E.2.1 d1 (lv_if_gt E.1 E.2.1 d2 ht (fun h => kt ((lg_cmp_gt x y).mp h)) (fun h => kf (fun z => h ((lg_cmp_gt x y).mpr z))))
theorem r_lclt (E : CallFix p m c cc nL s args Ts own) {x y : Int64} {off : Int} {tgt : Nat} (d1 : decode cc pc = .ok (.lcmp, 1)) (d2 : decode cc (pc + 1) = .ok (.ifCond .lt off, 3)) (ht : ((pc + 1 : Nat) : Int) + off = (tgt : Int))
    (kt : x < y → W p l e R s m args below meth c H locs cells slots Q (F0 m tgt ls rest)) (kf : ¬ x < y → W p l e R s m args below meth c H locs cells slots Q (F0 m (pc + 1 + 3) ls rest)) : W p l e R s m args below meth c H locs cells slots Q (F0 m pc ls (.long y :: .long x :: rest)) :=
  W.lcmp E.1 E.2.1 d1 (lv_if_lt E.1 E.2.1 d2 ht (fun h => kt ((lg_cmp_lt x y).mp h)) (fun h => kf (fun z => h ((lg_cmp_lt x y).mpr z))))
theorem r_lceq (E : CallFix p m c cc nL s args Ts own) {x y : Int64} {off : Int} {tgt : Nat} (d1 : decode cc pc = .ok (.lcmp, 1)) (d2 : decode cc (pc + 1) = .ok (.ifCond .eq off, 3)) (ht : ((pc + 1 : Nat) : Int) + off = (tgt : Int))
    (kt : x = y → W p l e R s m args below meth c H locs cells slots Q (F0 m tgt ls rest)) (kf : ¬ x = y → W p l e R s m args below meth c H locs cells slots Q (F0 m (pc + 1 + 3) ls rest)) : W p l e R s m args below meth c H locs cells slots Q (F0 m pc ls (.long y :: .long x :: rest)) :=
  W.lcmp E.1 E.2.1 d1 (lv_if_eq E.1 E.2.1 d2 ht (fun h => kt ((lg_cmp_eq x y).mp h)) (fun h => kf (fun z => h ((lg_cmp_eq x y).mpr z))))
theorem r_lcne (E : CallFix p m c cc nL s args Ts own) {x y : Int64} {off : Int} {tgt : Nat} (d1 : decode cc pc = .ok (.lcmp, 1)) (d2 : decode cc (pc + 1) = .ok (.ifCond .ne off, 3)) (ht : ((pc + 1 : Nat) : Int) + off = (tgt : Int))
    (kt : ¬ x = y → W p l e R s m args below meth c H locs cells slots Q (F0 m tgt ls rest)) (kf : x = y → W p l e R s m args below meth c H locs cells slots Q (F0 m (pc + 1 + 3) ls rest)) : W p l e R s m args below meth c H locs cells slots Q (F0 m pc ls (.long y :: .long x :: rest)) :=
  W.lcmp E.1 E.2.1 d1 (lv_if_ne E.1 E.2.1 d2 ht (fun h => kt (fun z => h ((lg_cmp_eq x y).mpr z))) (fun h => kf ((lg_cmp_eq x y).mp h)))
/-- reading a field of an object that is known -/
theorem r_get (E : CallFix p m c cc nL s args Ts own) (hC : Ctx D tk N0 sa s) {a ci N index : Nat} {fs : List Value} {C ref : String} {T : u_T} (h : c1 D a (.inr (ci, fs)) H) (k : Nat) {v : Value} (hv : fs[k]? = some v) (hc : vwCl[ci]? = some (C, T, N)) (hk : k < N) (hin : ∀ w ∈ u_ws C T N, w ∈ Ts) (hlink : Cond.fieldLink own index ref (T k).2.1 (T k).2.2.1 ∈ Ts) (hsame : ∀ x, s.fieldFound? (T k).1 (T k).2.1 (T k).2.2.1 = some x → s.fieldFound? ref (T k).2.1 (T k).2.2.1 = some x) (hdg : decode cc pc = .ok (.getfield index, 3))
    (kk : W p l e R s m args below meth c H locs cells slots Q (F0 m (pc + 3) ls (v :: rest))) : W p l e R s m args below meth c H locs cells slots Q (F0 m pc ls (.ref a :: rest)) :=
  va_get E.1 E.2.1 E.2.2.2.2 hin E.2.2.2.1 hC.1 h.P 0 rfl hc k hk (E.2.2.2.2 _ hlink) hsame hv hdg kk
/-- writing one: what it says of the heap -/
theorem r_put (E : CallFix p m c cc nL s args Ts own) (hC : Ctx D tk N0 sa s) {a ci N index : Nat} {fs : List Value} {C ref : String} {T : u_T} (h : c1 D a (.inr (ci, fs)) H) (hS : va_S A0 s.heap H locs) (hA : A0 a) (k : Nat) (ty0 : Nat → FieldType) (hty : ∀ k, k < N → parseFieldDescriptor (T k).2.2.1 = some (ty0 k)) (hnm : ∀ a, a < N → ∀ b, b < N → a ≠ b → (T a).2.1 ≠ (T b).2.1) (hc : vwCl[ci]? = some (C, T, N)) (hk : k < N) (hl : k < fs.length) (hin : ∀ w ∈ u_ws C T N, w ∈ Ts) (hlink : Cond.fieldLink own index ref (T k).2.1 (T k).2.2.1 ∈ Ts) (hsame : ∀ x, s.fieldFound? (T k).1 (T k).2.1 (T k).2.2.1 = some x → s.fieldFound? ref (T k).2.1 (T k).2.2.1 = some x) (hfin : (T k).2.2.2 = false) {v : Value} (hn : narrow (ty0 k) v = v) (hfit : fits (ty0 k) v = true)
    (hdg : decode cc pc = .ok (.putfield index, 3)) (kk : ∀ (H1 : Heap) (locs1 : List Loc), c1 D a (.inr (ci, fs.set k v)) H1 → (∀ q, q ≠ a → H1[q]? = H[q]?) → H1.size = H.size → va_S A0 s.heap H1 locs1 → W p l e R s m args below meth c H1 locs1 cells slots Q (F0 m (pc + 3) ls rest)) : W p l e R s m args below meth c H locs cells slots Q (F0 m pc ls (v :: .ref a :: rest)) := by
  obtain ⟨hexec, hb, -, hown, hts⟩ := E
  have hK := hC.1
  have hap := va_apart (own := own) hts hin ty0 hty hnm hK hc
  obtain ⟨r, h1, cell, q1, q2, q3, q4⟩ := h
  have hr : r = (C, T, N) := Option.some.inj (h1.symm.trans hc)
  subst hr
  obtain ⟨hSl, hfc, kC, hkC, hkind⟩ := hK.1 ci _ hc
  obtain ⟨cf, kf, fi, f, hi, hsl⟩ := hSl k hk
  have hlay := hts _ (hin _ (u_in_lay hk))
  unfold u_lay at hlay
  rw [if_neg (by rw [hfin]; decide)] at hlay
  have hst := (u_facts hfc hkC (u_lays hts hin hk) hi).1
  have h6 := u_store hfc hkC hkind hlay hi (hty k hk) hn hfit
  refine W.putK hexec hb (f := f) ⟨hown, hts _ hlink, ⟨_, _, _, hsame _ hi⟩, hst⟩ (by rw [q2]; exact h6) q1 q3 (by rw [hsl]; exact k2_hasslot (q4 k hk)) rfl rfl hdg fun H' e1 e2 e3 => ?_
  rw [hsl] at e1 ⊢
  exact kk H' _ ⟨_, hc, t_OB.to (V := updV (vp_V fs) k v) ⟨_, e1, q2, q3, t_set q4 hap hk v⟩ (fun j _ => vp_updV_set hl v j)⟩ e3 e2 (hS.put e2 e3 hA)
/-- the answers -/
theorem r_lret (E : CallFix p m c cc nL s args Ts own) (hr : meth.sig.returnType = some .long) (hlk : meth.locks = false) (hS : va_S A0 s.heap H locs) {mc ms : Nat} (hc : cells ≤ mc) (hs : slots ≤ ms) {v : Int64} {Rr : Int64 → Heap → Prop} (hR : Rr v H) (hdg : decode cc pc = .ok (.lreturn, 1)) : W p l e R s m args below meth c H locs cells slots (MQ below (kQl Rr A0) args s mc ms A0) (F0 m pc ls [.long v]) :=
  W.widen hc hs (W.lret E.1 E.2.1 hr (fun t ht _ => ⟨⟨v, H, rfl, hR, ht⟩, hS.F ht⟩) hS.2.2 hdg hlk)
theorem r_iret (E : CallFix p m c cc nL s args Ts own) (hr : meth.sig.returnType = some .int) (hlk : meth.locks = false) (hS : va_S A0 s.heap H locs) {mc ms : Nat} (hc : cells ≤ mc) (hs : slots ≤ ms) {v : Int32} {Rr : Int32 → Heap → Prop} (hR : Rr v H) (hdg : decode cc pc = .ok (.ireturn, 1)) : W p l e R s m args below meth c H locs cells slots (MQ below (kQi Rr A0) args s mc ms A0) (F0 m pc ls [.int v]) :=
  W.widen hc hs (W.iret E.1 E.2.1 hr (fun t ht _ => ⟨⟨v, H, rfl, hR, ht⟩, hS.F ht⟩) hS.2.2 hdg hlk)
theorem r_zret (E : CallFix p m c cc nL s args Ts own) (hr : meth.sig.returnType = some .boolean) (hlk : meth.locks = false) (hS : va_S A0 s.heap H locs) {mc ms : Nat} (hc : cells ≤ mc) (hs : slots ≤ ms) {v : Int32} {Rr : Int32 → Heap → Prop} (hn : narrow .boolean (.int v) = .int v) (hR : Rr v H) (hdg : decode cc pc = .ok (.ireturn, 1)) : W p l e R s m args below meth c H locs cells slots (MQ below (kQi Rr A0) args s mc ms A0) (F0 m pc ls [.int v]) :=
  W.widen hc hs (W.zret E.1 E.2.1 hr hn (fun t ht _ => ⟨⟨v, H, rfl, hR, ht⟩, hS.F ht⟩) hS.2.2 hdg hlk)
theorem r_vret (E : CallFix p m c cc nL s args Ts own) (hr : meth.sig.returnType = none) (hlk : meth.locks = false) (hS : va_S A0 s.heap H locs) {mc ms : Nat} (hc : cells ≤ mc) (hs : slots ≤ ms) {Rr : Heap → Prop} (hR : Rr H) (hdg : decode cc pc = .ok (.return_, 1)) : W p l e R s m args below meth c H locs cells slots (MQ below (kQv Rr A0) args s mc ms A0) (F0 m pc ls []) :=
  W.widen hc hs (W.vret E.1 E.2.1 hr (fun t ht _ => ⟨⟨H, rfl, hR, ht⟩, hS.F ht⟩) hS.2.2 hdg hlk)
end LR
