/-! ===== methods that may throw ===== -/
/-- what a method that throws says: which exception, when; nothing old has changed -/
abbrev kX (RX : String → Prop) (sz : Nat) : String → State → State → Prop := vx_X (S := Unit) (fun _ => True) (fun E _ _ => RX E) (nwA sz)
section LX
variable {l : Launch} {D : va_G} {tk : Nat → ClassId} {N0 : Nat} {sa : Nat → Nat}
theorem mStartX {y : MethodName} {cc : ByteArray} {maxL : Nat} {ret : Option FieldType} {rm : Room} {av : List Value} {sz : Nat} {F : Heap → Prop} {Qc : Array Value → State → Outcome → State → Prop} {XC : String → State → State → Prop} {mc ms : Nat} {A : Nat → Prop} (own : String) (hown : y.cls = own) (hy : plainName y.cls = true) (hlen : (lg_sl av).length ≤ maxL)
    (body : ∀ p e s m args below meth c, CallFix p m c cc maxL s args (wsy y cc maxL ret) own → meth.sig.returnType = ret → meth.locks = false → (∀ x ∈ c.exceptionTable.toList, False) → s.heap.size = sz → Ctx D tk N0 sa s → F s.heap →
      ∀ ls, lv_has ls maxL (lv_args 0 av) → W p l e rm s m args below meth c s.heap [] 0 0 (vx_MQ below Qc XC args s mc ms A) (F0 m 0 ls [])) : vx_Met l y (wsy y cc maxL ret) rm (cP D tk N0 sa av sz F) Qc XC mc ms A := by
  refine vx_ofW (cc := cc) (maxL := maxL) (ret := ret) hy rfl ?_
  intro p e s m args below meth c s₁ B hml ht hv
  obtain ⟨rfl, hsz, hC, hF⟩ := hv
  have hl := lv_entry av (n := maxL) hlen
  rw [lg_entry_eq]
  exact body p e s m _ below meth c ⟨B.exec, B.bytes, hml, by rw [← hown]; exact findClass_of_methodNamed B.named, atoms_spec (ws := wsy y cc maxL ret) B.pre⟩ B.returns B.notSynchronized ht hsz hC hF _ hl
end LX
section KX
variable {p : Program} {l : Launch} {e : Env} {R : Room} {s : State} {m : MethodId} {args : Array Value} {below : List Frame} {meth : Method} {c : Code} {H : Heap} {locs : List Loc} {cells slots : Nat} {Q : State → Prop}
variable {cc : ByteArray} {pc nL : Nat} {ls : Array Slot} {rest st0 : List Value} {own : String} {D : va_G} {tk : Nat → ClassId} {N0 : Nat} {sa : Nat → Nat} {A0 A1 : Nat → Prop}
variable {y : MethodName} {bytes : ByteArray} {maxL mc ms n index : Nat} {ret : Option FieldType} {rm : Room} {F : Heap → Prop} {Qc : Array Value → State → Outcome → State → Prop} {XC : String → State → State → Prop} {As : List Value} {w0 : Cond} {b : Nat} {a : Array Value}
theorem kx_S (E : CallFix p m c cc nL s args (w0 :: GW) own) (hC : Ctx D tk N0 sa s) (hS : va_S A0 s.heap H locs) (hA : ∀ q, A0 q → N0 ≤ q) (hl : ls.size = nL)
    (hM : vx_Met l y (wsy y bytes maxL ret) rm (cP D tk N0 sa As H.size F) Qc XC mc ms A1) (w1 : Cond.methodLink own index y ∈ GW) (w2 : Cond.static y ∈ GW) (w3 : Cond.initialized y.cls ∈ GW) (w4 : Cond.code y bytes maxL ret ∈ GW) (hd : okD y n = true) (hlen : As.length = n) (hR : okR rm R maxL mc ms cells slots)
    (hst : st0 = As.reverse ++ rest) (hcat : (rest.map fun v => v.category).sum ≤ 8) (hF : F H) (hdg : decode cc pc = .ok (.invokestatic index, 3)) :
    vx_Run p l e R s m args below meth c H locs cells slots mc ms (F0 m pc ls st0) rest (Qc As.toArray) XC A1 :=
  vx_runS (n := As.length) E hM (va_cwS As.length E.2.2.2.2 (goodIn_app (fun w hw => by
    simp only [List.mem_cons, List.not_mem_nil, or_false] at hw
    have hm : w ∈ GW := by rcases hw with rfl | rfl | rfl <;> assumption
    exact ⟨List.mem_cons_of_mem _ hm, good_of_word (List.mem_filter.mp hm).2⟩) (gw_in w4)) rfl hR.1.1 hR.1.2 (okD.of (hlen ▸ hd)) hR.2.1) (cP_pre hC hS hA hF) rfl rfl hl hst (lv_room hcat) hdg hR.2.2
theorem kx_V {C : String} (E : CallFix p m c cc nL s args (w0 :: GW) own) (hC : Ctx D tk N0 sa s) (hS : va_S A0 s.heap H locs) (hA : ∀ q, A0 q → N0 ≤ q) (hl : ls.size = nL) (hrecv : ∃ cell : Cell, H[b]? = some cell ∧ cell.vm.isStatics = false ∧ s.vm.findClass C = some cell.cls) (hyC : y.cls = C)
    (hM : vx_Met l y (wsy y bytes maxL ret) rm (cP D tk N0 sa (.ref b :: As) H.size F) Qc XC mc ms A1) (w1 : Cond.methodLink own index y ∈ GW) (w2 : Cond.instanceMethod y ∈ GW) (w3 : Cond.selects C y y ∈ GW) (w5 : Cond.initialized C ∈ GW) (w4 : Cond.code y bytes maxL ret ∈ GW) (hd : okD y n = true) (hlen : As.length = n) (hR : okR rm R maxL mc ms cells slots)
    (hst : st0 = As.reverse ++ .ref b :: rest) (hcat : (rest.map fun v => v.category).sum ≤ 8) (hF : F H) (hdg : decode cc pc = .ok (.invokevirtual index, 3)) :
    vx_Run p l e R s m args below meth c H locs cells slots mc ms (F0 m pc ls st0) rest (Qc (Value.ref b :: As).toArray) XC A1 :=
  vx_runV (n := As.length) E hM (cwV As.length E.2.2.2.2 (goodIn_app (fun w hw => by
    simp only [List.mem_cons, List.not_mem_nil, or_false] at hw
    have hm : w ∈ GW := by rcases hw with rfl | rfl | rfl | rfl <;> assumption
    exact ⟨List.mem_cons_of_mem _ hm, good_of_word (List.mem_filter.mp hm).2⟩) (gw_in w4)) rfl hR.1.1 hR.1.2 ⟨hyC, okD.of (hlen ▸ hd)⟩ hR.2.1) ⟨(cP_pre hC hS hA hF).1, hrecv, (cP_pre hC hS hA hF).2⟩ rfl rfl hl hst (lv_room hcat) hdg hR.2.2
/-- a callee's exception goes on to the caller -/
theorem x_out {RX RX1 : String → Prop} {MC MS : Nat} (hlk : meth.locks = false) (htb : ∀ x ∈ c.exceptionTable.toList, False) (hU : ∀ q, q < s.heap.size → H[q]? = s.heap[q]?) (hS : va_S A0 s.heap H locs) (hRX : ∀ E, RX1 E → RX E) (hcs : cells ≤ MC ∧ slots ≤ MS) {H1 : Heap} {locs1 : List Loc} {E1 : String} {ce : Cell} {q9 : Addr} (hx : RX1 E1) (hz : H.size ≤ H1.size) (hk : ∀ q : Nat, q < H.size → ¬ nwA H.size q → H1[q]? = H[q]?) (hS1 : va_S A0 s.heap H1 locs1) (h1 : H1[q9]? = some ce) (h2 : ce.vm = .none) (h3 : s.vm.findClass E1 = some ce.cls) :
    vx_W p l e R s m args below meth c H1 locs1 cells slots (vx_MQ below Qc (kX RX s.heap.size) args s MC MS A0) (F0 m pc ls rest) q9 :=
  vx_out (fun x hx => (htb x hx).elim) hlk h1 h2 h3 (fun t ht _ => ⟨(), trivial, hRX _ hx, by rw [ht]; exact hS1.1, fun q hq _ => by
    have hq2 : q < H.size := Nat.lt_of_lt_of_le hq hS.1
    rw [ht, hk q hq2 (Nat.not_le.mpr hq2)]; exact hU q hq⟩) hS1.2.2 hcs.1 hcs.2
theorem kx_v {Rr : Heap → Prop} {RX RX1 : String → Prop} {MC MS : Nat} (hr : vx_Run p l e R s m args below meth c H locs cells slots mc ms (F0 m pc ls st0) rest (kQv Rr A1 a) (kX RX1 H.size) A1) (hS : va_S A0 s.heap H locs) (hAA : ∀ q, q < H.size → A1 q → A0 q) (hnew : ∀ q, s.heap.size ≤ q → A0 q) (hlk : meth.locks = false) (htb : ∀ x ∈ c.exceptionTable.toList, False) (hU : ∀ q, q < s.heap.size → H[q]? = s.heap[q]?) (hRX : ∀ E, RX1 E → RX E) (hcs : cells + mc ≤ MC ∧ slots + ms ≤ MS)
    (kk : ∀ (H1 : Heap) (locs1 : List Loc), Rr H1 → H.size ≤ H1.size → (∀ q : Nat, q < H.size → ¬ A1 q → H1[q]? = H[q]?) → va_S A0 s.heap H1 locs1 → W p l e R s m args below meth c H1 locs1 (cells + mc) (slots + ms) (vx_MQ below Qc (kX RX s.heap.size) args s MC MS A0) (F0 m (pc + 3) ls rest)) : W p l e R s m args below meth c H locs cells slots (vx_MQ below Qc (kX RX s.heap.size) args s MC MS A0) (F0 m pc ls st0) :=
  vx_callv hr hS hAA (fun q h => by
    rcases Nat.lt_or_ge q H.size with z | z
    · exact hAA q z h
    · exact hnew q (Nat.le_trans hS.1 z)) (fun q z w => absurd w (Nat.not_le.mpr z)) (fun E1 ce q9 u t H1 locs1 ht _ _ hb hz hk hS1 h1 h2 h3 => x_out hlk htb hU hS hRX hcs hb hz hk hS1 h1 h2 h3) (fun u t H1 locs1 ht _ hp hb hz hk hS1 => by
    have e9 : u = H1 := hb.symm.trans ht
    subst e9
    exact kk u locs1 hp hz hk hS1)
theorem kx_i {Rr : Int32 → Heap → Prop} {RX RX1 : String → Prop} {MC MS : Nat} (hr : vx_Run p l e R s m args below meth c H locs cells slots mc ms (F0 m pc ls st0) rest (kQi Rr A1 a) (kX RX1 H.size) A1) (hS : va_S A0 s.heap H locs) (hAA : ∀ q, q < H.size → A1 q → A0 q) (hnew : ∀ q, s.heap.size ≤ q → A0 q) (hlk : meth.locks = false) (htb : ∀ x ∈ c.exceptionTable.toList, False) (hU : ∀ q, q < s.heap.size → H[q]? = s.heap[q]?) (hRX : ∀ E, RX1 E → RX E) (hcs : cells + mc ≤ MC ∧ slots + ms ≤ MS)
    (kk : ∀ (r : Int32) (H1 : Heap) (locs1 : List Loc), Rr r H1 → H.size ≤ H1.size → (∀ q : Nat, q < H.size → ¬ A1 q → H1[q]? = H[q]?) → va_S A0 s.heap H1 locs1 → W p l e R s m args below meth c H1 locs1 (cells + mc) (slots + ms) (vx_MQ below Qc (kX RX s.heap.size) args s MC MS A0) (F0 m (pc + 3) ls (.int r :: rest))) : W p l e R s m args below meth c H locs cells slots (vx_MQ below Qc (kX RX s.heap.size) args s MC MS A0) (F0 m pc ls st0) :=
  vx_calli hr hS hAA (fun q h => by
    rcases Nat.lt_or_ge q H.size with z | z
    · exact hAA q z h
    · exact hnew q (Nat.le_trans hS.1 z)) (fun q z w => absurd w (Nat.not_le.mpr z)) (fun E1 ce q9 u t H1 locs1 ht _ _ hb hz hk hS1 h1 h2 h3 => x_out hlk htb hU hS hRX hcs hb hz hk hS1 h1 h2 h3) (fun r u t H1 locs1 ht _ hp hb hz hk hS1 => by
    have e9 : u = H1 := hb.symm.trans ht
    subst e9
    exact kk r u locs1 hp hz hk hS1)
/-- .. that answers a reference -/
theorem kx_r {Rr : Nat → Heap → Prop} {RX RX1 : String → Prop} {MC MS : Nat} (hr : vx_Run p l e R s m args below meth c H locs cells slots mc ms (F0 m pc ls st0) rest (kQr Rr A1 a) (kX RX1 H.size) A1) (hS : va_S A0 s.heap H locs) (hAA : ∀ q, q < H.size → A1 q → A0 q) (hnew : ∀ q, s.heap.size ≤ q → A0 q) (hlk : meth.locks = false) (htb : ∀ x ∈ c.exceptionTable.toList, False) (hU : ∀ q, q < s.heap.size → H[q]? = s.heap[q]?) (hRX : ∀ E, RX1 E → RX E) (hcs : cells + mc ≤ MC ∧ slots + ms ≤ MS)
    (kk : ∀ (r : Nat) (H1 : Heap) (locs1 : List Loc), Rr r H1 → H.size ≤ H1.size → (∀ q : Nat, q < H.size → ¬ A1 q → H1[q]? = H[q]?) → va_S A0 s.heap H1 locs1 → W p l e R s m args below meth c H1 locs1 (cells + mc) (slots + ms) (vx_MQ below Qc (kX RX s.heap.size) args s MC MS A0) (F0 m (pc + 3) ls (.ref r :: rest))) : W p l e R s m args below meth c H locs cells slots (vx_MQ below Qc (kX RX s.heap.size) args s MC MS A0) (F0 m pc ls st0) := by
  intro T hT X
  rcases hr T hT X with ⟨v, st₀, t, T', L, h0, X', hL, e1, e2, ⟨⟨u, ra, hv, -, hb⟩, hF⟩, st⟩ | ⟨q, st₀, t, T', L, E1, ce, h0, X', hL, e1, e2, ⟨u, hp, hb, hF⟩, hce, hcv, hcl, st⟩
  · cases hv
    obtain ⟨k1, k2, k3⟩ := vx_keep h0 e1 hS hAA (fun q h => by
      rcases Nat.lt_or_ge q H.size with z | z
      · exact hAA q z h
      · exact hnew q (Nat.le_trans hS.1 z)) hL hF
    have e9 : u = T'.heap := hb.1.symm.trans e1.symm
    obtain ⟨t2, a1, b1⟩ := kk ra T'.heap (locs ++ L) (e9 ▸ hb.2) k1 k2 k3 T' rfl X'
    exact ⟨t2, st t2 a1, b1⟩
  · obtain ⟨k1, k2, k3⟩ := vx_keep h0 e1 hS (fun q z w => absurd w (Nat.not_le.mpr z)) (fun q h => by
      rcases Nat.lt_or_ge q H.size with z | z
      · exact hAA q z h
      · exact hnew q (Nat.le_trans hS.1 z)) hL hF
    obtain ⟨t2, a1, b1⟩ := x_out (RX := RX) (Qc := Qc) (pc := pc) (ls := ls) (rest := rest) (cells := cells + mc) (slots := slots + ms) hlk htb hU hS hRX hcs hb k1 k2 k3 (by rw [e1]; exact hce) hcv hcl T' rfl X'
    exact ⟨t2, st.trans a1, b1⟩
/-- the tables' words of a throw -/
def atok (own : String) (ic : Nat) (cls : String) : Bool :=
  ((vx_atS own ic cls ["java/lang/RuntimeException", "java/lang/Exception"]).all (fun w => (decide (w ∈ tables_1) && (goodWord w || isNest w)) || (decide (w ∈ k2_sels lw_privs) && goodWord w))) && ((vx_atS own ic cls ["java/lang/RuntimeException", "java/lang/Exception"]).all vx_ot)
theorem at_of {ic : Nat} {cls : String} (h : atok own ic cls = true) (E : CallFix p m c cc nL s args (w0 :: GW) own) (hC : Ctx D tk N0 sa s) : ∀ w ∈ vx_atS own ic cls ["java/lang/RuntimeException", "java/lang/Exception"], w.before args s = true := by
  intro w hw
  simp only [atok, Bool.and_eq_true] at h
  have h1 := List.all_eq_true.mp h.1 w hw
  simp only [Bool.or_eq_true, Bool.and_eq_true, decide_eq_true_eq] at h1
  rcases h1 with ⟨h2, h3⟩ | ⟨h2, h3⟩
  · rcases h3 with h3 | h3
    · exact E.2.2.2.2 _ (List.mem_cons_of_mem _ (gw_m (List.mem_append_right _ h2) h3))
    · exact va_Nw.use (by cases w <;> first | rfl | (simp [isNest] at h3)) (hC.2.2.2.1 _ h2 h3)
  · exact E.2.2.2.2 _ (List.mem_cons_of_mem _ (gw_m (List.mem_append_left _ h2) h3))
theorem ot_of {ik ic : Nat} {cls : String} (h : atok own ic cls = true) : ∀ w ∈ Cond.classLink own ik cls :: Cond.initialized cls :: vx_atS own ic cls ["java/lang/RuntimeException", "java/lang/Exception"], vx_ot w = true := by
  simp only [atok, Bool.and_eq_true] at h
  intro w hw
  rcases List.mem_cons.mp hw with rfl | hw
  · rfl
  · rcases List.mem_cons.mp hw with rfl | hw
    · rfl
    · exact List.all_eq_true.mp h.2 w hw
theorem r_throwW (j : Nat) {cls text : String} {bs : List Int32} {ik is ic : Nat} {RX : String → Prop} {MC MS : Nat} (hlst : l.stackTraces = false) (E : CallFix p m c cc nL s args (w0 :: GW) own) (hC : Ctx D tk N0 sa s) (hS : va_S A0 s.heap H locs) (hA : ∀ q, A0 q → N0 ≤ q) (hl : ls.size = nL) (hlk : meth.locks = false) (htb : ∀ x ∈ c.exceptionTable.toList, False) (hU : ∀ q, q < s.heap.size → H[q]? = s.heap[q]?)
    (hj : strK[j]? = some (own, is, text, bs)) (hfit : Bundle.fit cls = true) (wk : Cond.classLink own ik cls ∈ GW) (wi : Cond.initialized cls ∈ GW) (hat : atok own ic cls = true)
    (d0 : decode cc pc = .ok (.new ik, 3)) (d3 : decode cc (pc + 3) = .ok (.dup, 1)) (d4 : decode cc (pc + 4) = .ok (.ldc_w is, 3)) (d6 : decode cc (pc + 7) = .ok (.invokespecial ic, 3)) (d9 : decode cc (pc + 10) = .ok (.athrow, 1))
    (hRf : 5 < R.frames) (hRl : (rest.map fun v => v.category).sum + 82 ≤ R.locals) (hRc : cells + 1 ≤ R.cells) (hRs : slots + 6 ≤ R.slots) (hRX : RX cls) (hc : cells + 1 ≤ MC) (hs : slots + 6 ≤ MS) :
    W p l e R s m args below meth c H locs cells slots (vx_MQ below Qc (kX RX s.heap.size) args s MC MS A0) (F0 m pc ls rest) :=
  vx_throwSW E.1 E.2.1 hlst E.2.2.2.1 hfit (by decide +kernel) (E.2.2.2.2 _ (List.mem_cons_of_mem _ wk)) (E.2.2.2.2 _ (List.mem_cons_of_mem _ wi)) (hC.2.2.2.2.1 j _ hj).1 (at_of hat E hC) (ot_of hat) (hC.2.2.1.2.1.narrow hA) (hC.2.2.1.2.2.narrow hA) hS (hl.trans E.2.2.1.symm) d0 d3 d4 d6 d9 (fun x hx => (htb x hx).elim) hRf hRl hRc hRs hlk (fun t _ hz hk => ⟨(), trivial, hRX, Nat.le_trans hS.1 hz, fun q hq _ => by
    rw [hk q (Nat.lt_of_lt_of_le hq hS.1)]; exact hU q hq⟩) hS.2.2 hc hs
theorem r_throwS (j : Nat) {cls text : String} {bs : List Int32} {ik is ic : Nat} {RX : String → Prop} {MC MS : Nat} (hlst : l.stackTraces = false) (E : CallFix p m c cc nL s args (w0 :: GW) own) (hC : Ctx D tk N0 sa s) (hS : va_S A0 s.heap H locs) (hA : ∀ q, A0 q → N0 ≤ q) (hl : ls.size = nL) (hlk : meth.locks = false) (htb : ∀ x ∈ c.exceptionTable.toList, False) (hU : ∀ q, q < s.heap.size → H[q]? = s.heap[q]?)
    (hj : strK[j]? = some (own, is, text, bs)) (hfit : Bundle.fit cls = true) (wk : Cond.classLink own ik cls ∈ GW) (wi : Cond.initialized cls ∈ GW) (hat : atok own ic cls = true)
    (d0 : decode cc pc = .ok (.new ik, 3)) (d3 : decode cc (pc + 3) = .ok (.dup, 1)) (d4 : decode cc (pc + 4) = .ok (.ldc is, 2)) (d6 : decode cc (pc + 6) = .ok (.invokespecial ic, 3)) (d9 : decode cc (pc + 9) = .ok (.athrow, 1))
    (hRf : 5 < R.frames) (hRl : (rest.map fun v => v.category).sum + 82 ≤ R.locals) (hRc : cells + 1 ≤ R.cells) (hRs : slots + 6 ≤ R.slots) (hRX : RX cls) (hc : cells + 1 ≤ MC) (hs : slots + 6 ≤ MS) :
    W p l e R s m args below meth c H locs cells slots (vx_MQ below Qc (kX RX s.heap.size) args s MC MS A0) (F0 m pc ls rest) :=
  vx_throwS E.1 E.2.1 hlst E.2.2.2.1 hfit (by decide +kernel) (E.2.2.2.2 _ (List.mem_cons_of_mem _ wk)) (E.2.2.2.2 _ (List.mem_cons_of_mem _ wi)) (hC.2.2.2.2.1 j _ hj).1 (at_of hat E hC) (ot_of hat) (hC.2.2.1.2.1.narrow hA) (hC.2.2.1.2.2.narrow hA) hS (hl.trans E.2.2.1.symm) d0 d3 d4 d6 d9 (fun x hx => (htb x hx).elim) hRf hRl hRc hRs hlk (fun t _ hz hk => ⟨(), trivial, hRX, Nat.le_trans hS.1 hz, fun q hq _ => by
    rw [hk q (Nat.lt_of_lt_of_le hq hS.1)]; exact hU q hq⟩) hS.2.2 hc hs
end KX
def bR (x : Int32) : Nat := if x < 0 then 1 else if x < 6 then 0 else 1
theorem bR_ok {x : Int32} (h : bR x = 0) : ¬ x < 0 ∧ x < 6 := by
  unfold bR at h
  split at h
  · cases h
  · split at h
    · exact ⟨by assumption, by assumption⟩
    · cases h
def bW (x lo hi : Int32) : Nat := if x < lo then 1 else if x ≤ hi then 0 else 1
def xo (a b : Nat) : Nat := if a = 0 then b else a
def bN (x : Int32) : Nat := if 0 ≤ x then 0 else 1
