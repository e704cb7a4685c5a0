/-! ===== the law's own methods: with handlers; what the class, the reference and Out's object keep of one another ===== -/
abbrev wsw (y : MethodName) (b : ByteArray) (n : Nat) (r : Option FieldType) (hh : List (Nat × Nat × Nat × Nat)) : List Cond := Cond.codeWith y b n r hh :: GW
theorem gw_inw {y : MethodName} {b : ByteArray} {n : Nat} {r : Option FieldType} {hh : List (Nat × Nat × Nat × Nat)} {w0 : Cond} (h : Cond.codeWith y b n r hh ∈ GW) : GoodIn (w0 :: GW) (wsw y b n r hh) := by
  intro w hw
  have hm : w ∈ GW := by
    rcases List.mem_cons.mp hw with rfl | hw
    · exact h
    · exact hw
  exact ⟨List.mem_cons_of_mem _ hm, good_of_word (List.mem_filter.mp hm).2⟩
/-- exceptions that are none of one another's kind -/
def NCx (U : State) : Prop := va_Nc "java/lang/IllegalArgumentException" "java/lang/IndexOutOfBoundsException" U ∧ va_Nc "java/lang/IllegalStateException" "java/lang/IllegalArgumentException" U
theorem NCx.al {u U : State} (h : NCx u) (hvm : u.vm.Alike U.vm) : NCx U := ⟨va_Nc.moved hvm h.1, va_Nc.moved hvm h.2⟩
abbrev cPW (D : va_G) (tk : Nat → ClassId) (N0 : Nat) (sa : Nat → Nat) (av : List Value) (sz : Nat) (F : Heap → Prop) : Array Value → State → Prop := va_Pc av (fun U => U.heap.size = sz ∧ Ctx D tk N0 sa U ∧ NCx U ∧ F U.heap)
theorem cPW_blind {D : va_G} {tk : Nat → ClassId} {N0 : Nat} {sa : Nat → Nat} {av : List Value} {sz : Nat} {F : Heap → Prop} : FrameBlind (cPW D tk N0 sa av sz F) := fun a U g mk q => ⟨q.1, q.2.1, q.2.2.1.call, NCx.al (u := U) (U := U.calling g mk a) q.2.2.2.1 (Vm.Alike.refl U.vm), q.2.2.2.2⟩
theorem cPW_pre {D : va_G} {tk : Nat → ClassId} {N0 : Nat} {sa : Nat → Nat} {As : List Value} {F : Heap → Prop} {s : State} {A : Nat → Prop} {H : Heap} {locs : List Loc} (h : Ctx D tk N0 sa s) (hN : NCx s) (hS : va_S A s.heap H locs) (hA : ∀ q, A q → N0 ≤ q) (hF : F H) : PreS s H (cPW D tk N0 sa As H.size F) As :=
  ⟨cPW_blind, fun U hU hW => ⟨rfl, by rw [hU], h.go hS hA hU hW, hN.al hW.alike, by rw [hU]; exact hF⟩⟩
theorem mStartW {l : Launch} {D : va_G} {tk : Nat → ClassId} {N0 : Nat} {sa : Nat → Nat} {y : MethodName} {cc : ByteArray} {maxL : Nat} {ret : Option FieldType} {rm : Room} {av : List Value} {sz : Nat} {F : Heap → Prop} {Qc : Array Value → State → Outcome → State → Prop} {mc ms : Nat} {A : Nat → Prop} {hh : List (Nat × Nat × Nat × Nat)} (own : String) (hown : y.cls = own) (hy : plainName y.cls = true) (hlen : (lg_sl av).length ≤ maxL)
    (body : ∀ p e s m args below meth c, CallFix p m c cc maxL s args (wsw y cc maxL ret hh) own → meth.sig.returnType = ret → meth.locks = false → c.exceptionTable.toList = tableOf hh → s.heap.size = sz → Ctx D tk N0 sa s → NCx s → F s.heap →
      ∀ ls, lv_has ls maxL (lv_args 0 av) → W p l e rm s m args below meth c s.heap [] 0 0 (MQ below Qc args s mc ms A) (F0 m 0 ls [])) : Met l y (wsw y cc maxL ret hh) rm (cPW D tk N0 sa av sz F) Qc mc ms A := by
  refine va_MetW (cc := cc) (maxL := maxL) (ret := ret) (hh := hh) hy rfl ?_
  intro p e s m args below meth c s₁ B hml hv
  obtain ⟨rfl, hsz, hC, hN, hF⟩ := hv
  have hl := lv_entry av (n := maxL) hlen
  rw [lg_entry_eq]
  have hts := atoms_spec (ws := wsw y cc maxL ret hh) B.pre
  exact body p e s m _ below meth c ⟨B.exec, B.bytes, hml, by rw [← hown]; exact findClass_of_methodNamed B.named, hts⟩ B.returns B.notSynchronized (vx_table (x := y) B (hts _ List.mem_cons_self)) hsz hC hN hF _ hl
section LW1
variable {p : Program} {l : Launch} {e : Env} {R : Room} {s : State} {m : MethodId} {args : Array Value} {below : List Frame} {meth : Method} {c : Code} {H : Heap} {locs : List Loc} {cells slots : Nat} {Q : State → Prop}
variable {cc : ByteArray} {pc nL : Nat} {ls : Array Slot} {rest st0 : List Value} {Ts : List Cond} {own : String} {D : va_G} {tk : Nat → ClassId} {N0 : Nat} {sa : Nat → Nat} {A0 A1 : Nat → Prop}
variable {y : MethodName} {bytes : ByteArray} {maxL mc ms n index : Nat} {ret : Option FieldType} {rm : Room} {F : Heap → Prop} {Qc : Array Value → State → Outcome → State → Prop} {XC : String → State → State → Prop} {As : List Value} {w0 : Cond} {b : Nat} {a : Array Value} {hh : List (Nat × Nat × Nat × Nat)}
/-- a call that may throw, and what is thrown is caught here -/
theorem kh_i {Rr : Int32 → Heap → Prop} {RX1 : String → Prop} (hr : vx_Run p l e R s m args below meth c H locs cells slots mc ms (F0 m pc ls st0) rest (kQi Rr A1 a) (kX RX1 H.size) A1) (hS : va_S A0 s.heap H locs) (hAA : ∀ q, q < H.size → A1 q → A0 q) (hnew : ∀ q, s.heap.size ≤ q → A0 q)
    (kx : ∀ (E1 : String) (ce : Cell) (q9 : Addr) (H1 : Heap) (locs1 : List Loc), RX1 E1 → H.size ≤ H1.size → (∀ q : Nat, q < H.size → ¬ nwA H.size q → H1[q]? = H[q]?) → va_S A0 s.heap H1 locs1 → H1[q9]? = some ce → ce.vm = .none → s.vm.findClass E1 = some ce.cls → vx_W p l e R s m args below meth c H1 locs1 (cells + mc) (slots + ms) Q (F0 m pc ls rest) q9)
    (kk : ∀ (r : Int32) (H1 : Heap) (locs1 : List Loc), Rr r H1 → H.size ≤ H1.size → (∀ q : Nat, q < H.size → ¬ A1 q → H1[q]? = H[q]?) → va_S A0 s.heap H1 locs1 → W p l e R s m args below meth c H1 locs1 (cells + mc) (slots + ms) Q (F0 m (pc + 3) ls (.int r :: rest))) : W p l e R s m args below meth c H locs cells slots Q (F0 m pc ls st0) :=
  vx_calli hr hS hAA (fun q h => by
    rcases Nat.lt_or_ge q H.size with z | z
    · exact hAA q z h
    · exact hnew q (Nat.le_trans hS.1 z)) (fun q z w => absurd w (Nat.not_le.mpr z)) (fun E1 ce q9 u t H1 locs1 ht _ _ hb hz hk hS1 h1 h2 h3 => kx E1 ce q9 H1 locs1 hb hz hk hS1 h1 h2 h3) (fun r u t H1 locs1 ht _ hp hb hz hk hS1 => by
    have e9 : u = H1 := hb.symm.trans ht
    subst e9
    exact kk r u locs1 hp hz hk hS1)
theorem kh_r {Rr : Nat → Heap → Prop} {RX1 : String → Prop} (hr : vx_Run p l e R s m args below meth c H locs cells slots mc ms (F0 m pc ls st0) rest (kQr Rr A1 a) (kX RX1 H.size) A1) (hS : va_S A0 s.heap H locs) (hAA : ∀ q, q < H.size → A1 q → A0 q) (hnew : ∀ q, s.heap.size ≤ q → A0 q)
    (kx : ∀ (E1 : String) (ce : Cell) (q9 : Addr) (H1 : Heap) (locs1 : List Loc), RX1 E1 → H.size ≤ H1.size → (∀ q : Nat, q < H.size → ¬ nwA H.size q → H1[q]? = H[q]?) → va_S A0 s.heap H1 locs1 → H1[q9]? = some ce → ce.vm = .none → s.vm.findClass E1 = some ce.cls → vx_W p l e R s m args below meth c H1 locs1 (cells + mc) (slots + ms) Q (F0 m pc ls rest) q9)
    (kk : ∀ (r : Nat) (H1 : Heap) (locs1 : List Loc), Rr r H1 → H.size ≤ H1.size → (∀ q : Nat, q < H.size → ¬ A1 q → H1[q]? = H[q]?) → va_S A0 s.heap H1 locs1 → W p l e R s m args below meth c H1 locs1 (cells + mc) (slots + ms) Q (F0 m (pc + 3) ls (.ref r :: rest))) : W p l e R s m args below meth c H locs cells slots Q (F0 m pc ls st0) := by
  intro T hT X
  rcases hr T hT X with ⟨v, st₀, t, T', L, h0, X', hL, e1, e2, ⟨⟨u, ra, hv, -, hb⟩, hF⟩, st⟩ | ⟨q, st₀, t, T', L, E1, ce, h0, X', hL, e1, e2, ⟨u, hp, hb, hF⟩, hce, hcv, hcl, st⟩
  · cases hv
    obtain ⟨k1, k2, k3⟩ := vx_keep h0 e1 hS hAA (fun q h => by
      rcases Nat.lt_or_ge q H.size with z | z
      · exact hAA q z h
      · exact hnew q (Nat.le_trans hS.1 z)) hL hF
    have e9 : u = T'.heap := hb.1.symm.trans e1.symm
    obtain ⟨t2, a1, b1⟩ := kk ra T'.heap (locs ++ L) (e9 ▸ hb.2) k1 k2 k3 T' rfl X'
    exact ⟨t2, st t2 a1, b1⟩
  · obtain ⟨k1, k2, k3⟩ := vx_keep h0 e1 hS (fun q z w => absurd w (Nat.not_le.mpr z)) (fun q h => by
      rcases Nat.lt_or_ge q H.size with z | z
      · exact hAA q z h
      · exact hnew q (Nat.le_trans hS.1 z)) hL hF
    obtain ⟨t2, a1, b1⟩ := kx E1 ce q T'.heap (locs ++ L) hb k1 k2 k3 (by rw [e1]; exact hce) hcv hcl T' rfl X'
    exact ⟨t2, st.trans a1, b1⟩
/-- caught by the first handler, or by the second, the first taking another kind -/
theorem r_c1 (E : CallFix p m c cc nL s args (w0 :: GW) own) (hC : Ctx D tk N0 sa s) {f t h k : Nat} {tl : List (Nat × Nat × Nat × Nat)} (htb : c.exceptionTable.toList = tableOf ((f, t, h, k) :: tl)) (hcv : f ≤ pc ∧ pc < t) (hk0 : k ≠ 0) {X : String} (w1 : Cond.classLink own k X ∈ GW) (w2 : Cond.castable X X ∈ tables_1) {ce : Cell} {q : Addr} (h1 : H[q]? = some ce) (h2 : ce.vm = .none) (h3 : s.vm.findClass X = some ce.cls)
    (kk : W p l e R s m args below meth c H locs cells slots Q (F0 m h ls [.ref q])) : vx_W p l e R s m args below meth c H locs cells slots Q (F0 m pc ls rest) q :=
  vx_catch (E := X) (name := X) E.2.2.2.1 [] ⟨f, t, h, k⟩ (tableOf tl) htb (fun z hz => by cases hz) (by simp only [covers, Bool.and_eq_true, decide_eq_true_eq]; exact hcv) hk0 (E.2.2.2.2 _ (List.mem_cons_of_mem _ w1)) (va_Nw.use rfl (hC.2.2.2.1 _ w2 rfl)) h1 h2 h3 kk
theorem r_c2 (E : CallFix p m c cc nL s args (w0 :: GW) own) (hC : Ctx D tk N0 sa s) {f t h k f1 t1 h1 k1 : Nat} (htb : c.exceptionTable.toList = tableOf [(f1, t1, h1, k1), (f, t, h, k)]) (hcv : f ≤ pc ∧ pc < t) (hk0 : k ≠ 0) (hk1 : k1 ≠ 0) {X X1 : String} (w1 : Cond.classLink own k X ∈ GW) (v1 : Cond.classLink own k1 X1 ∈ GW) (hN : va_Nc X X1 s) (w2 : Cond.castable X X ∈ tables_1) {ce : Cell} {q : Addr} (g1 : H[q]? = some ce) (g2 : ce.vm = .none) (g3 : s.vm.findClass X = some ce.cls)
    (kk : W p l e R s m args below meth c H locs cells slots Q (F0 m h ls [.ref q])) : vx_W p l e R s m args below meth c H locs cells slots Q (F0 m pc ls rest) q :=
  vx_catch (E := X) (name := X) E.2.2.2.1 [⟨f1, t1, h1, k1⟩] ⟨f, t, h, k⟩ [] htb (fun z hz => by
    have e := List.mem_singleton.mp hz
    subst e
    exact Or.inr ⟨hk1, X1, E.2.2.2.2 _ (List.mem_cons_of_mem _ v1), hN⟩) (by simp only [covers, Bool.and_eq_true, decide_eq_true_eq]; exact hcv) hk0 (E.2.2.2.2 _ (List.mem_cons_of_mem _ w1)) (va_Nw.use rfl (hC.2.2.2.1 _ w2 rfl)) g1 g2 g3 kk
/-- a nest mate's field; what else stands -/
theorem r_putO (host : String) (E : CallFix p m c cc nL s args Ts own) (hC : Ctx D tk N0 sa s) {a ci N index : Nat} {fs : List Value} {C ref : String} {T : u_T} (h : c1 D a (.inr (ci, fs)) H) (hS : va_S A0 s.heap H locs) (hA : A0 a) (k : Nat) (ty0 : Nat → FieldType) (hty : ∀ k, k < N → parseFieldDescriptor (T k).2.2.1 = some (ty0 k)) (hnm : ∀ a, a < N → ∀ b, b < N → a ≠ b → (T a).2.1 ≠ (T b).2.1) (hc : vwCl[ci]? = some (C, T, N)) (hk : k < N) (hl : k < fs.length) (hin : ∀ w ∈ u_ws C T N, w ∈ Ts) (hlink : Cond.fieldLinkNest own index ref (T k).2.1 (T k).2.2.1 host ∈ tables_1) (hsame : ∀ x, s.fieldFound? (T k).1 (T k).2.1 (T k).2.2.1 = some x → s.fieldFound? ref (T k).2.1 (T k).2.2.1 = some x) (hfin : (T k).2.2.2 = false) {v : Value} (hn : narrow (ty0 k) v = v) (hfit : fits (ty0 k) v = true)
    (hdg : decode cc pc = .ok (.putfield index, 3)) (kk : ∀ (H1 : Heap) (locs1 : List Loc), c1 D a (.inr (ci, fs.set k v)) H1 → (∀ q, q ≠ a → H1[q]? = H[q]?) → H1.size = H.size → va_S A0 s.heap H1 locs1 → W p l e R s m args below meth c H1 locs1 cells slots Q (F0 m (pc + 3) ls rest)) : W p l e R s m args below meth c H locs cells slots Q (F0 m pc ls (v :: .ref a :: rest)) := by
  obtain ⟨hexec, hb, -, hown, hts⟩ := E
  have hK := hC.1
  have hap := va_apart (own := own) hts hin ty0 hty hnm hK hc
  obtain ⟨r, h1, cell, q1, q2, q3, q4⟩ := h
  have hr : r = (C, T, N) := Option.some.inj (h1.symm.trans hc)
  subst hr
  obtain ⟨hSl, hfc, kC, hkC, hkind⟩ := hK.1 ci _ hc
  obtain ⟨cf, kf, fi, f, hi, hsl⟩ := hSl k hk
  have hlay := hts _ (hin _ (u_in_lay hk))
  unfold u_lay at hlay
  rw [if_neg (by rw [hfin]; decide)] at hlay
  have hst := (u_facts hfc hkC (u_lays hts hin hk) hi).1
  have h6 := u_store hfc hkC hkind hlay hi (hty k hk) hn hfit
  refine va_WputK hexec hb (f := f) hown (va_Nw.use rfl (hC.2.2.2.1 _ hlink rfl)) (hsame _ hi) hst (by rw [q2]; exact h6) q1 q3 (by rw [hsl]; exact k2_hasslot (q4 k hk)) rfl rfl hdg fun H' e1 e2 e3 => ?_
  rw [hsl] at e1 ⊢
  exact kk H' _ ⟨_, hc, t_OB.to (V := updV (vp_V fs) k v) ⟨_, e1, q2, q3, t_set q4 hap hk v⟩ (fun j _ => vp_updV_set hl v j)⟩ e3 e2 (hS.put e2 e3 hA)
/-- a call of a method with handlers -/
theorem k_SW (E : CallFix p m c cc nL s args (w0 :: GW) own) (hC : Ctx D tk N0 sa s) (hN : NCx s) (hS : va_S A0 s.heap H locs) (hA : ∀ q, A0 q → N0 ≤ q) (hl : ls.size = nL)
    (hM : Met l y (wsw y bytes maxL ret hh) rm (cPW D tk N0 sa As H.size F) Qc mc ms A1) (w1 : Cond.methodLink own index y ∈ GW) (w2 : Cond.static y ∈ GW) (w3 : Cond.initialized y.cls ∈ GW) (w4 : Cond.codeWith y bytes maxL ret hh ∈ GW) (hd : okD y n = true) (hlen : As.length = n) (hR : okR rm R maxL mc ms cells slots)
    (hst : st0 = As.reverse ++ rest) (hcat : (rest.map fun v => v.category).sum ≤ 8) (hF : F H) (hdg : decode cc pc = .ok (.invokestatic index, 3)) :
    va_Run p l e R s m args below meth c H locs cells slots mc ms (F0 m pc ls st0) rest (Qc As.toArray) A1 :=
  vx_runSW (n := As.length) (hh := hh) E hM (vx_cwSW As.length E.2.2.2.2 (goodIn_app (fun w hw => by
    simp only [List.mem_cons, List.not_mem_nil, or_false] at hw
    have hm : w ∈ GW := by rcases hw with rfl | rfl | rfl <;> assumption
    exact ⟨List.mem_cons_of_mem _ hm, good_of_word (List.mem_filter.mp hm).2⟩) (gw_inw w4)) rfl hR.1.1 hR.1.2 (okD.of (hlen ▸ hd)) hR.2.1) (cPW_pre hC hN hS hA hF) rfl rfl hl hst (lv_room hcat) hdg hR.2.2
/-- a nest mate's constructor -/
theorem k_IN (host : String) (E : CallFix p m c cc nL s args (w0 :: GW) own) (hC : Ctx D tk N0 sa s) (hS : va_S A0 s.heap H locs) (hA : ∀ q, A0 q → N0 ≤ q) (hl : ls.size = nL)
    (hM : Met l y (wsy y bytes maxL none) rm (cP D tk N0 sa (.ref b :: As) H.size F) Qc mc ms A1) (w1 : Cond.methodLinkNest own index y host ∈ tables_1) (w2 : Cond.instanceMethod y ∈ GW) (w3 : Cond.initialized y.cls ∈ GW) (w4 : Cond.code y bytes maxL none ∈ GW) (hy1 : y.name = "<init>") (hd : okD y n = true) (hlen : As.length = n) (hR : okR rm R maxL mc ms cells slots)
    (hst : st0 = As.reverse ++ .ref b :: rest) (hcat : (rest.map fun v => v.category).sum ≤ 8) (hF : F H) (hdg : decode cc pc = .ok (.invokespecial index, 3)) :
    va_Run p l e R s m args below meth c H locs cells slots mc ms (F0 m pc ls st0) rest (Qc (Value.ref b :: As).toArray) A1 :=
  va_runIN (n := As.length) E hM ⟨va_cnB As.length E.2.2.2.2 (gw_in w4) rfl hR.1.1 hR.1.2 (hC.2.2.2.1 _ w1 rfl) (E.2.2.2.2 _ (List.mem_cons_of_mem _ w3)) (okD.of (hlen ▸ hd)) hR.2.1, hy1, E.2.2.2.2 _ (List.mem_cons_of_mem _ w2)⟩ (cP_pre hC hS hA hF) rfl rfl hl hst (lv_room hcat) hdg hR.2.2
end LW1
/-! what a wrapper of the class may write: its world, Out's object, what is new -/
def lwA (ad : Nat → Nat) (uo sz : Nat) : Nat → Prop := fun q => cwA ad sz q ∨ q = uo
theorem lwA.ge {N0 sz uo : Nat} {ad : Nat → Nat} (h : ADok N0 ad) (hu : N0 ≤ uo) (hz : N0 ≤ sz) : ∀ q, lwA ad uo sz q → N0 ≤ q := fun q z => z.elim (cwA.ge h hz q) (fun e => e ▸ hu)
theorem cwC {D : va_G} {tk : Nat → ClassId} {N0 : Nat} {sa : Nat → Nat} {s : State} {ad : Nat → Nat} {g : CS} {H : Heap} (hC : Ctx D tk N0 sa s) (h : CW D tk ad g H) {a : Nat} (ha : clA a (D.1 12) H ∨ clA a (D.1 2) H) : ∀ k, k < 22 → ad k ≠ a := by
  intro k hk
  rcases ha with ha | ha
  · rcases cw_cl h hk with ⟨ci, h1, h2, hc⟩ | hc | hc
    · obtain rfl | rfl | rfl | rfl : ci = 8 ∨ ci = 9 ∨ ci = 10 ∨ ci = 11 := by omega
      · exact clA.ne hc ha (hC.oo 8 12 rfl rfl (by decide))
      · exact clA.ne hc ha (hC.oo 9 12 rfl rfl (by decide))
      · exact clA.ne hc ha (hC.oo 10 12 rfl rfl (by decide))
      · exact clA.ne hc ha (hC.oo 11 12 rfl rfl (by decide))
    · exact clA.ne hc ha (hC.ao 12 0 rfl rfl)
    · exact clA.ne hc ha (hC.ao 12 2 rfl rfl)
  · rcases cw_cl h hk with ⟨ci, h1, h2, hc⟩ | hc | hc
    · obtain rfl | rfl | rfl | rfl : ci = 8 ∨ ci = 9 ∨ ci = 10 ∨ ci = 11 := by omega
      · exact clA.ne hc ha (hC.oo 8 2 rfl rfl (by decide))
      · exact clA.ne hc ha (hC.oo 9 2 rfl rfl (by decide))
      · exact clA.ne hc ha (hC.oo 10 2 rfl rfl (by decide))
      · exact clA.ne hc ha (hC.oo 11 2 rfl rfl (by decide))
    · exact clA.ne hc ha (hC.ao 2 0 rfl rfl)
    · exact clA.ne hc ha (hC.ao 2 2 rfl rfl)
theorem lwA.not {ad : Nat → Nat} {uo sz q : Nat} (hw : ∀ k, k < 22 → ad k ≠ q) (hu : q ≠ uo) (hq : q < sz) : ¬ lwA ad uo sz q := fun z => z.elim (cwN hw hq) hu
theorem MI.kept {D : va_G} {tk : Nat → ClassId} {sa : Nat → Nat} {P S : Nat → Prop} {mo n9 : Nat} {kn th : Int32} {tt bb : Nat → Int64} {eT eB oT oB : Int64} {pk : Nat} {ca rf : Int32} {vs : Nat → Value} {H H1 : Heap} (h : MI D tk sa P mo tt bb eT eB oT oB pk ca rf vs kn n9 th H) (hq : ∀ q : Nat, q < H.size → ¬ S q → H1[q]? = H[q]?) (nP : ∀ q, q < H.size → P q → ¬ S q) (n2 : ∀ q, clA q (D.1 2) H → q < H.size → ¬ S q) : MI D tk sa P mo tt bb eT eB oT oB pk ca rf vs kn n9 th H1 := by
  obtain ⟨ra, rl, ex, ro, rt, fo, fj, fk, fe, fr, fw, ⟨hPm, hPa, hPl, hPe, hPr, hPk⟩, hM⟩ := h
  exact ⟨ra, rl, ex, ro, rt, fo.kept (hq _ fo.lt (nP _ fo.lt hPm)), fj.kept (hq _ fj.lt (nP _ fj.lt hPa)), fk.kept (fun k hk => hq _ (fk k hk).lt (nP _ (fk k hk).lt (hPk k hk))), fe.kept (hq _ fe.lt (nP _ fe.lt hPe)), fr.kept (hq _ fr.lt (nP _ fr.lt hPr)), fw.kept hq (fun q _ hl hp => nP q hl (hp.elim id (fun e => e ▸ hPl))) (fun q _ hl hp => nP q hl hp) (fun q hc hl => n2 q hc hl), ⟨hPm, hPa, hPl, hPe, hPr, hPk⟩, hM⟩
/-- the reference's cells in the law: behind the class's, and not Out's object -/
def PL (M0 uo : Nat) : Nat → Prop := fun q => M0 ≤ q ∧ q ≠ uo
theorem MI.wrap {D : va_G} {tk : Nat → ClassId} {N0 : Nat} {sa : Nat → Nat} {s : State} {ad : Nat → Nat} {g : CS} {M0 uo mo n9 : Nat} {kn th : Int32} {tt bb : Nat → Int64} {eT eB oT oB : Int64} {pk : Nat} {ca rf : Int32} {vs : Nat → Value} {H H1 : Heap} {v : List Value} (hC : Ctx D tk N0 sa s) (hW : CW D tk ad g H) (hu : c1 D uo (.inr (12, v)) H) (had : ∀ k, k < 22 → ad k < M0) (h : MI D tk sa (PL M0 uo) mo tt bb eT eB oT oB pk ca rf vs kn n9 th H) (hk : ∀ q : Nat, q < H.size → ¬ lwA ad uo H.size q → H1[q]? = H[q]?) : MI D tk sa (PL M0 uo) mo tt bb eT eB oT oB pk ca rf vs kn n9 th H1 :=
  h.kept hk (fun q hl hp => lwA.not (fun k hk9 e => by have := had k hk9; have := hp.1; omega) hp.2 hl) (fun q hc hl => lwA.not (cwC hC hW (Or.inr hc)) (clA.ne hc hu.cl (hC.oo 2 12 rfl rfl (by decide))) hl)
theorem xo_1 {a b : Nat} (h : xo a b = 0) : a = 0 := by
  unfold xo at h
  split at h
  · assumption
  · exact h
theorem xo_2 {a b : Nat} (h : xo a b = 0) : b = 0 := by
  unfold xo at h
  split at h
  · exact h
  · exact absurd h (by assumption)
theorem tx_mul0 {a : Nat} (h : 2 * a = 0) : a = 0 := by omega
theorem say_16 {x y : Int32} (h : (if x < y then 0 else 2) = (0 : Nat)) : x < y := by
  split at h
  · assumption
  · cases h
