section FH7
variable {p : Program} {l : Launch} {e : Env} {R : Room} {s : State} {m : MethodId} {args : Array Value} {below : List Frame} {meth : Method} {c : Code} {H : Heap} {locs : List Loc} {cells slots : Nat} {Q : State → Prop}
variable {D : va_G} {cA : Nat → ClassId} {h0 h h2 : fSt} {cc : ByteArray} {pc : Nat} {ls : Array Slot} {rest st0 : List Value}
/-- a static private method of the nest -/
theorem fr_callSN (hexec : p.tables.exec = Jvm.exec) (hb : c.code = cc) {nL : Nat} (hml : c.maxLocals = nL) (hts : ∀ w ∈ WA, w.before args s = true) {own host : String} {index maxL fr lo : Nat} (hown : s.vm.findClass own = some m.cls) (K : fKw D cA h0 s) (hC : fCur D cA s h0 h H locs) (hR : R.cells = fCB h0 - fZ h0 ∧ R.slots = fLB h0 - fL h0)
    {y : MethodName} {cd : ByteArray} {ret : Option FieldType} {As : List Value} {v : Option Value} (hM : fMet l y (wsC y cd maxL ret) fr lo D cA As h h2 v) (n : Nat) (hcode : Cond.code y cd maxL ret ∈ WA) (hlink : Cond.methodLinkNest own index y host ∈ fNw) (hstat : Cond.static y ∈ WA) (hini : Cond.initialized y.cls ∈ WA)
    (hd : y.cls ≠ "java/lang/invoke/MethodHandle" ∧ y.cls ≠ "java/lang/invoke/VarHandle" ∧ (parseMethodDescriptor y.desc).map (fun d => d.parameters.length) = some n) (hRm : fr + 1 ≤ R.frames ∧ 8 + (maxL + 11) + lo ≤ R.locals) (hn : As.length = n) (hsize : ls.size = nL) (hW : (rest.map fun v => v.category).sum ≤ 8) (hdg : decode cc pc = .ok (.invokestatic index, 3)) (hst : st0 = As.reverse ++ rest)
    (kk : ∀ (H1 : Heap) (locs1 : List Loc) (k n : Nat), fCur D cA s h0 h2 H1 locs1 → W p l e R s m args below meth c H1 locs1 k n Q (F0 m (pc + 3) ls (v.toList ++ rest))) : W p l e R s m args below meth c H locs cells slots Q (F0 m pc ls st0) := by
  subst hst
  exact fr_ret (va_runSN ⟨hexec, hb, hml, hown, hts⟩ hM ⟨va_cnB n hts (wGoodIn (fWords hts hcode)) rfl rfl rfl (K.2.2.2.2.2.1 _ hlink) (hts _ hini) hd hRm, hts _ hstat, trivial⟩ (fPreS hC K As) rfl hn hsize rfl (by show 2 * 0 + _ ≤ 8; omega) hdg (fr_room hC hR)) hC kk
/-- a private constructor of the nest -/
theorem fr_callIN (hexec : p.tables.exec = Jvm.exec) (hb : c.code = cc) {nL : Nat} (hml : c.maxLocals = nL) (hts : ∀ w ∈ WA, w.before args s = true) {own host : String} {index maxL fr lo : Nat} (hown : s.vm.findClass own = some m.cls) (K : fKw D cA h0 s) (hC : fCur D cA s h0 h H locs) (hR : R.cells = fCB h0 - fZ h0 ∧ R.slots = fLB h0 - fL h0)
    {y : MethodName} {cd : ByteArray} {b : Nat} {As : List Value} (hM : fMet l y (wsC y cd maxL none) fr lo D cA (.ref b :: As) h h2 none) (n : Nat) (hcode : Cond.code y cd maxL none ∈ WA) (hlink : Cond.methodLinkNest own index y host ∈ fNw) (hinst : Cond.instanceMethod y ∈ WA) (hini : Cond.initialized y.cls ∈ WA) (hnm : y.name = "<init>")
    (hd : y.cls ≠ "java/lang/invoke/MethodHandle" ∧ y.cls ≠ "java/lang/invoke/VarHandle" ∧ (parseMethodDescriptor y.desc).map (fun d => d.parameters.length) = some n) (hRm : fr + 1 ≤ R.frames ∧ 8 + (maxL + 11) + lo ≤ R.locals) (hn : As.length = n) (hsize : ls.size = nL) (hW : (rest.map fun v => v.category).sum ≤ 8) (hdg : decode cc pc = .ok (.invokespecial index, 3)) (hst : st0 = As.reverse ++ va_rf (some b) :: rest)
    (kk : ∀ (H1 : Heap) (locs1 : List Loc) (k n : Nat), fCur D cA s h0 h2 H1 locs1 → W p l e R s m args below meth c H1 locs1 k n Q (F0 m (pc + 3) ls rest)) : W p l e R s m args below meth c H locs cells slots Q (F0 m pc ls st0) := by
  subst hst
  exact fr_ret (va_runIN ⟨hexec, hb, hml, hown, hts⟩ hM ⟨va_cnB n hts (wGoodIn (fWords hts hcode)) rfl rfl rfl (K.2.2.2.2.2.1 _ hlink) (hts _ hini) hd hRm, hnm, hts _ hinst⟩ (fPreS hC K (.ref b :: As)) rfl hn hsize rfl (by show 2 * 0 + _ ≤ 8; omega) hdg (fr_room hC hR)) hC kk
/-- a static method with handlers, that returns -/
theorem fr_callVH (hexec : p.tables.exec = Jvm.exec) (hb : c.code = cc) {nL : Nat} (hml : c.maxLocals = nL) (hts : ∀ w ∈ WA, w.before args s = true) {own C : String} {T : u_T} {N ci index maxL fr lo : Nat} {ty : Nat → FieldType} (hown : s.vm.findClass own = some m.cls) (K : fKw D cA h0 s) (hC : fCur D cA s h0 h H locs) (hR : R.cells = fCB h0 - fZ h0 ∧ R.slots = fLB h0 - fL h0) (ct : CT ci C T N ty)
    {y : MethodName} {cd : ByteArray} {ret : Option FieldType} {hh : List (Nat × Nat × Nat × Nat)} {r : Option Nat} {b : Nat} {As : List Value} {v : Option Value} (hM : fMetX l y (wsCH y cd maxL ret hh) fr lo D cA (.ref b :: As) h h2 (.inl v)) (hcy : y.cls = C) (n : Nat) (hg : fobj h r ci = some b) (hcode : Cond.codeWith y cd maxL ret hh ∈ WA) (hlink : Cond.methodLink own index y ∈ WA) (hinst : Cond.instanceMethod y ∈ WA) (hsel : Cond.selects C y y ∈ WA) (hini : Cond.initialized y.cls ∈ WA)
    (hd : y.cls ≠ "java/lang/invoke/MethodHandle" ∧ y.cls ≠ "java/lang/invoke/VarHandle" ∧ (parseMethodDescriptor y.desc).map (fun d => d.parameters.length) = some n) (hRm : fr + 1 ≤ R.frames ∧ 8 + (maxL + 11) + lo ≤ R.locals) (hn : As.length = n) (hsize : ls.size = nL) (hW : (rest.map fun v => v.category).sum ≤ 8) (hdg : decode cc pc = .ok (.invokevirtual index, 3)) (hst : st0 = As.reverse ++ va_rf r :: rest)
    (kk : ∀ (H1 : Heap) (locs1 : List Loc) (k n : Nat), fCur D cA s h0 h2 H1 locs1 → W p l e R s m args below meth c H1 locs1 k n Q (F0 m (pc + 3) ls (v.toList ++ rest))) : W p l e R s m args below meth c H locs cells slots Q (F0 m pc ls st0) := by
  obtain ⟨rfl, fs, hbo⟩ := fobj_inv hg
  subst hst
  have hall : ∀ w ∈ wsV own index C y (wsCH y cd maxL ret hh), w ∈ WA := by
    intro w hw
    simp only [wsV, List.mem_append, List.mem_cons, List.not_mem_nil, or_false] at hw
    rcases hw with (h | h | h | h) | h | h
    · rw [h]; exact hlink
    · rw [h]; exact hinst
    · rw [h]; exact hsel
    · rw [h, ← hcy]; exact hini
    · rw [h]; exact hcode
    · exact h
  exact fr_retX (vx_runVX ⟨hexec, hb, hml, hown, hts⟩ hM (vx_cwVW n hts (wGoodIn hall) rfl rfl rfl ⟨hcy, hd⟩ hRm) (fPreV (y := y) hC K ct hbo As) rfl hn hsize rfl (by show 2 * 0 + _ ≤ 8; omega) hdg (fr_room hC hR)) hC kk
theorem fr_callSH (hexec : p.tables.exec = Jvm.exec) (hb : c.code = cc) {nL : Nat} (hml : c.maxLocals = nL) (hts : ∀ w ∈ WA, w.before args s = true) {own : String} {index maxL fr lo : Nat} (hown : s.vm.findClass own = some m.cls) (K : fKw D cA h0 s) (hC : fCur D cA s h0 h H locs) (hR : R.cells = fCB h0 - fZ h0 ∧ R.slots = fLB h0 - fL h0)
    {y : MethodName} {cd : ByteArray} {ret : Option FieldType} {hh : List (Nat × Nat × Nat × Nat)} {As : List Value} {v : Option Value} (hM : fMetX l y (wsCH y cd maxL ret hh) fr lo D cA As h h2 (.inl v)) (n : Nat) (hcode : Cond.codeWith y cd maxL ret hh ∈ WA) (hlink : Cond.methodLink own index y ∈ WA) (hstat : Cond.static y ∈ WA) (hini : Cond.initialized y.cls ∈ WA)
    (hd : y.cls ≠ "java/lang/invoke/MethodHandle" ∧ y.cls ≠ "java/lang/invoke/VarHandle" ∧ (parseMethodDescriptor y.desc).map (fun d => d.parameters.length) = some n) (hRm : fr + 1 ≤ R.frames ∧ 8 + (maxL + 11) + lo ≤ R.locals) (hn : As.length = n) (hsize : ls.size = nL) (hW : (rest.map fun v => v.category).sum ≤ 8) (hdg : decode cc pc = .ok (.invokestatic index, 3)) (hst : st0 = As.reverse ++ rest)
    (kk : ∀ (H1 : Heap) (locs1 : List Loc) (k n : Nat), fCur D cA s h0 h2 H1 locs1 → W p l e R s m args below meth c H1 locs1 k n Q (F0 m (pc + 3) ls (v.toList ++ rest))) : W p l e R s m args below meth c H locs cells slots Q (F0 m pc ls st0) := by
  subst hst
  have hall : ∀ w ∈ va_wsS own index y (wsCH y cd maxL ret hh), w ∈ WA := by
    intro w hw
    simp only [va_wsS, List.mem_append, List.mem_cons, List.not_mem_nil, or_false] at hw
    rcases hw with (h | h | h) | h | h
    · rw [h]; exact hlink
    · rw [h]; exact hstat
    · rw [h]; exact hini
    · rw [h]; exact hcode
    · exact h
  exact fr_retX (vx_runSX ⟨hexec, hb, hml, hown, hts⟩ hM (vx_cwSW n hts (wGoodIn hall) rfl rfl rfl hd hRm) (fPreS hC K As) rfl hn hsize rfl (by show 2 * 0 + _ ≤ 8; omega) hdg (fr_room hC hR)) hC kk
theorem fr_iret (hexec : p.tables.exec = Jvm.exec) (hb : c.code = cc) (hr : meth.sig.returnType = some .int) (hlocks : meth.locks = false) (hC : fCur D cA s h0 h H locs) {x : Int32} (hdg : decode cc pc = .ok (.ireturn, 1)) : W p l e R s m args below meth c H locs cells slots (MQ below (fQ D cA h0 h (some (.int x))) args s (fCB h0 - fZ h0) (fLB h0 - fL h0) (fA h0)) (F0 m pc ls [.int x]) :=
  fr_end hC (W.iret hexec hb hr (fun t ht hW => ⟨rfl, hC.fin ht⟩) hC.2.2.2.2.2.1.2.2 hdg hlocks)
theorem fr_zret (hexec : p.tables.exec = Jvm.exec) (hb : c.code = cc) (hr : meth.sig.returnType = some .boolean) (hlocks : meth.locks = false) (hC : fCur D cA s h0 h H locs) {x : Int32} (hx : x = 0 ∨ x = 1) (hdg : decode cc pc = .ok (.ireturn, 1)) : W p l e R s m args below meth c H locs cells slots (MQ below (fQ D cA h0 h (some (.int x))) args s (fCB h0 - fZ h0) (fLB h0 - fL h0) (fA h0)) (F0 m pc ls [.int x]) :=
  fr_end hC (W.zret hexec hb hr (by rcases hx with rfl | rfl <;> rfl) (fun t ht hW => ⟨rfl, hC.fin ht⟩) hC.2.2.2.2.2.1.2.2 hdg hlocks)
theorem fr_lret (hexec : p.tables.exec = Jvm.exec) (hb : c.code = cc) (hr : meth.sig.returnType = some .long) (hlocks : meth.locks = false) (hC : fCur D cA s h0 h H locs) {x : Int64} (hdg : decode cc pc = .ok (.lreturn, 1)) : W p l e R s m args below meth c H locs cells slots (MQ below (fQ D cA h0 h (some (.long x))) args s (fCB h0 - fZ h0) (fLB h0 - fL h0) (fA h0)) (F0 m pc ls [.long x]) :=
  fr_end hC (W.lret hexec hb hr (fun t ht hW => ⟨rfl, hC.fin ht⟩) hC.2.2.2.2.2.1.2.2 hdg hlocks)
theorem fr_dret (hexec : p.tables.exec = Jvm.exec) (hb : c.code = cc) (hr : meth.sig.returnType = some .double) (hlocks : meth.locks = false) (hC : fCur D cA s h0 h H locs) {x : UInt64} (hdg : decode cc pc = .ok (.dreturn, 1)) : W p l e R s m args below meth c H locs cells slots (MQ below (fQ D cA h0 h (some (.double x))) args s (fCB h0 - fZ h0) (fLB h0 - fL h0) (fA h0)) (F0 m pc ls [.double x]) :=
  fr_end hC (W.dret hexec hb hr (fun t ht hW => ⟨rfl, hC.fin ht⟩) hC.2.2.2.2.2.1.2.2 hdg)
theorem fr_vret (hexec : p.tables.exec = Jvm.exec) (hb : c.code = cc) (hr : meth.sig.returnType = none) (hlocks : meth.locks = false) (hC : fCur D cA s h0 h H locs) (hdg : decode cc pc = .ok (.return_, 1)) : W p l e R s m args below meth c H locs cells slots (MQ below (fQ D cA h0 h none) args s (fCB h0 - fZ h0) (fLB h0 - fL h0) (fA h0)) (F0 m pc ls []) :=
  fr_end hC (W.vret hexec hb hr (fun t ht hW => ⟨rfl, hC.fin ht⟩) hC.2.2.2.2.2.1.2.2 hdg hlocks)
theorem fr_aret (hexec : p.tables.exec = Jvm.exec) (hb : c.code = cc) {rt : FieldType} (hr : meth.sig.returnType = some rt) (hrt : (∃ n, rt = .object n) ∨ ∃ t, rt = .array t) (hlocks : meth.locks = false) (hC : fCur D cA s h0 h H locs) {x : Option Nat} (hdg : decode cc pc = .ok (.areturn, 1)) : W p l e R s m args below meth c H locs cells slots (MQ below (fQ D cA h0 h (some (va_rf x))) args s (fCB h0 - fZ h0) (fLB h0 - fL h0) (fA h0)) (F0 m pc ls [va_rf x]) :=
  fr_end hC (W.aret hexec hb hr hrt (by cases x with | none => exact Or.inl rfl | some a => exact Or.inr ⟨a, rfl⟩) (fun t ht hW => ⟨rfl, hC.fin ht⟩) hC.2.2.2.2.2.1.2.2 hdg hlocks)
/-- a return of a method that may throw -/
theorem fr_retQ {v : Option Value} {g : JFrame} {mc ms : Nat} {XC : String → State → State → Prop} {free : Addr → Prop} (kk : W p l e R s m args below meth c H locs cells slots (MQ below (fQ D cA h0 h v) args s mc ms free) g) : W p l e R s m args below meth c H locs cells slots (vx_MQ below (fQX D cA h0 h (.inl v)) XC args s mc ms free) g := by
  intro T hT X
  obtain ⟨t, a1, o, b1, b2, b3, b4⟩ := kk T hT X
  exact ⟨t, a1, o, b1, b2, Or.inl ⟨⟨v, rfl, b3⟩, b4⟩⟩
/-- thrown on to the caller -/
theorem fr_out {k9 : Nat} {ce : Cell} {q : Addr} (hout : ∀ x ∈ c.exceptionTable.toList, covers x pc = false) (hlocks : meth.locks = false) (hC : fCur D cA s h0 h H locs) (hcell : H[q]? = some ce) (hv : ce.vm = .none) (hcl : s.vm.findClass (fEx k9) = some ce.cls) :
    vx_W p l e R s m args below meth c H locs cells slots (vx_MQ below (fQX D cA h0 h (.inr k9)) (fXC D cA h0 h (.inr k9)) args s (fCB h0 - fZ h0) (fLB h0 - fL h0) (fA h0)) (F0 m pc ls rest) q := by
  intro T hT X
  obtain ⟨c1, c2, c3, c4, c5, c6, c7⟩ := id hC
  obtain ⟨d1, d2, d3, d4, -⟩ := c4
  obtain ⟨o1, o2⟩ := c5
  have X2 : Stand p l e R s m args below meth c T locs (fCB h0 - fZ h0) (fLB h0 - fL h0) := fStand X (by rw [hT]; omega) (by rw [hT]; omega)
  exact vx_out (E := fEx k9) hout hlocks hcell hv hcl (fun t ht hvm => ⟨k9, rfl, rfl, hC.fin ht⟩) c6.2.2 (Nat.le_refl _) (Nat.le_refl _) T hT X2
def fthr (h : fSt) : Option fSt := if fZ h + 1 ≤ fCB h ∧ fL h + 6 ≤ fLB h then some (fF h, fZ h + 1, fL h + 6, fCB h, fLB h, fX h) else none
theorem fthr_inv (h1 : fthr h = some h2) : fZ h + 1 ≤ fCB h ∧ fL h + 6 ≤ fLB h ∧ h2 = (fF h, fZ h + 1, fL h + 6, fCB h, fLB h, fX h) := by
  unfold fthr at h1
  by_cases z : fZ h + 1 ≤ fCB h ∧ fL h + 6 ≤ fLB h
  · rw [if_pos z] at h1; cases h1; exact ⟨z.1, z.2, rfl⟩
  · rw [if_neg z] at h1; cases h1
/-- the state behind a throw -/
theorem fCur.thrown {t : State} (hC : fCur D cA s h0 h H locs) (h1 : fthr h = some h2) (z1 : t.heap.size = H.size + 1) (w1 : fW t.heap ≤ fW H + 6) (o1 : ∀ q : Nat, q < H.size → t.heap[q]? = H[q]?) : fFin D cA h0 h2 s t := by
  obtain ⟨g1, g2, rfl⟩ := fthr_inv h1
  obtain ⟨c1, c2, c3, c4, c5, c6, c7⟩ := hC
  obtain ⟨d1, d2, d3, d4, d5⟩ := c4
  refine ⟨fun a e he => (c1 a e he).kept (o1 a (c1 a e he).lt), by rw [z1, c2]; rfl, ?_, ⟨?_, ?_, d3, d4, d5⟩, ⟨g1, g2⟩, ⟨?_, fun x y z => (o1 x (Nat.lt_of_lt_of_le y c6.1)).trans (c6.2.1 x y z)⟩⟩
  · show fW t.heap ≤ fW s.heap + (fL h + 6 - fL h0)
    omega
  · exact Nat.le_trans d1 (Nat.le_succ _)
  · exact Nat.le_trans d2 (Nat.le_add_right _ _)
  · have := c6.1; omega
/-- caught by the row x of the table -/
theorem fr_catch {own name : String} {k9 : Nat} {ce : Cell} {q : Addr} (hts : ∀ w ∈ WA, w.before args s = true) (K : fKw D cA h0 s) (hown : s.vm.findClass own = some m.cls) (pre : List ExceptionTableEntry) (x : ExceptionTableEntry) (suf : List ExceptionTableEntry) (hsplit : c.exceptionTable.toList = pre ++ x :: suf)
    (hpass : ∀ z ∈ pre, z.catchType ≠ 0 ∧ ∃ nm : String, Cond.classLink own z.catchType nm ∈ WA ∧ (fEx k9, nm) ∈ fNc) (hx : covers x pc = true) (hne : x.catchType ≠ 0)
    (hlink : Cond.classLink own x.catchType name ∈ WA) (hcast : Cond.castable (fEx k9) name ∈ fNw) (hcell : H[q]? = some ce) (hv : ce.vm = .none) (hcl : s.vm.findClass (fEx k9) = some ce.cls)
    (kk : W p l e R s m args below meth c H locs cells slots Q (F0 m x.handlerPc ls [va_rf (some q)])) : vx_W p l e R s m args below meth c H locs cells slots Q (F0 m pc ls rest) q :=
  vx_catch hown pre x suf hsplit (fun z hz => Or.inr ⟨(hpass z hz).1, (hpass z hz).2.imp fun nm hn => ⟨hts _ hn.1, K.2.2.2.2.1 _ hn.2⟩⟩) hx hne (hts _ hlink) (va_Nw.use rfl (K.2.2.2.2.2.1 _ hcast)) hcell hv hcl kk
theorem fr_objInit (hexec : p.tables.exec = Jvm.exec) (hb : c.code = cc) {nL : Nat} (hml : c.maxLocals = nL) (hts : ∀ w ∈ WA, w.before args s = true) {own : String} {idx : Nat} (hown : s.vm.findClass own = some m.cls) (hlink : Cond.methodLink own idx objectInit ∈ WA) (hinst : Cond.instanceMethod objectInit ∈ WA) (hcode : Cond.code objectInit ⟨#[0xb1]⟩ 1 none ∈ WA) (hsize : ls.size = nL) {a : Nat} {r : Option Nat} (hra : r = some a) (hdg : decode cc pc = .ok (.invokespecial idx, 3)) (hfr : 1 ≤ R.frames) (hlo : (rest.map fun v => v.category).sum + 12 ≤ R.locals)
    (kk : W p l e R s m args below meth c H locs cells slots Q (F0 m (pc + 3) ls rest)) : W p l e R s m args below meth c H locs cells slots Q (F0 m pc ls (va_rf r :: rest)) := by
  subst hra
  exact W.objInit hexec hb hown (hts _ hlink) (hts _ hinst) (hts _ hcode) (g := F0 m pc ls (va_rf (some a) :: rest)) rfl (hsize.trans hml.symm) rfl hdg hfr (by show 2 * 0 + _ + 12 ≤ _; omega) kk
theorem fr_ldc2 (hexec : p.tables.exec = Jvm.exec) (hb : c.code = cc) (hts : ∀ w ∈ WA, w.before args s = true) {own : String} {index : Nat} {v : Int64} (hown : s.vm.findClass own = some m.cls) (hconst : Cond.constantLong own index v ∈ WA) (hdg : decode cc pc = .ok (.ldc2_w index, 3)) (kk : W p l e R s m args below meth c H locs cells slots Q (F0 m (pc + 3) ls (.long v :: rest))) : W p l e R s m args below meth c H locs cells slots Q (F0 m pc ls rest) := lv_ldc2 hexec hb hown (hts _ hconst) hdg kk
theorem fr_mcount (hC : fCur D cA s h0 h H locs) (hR : R.cells = fCB h0 - fZ h0 ∧ R.slots = fLB h0 - fL h0) : fZ h - fZ h0 ≤ R.cells ∧ fL h - fL h0 ≤ R.slots := by
  obtain ⟨c1, c2, c3, ⟨d1, d2, d3, d4, -⟩, ⟨o1, o2⟩, c6, c7⟩ := hC
  rw [hR.1, hR.2]
  omega
theorem fr_mmin (hexec : p.tables.exec = Jvm.exec) (hb : c.code = cc) {nL : Nat} (hml : c.maxLocals = nL) (hts : ∀ w ∈ WA, w.before args s = true) {own : String} {index : Nat} (hown : s.vm.findClass own = some m.cls) (hC : fCur D cA s h0 h H locs) (hR : R.cells = fCB h0 - fZ h0 ∧ R.slots = fLB h0 - fL h0) (hlink : Cond.methodLink own index Lib.Math.min.name ∈ WA) (hstat : Cond.static Lib.Math.min.name ∈ WA) (hini : Cond.initialized "java/lang/Math" ∈ WA) (hcode : Cond.code Lib.Math.min.name Lib.Math.min.code 2 (some .int) ∈ WA) (hsize : ls.size = nL) (hfr : 1 ≤ R.frames) (hlo : (rest.map fun v => v.category).sum + 13 ≤ R.locals) {x y : Int32} (hdg : decode cc pc = .ok (.invokestatic index, 3))
    (kk : ∀ k n : Nat, W p l e R s m args below meth c H locs k n Q (F0 m (pc + 3) ls (.int (if y < x then y else x) :: rest))) : W p l e R s m args below meth c H locs cells slots Q (F0 m pc ls (.int y :: .int x :: rest)) :=
  fr_tight hC (va_mmin hexec hb (hml.trans hsize.symm) hown (hts _ hlink) (hts _ hstat) (hts _ hini) (hts _ hcode) hfr hlo (fr_mcount hC hR).1 (fr_mcount hC hR).2 hdg (kk _ _))
theorem fr_mmax (hexec : p.tables.exec = Jvm.exec) (hb : c.code = cc) {nL : Nat} (hml : c.maxLocals = nL) (hts : ∀ w ∈ WA, w.before args s = true) {own : String} {index : Nat} (hown : s.vm.findClass own = some m.cls) (hC : fCur D cA s h0 h H locs) (hR : R.cells = fCB h0 - fZ h0 ∧ R.slots = fLB h0 - fL h0) (hlink : Cond.methodLink own index Lib.Math.max.name ∈ WA) (hstat : Cond.static Lib.Math.max.name ∈ WA) (hini : Cond.initialized "java/lang/Math" ∈ WA) (hcode : Cond.code Lib.Math.max.name Lib.Math.max.code 2 (some .int) ∈ WA) (hsize : ls.size = nL) (hfr : 1 ≤ R.frames) (hlo : (rest.map fun v => v.category).sum + 13 ≤ R.locals) {x y : Int32} (hdg : decode cc pc = .ok (.invokestatic index, 3))
    (kk : ∀ k n : Nat, W p l e R s m args below meth c H locs k n Q (F0 m (pc + 3) ls (.int (if x < y then y else x) :: rest))) : W p l e R s m args below meth c H locs cells slots Q (F0 m pc ls (.int y :: .int x :: rest)) :=
  fr_tight hC (va_mmax hexec hb (hml.trans hsize.symm) hown (hts _ hlink) (hts _ hstat) (hts _ hini) (hts _ hcode) hfr hlo (fr_mcount hC hR).1 (fr_mcount hC hR).2 hdg (kk _ _))
theorem fr_mabsl (hexec : p.tables.exec = Jvm.exec) (hb : c.code = cc) {nL : Nat} (hml : c.maxLocals = nL) (hts : ∀ w ∈ WA, w.before args s = true) {own : String} {index : Nat} (hown : s.vm.findClass own = some m.cls) (hC : fCur D cA s h0 h H locs) (hR : R.cells = fCB h0 - fZ h0 ∧ R.slots = fLB h0 - fL h0) (hlink : Cond.methodLink own index Lib.MathLoose.abs_long.x ∈ WA) (hstat : Cond.static Lib.MathLoose.abs_long.x ∈ WA) (hini : Cond.initialized "java/lang/Math" ∈ WA) (hcode : Cond.code Lib.MathLoose.abs_long.x Lib.MathLoose.abs_long.code 2 (some .long) ∈ WA) (hsize : ls.size = nL) (hfr : 1 ≤ R.frames) (hlo : (rest.map fun v => v.category).sum + 13 ≤ R.locals) {x : Int64} (hdg : decode cc pc = .ok (.invokestatic index, 3))
    (kk : ∀ k n : Nat, W p l e R s m args below meth c H locs k n Q (F0 m (pc + 3) ls (.long (if 0 < x then x else -x) :: rest))) : W p l e R s m args below meth c H locs cells slots Q (F0 m pc ls (.long x :: rest)) :=
  fr_tight hC (va_mabs_long hexec hb (hml.trans hsize.symm) hown (hts _ hlink) (hts _ hstat) (hts _ hini) (hts _ hcode) hfr hlo (fr_mcount hC hR).1 (fr_mcount hC hR).2 hdg (kk _ _))
end FH7
