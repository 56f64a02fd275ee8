section FH6
variable {p : Program} {l : Launch} {e : Env} {R : Room} {s : State} {m : MethodId} {args : Array Value} {below : List Frame} {meth : Method} {c : Code} {H : Heap} {locs : List Loc} {cells slots : Nat} {Q : State → Prop}
variable {D : va_G} {cA : Nat → ClassId} {h0 h h2 : fSt} {cc : ByteArray} {pc : Nat} {ls : Array Slot} {rest st0 : List Value}
theorem wGood {w : Cond} (h : w ∈ WA) : goodWord w = true := (List.mem_filter.mp h).2
theorem wGoodIn {ws : List Cond} (h : ∀ w ∈ ws, w ∈ WA) : GoodIn WA ws := fun w hw => ⟨h w hw, good_of_word (wGood (h w hw))⟩
/-- a method's words: its code, and all words -/
abbrev wsC (y : MethodName) (cd : ByteArray) (maxL : Nat) (ret : Option FieldType) : List Cond := Cond.code y cd maxL ret :: WA
abbrev wsCH (y : MethodName) (cd : ByteArray) (maxL : Nat) (ret : Option FieldType) (hh : List (Nat × Nat × Nat × Nat)) : List Cond := Cond.codeWith y cd maxL ret hh :: WA
theorem fr_room (hC : fCur D cA s h0 h H locs) (hR : R.cells = fCB h0 - fZ h0 ∧ R.slots = fLB h0 - fL h0) : fZ h - fZ h0 + (fCB h - fZ h) ≤ R.cells ∧ fL h - fL h0 + (fLB h - fL h) ≤ R.slots := by
  obtain ⟨c1, c2, c3, ⟨d1, d2, d3, d4, -⟩, ⟨o1, o2⟩, c6, c7⟩ := hC
  rw [hR.1, hR.2]
  omega
/-- what a call that returns leaves -/
theorem fCur.after (hC : fCur D cA s h0 h H locs) {st t T' : State} {L : List Loc} (e0 : st.heap = H) (e1 : T'.heap = t.heap) (hF : fFin D cA h h2 st t) (hL : ∀ q ∈ L, fA h q.base) : fCur D cA s h0 h2 T'.heap (locs ++ L) := by
  obtain ⟨c1, c2, c3, c4, c5, c6, c7⟩ := hC
  obtain ⟨f1, f2, f3, f4, f5, f6, f7⟩ := hF
  rw [e0] at f3 f6 f7
  rw [e1]
  have d2 := c4.2.1
  have d3 := f4.2.1
  refine ⟨f1, f2, by omega, c4.trans f4, f5, ⟨Nat.le_trans c6.1 f6, fun q h1 h3 => ?_, fun q hq => ?_⟩, c7⟩
  · rw [f7 q (Nat.lt_of_lt_of_le h1 c6.1) (fun z => h3 (fA.sub c4 q z))]
    exact c6.2.1 q h1 h3
  · rcases List.mem_append.mp hq with z | z
    · exact c6.2.2 q z
    · exact fA.sub c4 _ (hL q z)
theorem fr_ret {v : Option Value} {a : Array Value} {mc ms : Nat} (hr : va_Run p l e R s m args below meth c H locs (fZ h - fZ h0) (fL h - fL h0) mc ms (F0 m pc ls st0) rest (fQ D cA h h2 v a) (fA h)) (hC : fCur D cA s h0 h H locs)
    (kk : ∀ (H1 : Heap) (locs1 : List Loc) (k n : Nat), fCur D cA s h0 h2 H1 locs1 → W p l e R s m args below meth c H1 locs1 k n Q (F0 m (pc + 3) ls (v.toList ++ rest))) : W p l e R s m args below meth c H locs cells slots Q (F0 m pc ls st0) := by
  refine fr_tight hC ?_
  intro T hT X
  obtain ⟨v', st, t, T', L, e0, X', hL, e1, e2, ⟨hv, hF⟩, stp⟩ := hr T hT X
  cases hv
  obtain ⟨t2, a1, b1⟩ := kk T'.heap (locs ++ L) _ _ (hC.after e0 e1 hF hL) T' rfl X'
  exact ⟨t2, stp t2 a1, b1⟩
theorem fr_retX {v : Option Value} {a : Array Value} {mc ms : Nat} (hr : vx_Run p l e R s m args below meth c H locs (fZ h - fZ h0) (fL h - fL h0) mc ms (F0 m pc ls st0) rest (fQX D cA h h2 (.inl v) a) (fXC D cA h h2 (.inl v)) (fA h)) (hC : fCur D cA s h0 h H locs)
    (kk : ∀ (H1 : Heap) (locs1 : List Loc) (k n : Nat), fCur D cA s h0 h2 H1 locs1 → W p l e R s m args below meth c H1 locs1 k n Q (F0 m (pc + 3) ls (v.toList ++ rest))) : W p l e R s m args below meth c H locs cells slots Q (F0 m pc ls st0) := by
  refine fr_tight hC ?_
  intro T hT X
  rcases hr T hT X with ⟨v', st, t, T', L, e0, X', hL, e1, e2, ⟨v2, hv2, hv, hF⟩, stp⟩ | ⟨q, st, t, T', L, E, ce, e0, X', hL, e1, e2, ⟨k, hk, -⟩, -⟩
  · cases hv2
    cases hv
    obtain ⟨t2, a1, b1⟩ := kk T'.heap (locs ++ L) _ _ (hC.after e0 e1 hF hL) T' rfl X'
    exact ⟨t2, stp t2 a1, b1⟩
  · cases hk
/-- a call that throws -/
theorem fr_thr {k9 : Nat} {a : Array Value} {mc ms : Nat} (hr : vx_Run p l e R s m args below meth c H locs (fZ h - fZ h0) (fL h - fL h0) mc ms (F0 m pc ls st0) rest (fQX D cA h h2 (.inr k9) a) (fXC D cA h h2 (.inr k9)) (fA h)) (hC : fCur D cA s h0 h H locs)
    (kk : ∀ (H1 : Heap) (locs1 : List Loc) (k n : Nat) (q : Addr) (ce : Cell), fCur D cA s h0 h2 H1 locs1 → H1[q]? = some ce → ce.vm = .none → s.vm.findClass (fEx k9) = some ce.cls → vx_W p l e R s m args below meth c H1 locs1 k n Q (F0 m pc ls rest) q) : W p l e R s m args below meth c H locs cells slots Q (F0 m pc ls st0) := by
  refine fr_tight hC ?_
  intro T hT X
  rcases hr T hT X with ⟨v', st, t, T', L, e0, X', hL, e1, e2, ⟨v2, hv2, -⟩, -⟩ | ⟨q, st, t, T', L, E, ce, e0, X', hL, e1, e2, ⟨k, hk, hE, hF⟩, hce, hcv, hcl, stp⟩
  · cases hv2
  · cases hk
    subst hE
    obtain ⟨t2, a1, b1⟩ := kk T'.heap (locs ++ L) _ _ q ce (hC.after e0 e1 hF hL) (by rw [e1]; exact hce) hcv hcl T' rfl X'
    exact ⟨t2, stp.trans a1, b1⟩
/-- the words and the room of a callee -/
theorem fWords (hts : ∀ w ∈ WA, w.before args s = true) {y : MethodName} {cd : ByteArray} {maxL : Nat} {ret : Option FieldType} (hcode : Cond.code y cd maxL ret ∈ WA) : ∀ w ∈ wsC y cd maxL ret, w ∈ WA := fun w hw => (List.mem_cons.mp hw).elim (fun z => by rw [z]; exact hcode) id
theorem fCallB (hts : ∀ w ∈ WA, w.before args s = true) {own : String} {index maxL mc ms fr lo : Nat} {y : MethodName} {cd : ByteArray} {ret : Option FieldType} (n : Nat) (hcode : Cond.code y cd maxL ret ∈ WA) (hlink : Cond.methodLink own index y ∈ WA) (hini : Cond.initialized y.cls ∈ WA) (hd : y.cls ≠ "java/lang/invoke/MethodHandle" ∧ y.cls ≠ "java/lang/invoke/VarHandle" ∧ (parseMethodDescriptor y.desc).map (fun d => d.parameters.length) = some n) (hRm : fr + 1 ≤ R.frames ∧ 8 + (maxL + 11) + lo ≤ R.locals) :
    CallB R s args own index y cd maxL ret (wsC y cd maxL ret) { frames := fr, cells := mc, slots := ms, locals := lo } mc ms n :=
  callB_of n hts (wGoodIn (fWords hts hcode)) rfl rfl rfl (hts _ hini) (hts _ hlink) hd hRm
theorem fPreV {y : MethodName} (hC : fCur D cA s h0 h H locs) (K : fKw D cA h0 s) {C : String} {T : u_T} {N ci : Nat} {ty : Nat → FieldType} (ct : CT ci C T N ty) {b : Nat} {fs : List Value} (hb : fF h b = some (.inl (ci, fs))) (As : List Value) : PreV s H C b (va_Pc (.ref b :: As) (fCp D cA h)) As := by
  refine ⟨fBlind, va_recv (D := D) (cl := fcl) (ws := [(b, .inr (ci, fs))]) (q0 := 0) (ci := ci) (q := (C, T, N)) K.1 (fOne hC hb) ct.1 rfl, fun U hU hW => ⟨rfl, hC.call K hU hW⟩⟩
theorem fPreS (hC : fCur D cA s h0 h H locs) (K : fKw D cA h0 s) (As : List Value) : PreS s H (va_Pc As (fCp D cA h)) As := ⟨fBlind, fun U hU hW => ⟨rfl, hC.call K hU hW⟩⟩
/-- the class of the receiver -/
def fobj (h : fSt) (r : Option Nat) (ci : Nat) : Option Nat := match r with
  | none => none
  | some a => match fF h a with
    | some (.inl (cj, _)) => if cj = ci then some a else none
    | _ => none
theorem fobj_inv {r : Option Nat} {ci b : Nat} (h1 : fobj h r ci = some b) : r = some b ∧ ∃ fs, fF h b = some (.inl (ci, fs)) := by
  unfold fobj at h1
  split at h1
  · cases h1
  · rename_i a
    split at h1
    · rename_i cj fs hq
      by_cases z : cj = ci
      · subst z
        rw [if_pos (Eq.refl _)] at h1
        cases h1
        exact ⟨rfl, fs, hq⟩
      · rw [if_neg z] at h1; cases h1
    · cases h1
/-- invokevirtual of a method that returns v -/
theorem fr_callV (hexec : p.tables.exec = Jvm.exec) (hb : c.code = cc) {nL : Nat} (hml : c.maxLocals = nL) (hts : ∀ w ∈ WA, w.before args s = true) {own C : String} {T : u_T} {N ci index maxL fr lo : Nat} {ty : Nat → FieldType} (hown : s.vm.findClass own = some m.cls) (K : fKw D cA h0 s) (hC : fCur D cA s h0 h H locs) (hR : R.cells = fCB h0 - fZ h0 ∧ R.slots = fLB h0 - fL h0) (ct : CT ci C T N ty)
    {y : MethodName} {cd : ByteArray} {ret : Option FieldType} {r : Option Nat} {b : Nat} {As : List Value} {v : Option Value} (hM : fMet l y (wsC y cd maxL ret) fr lo D cA (.ref b :: As) h h2 v) (n : Nat) (hg : fobj h r ci = some b) (hcode : Cond.code y cd maxL ret ∈ WA) (hlink : Cond.methodLink own index y ∈ WA) (hinst : Cond.instanceMethod y ∈ WA) (hsel : Cond.selects C y y ∈ WA) (hini : Cond.initialized y.cls ∈ WA)
    (hd : y.cls ≠ "java/lang/invoke/MethodHandle" ∧ y.cls ≠ "java/lang/invoke/VarHandle" ∧ (parseMethodDescriptor y.desc).map (fun d => d.parameters.length) = some n) (hRm : fr + 1 ≤ R.frames ∧ 8 + (maxL + 11) + lo ≤ R.locals) (hn : As.length = n) (hsize : ls.size = nL) (hW : (rest.map fun v => v.category).sum ≤ 8) (hdg : decode cc pc = .ok (.invokevirtual index, 3)) (hst : st0 = As.reverse ++ va_rf r :: rest)
    (kk : ∀ (H1 : Heap) (locs1 : List Loc) (k n : Nat), fCur D cA s h0 h2 H1 locs1 → W p l e R s m args below meth c H1 locs1 k n Q (F0 m (pc + 3) ls (v.toList ++ rest))) : W p l e R s m args below meth c H locs cells slots Q (F0 m pc ls st0) := by
  obtain ⟨rfl, fs, hbo⟩ := fobj_inv hg
  subst hst
  exact fr_ret (va_runV ⟨hexec, hb, hml, hown, hts⟩ hM ⟨fCallB hts n hcode hlink hini hd hRm, hts _ hinst, hts _ hsel⟩ (fPreV (y := y) hC K ct hbo As) rfl hn hsize rfl (by show 2 * 0 + _ ≤ 8; omega) hdg (fr_room hC hR)) hC kk
theorem fr_callVX (hexec : p.tables.exec = Jvm.exec) (hb : c.code = cc) {nL : Nat} (hml : c.maxLocals = nL) (hts : ∀ w ∈ WA, w.before args s = true) {own C : String} {T : u_T} {N ci index maxL fr lo : Nat} {ty : Nat → FieldType} (hown : s.vm.findClass own = some m.cls) (K : fKw D cA h0 s) (hC : fCur D cA s h0 h H locs) (hR : R.cells = fCB h0 - fZ h0 ∧ R.slots = fLB h0 - fL h0) (ct : CT ci C T N ty)
    {y : MethodName} {cd : ByteArray} {ret : Option FieldType} {r : Option Nat} {b : Nat} {As : List Value} {v : Option Value} (hM : fMetX l y (wsC y cd maxL ret) fr lo D cA (.ref b :: As) h h2 (.inl v)) (n : Nat) (hg : fobj h r ci = some b) (hcode : Cond.code y cd maxL ret ∈ WA) (hlink : Cond.methodLink own index y ∈ WA) (hinst : Cond.instanceMethod y ∈ WA) (hsel : Cond.selects C y y ∈ WA) (hini : Cond.initialized y.cls ∈ WA)
    (hd : y.cls ≠ "java/lang/invoke/MethodHandle" ∧ y.cls ≠ "java/lang/invoke/VarHandle" ∧ (parseMethodDescriptor y.desc).map (fun d => d.parameters.length) = some n) (hRm : fr + 1 ≤ R.frames ∧ 8 + (maxL + 11) + lo ≤ R.locals) (hn : As.length = n) (hsize : ls.size = nL) (hW : (rest.map fun v => v.category).sum ≤ 8) (hdg : decode cc pc = .ok (.invokevirtual index, 3)) (hst : st0 = As.reverse ++ va_rf r :: rest)
    (kk : ∀ (H1 : Heap) (locs1 : List Loc) (k n : Nat), fCur D cA s h0 h2 H1 locs1 → W p l e R s m args below meth c H1 locs1 k n Q (F0 m (pc + 3) ls (v.toList ++ rest))) : W p l e R s m args below meth c H locs cells slots Q (F0 m pc ls st0) := by
  obtain ⟨rfl, fs, hbo⟩ := fobj_inv hg
  subst hst
  exact fr_retX (vx_runV ⟨hexec, hb, hml, hown, hts⟩ hM ⟨fCallB hts n hcode hlink hini hd hRm, hts _ hinst, hts _ hsel⟩ (fPreV (y := y) hC K ct hbo As) rfl hn hsize rfl (by show 2 * 0 + _ ≤ 8; omega) hdg (fr_room hC hR)) hC kk
theorem fr_callVT (hexec : p.tables.exec = Jvm.exec) (hb : c.code = cc) {nL : Nat} (hml : c.maxLocals = nL) (hts : ∀ w ∈ WA, w.before args s = true) {own C : String} {T : u_T} {N ci index maxL fr lo : Nat} {ty : Nat → FieldType} (hown : s.vm.findClass own = some m.cls) (K : fKw D cA h0 s) (hC : fCur D cA s h0 h H locs) (hR : R.cells = fCB h0 - fZ h0 ∧ R.slots = fLB h0 - fL h0) (ct : CT ci C T N ty)
    {y : MethodName} {cd : ByteArray} {ret : Option FieldType} {r : Option Nat} {b k9 : Nat} {As : List Value} (hM : fMetX l y (wsC y cd maxL ret) fr lo D cA (.ref b :: As) h h2 (.inr k9)) (n : Nat) (hg : fobj h r ci = some b) (hcode : Cond.code y cd maxL ret ∈ WA) (hlink : Cond.methodLink own index y ∈ WA) (hinst : Cond.instanceMethod y ∈ WA) (hsel : Cond.selects C y y ∈ WA) (hini : Cond.initialized y.cls ∈ WA)
    (hd : y.cls ≠ "java/lang/invoke/MethodHandle" ∧ y.cls ≠ "java/lang/invoke/VarHandle" ∧ (parseMethodDescriptor y.desc).map (fun d => d.parameters.length) = some n) (hRm : fr + 1 ≤ R.frames ∧ 8 + (maxL + 11) + lo ≤ R.locals) (hn : As.length = n) (hsize : ls.size = nL) (hW : (rest.map fun v => v.category).sum ≤ 8) (hdg : decode cc pc = .ok (.invokevirtual index, 3)) (hst : st0 = As.reverse ++ va_rf r :: rest)
    (kk : ∀ (H1 : Heap) (locs1 : List Loc) (k n : Nat) (q : Addr) (ce : Cell), fCur D cA s h0 h2 H1 locs1 → H1[q]? = some ce → ce.vm = .none → s.vm.findClass (fEx k9) = some ce.cls → vx_W p l e R s m args below meth c H1 locs1 k n Q (F0 m pc ls rest) q) : W p l e R s m args below meth c H locs cells slots Q (F0 m pc ls st0) := by
  obtain ⟨rfl, fs, hbo⟩ := fobj_inv hg
  subst hst
  exact fr_thr (vx_runV ⟨hexec, hb, hml, hown, hts⟩ hM ⟨fCallB hts n hcode hlink hini hd hRm, hts _ hinst, hts _ hsel⟩ (fPreV (y := y) hC K ct hbo As) rfl hn hsize rfl (by show 2 * 0 + _ ≤ 8; omega) hdg (fr_room hC hR)) hC kk
/-- invokestatic -/
theorem fr_callS (hexec : p.tables.exec = Jvm.exec) (hb : c.code = cc) {nL : Nat} (hml : c.maxLocals = nL) (hts : ∀ w ∈ WA, w.before args s = true) {own : String} {index maxL fr lo : Nat} (hown : s.vm.findClass own = some m.cls) (K : fKw D cA h0 s) (hC : fCur D cA s h0 h H locs) (hR : R.cells = fCB h0 - fZ h0 ∧ R.slots = fLB h0 - fL h0)
    {y : MethodName} {cd : ByteArray} {ret : Option FieldType} {As : List Value} {v : Option Value} (hM : fMet l y (wsC y cd maxL ret) fr lo D cA As h h2 v) (n : Nat) (hcode : Cond.code y cd maxL ret ∈ WA) (hlink : Cond.methodLink own index y ∈ WA) (hstat : Cond.static y ∈ WA) (hini : Cond.initialized y.cls ∈ WA)
    (hd : y.cls ≠ "java/lang/invoke/MethodHandle" ∧ y.cls ≠ "java/lang/invoke/VarHandle" ∧ (parseMethodDescriptor y.desc).map (fun d => d.parameters.length) = some n) (hRm : fr + 1 ≤ R.frames ∧ 8 + (maxL + 11) + lo ≤ R.locals) (hn : As.length = n) (hsize : ls.size = nL) (hW : (rest.map fun v => v.category).sum ≤ 8) (hdg : decode cc pc = .ok (.invokestatic index, 3)) (hst : st0 = As.reverse ++ rest)
    (kk : ∀ (H1 : Heap) (locs1 : List Loc) (k n : Nat), fCur D cA s h0 h2 H1 locs1 → W p l e R s m args below meth c H1 locs1 k n Q (F0 m (pc + 3) ls (v.toList ++ rest))) : W p l e R s m args below meth c H locs cells slots Q (F0 m pc ls st0) := by
  subst hst
  exact fr_ret (va_runS ⟨hexec, hb, hml, hown, hts⟩ hM ⟨fCallB hts n hcode hlink hini hd hRm, hts _ hstat⟩ (fPreS hC K As) rfl hn hsize rfl (by show 2 * 0 + _ ≤ 8; omega) hdg (fr_room hC hR)) hC kk
theorem fr_callSX (hexec : p.tables.exec = Jvm.exec) (hb : c.code = cc) {nL : Nat} (hml : c.maxLocals = nL) (hts : ∀ w ∈ WA, w.before args s = true) {own : String} {index maxL fr lo : Nat} (hown : s.vm.findClass own = some m.cls) (K : fKw D cA h0 s) (hC : fCur D cA s h0 h H locs) (hR : R.cells = fCB h0 - fZ h0 ∧ R.slots = fLB h0 - fL h0)
    {y : MethodName} {cd : ByteArray} {ret : Option FieldType} {As : List Value} {v : Option Value} (hM : fMetX l y (wsC y cd maxL ret) fr lo D cA As h h2 (.inl v)) (n : Nat) (hcode : Cond.code y cd maxL ret ∈ WA) (hlink : Cond.methodLink own index y ∈ WA) (hstat : Cond.static y ∈ WA) (hini : Cond.initialized y.cls ∈ WA)
    (hd : y.cls ≠ "java/lang/invoke/MethodHandle" ∧ y.cls ≠ "java/lang/invoke/VarHandle" ∧ (parseMethodDescriptor y.desc).map (fun d => d.parameters.length) = some n) (hRm : fr + 1 ≤ R.frames ∧ 8 + (maxL + 11) + lo ≤ R.locals) (hn : As.length = n) (hsize : ls.size = nL) (hW : (rest.map fun v => v.category).sum ≤ 8) (hdg : decode cc pc = .ok (.invokestatic index, 3)) (hst : st0 = As.reverse ++ rest)
    (kk : ∀ (H1 : Heap) (locs1 : List Loc) (k n : Nat), fCur D cA s h0 h2 H1 locs1 → W p l e R s m args below meth c H1 locs1 k n Q (F0 m (pc + 3) ls (v.toList ++ rest))) : W p l e R s m args below meth c H locs cells slots Q (F0 m pc ls st0) := by
  subst hst
  exact fr_retX (vx_runS ⟨hexec, hb, hml, hown, hts⟩ hM ⟨fCallB hts n hcode hlink hini hd hRm, hts _ hstat⟩ (fPreS hC K As) rfl hn hsize rfl (by show 2 * 0 + _ ≤ 8; omega) hdg (fr_room hC hR)) hC kk
theorem fr_callST (hexec : p.tables.exec = Jvm.exec) (hb : c.code = cc) {nL : Nat} (hml : c.maxLocals = nL) (hts : ∀ w ∈ WA, w.before args s = true) {own : String} {index maxL fr lo : Nat} (hown : s.vm.findClass own = some m.cls) (K : fKw D cA h0 s) (hC : fCur D cA s h0 h H locs) (hR : R.cells = fCB h0 - fZ h0 ∧ R.slots = fLB h0 - fL h0)
    {y : MethodName} {cd : ByteArray} {ret : Option FieldType} {As : List Value} {k9 : Nat} (hM : fMetX l y (wsC y cd maxL ret) fr lo D cA As h h2 (.inr k9)) (n : Nat) (hcode : Cond.code y cd maxL ret ∈ WA) (hlink : Cond.methodLink own index y ∈ WA) (hstat : Cond.static y ∈ WA) (hini : Cond.initialized y.cls ∈ WA)
    (hd : y.cls ≠ "java/lang/invoke/MethodHandle" ∧ y.cls ≠ "java/lang/invoke/VarHandle" ∧ (parseMethodDescriptor y.desc).map (fun d => d.parameters.length) = some n) (hRm : fr + 1 ≤ R.frames ∧ 8 + (maxL + 11) + lo ≤ R.locals) (hn : As.length = n) (hsize : ls.size = nL) (hW : (rest.map fun v => v.category).sum ≤ 8) (hdg : decode cc pc = .ok (.invokestatic index, 3)) (hst : st0 = As.reverse ++ rest)
    (kk : ∀ (H1 : Heap) (locs1 : List Loc) (k n : Nat) (q : Addr) (ce : Cell), fCur D cA s h0 h2 H1 locs1 → H1[q]? = some ce → ce.vm = .none → s.vm.findClass (fEx k9) = some ce.cls → vx_W p l e R s m args below meth c H1 locs1 k n Q (F0 m pc ls rest) q) : W p l e R s m args below meth c H locs cells slots Q (F0 m pc ls st0) := by
  subst hst
  exact fr_thr (vx_runS ⟨hexec, hb, hml, hown, hts⟩ hM ⟨fCallB hts n hcode hlink hini hd hRm, hts _ hstat⟩ (fPreS hC K As) rfl hn hsize rfl (by show 2 * 0 + _ ≤ 8; omega) hdg (fr_room hC hR)) hC kk
/-- a constructor of ours -/
theorem fr_callI (hexec : p.tables.exec = Jvm.exec) (hb : c.code = cc) {nL : Nat} (hml : c.maxLocals = nL) (hts : ∀ w ∈ WA, w.before args s = true) {own : String} {index maxL fr lo : Nat} (hown : s.vm.findClass own = some m.cls) (K : fKw D cA h0 s) (hC : fCur D cA s h0 h H locs) (hR : R.cells = fCB h0 - fZ h0 ∧ R.slots = fLB h0 - fL h0)
    {y : MethodName} {cd : ByteArray} {b : Nat} {As : List Value} (hM : fMet l y (wsC y cd maxL none) fr lo D cA (.ref b :: As) h h2 none) (n : Nat) (hcode : Cond.code y cd maxL none ∈ WA) (hlink : Cond.methodLink own index y ∈ WA) (hinst : Cond.instanceMethod y ∈ WA) (hini : Cond.initialized y.cls ∈ WA) (hnm : y.name = "<init>")
    (hd : y.cls ≠ "java/lang/invoke/MethodHandle" ∧ y.cls ≠ "java/lang/invoke/VarHandle" ∧ (parseMethodDescriptor y.desc).map (fun d => d.parameters.length) = some n) (hRm : fr + 1 ≤ R.frames ∧ 8 + (maxL + 11) + lo ≤ R.locals) (hn : As.length = n) (hsize : ls.size = nL) (hW : (rest.map fun v => v.category).sum ≤ 8) (hdg : decode cc pc = .ok (.invokespecial index, 3)) (hst : st0 = As.reverse ++ va_rf (some b) :: rest)
    (kk : ∀ (H1 : Heap) (locs1 : List Loc) (k n : Nat), fCur D cA s h0 h2 H1 locs1 → W p l e R s m args below meth c H1 locs1 k n Q (F0 m (pc + 3) ls rest)) : W p l e R s m args below meth c H locs cells slots Q (F0 m pc ls st0) := by
  subst hst
  exact fr_ret (va_runI ⟨hexec, hb, hml, hown, hts⟩ hM ⟨fCallB hts n hcode hlink hini hd hRm, hnm, hts _ hinst⟩ (fPreS hC K (.ref b :: As)) rfl hn hsize rfl (by show 2 * 0 + _ ≤ 8; omega) hdg (fr_room hC hR)) hC kk
end FH6
