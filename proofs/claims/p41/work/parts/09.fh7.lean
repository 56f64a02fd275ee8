section FH10
variable {p : Program} {l : Launch} {e : Env} {R : Room} {s : State} {m : MethodId} {args : Array Value} {below : List Frame} {meth : Method} {c : Code} {H : Heap} {locs : List Loc} {cells slots : Nat} {Q : State → Prop}
variable {D : va_G} {cA : Nat → ClassId} {h0 h h2 : fSt} {cc : ByteArray} {pc : Nat} {ls : Array Slot} {rest st0 : List Value}
theorem fCur.setL {H1 : Heap} {L : List Loc} {a : Nat} {e0 e1 : fCe} (c : fCur D cA s h0 h H locs) (h0a : fF h a = some e0) (he : va_at D fcl (a, fE cA e1) H1) (hz : H1.size = H.size) (oq : ∀ q : Nat, q ≠ a → H1[q]? = H[q]?) (hw : fW H1 = fW H) (hL : ∀ q ∈ L, q.base = a) : fCur D cA s h0 (fSet h a e1) H1 (locs ++ L) := by
  obtain ⟨d1, d2, d3, d4, d5, d6, d7⟩ := c.set (k := 0) h0a he hz oq hw
  refine ⟨d1, d2, d3, d4, d5, ⟨d6.1, d6.2.1, fun q hq => ?_⟩, d7⟩
  rcases List.mem_append.mp hq with z | z
  · exact d6.2.2 q (List.mem_append.mpr (Or.inl z))
  · rw [hL q z]
    exact d6.2.2 ⟨a, 0⟩ (List.mem_append.mpr (Or.inr List.mem_cons_self))
def fcpy (h : fSt) (r0 : Option Nat) (sp : Int32) (r1 : Option Nat) (dp n : Int32) (t : Nat) : Option fSt := match farr h r0 t, r1, farr h r1 t with
  | some (n0, .inl f), some a1, some (n1, .inl g) => if ¬ sp < 0 ∧ ¬ dp < 0 ∧ ¬ n < 0 ∧ sp.toNatClampNeg + n.toNatClampNeg ≤ n0 ∧ dp.toNatClampNeg + n.toNatClampNeg ≤ n1 then some (fSet h a1 (.inr (t, n1, .inl (va_cpy f g sp.toNatClampNeg dp.toNatClampNeg n.toNatClampNeg)))) else none
  | _, _, _ => none
theorem fcpy_inv {r0 r1 : Option Nat} {sp dp n : Int32} {t : Nat} (h1 : fcpy h r0 sp r1 dp n t = some h2) : ∃ (a0 a1 n0 n1 : Nat) (f g : Nat → Int32), r0 = some a0 ∧ r1 = some a1 ∧ fF h a0 = some (.inr (t, n0, .inl f)) ∧ fF h a1 = some (.inr (t, n1, .inl g)) ∧ (¬ sp < 0 ∧ ¬ dp < 0 ∧ ¬ n < 0 ∧ sp.toNatClampNeg + n.toNatClampNeg ≤ n0 ∧ dp.toNatClampNeg + n.toNatClampNeg ≤ n1) ∧ h2 = fSet h a1 (.inr (t, n1, .inl (va_cpy f g sp.toNatClampNeg dp.toNatClampNeg n.toNatClampNeg))) := by
  unfold fcpy at h1
  split at h1
  · rename_i n0 f a1 n1 g hq0 hq1
    obtain ⟨b0, e0, f0⟩ := farr_inv hq0
    obtain ⟨b1, e1, f1⟩ := farr_inv hq1
    cases e1
    by_cases z : ¬ sp < 0 ∧ ¬ dp < 0 ∧ ¬ n < 0 ∧ sp.toNatClampNeg + n.toNatClampNeg ≤ n0 ∧ dp.toNatClampNeg + n.toNatClampNeg ≤ n1
    · rw [if_pos z] at h1
      cases h1
      exact ⟨b0, a1, n0, n1, f, g, e0, rfl, f0, f1, z, rfl⟩
    · rw [if_neg z] at h1; cases h1
  · cases h1
theorem fr_copyi (hexec : p.tables.exec = Jvm.exec) (hb : c.code = cc) {nL : Nat} (hml : c.maxLocals = nL) (hts : ∀ w ∈ WA, w.before args s = true) {own : String} {index : Nat} (hown : s.vm.findClass own = some m.cls) (K : fKw D cA h0 s) (hC : fCur D cA s h0 h H locs) (hlink : Cond.methodLink own index arraycopyName ∈ WA) (hnat : Cond.native arraycopyName ∈ WA) (hstat : Cond.static arraycopyName ∈ WA) (hini : Cond.initialized "java/lang/System" ∈ WA) {t : Nat} (ht : ftl[t]? = some .int) {r0 r1 : Option Nat} {sp dp n : Int32} (hg : fcpy h r0 sp r1 dp n t = some h2) (hsize : ls.size = nL)
    (hframes : 1 ≤ R.frames) (hlocals : (rest.map fun v => v.category).sum + (nativeFrameWords "java/lang/System" "arraycopy" 5 + 11) ≤ R.locals) (hdg : decode cc pc = .ok (.invokestatic index, 3))
    (kk : ∀ (H1 : Heap) (locs1 : List Loc), fCur D cA s h0 h2 H1 locs1 → W p l e R s m args below meth c H1 locs1 cells slots Q (F0 m (pc + 3) ls rest)) : W p l e R s m args below meth c H locs cells slots Q (F0 m pc ls (.int n :: .int dp :: va_rf r1 :: .int sp :: va_rf r0 :: rest)) := by
  obtain ⟨a0, a, n0, n1, f, g, rfl, rfl, hF0, hF1, ⟨h1, h2, h3, h4, h5⟩, rfl⟩ := fcpy_inv hg
  have nn : ∀ z : Int32, ¬ z < 0 → z.toInt = (z.toNatClampNeg : Int) := by
    intro z hz
    have hz0 : (0 : Int) ≤ z.toInt := by
      have := Int32.not_lt.mp hz
      simpa using Int32.le_iff_toInt_le.mp this
    show z.toInt = ((z.toInt.toNat : Nat) : Int)
    omega
  intro T hT X
  have hc0 : H[a0]? = some (vp_cell (cA t) (n0, .inl f)) := hC.1 a0 _ hF0
  have hc1 : H[a]? = some (vp_cell (cA t) (n1, .inl g)) := hC.1 a _ hF1
  obtain ⟨-, k0, hk0, cm0, hkk0⟩ := (K.1.2 t _ (fTys_at ht)).1 n0 (fun j => .int (f j))
  obtain ⟨-, k1, hk1, cm1, hkk1⟩ := (K.1.2 t _ (fTys_at ht)).1 n1 (fun j => .int (g j))
  obtain ⟨vm', X', step⟩ := X.arraycopy hexec hown (hts _ hlink) (hts _ hnat) (hts _ hstat) (hts _ hini) (src := a0) (dst := a) (cs := vp_cell (cA t) (n0, .inl f)) (cd := vp_cell (cA t) (n1, .inl g)) (srcPos := sp) (destPos := dp) (n := n) (by rw [hT]; exact hc0) (by rw [hT]; exact hc1)
    (fun _ h => by cases h) (fun _ h => by cases h) (fun h => by cases h) (fun h => by cases h) hk0 hk1 hkk0 hkk1 (by simp [refKind]) h1 h2 h3
    (by rw [nn sp h1, nn n h3]; show ¬ _ > ((arrV (cA t) n0 (fun j => .int (f j))).slots.size : Int); rw [arrV_size]; omega)
    (by rw [nn dp h2, nn n h3]; show ¬ _ > ((arrV (cA t) n1 (fun j => .int (g j))).slots.size : Int); rw [arrV_size]; omega)
    (fun vm₁ _ i hi => by
      have e : (vp_cell (cA t) (n0, .inl f)).slots.getD (sp.toNatClampNeg + i) .null = .int (f (sp.toNatClampNeg + i)) := by
        show (arrV (cA t) n0 (fun j => .int (f j))).slots.getD _ _ = _
        rw [Array.getD_eq_getD_getElem?, arrV_read _ _ (by omega)]
        rfl
      refine ⟨?_, ?_⟩
      · rw [e]
        rfl
      · rw [e]
        exact trivial)
    (g := F0 m pc ls (.int n :: .int dp :: .ref a :: .int sp :: .ref a0 :: rest)) rfl (by rw [hml]; exact hsize) (rest := rest) rfl (by rw [hb]; exact hdg) hframes (by show 2 * 0 + _ + _ ≤ _; omega)
  have e1 : copied (vp_cell (cA t) (n0, .inl f)) (vp_cell (cA t) (n1, .inl g)) sp dp n = vp_cell (cA t) (n1, .inl (va_cpy f g sp.toNatClampNeg dp.toNatClampNeg n.toNatClampNeg)) := va_copied (fun z => .int z) (cA t) (cA t) f g h4
  rw [e1] at X' step
  have hl : a < H.size := (Array.getElem?_eq_some_iff.mp hc1).1
  have hheap : ((T.setVm vm').setCell a (vp_cell (cA t) (n1, .inl (va_cpy f g sp.toNatClampNeg dp.toNatClampNeg n.toNatClampNeg)))).heap = H.setIfInBounds a (vp_cell (cA t) (n1, .inl (va_cpy f g sp.toNatClampNeg dp.toNatClampNeg n.toNatClampNeg))) := by rw [← hT]; rfl
  have oq : ∀ q : Nat, q ≠ a → (H.setIfInBounds a (vp_cell (cA t) (n1, .inl (va_cpy f g sp.toNatClampNeg dp.toNatClampNeg n.toNatClampNeg))))[q]? = H[q]? := fun q hq => by simp [Array.getElem?_setIfInBounds, Ne.symm hq]
  have hat : (H.setIfInBounds a (vp_cell (cA t) (n1, .inl (va_cpy f g sp.toNatClampNeg dp.toNatClampNeg n.toNatClampNeg))))[a]? = some (vp_cell (cA t) (n1, .inl (va_cpy f g sp.toNatClampNeg dp.toNatClampNeg n.toNatClampNeg))) := by simp [Array.getElem?_setIfInBounds, hl]
  have hw : fW (H.setIfInBounds a (vp_cell (cA t) (n1, .inl (va_cpy f g sp.toNatClampNeg dp.toNatClampNeg n.toNatClampNeg)))) = fW H := by
    apply fW_eq
    intro q
    by_cases hq : q = a
    · subst hq
      rw [hat, hc1]
      show some (arrV _ _ _).slots.size = some (arrV _ _ _).slots.size
      rw [arrV_size, arrV_size]
    · rw [oq q hq]
  obtain ⟨t9, a1, b1⟩ := kk _ _ (hC.setL hF1 (e1 := .inr (t, n1, .inl (va_cpy f g sp.toNatClampNeg dp.toNatClampNeg n.toNatClampNeg))) hat (by simp) oq hw (fun q hq => by
      obtain ⟨z, -, hz⟩ := List.mem_map.mp hq
      rw [← hz])) _ hheap X'
  exact ⟨t9, step t9 a1, b1⟩
theorem lva0 {i : Nat} : lv_args i [] = [] := rfl
theorem lva1 {i : Nat} {v : Value} {vs : List Value} {l : List (Nat × Value)} (h : v.category = 1) (t : lv_args (i + 1) vs = l) : lv_args i (v :: vs) = (i, v) :: l := by
  show (i, v) :: lv_args (if v.category = 2 then i + 2 else i + 1) vs = _
  rw [if_neg (by rw [h]; decide), t]
theorem lva2 {i : Nat} {v : Value} {vs : List Value} {l : List (Nat × Value)} (h : v.category = 2) (t : lv_args (i + 2) vs = l) : lv_args i (v :: vs) = (i, v) :: l := by
  show (i, v) :: lv_args (if v.category = 2 then i + 2 else i + 1) vs = _
  rw [if_pos h, t]
theorem lgl0 : (lg_sl []).length = 0 := rfl
theorem lgl1 {v : Value} {vs : List Value} {n : Nat} (h : v.category = 1) (t : (lg_sl vs).length = n) : (lg_sl (v :: vs)).length = n + 1 := by
  unfold lg_sl at t ⊢
  rw [List.flatMap_cons, if_neg (by rw [h]; decide), List.length_append, t]
  simp; omega
theorem lgl2 {v : Value} {vs : List Value} {n : Nat} (h : v.category = 2) (t : (lg_sl vs).length = n) : (lg_sl (v :: vs)).length = n + 2 := by
  unfold lg_sl at t ⊢
  rw [List.flatMap_cons, if_pos h, List.length_append, t]
  simp; omega
/-- what stands of the machine and of a method in each of its rows -/
def fM (p : Program) (s : State) (m : MethodId) (args : Array Value) (meth : Method) (c : Code) (D : va_G) (cA : Nat → ClassId) (h0 : fSt) (R : Room) (cc : ByteArray) (nL : Nat) (ret : Option FieldType) (own : String) : Prop :=
  p.tables.exec = Jvm.exec ∧ c.code = cc ∧ c.maxLocals = nL ∧ meth.sig.returnType = ret ∧ meth.locks = false ∧ (∀ w ∈ WA, w.before args s = true) ∧ s.vm.findClass own = some m.cls ∧ fKw D cA h0 s ∧ (R.cells = fCB h0 - fZ h0 ∧ R.slots = fLB h0 - fL h0)
/-- a contract out of the walk of the body -/
theorem fMet.of {y : MethodName} {cd : ByteArray} {maxL fr lo : Nat} {ret : Option FieldType} {as : List Value} {v : Option Value} {own : String} (hy : plainName y.cls = true) (ho : y.cls = own) {lv0 : List (Nat × Value)} {k0 : Nat} (ha0 : lv_args 0 as = lv0) (hk0 : (lg_sl as).length = k0) (hlen : k0 ≤ maxL)
    (body : ∀ (p : Program) (e : Env) (s : State) (m : MethodId) (args : Array Value) (below : List Frame) (meth : Method) (c : Code) (ls : Array Slot), meth.name = y.name → (∀ x ∈ c.exceptionTable.toList, True) → fM p s m args meth c D cA h { frames := fr, cells := fCB h - fZ h, slots := fLB h - fL h, locals := lo } cd maxL ret own → fCur D cA s h h s.heap [] → lv_has ls maxL lv0 →
      W p l e { frames := fr, cells := fCB h - fZ h, slots := fLB h - fL h, locals := lo } s m args below meth c s.heap [] 0 0 (MQ below (fQ D cA h h2 v) args s (fCB h - fZ h) (fLB h - fL h) (fA h)) (F0 m 0 ls [])) : fMet l y (wsC y cd maxL ret) fr lo D cA as h h2 v := by
  refine Met.ofW (cc := cd) (maxL := maxL) (ret := ret) hy rfl ?_
  intro p e s m args below meth c s₁ B hml hv
  obtain ⟨rfl, hv⟩ := hv
  have hts := atoms_spec (ws := wsC y cd maxL ret) B.pre
  have hown : s.vm.findClass y.cls = some m.cls := findClass_of_methodNamed B.named
  rw [ho] at hown
  have hl := lv_entry as (n := maxL) (by rw [hk0]; exact hlen)
  rw [ha0] at hl
  rw [lg_entry_eq]
  exact body p e s m as.toArray below meth c _ (name_of_methodNamed B.named B.method).1 (fun _ _ => trivial) ⟨B.exec, B.bytes, hml, B.returns, B.notSynchronized, fun w hw => hts w (List.mem_cons_of_mem _ hw), hown, hv.2.2.2, rfl, rfl⟩ (fCur.start hv) hl
theorem fMetX.of {y : MethodName} {cd : ByteArray} {maxL fr lo : Nat} {ret : Option FieldType} {as : List Value} {r : Option Value ⊕ Nat} {own : String} (hy : plainName y.cls = true) (ho : y.cls = own) {lv0 : List (Nat × Value)} {k0 : Nat} (ha0 : lv_args 0 as = lv0) (hk0 : (lg_sl as).length = k0) (hlen : k0 ≤ maxL)
    (body : ∀ (p : Program) (e : Env) (s : State) (m : MethodId) (args : Array Value) (below : List Frame) (meth : Method) (c : Code) (ls : Array Slot), (∀ x ∈ c.exceptionTable.toList, False) → fM p s m args meth c D cA h { frames := fr, cells := fCB h - fZ h, slots := fLB h - fL h, locals := lo } cd maxL ret own → fCur D cA s h h s.heap [] → lv_has ls maxL lv0 →
      W p l e { frames := fr, cells := fCB h - fZ h, slots := fLB h - fL h, locals := lo } s m args below meth c s.heap [] 0 0 (vx_MQ below (fQX D cA h h2 r) (fXC D cA h h2 r) args s (fCB h - fZ h) (fLB h - fL h) (fA h)) (F0 m 0 ls [])) : fMetX l y (wsC y cd maxL ret) fr lo D cA as h h2 r := by
  refine vx_ofW (cc := cd) (maxL := maxL) (ret := ret) hy rfl ?_
  intro p e s m args below meth c s₁ B hml hno hv
  obtain ⟨rfl, hv⟩ := hv
  have hts := atoms_spec (ws := wsC y cd maxL ret) B.pre
  have hown : s.vm.findClass y.cls = some m.cls := findClass_of_methodNamed B.named
  rw [ho] at hown
  have hl := lv_entry as (n := maxL) (by rw [hk0]; exact hlen)
  rw [ha0] at hl
  rw [lg_entry_eq]
  exact body p e s m as.toArray below meth c _ hno ⟨B.exec, B.bytes, hml, B.returns, B.notSynchronized, fun w hw => hts w (List.mem_cons_of_mem _ hw), hown, hv.2.2.2, rfl, rfl⟩ (fCur.start hv) hl
theorem fMetX.ofH {y : MethodName} {cd : ByteArray} {maxL fr lo : Nat} {ret : Option FieldType} {hh : List (Nat × Nat × Nat × Nat)} {as : List Value} {r : Option Value ⊕ Nat} {own : String} (hy : plainName y.cls = true) (ho : y.cls = own) {lv0 : List (Nat × Value)} {k0 : Nat} (ha0 : lv_args 0 as = lv0) (hk0 : (lg_sl as).length = k0) (hlen : k0 ≤ maxL)
    (body : ∀ (p : Program) (e : Env) (s : State) (m : MethodId) (args : Array Value) (below : List Frame) (meth : Method) (c : Code) (ls : Array Slot), c.exceptionTable.toList = tableOf hh → fM p s m args meth c D cA h { frames := fr, cells := fCB h - fZ h, slots := fLB h - fL h, locals := lo } cd maxL ret own → fCur D cA s h h s.heap [] → lv_has ls maxL lv0 →
      W p l e { frames := fr, cells := fCB h - fZ h, slots := fLB h - fL h, locals := lo } s m args below meth c s.heap [] 0 0 (vx_MQ below (fQX D cA h h2 r) (fXC D cA h h2 r) args s (fCB h - fZ h) (fLB h - fL h) (fA h)) (F0 m 0 ls [])) : fMetX l y (wsCH y cd maxL ret hh) fr lo D cA as h h2 r := by
  refine vx_ofWH (cc := cd) (maxL := maxL) (ret := ret) (hh := hh) hy rfl ?_
  intro p e s m args below meth c s₁ B hml hv
  obtain ⟨rfl, hv⟩ := hv
  have hts := atoms_spec (ws := wsCH y cd maxL ret hh) B.pre
  have hown : s.vm.findClass y.cls = some m.cls := findClass_of_methodNamed B.named
  rw [ho] at hown
  have hl := lv_entry as (n := maxL) (by rw [hk0]; exact hlen)
  rw [ha0] at hl
  rw [lg_entry_eq]
  exact body p e s m as.toArray below meth c _ (vx_table (x := y) B (hts _ List.mem_cons_self)) ⟨B.exec, B.bytes, hml, B.returns, B.notSynchronized, fun w hw => hts w (List.mem_cons_of_mem _ hw), hown, hv.2.2.2, rfl, rfl⟩ (fCur.start hv) hl
end FH10
