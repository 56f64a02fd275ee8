section FH3
def fExt (h0 h : fSt) : Prop := fZ h0 ≤ fZ h ∧ fL h0 ≤ fL h ∧ fCB h = fCB h0 ∧ fLB h = fLB h0 ∧ (∀ a, fF h a ≠ none → fF h0 a ≠ none ∨ fZ h0 ≤ a) ∧ fX h = fX h0
theorem fExt.rfl {h : fSt} : fExt h h := ⟨Nat.le_refl _, Nat.le_refl _, Eq.refl _, Eq.refl _, fun _ q => Or.inl q, Eq.refl _⟩
theorem fExt.trans {h0 h1 h2 : fSt} (a : fExt h0 h1) (b : fExt h1 h2) : fExt h0 h2 := ⟨Nat.le_trans a.1 b.1, Nat.le_trans a.2.1 b.2.1, b.2.2.1.trans a.2.2.1, b.2.2.2.1.trans a.2.2.2.1, fun q hq => (b.2.2.2.2.1 q hq).elim (a.2.2.2.2.1 q) (fun z => Or.inr (Nat.le_trans a.1 z)), b.2.2.2.2.2.trans a.2.2.2.2.2⟩
def fA (h : fSt) : Nat → Prop := fun q => fF h q ≠ none ∨ fZ h ≤ q
theorem fA.sub {h0 h : fSt} (a : fExt h0 h) : ∀ q, fA h q → fA h0 q := fun q hq => hq.elim (a.2.2.2.2.1 q) (fun z => Or.inr (Nat.le_trans a.1 z))
def fOk (h : fSt) : Prop := fZ h ≤ fCB h ∧ fL h ≤ fLB h
def fCur (D : va_G) (cA : Nat → ClassId) (s : State) (h0 h : fSt) (H : Heap) (locs : List Loc) : Prop := fRep D cA (fF h) H ∧ H.size = fZ h ∧ fW H ≤ fW s.heap + (fL h - fL h0) ∧ fExt h0 h ∧ fOk h ∧ va_S (fA h0) s.heap H locs ∧ s.heap.size = fZ h0
/-- the script lies in the old heap -/
def fScr (h : fSt) (s : State) : Prop := va_X (fX h).1 (fX h).2.1 (fX h).2.2 s s.heap ∧ (fX h).1 < s.heap.size ∧ ¬ fA h (fX h).1
/-- the class of arrays of arrays of ints -/
def fAA (cA : Nat → ClassId) (s : State) : Prop := s.vm.findClass "[I" = some (cA 0) ∧ (s.vm.classes.findIdx? fun x => match x.kind with | .array component _ => component == cA 0 | _ => false) = some (cA 4) ∧ (∃ k, s.vm.classes[cA 4]? = some k ∧ k.kind = .array (cA 0) (.array .int)) ∧ ∃ (k : Class) (c : ClassId), s.vm.classes[cA 0]? = some k ∧ k.kind = .array c .int
theorem fAA.moved {cA : Nat → ClassId} {u U : State} (hal : u.vm.Alike U.vm) (h : fAA cA u) : fAA cA U := by
  obtain ⟨h1, h2, ⟨k, h3, h4⟩, k2, c, h5, h6⟩ := h
  obtain ⟨k', hk', he⟩ := hal.2.2 _ _ h3
  obtain ⟨k2', hk2', he2⟩ := hal.2.2 _ _ h5
  exact ⟨by rw [hal.findClass]; exact h1, by rw [hal.findIdx?_eq _ (fun _ => rfl)]; exact h2, ⟨k', hk', by rw [he]; exact h4⟩, k2', c, hk2', by rw [he2]; exact h6⟩
theorem fScr.moved {h0 h : fSt} {u U : State} (hal : u.vm.Alike U.vm) (e : fExt h0 h) (hs : u.heap.size ≤ U.heap.size) (hu : u.heap.size = fZ h0) (ho : ∀ q, q < u.heap.size → ¬ fA h0 q → U.heap[q]? = u.heap[q]?) (k : fScr h0 u) : fScr h U := by
  obtain ⟨⟨scr, c1, ⟨c2, k9, c3, comp, c4⟩, c5, c6, c7⟩, k2, k3⟩ := k
  obtain ⟨k', hk', he⟩ := hal.2.2 _ _ c3
  unfold fScr
  rw [e.2.2.2.2.2]
  refine ⟨⟨scr, (ho _ k2 k3).trans c1, ⟨c2, k', hk', comp, by rw [he]; exact c4⟩, c5, c6, c7⟩, Nat.lt_of_lt_of_le k2 hs, fun z => k3 (fA.sub e _ z)⟩
def fKw (D : va_G) (cA : Nat → ClassId) (h : fSt) (s : State) : Prop := va_K D fcl (fTys cA) s ∧ vx_Zq Bundle.tN "UNASSIGNED_STACK" Bundle.steD (fA h) s s.heap ∧ vx_Zq Bundle.tN "SUPPRESSED_SENTINEL" Bundle.listD (fA h) s s.heap ∧ (∀ q ∈ fStr, ∃ a, vk_R q.1 q.2.1 q.2.2 a s) ∧ (∀ q ∈ fNc, va_Nc q.1 q.2 s) ∧ (∀ w ∈ fNw, va_Nw w s) ∧ fScr h s ∧ fAA cA s
theorem fNw_same {w : Cond} (hw : fNgood w = true) {u U : State} (h : u.vm = U.vm) (hZ : va_Nw w u) : va_Nw w U := by
  unfold fNgood at hw
  split at hw
  · exact va_Nw.same rfl h hZ
  · exact va_Nw.same rfl h hZ
  · exact va_Nw.same rfl h hZ
  · exact va_AO.moved (by rw [h]; exact Vm.Alike.refl U.vm) hZ
  · cases hw
theorem fNw_warm {w : Cond} (hw : fNgood w = true) {s U : State} (hW : s.WarmedH U.vm) (hZ : va_Nw w s) : va_Nw w U := by
  unfold fNgood at hw
  split at hw
  · exact va_Nw.warmM hW hZ
  · exact va_Nw.warmD hW hZ
  · exact va_tabs rfl (rfl : (s.setVm U.vm).vm = U.vm) (by rw [Cond.castable_setVm hW.alike]; exact hZ)
  · exact va_AO.moved hW.alike hZ
  · cases hw
def fCp (D : va_G) (cA : Nat → ClassId) (h : fSt) (U : State) : Prop := fRep D cA (fF h) U.heap ∧ U.heap.size = fZ h ∧ fOk h ∧ fKw D cA h U
def fFin (D : va_G) (cA : Nat → ClassId) (h0 h : fSt) (s t : State) : Prop := fRep D cA (fF h) t.heap ∧ t.heap.size = fZ h ∧ fW t.heap ≤ fW s.heap + (fL h - fL h0) ∧ fExt h0 h ∧ fOk h ∧ va_F (fA h0) s t
def fQ (D : va_G) (cA : Nat → ClassId) (h h' : fSt) (v : Option Value) : Array Value → State → Outcome → State → Prop := fun _ st o t => o = .returned v ∧ fFin D cA h h' st t
def fQX (D : va_G) (cA : Nat → ClassId) (h h' : fSt) (r : Option Value ⊕ Nat) : Array Value → State → Outcome → State → Prop := fun _ st o t => ∃ v, r = .inl v ∧ o = .returned v ∧ fFin D cA h h' st t
def fEx (k : Nat) : String := match k with
  | 0 => "java/lang/IndexOutOfBoundsException"
  | 1 => "java/lang/IllegalArgumentException"
  | _ => "java/lang/IllegalStateException"
def fXC (D : va_G) (cA : Nat → ClassId) (h h' : fSt) (r : Option Value ⊕ Nat) : String → State → State → Prop := fun E st t => ∃ k, r = .inr k ∧ E = fEx k ∧ fFin D cA h h' st t
/-- a contract: from the state h the method returns v in the state h' -/
def fMet (l : Launch) (y : MethodName) (ws : List Cond) (fr lo : Nat) (D : va_G) (cA : Nat → ClassId) (as : List Value) (h h' : fSt) (v : Option Value) : Prop := Met l y ws { frames := fr, cells := fCB h - fZ h, slots := fLB h - fL h, locals := lo } (va_Pc as (fCp D cA h)) (fQ D cA h h' v) (fCB h - fZ h) (fLB h - fL h) (fA h)
def fMetX (l : Launch) (y : MethodName) (ws : List Cond) (fr lo : Nat) (D : va_G) (cA : Nat → ClassId) (as : List Value) (h h' : fSt) (r : Option Value ⊕ Nat) : Prop := vx_Met l y ws { frames := fr, cells := fCB h - fZ h, slots := fLB h - fL h, locals := lo } (va_Pc as (fCp D cA h)) (fQX D cA h h' r) (fXC D cA h h' r) (fCB h - fZ h) (fLB h - fL h) (fA h)
theorem fBlind {D : va_G} {cA : Nat → ClassId} {as : List Value} {h : fSt} : FrameBlind (va_Pc as (fCp D cA h)) := by
  intro a U g mk hp
  obtain ⟨e, r, z, o, k1, k2, k3, k4, k5, k6, k7, k8⟩ := hp
  refine ⟨e, r, z, o, va_K.moved (u := U) (U := U.calling g mk a) (Vm.Alike.refl U.vm) k1, vx_Zq.moved (u := U) (U := U.calling g mk a) (Vm.Alike.refl U.vm) k2, vx_Zq.moved (u := U) (U := U.calling g mk a) (Vm.Alike.refl U.vm) k3, fun q hq => ?_, fun q hq => va_Nc.moved (u := U) (U := U.calling g mk a) (Vm.Alike.refl U.vm) (k5 q hq), fun w hw => fNw_same (u := U) (U := U.calling g mk a) (List.mem_filter.mp hw).2 (Eq.refl _) (k6 w hw), k7, k8⟩
  obtain ⟨x, hx⟩ := k4 q hq
  exact ⟨x, vk_R.same (u := U) (U := U.calling g mk a) (Eq.refl _) hx⟩
theorem fRep.set {D : va_G} {cA : Nat → ClassId} {F : Nat → Option fCe} {H H1 : Heap} {a : Nat} {e : fCe} (h : fRep D cA F H) (he : va_at D fcl (a, fE cA e) H1) (oq : ∀ q : Nat, q ≠ a → H1[q]? = H[q]?) : fRep D cA (fun b => if b = a then some e else F b) H1 := by
  intro b x hb
  have hb : (if b = a then some e else F b) = some x := hb
  by_cases hq : b = a
  · subst hq
    rw [if_pos (Eq.refl _)] at hb
    cases hb
    exact he
  · rw [if_neg hq] at hb
    exact (h b x hb).kept (oq b hq)
theorem fRep.push {D : va_G} {cA : Nat → ClassId} {F : Nat → Option fCe} {H H1 : Heap} {e : fCe} (h : fRep D cA F H) (he : va_at D fcl (H.size, fE cA e) H1) (oq : ∀ q : Nat, q < H.size → H1[q]? = H[q]?) : fRep D cA (fun b => if b = H.size then some e else F b) H1 := by
  intro b x hb
  have hb : (if b = H.size then some e else F b) = some x := hb
  by_cases hq : b = H.size
  · subst hq
    rw [if_pos (Eq.refl _)] at hb
    cases hb
    exact he
  · rw [if_neg hq] at hb
    exact (h b x hb).kept (oq b (h b x hb).lt)
def fSet (h : fSt) (a : Nat) (e : fCe) : fSt := (fun b => if b = a then some e else fF h b, fZ h, fL h, fCB h, fLB h, fX h)
def fPush (h : fSt) (e : fCe) (n : Nat) : fSt := (fun b => if b = fZ h then some e else fF h b, fZ h + 1, fL h + n, fCB h, fLB h, fX h)
theorem fCur.start {D : va_G} {cA : Nat → ClassId} {s : State} {h : fSt} (c : fCp D cA h s) : fCur D cA s h h s.heap [] := ⟨c.1, c.2.1, Nat.le_add_right _ _, fExt.rfl, c.2.2.1, va_S.rf, c.2.1⟩
theorem fCur.fin {D : va_G} {cA : Nat → ClassId} {s t : State} {h0 h : fSt} {H : Heap} {locs : List Loc} (c : fCur D cA s h0 h H locs) (ht : t.heap = H) : fFin D cA h0 h s t := by
  obtain ⟨c1, c2, c3, c4, c5, c6, c7⟩ := c
  exact ⟨by rw [ht]; exact c1, by rw [ht]; exact c2, by rw [ht]; exact c3, c4, c5, c6.F ht⟩
theorem fCur.call {D : va_G} {cA : Nat → ClassId} {s : State} {h0 h : fSt} {H : Heap} {locs : List Loc} (c : fCur D cA s h0 h H locs) (K : fKw D cA h0 s) {U : State} (hU : U.heap = H) (hW : s.WarmedH U.vm) : fCp D cA h U := by
  obtain ⟨c1, c2, c3, c4, c5, c6, c7⟩ := c
  obtain ⟨k1, k2, k3, k4, k5, k6, k7, k8⟩ := K
  refine ⟨by rw [hU]; exact c1, by rw [hU]; exact c2, c5, va_K.moved hW.alike k1, ?_, ?_, fun q hq => ?_, fun q hq => (k5 q hq).moved hW.alike, fun w hw => fNw_warm (List.mem_filter.mp hw).2 hW (k6 w hw), k7.moved hW.alike c4 (by rw [hU]; exact c6.1) c7 (fun q h1 h2 => by rw [hU]; exact c6.2.1 q h1 h2), k8.moved hW.alike⟩
  · rw [hU]; exact vx_Zq.moved hW.alike ((k2.kept c6.2.1).narrow (fA.sub c4))
  · rw [hU]; exact vx_Zq.moved hW.alike ((k3.kept c6.2.1).narrow (fA.sub c4))
  · obtain ⟨x, hx⟩ := k4 q hq
    exact ⟨x, vk_R.warm hW hx⟩
theorem fCur.set {D : va_G} {cA : Nat → ClassId} {s : State} {h0 h : fSt} {H H1 : Heap} {locs : List Loc} {a k : Nat} {e0 e : fCe} (c : fCur D cA s h0 h H locs) (h0a : fF h a = some e0) (he : va_at D fcl (a, fE cA e) H1) (hz : H1.size = H.size) (oq : ∀ q : Nat, q ≠ a → H1[q]? = H[q]?) (hw : fW H1 = fW H) : fCur D cA s h0 (fSet h a e) H1 (locs ++ [⟨a, k⟩]) := by
  obtain ⟨c1, c2, c3, c4, c5, c6, c7⟩ := c
  have ha : fF h a ≠ none := by rw [h0a]; exact fun z => nomatch z
  refine ⟨c1.set he oq, hz.trans c2, by rw [hw]; exact c3, ⟨c4.1, c4.2.1, c4.2.2.1, c4.2.2.2.1, fun q hq => ?_, c4.2.2.2.2.2⟩, c5, c6.put hz oq (c4.2.2.2.2.1 a ha), c7⟩
  by_cases z : q = a
  · subst z; exact c4.2.2.2.2.1 q ha
  · have hq : (if q = a then some e else fF h q) ≠ none := hq
    rw [if_neg z] at hq
    exact c4.2.2.2.2.1 q hq
theorem fCur.push {D : va_G} {cA : Nat → ClassId} {s : State} {h0 h : fSt} {H H1 : Heap} {locs : List Loc} {n : Nat} {e : fCe} {cl : Cell} (c : fCur D cA s h0 h H locs) (he : va_at D fcl (H.size, fE cA e) H1) (hz : H1.size = H.size + 1) (hc : H1[H.size]? = some cl) (hn : cl.slots.size ≤ n) (oq : ∀ q : Nat, q < H.size → H1[q]? = H[q]?) (h1 : fZ h + 1 ≤ fCB h) (h2 : fL h + n ≤ fLB h) : fCur D cA s h0 (fPush h e n) H1 locs := by
  obtain ⟨c1, c2, c3, c4, c5, c6, c7⟩ := c
  have hw := fW_push hz hc oq
  have c8 : s.heap.size ≤ H.size := c6.1
  have hR := c1.push he oq
  rw [c2] at hR
  refine ⟨hR, by rw [hz, c2]; rfl, ?_, ⟨?_, ?_, c4.2.2.1, c4.2.2.2.1, fun q hq => ?_, c4.2.2.2.2.2⟩, ⟨h1, h2⟩, ⟨by omega, fun x y z => (oq x (Nat.lt_of_lt_of_le y c6.1)).trans (c6.2.1 x y z), c6.2.2⟩, c7⟩
  · have e1 : fL (fPush h e n) = fL h + n := rfl
    have e2 := c4.2.1
    omega
  · exact Nat.le_trans c4.1 (Nat.le_succ _)
  · exact Nat.le_trans c4.2.1 (Nat.le_add_right _ _)
  · by_cases z : q = fZ h
    · subst z; exact Or.inr c4.1
    · have hq : (if q = fZ h then some e else fF h q) ≠ none := hq
      rw [if_neg z] at hq
      exact c4.2.2.2.2.1 q hq
end FH3
section FH4
variable {p : Program} {l : Launch} {e : Env} {R : Room} {s : State} {m : MethodId} {args : Array Value} {below : List Frame} {meth : Method} {c : Code} {H : Heap} {locs : List Loc} {cells slots : Nat} {Q : State → Prop}
variable {D : va_G} {cA : Nat → ClassId} {h0 h h2 : fSt} {cc : ByteArray} {pc : Nat} {ls : Array Slot} {rest : List Value}
/-- the counts as the state tells them -/
theorem fr_tight {g : JFrame} (hC : fCur D cA s h0 h H locs) (kk : W p l e R s m args below meth c H locs (fZ h - fZ h0) (fL h - fL h0) Q g) : W p l e R s m args below meth c H locs cells slots Q g := by
  obtain ⟨c1, c2, c3, c4, c5, c6, c7⟩ := hC
  have c8 := c4.1
  exact fTight (by omega) c3 kk
theorem fr_end {g : JFrame} (hC : fCur D cA s h0 h H locs) (kk : W p l e R s m args below meth c H locs (fCB h0 - fZ h0) (fLB h0 - fL h0) Q g) : W p l e R s m args below meth c H locs cells slots Q g := by
  obtain ⟨c1, c2, c3, c4, c5, c6, c7⟩ := hC
  obtain ⟨d1, d2, d3, d4, -⟩ := c4
  obtain ⟨o1, o2⟩ := c5
  exact fTight (by omega) (by omega) kk
def fget (h : fSt) (r : Option Nat) (ci k : Nat) : Option Value := match r with
  | none => none
  | some a => match fF h a with
    | some (.inl (cj, fs)) => if cj = ci then fs[k]? else none
    | _ => none
theorem fget_inv {r : Option Nat} {ci k : Nat} {v : Value} (h1 : fget h r ci k = some v) : ∃ (a : Nat) (fs : List Value), r = some a ∧ fF h a = some (.inl (ci, fs)) ∧ fs[k]? = some v := by
  unfold fget at h1
  split at h1
  · cases h1
  · rename_i a
    split at h1
    · rename_i cj fs hq
      by_cases z : cj = ci
      · subst z
        rw [if_pos (Eq.refl _)] at h1
        exact ⟨a, fs, rfl, hq, h1⟩
      · rw [if_neg z] at h1; cases h1
    · cases h1
def fgI (h : fSt) (r : Option Nat) (ci k : Nat) : Option Int32 := match fget h r ci k with
  | some (.int x) => some x
  | _ => none
theorem fgI_get {r : Option Nat} {ci k : Nat} {x : Int32} (h1 : fgI h r ci k = some x) : fget h r ci k = some (.int x) := by
  unfold fgI at h1
  split at h1
  · rename_i y hq; cases h1; exact hq
  · cases h1
def fgJ (h : fSt) (r : Option Nat) (ci k : Nat) : Option Int64 := match fget h r ci k with
  | some (.long x) => some x
  | _ => none
theorem fgJ_get {r : Option Nat} {ci k : Nat} {x : Int64} (h1 : fgJ h r ci k = some x) : fget h r ci k = some (.long x) := by
  unfold fgJ at h1
  split at h1
  · rename_i y hq; cases h1; exact hq
  · cases h1
def fgR (h : fSt) (r : Option Nat) (ci k : Nat) : Option (Option Nat) := match fget h r ci k with
  | some .null => some none
  | some (.ref a) => some (some a)
  | _ => none
theorem fgR_get {r : Option Nat} {ci k : Nat} {x : Option Nat} (h1 : fgR h r ci k = some x) : fget h r ci k = some (va_rf x) := by
  unfold fgR at h1
  split at h1
  · rename_i hq; cases h1; exact hq
  · rename_i a hq; cases h1; exact hq
  · cases h1
def fput (h : fSt) (r : Option Nat) (ci k : Nat) (v : Value) : Option fSt := match r with
  | none => none
  | some a => match fF h a with
    | some (.inl (cj, fs)) => if cj = ci ∧ k < fs.length then some (fSet h a (.inl (ci, fs.set k v))) else none
    | _ => none
theorem fput_inv {r : Option Nat} {ci k : Nat} {v : Value} (h1 : fput h r ci k v = some h2) : ∃ (a : Nat) (fs : List Value), r = some a ∧ fF h a = some (.inl (ci, fs)) ∧ k < fs.length ∧ h2 = fSet h a (.inl (ci, fs.set k v)) := by
  unfold fput at h1
  split at h1
  · cases h1
  · rename_i a
    split at h1
    · rename_i cj fs hq
      by_cases z : cj = ci ∧ k < fs.length
      · rw [if_pos z] at h1
        cases h1
        obtain ⟨z1, z2⟩ := z
        subst z1
        exact ⟨a, fs, rfl, hq, z2, rfl⟩
      · rw [if_neg z] at h1; cases h1
    · cases h1
/-- getfield -/
theorem fr_get (hexec : p.tables.exec = Jvm.exec) (hb : c.code = cc) (hts : ∀ w ∈ WA, w.before args s = true) {own ref C : String} {T : u_T} {N ci k index : Nat} {ty : Nat → FieldType} (hown : s.vm.findClass own = some m.cls) (K : fKw D cA h0 s) (hC : fCur D cA s h0 h H locs) (ct : CT ci C T N ty) {r : Option Nat} {v : Value} (hg : fget h r ci k = some v) (hk : k < N) (hl : Cond.fieldLink own index ref (T k).2.1 (T k).2.2.1 ∈ WA) (hsame : (T k).1 = ref) (hdg : decode cc pc = .ok (.getfield index, 3))
    (kk : W p l e R s m args below meth c H locs cells slots Q (F0 m (pc + 3) ls (v :: rest))) : W p l e R s m args below meth c H locs cells slots Q (F0 m pc ls (va_rf r :: rest)) := by
  obtain ⟨a, fs, rfl, hF, hv⟩ := fget_inv hg
  have hP : va_P D fcl [(a, .inr (ci, fs))] H := by
    intro j q hq
    have hz : j < 1 := (List.getElem?_eq_some_iff.mp hq).1
    rw [show j = 0 by omega] at hq
    cases hq
    exact hC.1 a _ hF
  subst hsame
  exact va_get (D := D) (ci := ci) (v := v) (C := C) (T := T) (N := N) hexec hb hts ct.2.1 hown K.1 hP 0 rfl ct.1 k hk (hts _ hl) (fun _ h9 => h9) hv hdg kk
/-- putfield -/
theorem fr_put (hexec : p.tables.exec = Jvm.exec) (hb : c.code = cc) (hts : ∀ w ∈ WA, w.before args s = true) {own ref C : String} {T : u_T} {N ci k index : Nat} {ty : Nat → FieldType} (hown : s.vm.findClass own = some m.cls) (K : fKw D cA h0 s) (hC : fCur D cA s h0 h H locs) (ct : CT ci C T N ty) {r : Option Nat} {v : Value} (hg : fput h r ci k v = some h2) (hk : k < N) (hl : Cond.fieldLink own index ref (T k).2.1 (T k).2.2.1 ∈ WA) (hsame : (T k).1 = ref) (hfin : (T k).2.2.2 = false) (hn : narrow (ty k) v = v) (hfit : fits (ty k) v = true) (hdg : decode cc pc = .ok (.putfield index, 3))
    (kk : ∀ (H1 : Heap) (locs1 : List Loc), fCur D cA s h0 h2 H1 locs1 → W p l e R s m args below meth c H1 locs1 cells slots Q (F0 m (pc + 3) ls rest)) : W p l e R s m args below meth c H locs cells slots Q (F0 m pc ls (v :: va_rf r :: rest)) := by
  obtain ⟨a, fs, rfl, hF, hlen, rfl⟩ := fput_inv hg
  subst hsame
  obtain ⟨cc1, cc2, cc3, cc4⟩ := ct
  have hap := va_apart (own := own) hts cc2 ty cc3 cc4 K.1 cc1
  obtain ⟨r, h1, cell, q1, q2, q3, q4⟩ := hC.1 a _ hF
  have hr : r = (C, T, N) := Option.some.inj (h1.symm.trans cc1)
  subst hr
  obtain ⟨hS, hfc, kC, hkC, hkind⟩ := K.1.1 ci _ cc1
  obtain ⟨cf, kf, fi, f, hi, hsl⟩ := hS k hk
  have hlay := hts _ (cc2 _ (u_in_lay hk))
  unfold u_lay at hlay
  rw [if_neg (by rw [hfin]; decide)] at hlay
  have hst := (u_facts hfc hkC (u_lays hts cc2 hk) hi).1
  have h6 := u_store hfc hkC hkind hlay hi (cc3 k hk) hn hfit
  refine W.putK hexec hb (f := f) ⟨hown, hts _ hl, ⟨_, _, _, hi⟩, hst⟩ (by rw [q2]; exact h6) q1 q3 (by rw [hsl]; exact k2_hasslot (q4 k hk)) rfl rfl hdg fun H' e1 e2 e3 => ?_
  have hw := fW_put q1 e1 e3
  rw [hsl] at e1 ⊢
  exact kk H' _ (hC.set hF ⟨_, cc1, t_OB.to (V := updV (vp_V fs) k v) ⟨_, e1, q2, q3, t_set q4 hap hk v⟩ (fun j _ => vp_updV_set hlen v j)⟩ e2 e3 hw)
/-- putfield of a final field, in a constructor -/
theorem fr_putF (hexec : p.tables.exec = Jvm.exec) (hb : c.code = cc) (hts : ∀ w ∈ WA, w.before args s = true) {own ref C : String} {T : u_T} {N ci k index : Nat} {ty : Nat → FieldType} (hown : s.vm.findClass own = some m.cls) (K : fKw D cA h0 s) (hC : fCur D cA s h0 h H locs) (ct : CT ci C T N ty) {r : Option Nat} {v : Value} (hg : fput h r ci k v = some h2) (hk : k < N) (hl : Cond.fieldLink own index ref (T k).2.1 (T k).2.2.1 ∈ WA) (hsame : (T k).1 = ref) (hfin : (T k).2.2.2 = true) (hin2 : meth.name = "<init>") (hdecl : (T k).1 = own) (hn : narrow (ty k) v = v) (hfit : fits (ty k) v = true) (hdg : decode cc pc = .ok (.putfield index, 3))
    (kk : ∀ (H1 : Heap) (locs1 : List Loc), fCur D cA s h0 h2 H1 locs1 → W p l e R s m args below meth c H1 locs1 cells slots Q (F0 m (pc + 3) ls rest)) : W p l e R s m args below meth c H locs cells slots Q (F0 m pc ls (v :: va_rf r :: rest)) := by
  obtain ⟨a, fs, rfl, hF, hlen, rfl⟩ := fput_inv hg
  subst hsame
  obtain ⟨cc1, cc2, cc3, cc4⟩ := ct
  have hap := va_apart (own := own) hts cc2 ty cc3 cc4 K.1 cc1
  obtain ⟨r, h1, cell, q1, q2, q3, q4⟩ := hC.1 a _ hF
  have hr : r = (C, T, N) := Option.some.inj (h1.symm.trans cc1)
  subst hr
  obtain ⟨hS, hfc, kC, hkC, hkind⟩ := K.1.1 ci _ cc1
  obtain ⟨cf, kf, fi, f, hi, hsl⟩ := hS k hk
  have hlay := hts _ (cc2 _ (u_in_lay hk))
  unfold u_lay at hlay
  rw [if_pos hfin] at hlay
  have hst := (u_facts hfc hkC (u_lays hts cc2 hk) hi).1
  have hcf : m.cls = cf := by
    obtain ⟨_, _, c', _, _, _, -, -, hf', -, -, -, hown2, -⟩ := Cond.laysFinal_spec hlay
    have e1 : c' = cf := by have := hi.symm.trans hf'; simp at this; exact this.1.symm
    rw [hdecl] at hown2
    rw [← e1]; exact Option.some.inj (hown.symm.trans hown2)
  have h6 := u_fits hfc hkC hkind (Or.inr hlay) hi (cc3 k hk) hn hfit
  refine W.putFinK hexec hb hown (hts _ hl) hi hst hcf hin2 (by rw [q2]; exact h6) q1 q3 (by rw [hsl]; exact k2_hasslot (q4 k hk)) rfl rfl hdg fun H' e1 e2 e3 => ?_
  have hw := fW_put q1 e1 e3
  rw [hsl] at e1 ⊢
  exact kk H' _ (hC.set hF ⟨_, cc1, t_OB.to (V := updV (vp_V fs) k v) ⟨_, e1, q2, q3, t_set q4 hap hk v⟩ (fun j _ => vp_updV_set hlen v j)⟩ e2 e3 hw)
end FH4
