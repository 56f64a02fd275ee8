theorem fci {α β γ : Type} {f : α → γ} {g : β → γ} {v : α} {r : γ} (h : Sum.elim f g (.inl v) = r) : f v = r := h
theorem fcr {α β γ : Type} {f : α → γ} {g : β → γ} {v : β} {r : γ} (h : Sum.elim f g (.inr v) = r) : g v = r := h
section FH5
variable {p : Program} {l : Launch} {e : Env} {R : Room} {s : State} {m : MethodId} {args : Array Value} {below : List Frame} {meth : Method} {c : Code} {H : Heap} {locs : List Loc} {cells slots : Nat} {Q : State → Prop}
variable {D : va_G} {cA : Nat → ClassId} {h0 h h2 : fSt} {cc : ByteArray} {pc : Nat} {ls : Array Slot} {rest : List Value}
/-- anewarray -/
theorem fr_newqN (hexec : p.tables.exec = Jvm.exec) (hb : c.code = cc) (hts : ∀ w ∈ WA, w.before args s = true) {own C : String} {index : Nat} (hown : s.vm.findClass own = some m.cls) (K : fKw D cA h0 s) (hC : fCur D cA s h0 h H locs) (hR : R.cells = fCB h0 - fZ h0 ∧ R.slots = fLB h0 - fL h0) {t : Nat} (ht : ftl[t]? = some (.object C)) (hcl : Cond.classLink own index C ∈ WA) (hover : Cond.arrayOver (.object C) ∈ fNw) {n : Int32} {r : Nat × fSt} (hn : ¬ n < 0) (hg : fnew h (.inr (t, n.toNatClampNeg, .inr (.inr (.inr (.inr (fun _ => none)))))) n.toNatClampNeg = some r) (hbytes : n.toNatClampNeg * 4 ≤ 536870912) (hdg : decode cc pc = .ok (.anewarray index, 3))
    (kk : ∀ (H1 : Heap) (k n : Nat), fCur D cA s h0 r.2 H1 locs → W p l e R s m args below meth c H1 locs k n Q (F0 m (pc + 3) ls (va_rf (some r.1) :: rest))) : W p l e R s m args below meth c H locs cells slots Q (F0 m pc ls (.int n :: rest)) := by
  obtain ⟨g1, g2, rfl⟩ := fnew_inv hg
  refine fr_tight hC ?_
  obtain ⟨c1, c2, c3, c4, c5, c6, c7⟩ := id hC
  obtain ⟨d1, d2, d3, d4, -⟩ := c4
  refine W.anew hexec hb hown (hts _ hcl) (va_AO.use (K.2.2.2.2.2.1 _ hover)) rfl hdg rfl hn hbytes (by rw [hR.1]; omega) (by rw [hR.2]; omega) fun cB kA comp f1 f2 f3 f4 => ?_
  have hcB : cB = cA t := by
    obtain ⟨kA', comp', -, -, -, h4⟩ := (K.1.2 t _ (fTys_at ht)).2
    exact Option.some.inj (f1.symm.trans h4)
  subst hcB
  generalize hH1 : H.push ({ cls := cA t, slots := Array.replicate n.toNatClampNeg .null, vm := .none } : Cell) = H1
  have z1 : H1.size = H.size + 1 := by rw [← hH1, Array.size_push]
  have e1 : H1[H.size]? = some (arrV (cA t) n.toNatClampNeg (fun _ => .null)) := by rw [← hH1, Array.getElem?_push_size, ← arrV_new]
  have o1 : ∀ q : Nat, q < H.size → H1[q]? = H[q]? := fun q hq => by rw [← hH1, Array.getElem?_push, if_neg (Nat.ne_of_lt hq)]
  have hat : va_at D fcl (H.size, fE cA (.inr (t, n.toNatClampNeg, .inr (.inr (.inr (.inr (fun _ => none))))))) H1 := e1
  have hcu := hC.push (n := n.toNatClampNeg) hat z1 e1 (by rw [arrV_size]; exact Nat.le_refl _) o1 g1 g2
  have hk := kk H1 (fZ h - fZ h0 + 1) (fL h - fL h0 + n.toNatClampNeg) hcu
  rw [c2]
  exact hk
end FH5
section FH20
variable {p : Program} {l : Launch} {e : Env} {R : Room} {s : State} {m : MethodId} {args : Array Value} {below : List Frame} {meth : Method} {c : Code} {H : Heap} {locs : List Loc} {cells slots : Nat} {Q : State → Prop}
variable {D : va_G} {cA : Nat → ClassId} {h0 h h2 : fSt} {cc : ByteArray} {pc : Nat} {ls : Array Slot} {rest : List Value}
/-- the script read -/
def fxl (h : fSt) (r : Option Nat) : Option Int32 := if r = some (fX h).1 then some (Int32.ofNat (fX h).2.1) else none
def fxI (h : fSt) (r : Option Nat) (i : Int32) : Option Int32 := if r = some (fX h).1 then (if i < 0 ∨ (fX h).2.1 ≤ i.toNatClampNeg then none else some ((fX h).2.2 i.toNatClampNeg)) else none
theorem fr_xlen (hexec : p.tables.exec = Jvm.exec) (hb : c.code = cc) (K : fKw D cA h0 s) (hC : fCur D cA s h0 h H locs) {r : Option Nat} {x : Int32} (hg : fxl h r = some x) (hdg : decode cc pc = .ok (.arraylength, 1))
    (kk : W p l e R s m args below meth c H locs cells slots Q (F0 m (pc + 1) ls (.int x :: rest))) : W p l e R s m args below meth c H locs cells slots Q (F0 m pc ls (va_rf r :: rest)) := by
  obtain ⟨k1, k2, k3⟩ := K.2.2.2.2.2.2.1
  have e1 : fX h = fX h0 := hC.2.2.2.1.2.2.2.2.2
  unfold fxl at hg
  by_cases q : r = some (fX h).1
  · rw [if_pos q] at hg
    cases hg
    subst q
    rw [e1] at kk ⊢
    exact va_slen hexec hb k1 k2 k3 hC.2.2.2.2.2.1 hdg kk
  · rw [if_neg q] at hg; cases hg
theorem fr_xld (hexec : p.tables.exec = Jvm.exec) (hb : c.code = cc) (K : fKw D cA h0 s) (hC : fCur D cA s h0 h H locs) {r : Option Nat} {i x : Int32} (hg : fxI h r i = some x) (hdg : decode cc pc = .ok (.iaload, 1))
    (kk : W p l e R s m args below meth c H locs cells slots Q (F0 m (pc + 1) ls (.int x :: rest))) : W p l e R s m args below meth c H locs cells slots Q (F0 m pc ls (.int i :: va_rf r :: rest)) := by
  obtain ⟨k1, k2, k3⟩ := K.2.2.2.2.2.2.1
  have e1 : fX h = fX h0 := hC.2.2.2.1.2.2.2.2.2
  unfold fxI at hg
  by_cases q : r = some (fX h).1
  · rw [if_pos q] at hg
    by_cases q2 : i < 0 ∨ (fX h).2.1 ≤ i.toNatClampNeg
    · rw [if_pos q2] at hg; cases hg
    · rw [if_neg q2] at hg
      cases hg
      subst q
      rw [e1] at kk q2 ⊢
      exact va_sld hexec hb k1 k2 k3 hC.2.2.2.2.2.1 q2 hdg kk
  · rw [if_neg q] at hg; cases hg
/-- a row of an array of rows -/
theorem fr_aaldA (hexec : p.tables.exec = Jvm.exec) (hb : c.code = cc) (K : fKw D cA h0 s) (hC : fCur D cA s h0 h H locs) {t : Nat} (ht : ftl[t]? = some (.array .int)) {r : Option Nat} {i : Int32} {x : Option Nat} (hg : faR h r t i = some x) (hdg : decode cc pc = .ok (.aaload, 1))
    (kk : W p l e R s m args below meth c H locs cells slots Q (F0 m (pc + 1) ls (va_rf x :: rest))) : W p l e R s m args below meth c H locs cells slots Q (F0 m pc ls (.int i :: va_rf r :: rest)) := by
  obtain ⟨a, n, f, rfl, hF, hin, rfl⟩ := faR_inv hg
  have hlt : i.toNatClampNeg < n := Nat.not_le.mp fun q => hin (Or.inr q)
  have hc : H[a]? = some (vp_cell (cA t) (n, .inr (.inr (.inr (.inr f))))) := hC.1 a _ hF
  refine W.aald (v := va_rf (f i.toNatClampNeg)) (ty := .array .int) hexec hb hc ((K.1.2 t _ (fTys_at ht)).1 n (fun j => va_rf (f j))) rfl (fun q => by cases q) ?_ ?_ rfl rfl hdg kk
  · show ¬ (i < 0 ∨ (arrV _ _ _).slots.size ≤ _)
    rw [arrV_size]; exact hin
  · show (arrV _ _ _).slots[_]? = _
    rw [arrV_read _ _ hlt]
theorem mu_asg (vm : Vm) (q : ClassId) : vm.assignable q q = true := by
  show Vm.assignableAux vm (255 + 1) q q = true
  unfold Vm.assignableAux
  rw [beq_self_eq_true, Bool.true_or]
/-- a store of a row (an array of kind t0), or null -/
def fsA (h : fSt) (r : Option Nat) (t t0 : Nat) (i : Int32) (x : Option Nat) : Option fSt := match r, farr h r t with
  | some a, some (n, .inr (.inr (.inr (.inr f)))) => if i < 0 ∨ n ≤ i.toNatClampNeg then none else match x with
    | none => some (fSet h a (.inr (t, n, .inr (.inr (.inr (.inr (va_up f i.toNatClampNeg none)))))))
    | some v => match fF h v with
      | some (.inr (u, _)) => if u = t0 then some (fSet h a (.inr (t, n, .inr (.inr (.inr (.inr (va_up f i.toNatClampNeg (some v)))))))) else none
      | _ => none
  | _, _ => none
theorem fsA_inv {r x : Option Nat} {t t0 : Nat} {i : Int32} (h1 : fsA h r t t0 i x = some h2) : ∃ (a n : Nat) (f : Nat → Option Nat), r = some a ∧ fF h a = some (.inr (t, n, .inr (.inr (.inr (.inr f))))) ∧ vp_in i n ∧ h2 = fSet h a (.inr (t, n, .inr (.inr (.inr (.inr (va_up f i.toNatClampNeg x)))))) ∧ (x = none ∨ ∃ v y, x = some v ∧ fF h v = some (.inr (t0, y))) := by
  unfold fsA at h1
  split at h1
  · rename_i a n f hq
    obtain ⟨b, h2', h3⟩ := farr_inv hq
    cases h2'
    by_cases z : i < 0 ∨ n ≤ i.toNatClampNeg
    · rw [if_pos z] at h1; cases h1
    · rw [if_neg z] at h1
      split at h1
      · cases h1
        exact ⟨a, n, f, rfl, h3, z, rfl, Or.inl rfl⟩
      · rename_i v
        split at h1
        · rename_i u y hv
          by_cases w : u = t0
          · subst w
            rw [if_pos (Eq.refl _)] at h1
            cases h1
            exact ⟨a, n, f, rfl, h3, z, rfl, Or.inr ⟨v, y, rfl, hv⟩⟩
          · rw [if_neg w] at h1; cases h1
        · cases h1
  · cases h1
theorem fr_aastA (hexec : p.tables.exec = Jvm.exec) (hb : c.code = cc) (K : fKw D cA h0 s) (hC : fCur D cA s h0 h H locs) (ht : ftl[4]? = some (.array .int)) (ht0 : ftl[0]? = some .int) {r x : Option Nat} {i : Int32} (hg : fsA h r 4 0 i x = some h2) (hdg : decode cc pc = .ok (.aastore, 1))
    (kk : ∀ (H1 : Heap) (locs1 : List Loc), fCur D cA s h0 h2 H1 locs1 → W p l e R s m args below meth c H1 locs1 cells slots Q (F0 m (pc + 1) ls rest)) : W p l e R s m args below meth c H locs cells slots Q (F0 m pc ls (va_rf x :: .int i :: va_rf r :: rest)) := by
  obtain ⟨a, n, f, rfl, hF, hin, rfl, hx⟩ := fsA_inv hg
  have hlt : i.toNatClampNeg < n := Nat.not_le.mp fun q => hin (Or.inr q)
  have hneg : ¬ i < 0 := fun q => hin (Or.inl q)
  have hcell : H[a]? = some (vp_cell (cA 4) (n, .inr (.inr (.inr (.inr f))))) := hC.1 a _ hF
  obtain ⟨-, -, ⟨kA, k1, k2⟩, kI, cI, k3, k4⟩ := K.2.2.2.2.2.2.2
  have fin : ∀ H1 : Heap, H1[a]? = some ((vp_cell (cA 4) (n, .inr (.inr (.inr (.inr f))))).setSlot i.toNatClampNeg (va_rf x)) → H1[a]? = some (vp_cell (cA 4) (n, .inr (.inr (.inr (.inr (va_up f i.toNatClampNeg x)))))) := by
    intro H1 e
    rw [e, vp_cell_q, vp_cell_q, arrV_store]
    congr 2
    funext q
    by_cases hq : q = i.toNatClampNeg
    · subst hq
      simp [updV, va_up]
    · simp [updV, va_up, hq]
  have hbd : ¬ i < 0 ∧ i.toNatClampNeg < (vp_cell (cA 4) (n, .inr (.inr (.inr (.inr f))))).slots.size := ⟨hneg, by show _ < (arrV _ _ _).slots.size; rw [arrV_size]; exact hlt⟩
  rcases hx with rfl | ⟨v, y, rfl, hV⟩
  · intro T hT X
    have hT' : T.heap[a]? = some (vp_cell (cA 4) (n, .inr (.inr (.inr (.inr f))))) := by rw [hT]; exact hcell
    obtain ⟨X', st⟩ := X.aastoreNullInK hexec hT' (fun q h => by cases h) (fun h => by cases h) k1 k2 rfl hbd (g := F0 m pc ls (.null :: .int i :: .ref a :: rest)) rfl rfl (by rw [hb]; exact hdg)
    have hlt2 : a < T.heap.size := (Array.getElem?_eq_some_iff.mp hT').1
    have e := heapAt_setCell_self (s := T) ((vp_cell (cA 4) (n, .inr (.inr (.inr (.inr f))))).setSlot i.toNatClampNeg .null) hlt2
    have oq : ∀ q, q ≠ a → (T.setCell a ((vp_cell (cA 4) (n, .inr (.inr (.inr (.inr f))))).setSlot i.toNatClampNeg .null)).heap[q]? = H[q]? := fun q hq => by rw [heapAt_setCell_ne _ (Ne.symm hq), hT]
    obtain ⟨t', a1, b1⟩ := kk _ _ (hC.set hF (fin _ e) (by rw [size_setCell, hT]) oq (fW_put hcell e oq)) (T.setCell a _) rfl X'
    exact ⟨t', st t' a1, b1⟩
  · have hv : H[v]? = some (vp_cell (cA 0) y) := hC.1 v _ hV
    have hvv : (vp_cell (cA 0) y).cls = cA 0 ∧ (vp_cell (cA 0) y).vm = .none := by
      obtain ⟨yn, yc⟩ := y
      rcases yc with q | q | q | q | q <;> exact ⟨rfl, rfl⟩
    refine W.aast hexec hb hcell (fun q h => by cases h) (fun h => by cases h) k1 k2 rfl k3 hbd hv (fun q h => by rw [hvv.2] at h; cases h) (by rw [hvv.1]; exact k3) (by rw [hvv.1]; exact mu_asg _ _) rfl rfl hdg fun H1 e z oq => ?_
    exact kk H1 _ (hC.set hF (fin H1 e) z oq (fW_put hcell e oq))
end FH20
section FH21
variable {p : Program} {l : Launch} {e : Env} {R : Room} {s : State} {m : MethodId} {args : Array Value} {below : List Frame} {meth : Method} {c : Code} {H : Heap} {locs : List Loc} {cells slots : Nat} {Q : State → Prop}
variable {D : va_G} {cA : Nat → ClassId} {h0 h h2 : fSt} {cc : ByteArray} {pc : Nat} {ls : Array Slot} {rest : List Value}
theorem fr_ldc (hexec : p.tables.exec = Jvm.exec) (hb : c.code = cc) (hts : ∀ w ∈ WA, w.before args s = true) {own : String} {index : Nat} {v : Int32} (hown : s.vm.findClass own = some m.cls) (hconst : Cond.constant own index v ∈ WA) (hdg : decode cc pc = .ok (.ldc index, 2)) (kk : W p l e R s m args below meth c H locs cells slots Q (F0 m (pc + 2) ls (.int v :: rest))) : W p l e R s m args below meth c H locs cells slots Q (F0 m pc ls rest) := lv_ldc hexec hb hown (hts _ hconst) hdg kk
theorem fr_mabs (hexec : p.tables.exec = Jvm.exec) (hb : c.code = cc) {nL : Nat} (hml : c.maxLocals = nL) (hts : ∀ w ∈ WA, w.before args s = true) {own : String} {index : Nat} (hown : s.vm.findClass own = some m.cls) (hC : fCur D cA s h0 h H locs) (hR : R.cells = fCB h0 - fZ h0 ∧ R.slots = fLB h0 - fL h0) (hlink : Cond.methodLink own index Lib.Math.abs.name ∈ WA) (hstat : Cond.static Lib.Math.abs.name ∈ WA) (hini : Cond.initialized "java/lang/Math" ∈ WA) (hcode : Cond.code Lib.Math.abs.name Lib.Math.abs.code 1 (some .int) ∈ WA) (hsize : ls.size = nL) (hfr : 1 ≤ R.frames) (hlo : (rest.map fun v => v.category).sum + 13 ≤ R.locals) {x : Int32} (hdg : decode cc pc = .ok (.invokestatic index, 3))
    (kk : ∀ k n : Nat, W p l e R s m args below meth c H locs k n Q (F0 m (pc + 3) ls (.int (if 0 ≤ x then x else 0 - x) :: rest))) : W p l e R s m args below meth c H locs cells slots Q (F0 m pc ls (.int x :: rest)) :=
  fr_tight hC (va_mabs hexec hb (hml.trans hsize.symm) hown (hts _ hlink) (hts _ hstat) (hts _ hini) (hts _ hcode) hfr hlo (fr_mcount hC hR).1 (fr_mcount hC hR).2 hdg (kk _ _))
theorem swOut5 {x : Int32} (c0 : ¬ x = (0 : Int32)) (c1 : ¬ x = (1 : Int32)) (c2 : ¬ x = (2 : Int32)) (c3 : ¬ x = (3 : Int32)) (c4 : ¬ x = (4 : Int32)) : x.toInt < 0 ∨ (4 : Int) < x.toInt := by
  have h := swG (x := x) (n := 5) (by decide) (fun k hk => match k, hk with
    | 0, _ => c0
    | 1, _ => c1
    | 2, _ => c2
    | 3, _ => c3
    | 4, _ => c4
    | k + 5, hk => absurd hk (by omega))
  omega
theorem fAA.over {cA : Nat → ClassId} {U : State} {A : Array Value} (h : fAA cA U) (f2 : U.vm.findClass ("[" ++ (FieldType.array .int).toString) = some (cA 4)) : (Cond.arrayOver (.array .int)).before A U = true := by
  obtain ⟨h1, h2, ⟨k, h3, h4⟩, -⟩ := h
  have f1 : U.vm.findClass (FieldType.array .int).toString = some (cA 0) := h1
  unfold Cond.before Cond.holds
  simp only [Cond.value]
  rw [f1, Option.bind_some]
  refine (congrArg (fun o : Option Nat => (o.bind (fun c => (U.vm.classes[c]?).map fun (k : Class) => match k.kind with | .array _ ty => decide (ty = FieldType.array .int) && decide (U.vm.findClass ("[" ++ (FieldType.array .int).toString) = some c) | _ => false) == some true)) h2).trans ?_
  simp [h3, h4, f2]
/-- anewarray of rows of ints -/
theorem fr_newqA (hexec : p.tables.exec = Jvm.exec) (hb : c.code = cc) (hts : ∀ w ∈ WA, w.before args s = true) {own : String} {index : Nat} (hown : s.vm.findClass own = some m.cls) (K : fKw D cA h0 s) (hC : fCur D cA s h0 h H locs) (hR : R.cells = fCB h0 - fZ h0 ∧ R.slots = fLB h0 - fL h0) (ht : ftl[4]? = some (.array .int)) (hcl : Cond.classLink own index "[I" ∈ WA) {n : Int32} {r : Nat × fSt} (hn : ¬ n < 0) (hg : fnew h (.inr (4, n.toNatClampNeg, .inr (.inr (.inr (.inr (fun _ => none)))))) n.toNatClampNeg = some r) (hbytes : n.toNatClampNeg * 4 ≤ 536870912) (hdg : decode cc pc = .ok (.anewarray index, 3))
    (kk : ∀ (H1 : Heap) (k n : Nat), fCur D cA s h0 r.2 H1 locs → W p l e R s m args below meth c H1 locs k n Q (F0 m (pc + 3) ls (va_rf (some r.1) :: rest))) : W p l e R s m args below meth c H locs cells slots Q (F0 m pc ls (.int n :: rest)) := by
  obtain ⟨g1, g2, rfl⟩ := fnew_inv hg
  refine fr_tight hC ?_
  obtain ⟨c1, c2, c3, c4, c5, c6, c7⟩ := id hC
  obtain ⟨d1, d2, d3, d4, -⟩ := c4
  have hf4 : s.vm.findClass ("[" ++ (FieldType.array .int).toString) = some (cA 4) := (K.1.2 4 _ (fTys_at ht)).2
  refine W.anewA (t := .int) hexec hb hown (hts _ hcl) (K.2.2.2.2.2.2.2.over hf4) rfl hdg rfl hn hbytes (by rw [hR.1]; omega) (by rw [hR.2]; omega) fun cB kA comp f1 f2 f3 f4 => ?_
  have hcB : cB = cA 4 := Option.some.inj (f1.symm.trans hf4)
  subst hcB
  generalize hH1 : H.push ({ cls := cA 4, slots := Array.replicate n.toNatClampNeg .null, vm := .none } : Cell) = H1
  have z1 : H1.size = H.size + 1 := by rw [← hH1, Array.size_push]
  have e1 : H1[H.size]? = some (arrV (cA 4) n.toNatClampNeg (fun _ => .null)) := by rw [← hH1, Array.getElem?_push_size, ← arrV_new]
  have o1 : ∀ q : Nat, q < H.size → H1[q]? = H[q]? := fun q hq => by rw [← hH1, Array.getElem?_push, if_neg (Nat.ne_of_lt hq)]
  have hat : va_at D fcl (H.size, fE cA (.inr (4, n.toNatClampNeg, .inr (.inr (.inr (.inr (fun _ => none))))))) H1 := e1
  have hcu := hC.push (n := n.toNatClampNeg) hat z1 e1 (by rw [arrV_size]; exact Nat.le_refl _) o1 g1 g2
  have hk := kk H1 (fZ h - fZ h0 + 1) (fL h - fL h0 + n.toNatClampNeg) hcu
  rw [c2]
  exact hk
end FH21
/-! an array of n empty rows -/
section FH22
def muF (z i : Nat) : Nat → Option Nat := fun j => if j < i then some (z + 1 + j) else none
def muO (c : ClassId) (n z i : Nat) : Cell := vp_cell c (n, .inr (.inr (.inr (.inr (muF z i)))))
def muI (c : ClassId) : Cell := vp_cell c (0, .inl (fun _ => 0))
def muS (s : State) (c c0 : ClassId) (n : Nat) : Nat → State
  | 0 => s.pushCell (muO c n s.heap.size 0)
  | i + 1 => ((muS s c c0 n i).pushCell (muI c0)).setCell s.heap.size (muO c n s.heap.size (i + 1))
theorem muO_new (c : ClassId) (n z : Nat) : ({ cls := c, slots := Array.replicate n .null, vm := .none } : Cell) = muO c n z 0 := by
  rw [arrV_new]
  unfold muO
  rw [vp_cell_q]
  congr 1
theorem muO_next (c : ClassId) (n z i : Nat) : (muO c n z i).setSlot i (.ref (z + 1 + i)) = muO c n z (i + 1) := by
  unfold muO
  rw [vp_cell_q, vp_cell_q, arrV_store]
  congr 1
  funext q
  show (if q = i then Value.ref (z + 1 + i) else va_rf (if q < i then some (z + 1 + q) else none)) = va_rf (if q < i + 1 then some (z + 1 + q) else none)
  by_cases h : q = i
  · subst h
    rw [if_pos (Eq.refl _), if_pos (Nat.lt_succ_self _)]
    rfl
  · rw [if_neg h]
    by_cases h2 : q < i
    · rw [if_pos h2, if_pos (by omega)]
    · rw [if_neg h2, if_neg (by omega)]
theorem muO_size (c : ClassId) (n z i : Nat) : (muO c n z i).slots.size = n := arrV_size _ _ _
theorem muI_new (c : ClassId) : ({ cls := c, slots := Array.replicate 0 (.int 0), vm := .none } : Cell) = muI c := by
  rw [arrV_new]
  rfl
theorem muI_size (c : ClassId) : (muI c).slots.size = 0 := arrV_size _ _ _
theorem muS_is (s : State) (c c0 : ClassId) (n : Nat) : ∀ i, (muS s c c0 n i).heap.size = s.heap.size + 1 + i ∧ (muS s c c0 n i).heap[s.heap.size]? = some (muO c n s.heap.size i) ∧ (muS s c c0 n i).vm = s.vm ∧ (muS s c c0 n i).slotsUsed = s.slotsUsed + n
  | 0 => ⟨by simp [muS], by simp [muS], rfl, by simp [muS, muO_size]⟩
  | i + 1 => by
    obtain ⟨a, b, d, u⟩ := muS_is s c c0 n i
    have hlt : s.heap.size < (muS s c c0 n i).heap.size := by omega
    have hb' : ((muS s c c0 n i).pushCell (muI c0)).heap[s.heap.size]? = some (muO c n s.heap.size i) := by rw [State.heap_pushCell_of_lt (h := hlt)]; exact b
    refine ⟨?_, State.heap_setCell_self hb', by simp [muS, d], ?_⟩
    · simp [muS, State.setCell, a]; omega
    · simp [muS, u, muI_size]
theorem muS_top (s : State) (f : JFrame) (c c0 : ClassId) (n : Nat) : ∀ i, muS (s.setTop f) c c0 n i = (muS s c c0 n i).setTop f
  | 0 => rfl
  | i + 1 => by simp only [muS, muS_top s f c c0 n i, State.heap_setTop, State.pushCell_setTop, State.setCell_setTop]
section
variable {E : CtlPost} {e : Env} {d : Bool} {acts : List Action} {s : State}
theorem mu_fits {t : FieldType} (h : t.isReference = true) (v : Value) (hv : v = .null ∨ ∃ a, v = .ref a) : fits t v = true := by
  rcases hv with rfl | ⟨a, rfl⟩ <;> cases t <;> simp [FieldType.isReference] at h <;> rfl
theorem mu_inner {c0 cc : ClassId} {kc : Class} (hkc : s.vm.classes[c0]? = some kc) (hkind : kc.kind = .array cc .int) (h1 : s.heap.size < e.platform.maxCells) (h2 : s.slotsUsed ≤ e.platform.maxSlots) {Q : Addr → Pre} (hq : ∀ acts', Q s.heap.size d acts' (s.pushCell (muI c0))) : wp (multianewarray.make c0 [0]) Q E e d acts s := by
  have hm : ¬ (0 : Int32) < 0 := by decide
  rw [multianewarray.make]
  simp only [wp_bind', W.ite, hm, if_false, wp_pure', W.theClass, hkc, hkind, Option.some.injEq, exists_eq_left']
  refine W.newArray_of hkc hkind (Nat.not_lt.mpr (Nat.zero_le _)) (by show ¬ 0 * _ > _; omega) h1 h2 rfl (fun acts' => ?_)
  have := hq acts'
  rw [← muI_new] at this
  exact this
theorem mu_make {c c0 cc : ClassId} {k kc : Class} {t0 : FieldType} {n : Int32} (hk : s.vm.classes[c]? = some k) (hkind : k.kind = .array c0 t0) (href : t0.isReference = true) (hkc : s.vm.classes[c0]? = some kc) (hkindc : kc.kind = .array cc .int) (hn : ¬ n < 0)
    (hl1 : ¬ n.toNatClampNeg > e.platform.arrayLengthLimit) (hh1 : ¬ n.toNatClampNeg * componentBytes t0 > e.platform.maxHeapBytes)
    (hc : s.heap.size + 1 + n.toNatClampNeg ≤ e.platform.maxCells) (hs : s.slotsUsed + n.toNatClampNeg ≤ e.platform.maxSlots)
    {Q : Addr → Pre} (hq : ∀ d' acts', Q s.heap.size d' acts' (muS s c c0 n.toNatClampNeg n.toNatClampNeg)) : wp (multianewarray.make c [n, 0]) Q E e d acts s := by
  have hfind : (([0] : List Int32).find? (· < 0)) = none := by decide
  rw [multianewarray.make]
  simp only [wp_bind', W.ite, hn, if_false, wp_pure', W.theClass, hk, hkind, Option.some.injEq, exists_eq_left']
  refine W.newArray_of hk hkind hl1 hh1 (by omega) hs (mu_fits href _ (Or.inl rfl)) (fun acts1 => ?_)
  rw [muO_new c _ s.heap.size]
  simp only [hfind]
  rw [ite_self, wp_bind', Std.Legacy.Range.forIn_eq_forIn_range']
  have hsz : ([:n.toNatClampNeg] : Std.Legacy.Range).size = n.toNatClampNeg := by simp [Std.Legacy.Range.size]
  rw [hsz]
  show wp (forIn (List.range' 0 n.toNatClampNeg 1) PUnit.unit _) _ E e d acts1 _
  refine wp_forIn_inv (fun rest s' => ∃ i, i ≤ n.toNatClampNeg ∧ rest = List.range' i (n.toNatClampNeg - i) ∧ s' = muS s c c0 n.toNatClampNeg i) _ _ ⟨0, Nat.zero_le _, rfl, rfl⟩ ?_ ?_
  · rintro x rest s' d' acts' Q' ⟨i, hi, hl, rfl⟩ hnext
    have hlt : i < n.toNatClampNeg := by
      rcases Nat.lt_or_ge i n.toNatClampNeg with h | h
      · exact h
      · rw [show n.toNatClampNeg - i = 0 from by omega] at hl; simp at hl
    rw [show n.toNatClampNeg - i = (n.toNatClampNeg - (i + 1)) + 1 from by omega, List.range'_succ] at hl
    obtain ⟨rfl, hrest⟩ := List.cons.inj hl
    obtain ⟨f1, f2, f3, f4⟩ := muS_is s c c0 n.toNatClampNeg x
    simp only [wp_bind']
    refine mu_inner (by rw [f3]; exact hkc) hkindc (by rw [f1]; omega) (by rw [f4]; exact hs) (fun acts2 => ?_)
    have hlt0 : s.heap.size < (muS s c c0 n.toNatClampNeg x).heap.size := by rw [f1]; omega
    simp only [wp_bind', W.writeLoc, wp_pure']
    refine ⟨muO c n.toNatClampNeg s.heap.size x, by rw [State.heap_pushCell_of_lt (h := hlt0)]; exact f2, (show VmData.none ≠ VmData.unknown from fun z => by cases z), by rw [muO_size]; exact hlt, ?_, hnext _ _ _ ⟨x + 1, hlt, hrest, ?_⟩⟩
    · have e1 : (muO c n.toNatClampNeg s.heap.size x).cls = c := rfl
      have e2 : (muO c n.toNatClampNeg s.heap.size x).vm = .none := rfl
      rw [e1, e2]
      simp [State.fitsSlot, State.slotType?, f3, hk, hkind, mu_fits href _ (Or.inr ⟨_, rfl⟩)]
    · rw [f1, muO_next]; rfl
  · rintro s' d' acts' ⟨i, hi, hl, rfl⟩
    have hiN : i = n.toNatClampNeg := by
      rcases Nat.lt_or_ge i n.toNatClampNeg with h | h
      · rw [show n.toNatClampNeg - i = (n.toNatClampNeg - (i + 1)) + 1 from by omega, List.range'_succ] at hl; cases hl
      · omega
    subst hiN
    simp only [wp_pure']
    exact hq _ _
end
variable {p : Program} {l : Launch} {e : Env} {R : Room} {s : State} {m : MethodId} {args : Array Value} {below : List Frame} {meth : Method} {c : Code} {T : State} {H : Heap} {locs : List Loc} {cells slots : Nat} {Q : State → Prop}
variable {D : va_G} {cA : Nat → ClassId} {h0 h h2 : fSt} {cc : ByteArray} {pc : Nat} {ls : Array Slot} {rest : List Value}
/-- the functional heap with an outer array and i rows -/
def fmul (h : fSt) (n : Nat) : Nat → fSt
  | 0 => fPush h (.inr (4, n, .inr (.inr (.inr (.inr (muF (fZ h) 0)))))) n
  | i + 1 => fSet (fPush (fmul h n i) (.inr (0, 0, .inl (fun _ => 0))) 0) (fZ h) (.inr (4, n, .inr (.inr (.inr (.inr (muF (fZ h) (i + 1)))))))
def fmula (h : fSt) (n : Nat) : Option (Nat × fSt) := if fZ h + 1 + n ≤ fCB h ∧ fL h + n ≤ fLB h then some (fZ h, fmul h n n) else none
theorem fmul_is (h : fSt) (n : Nat) : ∀ i, fZ (fmul h n i) = fZ h + 1 + i ∧ fL (fmul h n i) = fL h + n ∧ fCB (fmul h n i) = fCB h ∧ fLB (fmul h n i) = fLB h ∧ fF (fmul h n i) (fZ h) = some (.inr (4, n, .inr (.inr (.inr (.inr (muF (fZ h) i))))))
  | 0 => ⟨rfl, rfl, rfl, rfl, if_pos rfl⟩
  | i + 1 => by
    obtain ⟨a, b, d, u, -⟩ := fmul_is h n i
    refine ⟨?_, ?_, d, u, if_pos rfl⟩
    · show fZ (fmul h n i) + 1 = _
      omega
    · show fL (fmul h n i) + 0 = _
      omega
theorem muStand (X : Stand p l e R s m args below meth c T locs cells slots) (hC : fCur D cA s h0 h T.heap locs) {n : Nat} (g1 : fZ h + 1 + n ≤ fCB h) (g2 : fL h + n ≤ fLB h) : ∀ i, i ≤ n → ∃ locs', Stand p l e R s m args below meth c (muS T (cA 4) (cA 0) n i) locs' (cells + 1 + i) (slots + n) ∧ fCur D cA s h0 (fmul h n i) (muS T (cA 4) (cA 0) n i).heap locs'
  | 0, _ => by
    have h1 := X.pushed (muO (cA 4) n T.heap.size 0)
    rw [muO_size] at h1
    have c2 : T.heap.size = fZ h := hC.2.1
    refine ⟨locs, h1, ?_⟩
    have e1 : (muS T (cA 4) (cA 0) n 0).heap[T.heap.size]? = some (muO (cA 4) n T.heap.size 0) := by simp [muS]
    refine hC.push (n := n) (e := .inr (4, n, .inr (.inr (.inr (.inr (muF (fZ h) 0)))))) (by rw [← c2]; exact e1) (by simp [muS]) e1 (by rw [muO_size]; exact Nat.le_refl _) (fun q hq => ?_) (by omega) g2
    exact State.heap_pushCell_of_lt _ _ hq
  | i + 1, hi => by
    obtain ⟨locs', Xi, hCi⟩ := muStand X hC g1 g2 i (Nat.le_of_succ_le hi)
    have c2 : T.heap.size = fZ h := hC.2.1
    obtain ⟨f1, f2, f3, f4⟩ := muS_is T (cA 4) (cA 0) n i
    obtain ⟨k1, k2, k3, k4, k5⟩ := fmul_is h n i
    have hlt0 : T.heap.size < (muS T (cA 4) (cA 0) n i).heap.size := by rw [f1]; omega
    have hcell : ((muS T (cA 4) (cA 0) n i).pushCell (muI (cA 0))).heap[T.heap.size]? = some (muO (cA 4) n T.heap.size i) := by rw [State.heap_pushCell_of_lt (h := hlt0)]; exact f2
    have h1 := (Xi.pushed (muI (cA 0))).stored hcell i (.ref (T.heap.size + 1 + i))
    rw [muO_next, muI_size] at h1
    have p1 : ((muS T (cA 4) (cA 0) n i).pushCell (muI (cA 0))).heap[(muS T (cA 4) (cA 0) n i).heap.size]? = some (muI (cA 0)) := State.heap_pushCell_size _ _
    have hP := hCi.push (n := 0) (e := .inr (0, 0, .inl (fun _ => 0))) (H1 := ((muS T (cA 4) (cA 0) n i).pushCell (muI (cA 0))).heap) p1 (by simp) p1 (by rw [muI_size]; exact Nat.le_refl _) (fun q hq => State.heap_pushCell_of_lt _ _ hq) (by rw [k1, k3]; omega) (by rw [k2, k4]; omega)
    have e1 : (muS T (cA 4) (cA 0) n (i + 1)).heap[T.heap.size]? = some (muO (cA 4) n T.heap.size (i + 1)) := (muS_is T (cA 4) (cA 0) n (i + 1)).2.1
    have oq : ∀ q, q ≠ T.heap.size → (muS T (cA 4) (cA 0) n (i + 1)).heap[q]? = ((muS T (cA 4) (cA 0) n i).pushCell (muI (cA 0))).heap[q]? := fun q hq => heapAt_setCell_ne _ (Ne.symm hq)
    have hF : fF (fPush (fmul h n i) (.inr (0, 0, .inl (fun _ => 0))) 0) (fZ h) = some (.inr (4, n, .inr (.inr (.inr (.inr (muF (fZ h) i)))))) := by
      show (if fZ h = fZ (fmul h n i) then _ else fF (fmul h n i) (fZ h)) = _
      rw [if_neg (by omega), k5]
    have hS := hP.set (k := i) (H1 := (muS T (cA 4) (cA 0) n (i + 1)).heap) (e := .inr (4, n, .inr (.inr (.inr (.inr (muF (fZ h) (i + 1))))))) hF (by rw [← c2]; exact e1) (by rw [(muS_is T (cA 4) (cA 0) n (i + 1)).1]; simp [f1]; omega) (by rw [← c2]; exact oq) (fW_put (i := i) (v := .ref (T.heap.size + 1 + i)) hcell (by rw [muO_next]; exact e1) oq)
    refine ⟨_, ?_, hS⟩
    rw [show fZ h = T.heap.size from c2.symm]
    exact h1
theorem fmula_inv {n : Nat} {r : Nat × fSt} (h1 : fmula h n = some r) : fZ h + 1 + n ≤ fCB h ∧ fL h + n ≤ fLB h ∧ r = (fZ h, fmul h n n) := by
  unfold fmula at h1
  by_cases z : fZ h + 1 + n ≤ fCB h ∧ fL h + n ≤ fLB h
  · rw [if_pos z] at h1
    exact ⟨z.1, z.2, (Option.some.inj h1).symm⟩
  · rw [if_neg z] at h1; cases h1
theorem fCur.vm {s : State} {H : Heap} (hC : fCur D cA s h0 h H locs) : fCur D cA s h0 h H locs := hC
theorem fr_mul (hexec : p.tables.exec = Jvm.exec) (hb : c.code = cc) (hts : ∀ w ∈ WA, w.before args s = true) {own : String} {index : Nat} (hown : s.vm.findClass own = some m.cls) (K : fKw D cA h0 s) (hC : fCur D cA s h0 h H locs) (hR : R.cells = fCB h0 - fZ h0 ∧ R.slots = fLB h0 - fL h0) (ht : ftl[4]? = some (.array .int)) (hcl : Cond.classLink own index "[[I" ∈ WA) {n : Int32} {r : Nat × fSt} (hn : ¬ n < 0) (hg : fmula h n.toNatClampNeg = some r) (hbytes : n.toNatClampNeg * 4 ≤ 536870912) (hdg : decode cc pc = .ok (.multianewarray index 2, 4))
    (kk : ∀ (H1 : Heap) (locs1 : List Loc) (k n : Nat), fCur D cA s h0 r.2 H1 locs1 → W p l e R s m args below meth c H1 locs1 k n Q (F0 m (pc + 4) ls (va_rf (some r.1) :: rest))) : W p l e R s m args below meth c H locs cells slots Q (F0 m pc ls (.int 0 :: .int n :: rest)) := by
  obtain ⟨g1, g2, rfl⟩ := fmula_inv hg
  refine fr_tight hC ?_
  intro T hT X
  subst hT; subst hb
  obtain ⟨c1, c2, c3, c4, c5, c6, c7⟩ := id hC
  obtain ⟨d1, d2, d3, d4, -⟩ := c4
  have hpl : e.platform.magicAccessors = ({} : Platform).magicAccessors := by rw [X.admits.platform]
  have hf4 : s.vm.findClass "[[I" = some (cA 4) := (K.1.2 4 _ (fTys_at ht)).2
  obtain ⟨-, -, ⟨kA, hkA, hkindA⟩, kC, cI, hkC, hkindC⟩ := K.2.2.2.2.2.2.2
  obtain ⟨q0, hfc0, hl0⟩ := Cond.classLink_spec hown (hts _ hcl) e.platform hpl
  cases hf4.symm.trans hfc0
  obtain ⟨hg₁, hwarm₁, hready₁⟩ := State.classEntry (e := e) X.warmed hl0
  generalize T.vm.noted m.cls index (.cls (cA 4)) = vm₁ at hg₁ hwarm₁ hready₁
  have hal : s.vm.Alike vm₁ := hwarm₁.alike
  obtain ⟨kA₁, hkA₁, heA⟩ := hal.2.2 _ _ hkA
  obtain ⟨kC₁, hkC₁, heC⟩ := hal.2.2 _ _ hkC
  have hkindA₁ : kA₁.kind = .array (cA 0) (.array .int) := by rw [heA]; exact hkindA
  have hkindC₁ : kC₁.kind = .array cI .int := by rw [heC]; exact hkindC
  have X₁ := X.noted hwarm₁
  obtain ⟨hr1, hr2⟩ := X.roomAbove (a := 1 + n.toNatClampNeg) (b := n.toNatClampNeg) (by rw [hR.1]; omega) (by rw [hR.2]; omega)
  obtain ⟨locs', XF, hCF⟩ := muStand (T := T.setVm vm₁) X₁ hC (n := n.toNatClampNeg) g1 g2 n.toNatClampNeg (Nat.le_refl _)
  obtain ⟨t', a1, b1⟩ := kk _ _ _ _ hCF _ rfl XF
  refine ⟨t', ?_, b1⟩
  have hl1 : ¬ n.toNatClampNeg > e.platform.arrayLengthLimit := by rw [Launch.admits_arrayLengthLimit X.admits]; omega
  have hh1 : ¬ n.toNatClampNeg * componentBytes (.array .int) > e.platform.maxHeapBytes := by
    rw [Launch.admits_maxHeapBytes X.admits]; show ¬ n.toNatClampNeg * 4 > 536870912; omega
  jvm_step X.here [hexec, hdg]
  simp only [multianewarray.sem, wp_bind', W.resolveClassAt_links (State.method?_setTop (F0 m pc ls (.int 0 :: .int n :: rest)) X.here.top) hg₁]
  rw [W.popN, if_neg (by decide)]
  refine ⟨_, State.topJava?_setTop' (s := T.setVm vm₁) (F0 m pc ls (.int 0 :: .int n :: rest)) X.here.top, [.int n, .int 0], rest, rfl, rfl, ?_⟩
  simp only [List.mapM_cons, List.mapM_nil, wp_bind', wp_pure']
  refine mu_make (k := kA₁) (kc := kC₁) (c0 := cA 0) (cc := cI) (t0 := .array .int) hkA₁ hkindA₁ rfl hkC₁ hkindC₁ hn hl1 hh1 (by show T.heap.size + 1 + _ ≤ _; omega) (by show T.slotsUsed + _ ≤ _; omega) (fun d' acts' => ?_)
  have eS : ((T.setTop (F0 m pc ls (.int 0 :: .int n :: rest))).setVm vm₁).setTop { F0 m pc ls (.int 0 :: .int n :: rest) with stack := rest } = (T.setVm vm₁).setTop { F0 m pc ls (.int 0 :: .int n :: rest) with stack := rest } := by
    show ((T.setVm vm₁).setTop _).setTop _ = _
    rw [State.setTop_setTop]
  rw [eS, muS_top]
  simp only [wp_bind', W.mark, W.pushRef, State.topJava?_setTop' _ XF.here.top, Option.some.injEq, exists_eq_left', State.setTop_setTop, State.heap_setTop]
  intro acts
  simp [jvm, XF.here.top]
  rw [show fZ h = T.heap.size from c2.symm] at a1
  exact a1
end FH22
