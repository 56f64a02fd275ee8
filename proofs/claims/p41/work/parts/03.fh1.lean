/-! THE FUNCTIONAL HEAP: a state of the system is a partial function from addresses to cells, the next address, the slots made, and the caps of both; a method is a function of it. -/
section FH1
theorem obind {α β : Type} {o : Option α} {f : α → Option β} {r : β} (h : o.bind f = some r) : ∃ x, o = some x ∧ f x = some r := by
  cases o with
  | none => cases h
  | some x => exact ⟨x, rfl, h⟩
theorem opos {c : Prop} [Decidable c] {α : Type} {a b : α} {r : α} (hc : c) (h : (if c then a else b) = r) : a = r := (if_pos hc).symm.trans h
theorem oneg {c : Prop} [Decidable c] {α : Type} {a b : α} {r : α} (hc : ¬ c) (h : (if c then a else b) = r) : b = r := (if_neg hc).symm.trans h
abbrev fCe : Type := (Nat × List Value) ⊕ (Nat × vp_A)
abbrev fSt : Type := (Nat → Option fCe) × Nat × Nat × Nat × Nat × (Nat × Nat × (Nat → Int32))
def fF (h : fSt) : Nat → Option fCe := h.1
def fZ (h : fSt) : Nat := h.2.1
def fL (h : fSt) : Nat := h.2.2.1
def fCB (h : fSt) : Nat := h.2.2.2.1
def fLB (h : fSt) : Nat := h.2.2.2.2.1
/-- the script: its address, its length, its ints -/
def fX (h : fSt) : Nat × Nat × (Nat → Int32) := h.2.2.2.2.2
def fE (cA : Nat → ClassId) (e : fCe) : va_E := match e with
  | .inl o => .inr o
  | .inr a => .inl (cA a.1, a.2)
def fTys (cA : Nat → ClassId) : List (ClassId × FieldType) := ftl.zipIdx.map (fun q => (cA q.2, q.1))
def fRep (D : va_G) (cA : Nat → ClassId) (F : Nat → Option fCe) (H : Heap) : Prop := ∀ (a : Nat) (e : fCe), F a = some e → va_at D fcl (a, fE cA e) H
/-- the slots of all cells -/
def fW (H : Heap) : Nat := (H.toList.map (fun c => c.slots.size)).sum
theorem fW_eq {H H' : Heap} (h : ∀ q : Nat, (H'[q]?).map (fun c => c.slots.size) = (H[q]?).map (fun c => c.slots.size)) : fW H' = fW H := by
  unfold fW
  congr 1
  apply List.ext_getElem?
  intro q
  rw [List.getElem?_map, List.getElem?_map, Array.getElem?_toList, Array.getElem?_toList]
  exact h q
theorem fW_put {H H' : Heap} {a i : Nat} {c : Cell} {v : Value} (h0 : H[a]? = some c) (h1 : H'[a]? = some (c.setSlot i v)) (h2 : ∀ q : Nat, q ≠ a → H'[q]? = H[q]?) : fW H' = fW H := by
  apply fW_eq
  intro q
  by_cases hq : q = a
  · subst hq
    rw [h0, h1]
    simp [Cell.setSlot]
  · rw [h2 q hq]
theorem fW_push {H H' : Heap} {c : Cell} (h0 : H'.size = H.size + 1) (h1 : H'[H.size]? = some c) (h2 : ∀ q : Nat, q < H.size → H'[q]? = H[q]?) : fW H' = fW H + c.slots.size := by
  have h : H'.toList = H.toList ++ [c] := by
    apply List.ext_getElem?
    intro q
    rw [Array.getElem?_toList]
    by_cases hq : q < H.size
    · rw [h2 q hq, List.getElem?_append_left (by simpa using hq), Array.getElem?_toList]
    · by_cases hq2 : q = H.size
      · subst hq2
        rw [h1, List.getElem?_append_right (by simp)]
        simp
      · rw [Array.getElem?_eq_none (by omega), List.getElem?_eq_none (by simp; omega)]
  unfold fW
  rw [h]
  simp
theorem fW_fold (l : List Cell) (n : Nat) : l.foldl (fun n c => n + c.slots.size) n = n + (l.map (fun c => c.slots.size)).sum := by
  induction l generalizing n with
  | nil => simp
  | cons c l ih => simp only [List.foldl_cons, ih, List.map_cons, List.sum_cons]; omega
theorem fW_used {s : State} (h : s.slotsTrue = true) : s.slotsUsed = fW s.heap := by
  unfold State.slotsTrue at h
  have h1 := beq_iff_eq.mp h
  rw [h1, ← Array.foldl_toList, fW_fold]
  unfold fW
  omega
end FH1
section FH2
variable {p : Program} {l : Launch} {e : Env} {R : Room} {s : State} {m : MethodId} {args : Array Value} {below : List Frame} {meth : Method} {c : Code} {H : Heap} {locs : List Loc} {cells slots : Nat} {Q : State → Prop}
theorem fStand {T : State} (X : Stand p l e R s m args below meth c T locs cells slots) {k n : Nat} (h1 : T.heap.size ≤ s.heap.size + k) (h2 : fW T.heap ≤ fW s.heap + n) : Stand p l e R s m args below meth c T locs k n := by
  have hb := fW_used X.book
  have h0 : s.slotsTrue = true := by
    have h := X.room
    simp only [State.hasRoom, Bool.and_eq_true] at h
    exact h.2
  have h0 := fW_used h0
  refine { X with same := ?_ }
  obtain ⟨e1, e2, e3, e4, e5, e6⟩ := X.same
  refine ⟨e1, e2, h1, e4, ?_, e6⟩
  have e7 : T.slotsUsed = s.slotsUsed + ((T.heap.toList.drop s.heap.size).map (·.slots.size)).sum := e4
  show ((T.heap.toList.drop s.heap.size).map (·.slots.size)).sum ≤ n
  omega
theorem fTight {g : JFrame} {k n : Nat} (h1 : H.size ≤ s.heap.size + k) (h2 : fW H ≤ fW s.heap + n) (kk : W p l e R s m args below meth c H locs k n Q g) : W p l e R s m args below meth c H locs cells slots Q g := by
  intro T hT X
  exact kk T hT (fStand X (by rw [hT]; exact h1) (by rw [hT]; exact h2))
end FH2
