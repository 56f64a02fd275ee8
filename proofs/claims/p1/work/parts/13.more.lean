theorem fci {α β γ : Type} {f : α → γ} {g : β → γ} {v : α} {r : γ} (h : Sum.elim f g (.inl v) = r) : f v = r := h
theorem fcr {α β γ : Type} {f : α → γ} {g : β → γ} {v : β} {r : γ} (h : Sum.elim f g (.inr v) = r) : g v = r := h
section FH5
variable {p : Program} {l : Launch} {e : Env} {R : Room} {s : State} {m : MethodId} {args : Array Value} {below : List Frame} {meth : Method} {c : Code} {H : Heap} {locs : List Loc} {cells slots : Nat} {Q : State → Prop}
variable {D : va_G} {cA : Nat → ClassId} {h0 h h2 : fSt} {cc : ByteArray} {pc : Nat} {ls : Array Slot} {rest : List Value}
/-- anewarray -/
theorem fr_newqN (hexec : p.tables.exec = Jvm.exec) (hb : c.code = cc) (hts : ∀ w ∈ WA, w.before args s = true) {own C : String} {index : Nat} (hown : s.vm.findClass own = some m.cls) (K : fKw D cA h0 s) (hC : fCur D cA s h0 h H locs) (hR : R.cells = fCB h0 - fZ h0 ∧ R.slots = fLB h0 - fL h0) {t : Nat} (ht : ftl[t]? = some (.object C)) (hcl : Cond.classLink own index C ∈ WA) (hover : Cond.arrayOver (.object C) ∈ fNw) {n : Int32} {r : Nat × fSt} (hn : ¬ n < 0) (hg : fnew h (.inr (t, n.toNatClampNeg, .inr (.inr (.inr (.inr (fun _ => none)))))) n.toNatClampNeg = some r) (hbytes : n.toNatClampNeg * 4 ≤ 536870912) (hdg : decode cc pc = .ok (.anewarray index, 3))
    (kk : ∀ (H1 : Heap) (k n : Nat), fCur D cA s h0 r.2 H1 locs → W p l e R s m args below meth c H1 locs k n Q (F0 m (pc + 3) ls (va_rf (some r.1) :: rest))) : W p l e R s m args below meth c H locs cells slots Q (F0 m pc ls (.int n :: rest)) := by
  obtain ⟨g1, g2, rfl⟩ := fnew_inv hg
  refine fr_tight hC ?_
  obtain ⟨c1, c2, c3, c4, c5, c6, c7⟩ := id hC
  obtain ⟨d1, d2, d3, d4, -⟩ := c4
  refine W.anew hexec hb hown (hts _ hcl) (va_AO.use (K.2.2.2.2.2 _ hover)) rfl hdg rfl hn hbytes (by rw [hR.1]; omega) (by rw [hR.2]; omega) fun cB kA comp f1 f2 f3 f4 => ?_
  have hcB : cB = cA t := by
    obtain ⟨kA', comp', -, -, -, h4⟩ := (K.1.2 t _ (fTys_at ht)).2
    exact Option.some.inj (f1.symm.trans h4)
  subst hcB
  generalize hH1 : H.push ({ cls := cA t, slots := Array.replicate n.toNatClampNeg .null, vm := .none } : Cell) = H1
  have z1 : H1.size = H.size + 1 := by rw [← hH1, Array.size_push]
  have e1 : H1[H.size]? = some (arrV (cA t) n.toNatClampNeg (fun _ => .null)) := by rw [← hH1, Array.getElem?_push_size, ← arrV_new]
  have o1 : ∀ q : Nat, q < H.size → H1[q]? = H[q]? := fun q hq => by rw [← hH1, Array.getElem?_push, if_neg (Nat.ne_of_lt hq)]
  have hat : va_at D fcl (H.size, fE cA (.inr (t, n.toNatClampNeg, .inr (.inr (.inr (.inr (fun _ => none))))))) H1 := e1
  have hcu := hC.push (n := n.toNatClampNeg) hat z1 e1 (by rw [arrV_size]; exact Nat.le_refl _) o1 g1 g2
  have hk := kk H1 (fZ h - fZ h0 + 1) (fL h - fL h0 + n.toNatClampNeg) hcu
  rw [c2]
  exact hk
end FH5
