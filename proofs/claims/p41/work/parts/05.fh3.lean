section FH5
variable {p : Program} {l : Launch} {e : Env} {R : Room} {s : State} {m : MethodId} {args : Array Value} {below : List Frame} {meth : Method} {c : Code} {H : Heap} {locs : List Loc} {cells slots : Nat} {Q : State → Prop}
variable {D : va_G} {cA : Nat → ClassId} {h0 h h2 : fSt} {cc : ByteArray} {pc : Nat} {ls : Array Slot} {rest : List Value}
/-- an array: its kind, its contents -/
def farr (h : fSt) (r : Option Nat) (t : Nat) : Option vp_A := match r with
  | none => none
  | some a => match fF h a with
    | some (.inr (u, x)) => if u = t then some x else none
    | _ => none
theorem farr_inv {r : Option Nat} {t : Nat} {x : vp_A} (h1 : farr h r t = some x) : ∃ a : Nat, r = some a ∧ fF h a = some (.inr (t, x)) := by
  unfold farr at h1
  split at h1
  · cases h1
  · rename_i a
    split at h1
    · rename_i u y hq
      by_cases z : u = t
      · subst z
        rw [if_pos (Eq.refl _)] at h1
        cases h1
        exact ⟨a, rfl, hq⟩
      · rw [if_neg z] at h1; cases h1
    · cases h1
def faI (h : fSt) (r : Option Nat) (t : Nat) (i : Int32) : Option Int32 := match farr h r t with
  | some (n, .inl f) => if i < 0 ∨ n ≤ i.toNatClampNeg then none else some (f i.toNatClampNeg)
  | _ => none
def faJ (h : fSt) (r : Option Nat) (t : Nat) (i : Int32) : Option Int64 := match farr h r t with
  | some (n, .inr (.inl f)) => if i < 0 ∨ n ≤ i.toNatClampNeg then none else some (f i.toNatClampNeg)
  | _ => none
def faD (h : fSt) (r : Option Nat) (t : Nat) (i : Int32) : Option UInt64 := match farr h r t with
  | some (n, .inr (.inr (.inr (.inl f)))) => if i < 0 ∨ n ≤ i.toNatClampNeg then none else some (f i.toNatClampNeg)
  | _ => none
def faR (h : fSt) (r : Option Nat) (t : Nat) (i : Int32) : Option (Option Nat) := match farr h r t with
  | some (n, .inr (.inr (.inr (.inr f)))) => if i < 0 ∨ n ≤ i.toNatClampNeg then none else some (f i.toNatClampNeg)
  | _ => none
theorem faI_inv {r : Option Nat} {t : Nat} {i x : Int32} (h1 : faI h r t i = some x) : ∃ (a n : Nat) (f : Nat → Int32), r = some a ∧ fF h a = some (.inr (t, n, .inl f)) ∧ vp_in i n ∧ f i.toNatClampNeg = x := by
  unfold faI at h1
  split at h1
  · rename_i n f hq
    obtain ⟨a, h2, h3⟩ := farr_inv hq
    by_cases z : i < 0 ∨ n ≤ i.toNatClampNeg
    · rw [if_pos z] at h1; cases h1
    · rw [if_neg z] at h1; cases h1
      exact ⟨a, n, f, h2, h3, z, rfl⟩
  · cases h1
theorem faJ_inv {r : Option Nat} {t : Nat} {i : Int32} {x : Int64} (h1 : faJ h r t i = some x) : ∃ (a n : Nat) (f : Nat → Int64), r = some a ∧ fF h a = some (.inr (t, n, .inr (.inl f))) ∧ vp_in i n ∧ f i.toNatClampNeg = x := by
  unfold faJ at h1
  split at h1
  · rename_i n f hq
    obtain ⟨a, h2, h3⟩ := farr_inv hq
    by_cases z : i < 0 ∨ n ≤ i.toNatClampNeg
    · rw [if_pos z] at h1; cases h1
    · rw [if_neg z] at h1; cases h1
      exact ⟨a, n, f, h2, h3, z, rfl⟩
  · cases h1
theorem faD_inv {r : Option Nat} {t : Nat} {i : Int32} {x : UInt64} (h1 : faD h r t i = some x) : ∃ (a n : Nat) (f : Nat → UInt64), r = some a ∧ fF h a = some (.inr (t, n, .inr (.inr (.inr (.inl f))))) ∧ vp_in i n ∧ f i.toNatClampNeg = x := by
  unfold faD at h1
  split at h1
  · rename_i n f hq
    obtain ⟨a, h2, h3⟩ := farr_inv hq
    by_cases z : i < 0 ∨ n ≤ i.toNatClampNeg
    · rw [if_pos z] at h1; cases h1
    · rw [if_neg z] at h1; cases h1
      exact ⟨a, n, f, h2, h3, z, rfl⟩
  · cases h1
theorem faR_inv {r : Option Nat} {t : Nat} {i : Int32} {x : Option Nat} (h1 : faR h r t i = some x) : ∃ (a n : Nat) (f : Nat → Option Nat), r = some a ∧ fF h a = some (.inr (t, n, .inr (.inr (.inr (.inr f))))) ∧ vp_in i n ∧ f i.toNatClampNeg = x := by
  unfold faR at h1
  split at h1
  · rename_i n f hq
    obtain ⟨a, h2, h3⟩ := farr_inv hq
    by_cases z : i < 0 ∨ n ≤ i.toNatClampNeg
    · rw [if_pos z] at h1; cases h1
    · rw [if_neg z] at h1; cases h1
      exact ⟨a, n, f, h2, h3, z, rfl⟩
  · cases h1
def flen (h : fSt) (r : Option Nat) (t : Nat) : Option Int32 := (farr h r t).map (fun x => Int32.ofNat x.1)
def fsI (h : fSt) (r : Option Nat) (t : Nat) (i x : Int32) : Option fSt := match r, farr h r t with
  | some a, some (n, .inl f) => if i < 0 ∨ n ≤ i.toNatClampNeg then none else some (fSet h a (.inr (t, n, .inl (upd f i.toNatClampNeg x))))
  | _, _ => none
def fsJ (h : fSt) (r : Option Nat) (t : Nat) (i : Int32) (x : Int64) : Option fSt := match r, farr h r t with
  | some a, some (n, .inr (.inl f)) => if i < 0 ∨ n ≤ i.toNatClampNeg then none else some (fSet h a (.inr (t, n, .inr (.inl (vp_updL f i.toNatClampNeg x)))))
  | _, _ => none
def fsD (h : fSt) (r : Option Nat) (t : Nat) (i : Int32) (x : UInt64) : Option fSt := match r, farr h r t with
  | some a, some (n, .inr (.inr (.inr (.inl f)))) => if i < 0 ∨ n ≤ i.toNatClampNeg then none else some (fSet h a (.inr (t, n, .inr (.inr (.inr (.inl (vf_upd f i.toNatClampNeg x)))))))
  | _, _ => none
/-- a store of an object of class ci -/
def fsR (h : fSt) (r : Option Nat) (t ci : Nat) (i : Int32) (x : Option Nat) : Option fSt := match r, farr h r t, x with
  | some a, some (n, .inr (.inr (.inr (.inr f)))), some v => match fF h v with
    | some (.inl (cj, _)) => if cj = ci then if i < 0 ∨ n ≤ i.toNatClampNeg then none else some (fSet h a (.inr (t, n, .inr (.inr (.inr (.inr (va_up f i.toNatClampNeg (some v)))))))) else none
    | _ => none
  | _, _, _ => none
theorem fsI_inv {r : Option Nat} {t : Nat} {i x : Int32} (h1 : fsI h r t i x = some h2) : ∃ (a n : Nat) (f : Nat → Int32), r = some a ∧ fF h a = some (.inr (t, n, .inl f)) ∧ vp_in i n ∧ h2 = fSet h a (.inr (t, n, .inl (upd f i.toNatClampNeg x))) := by
  unfold fsI at h1
  split at h1
  · rename_i a n f hq
    obtain ⟨b, h2, h3⟩ := farr_inv hq
    cases h2
    by_cases z : i < 0 ∨ n ≤ i.toNatClampNeg
    · rw [if_pos z] at h1; cases h1
    · rw [if_neg z] at h1; cases h1
      exact ⟨a, n, f, rfl, h3, z, rfl⟩
  · cases h1
theorem fsJ_inv {r : Option Nat} {t : Nat} {i : Int32} {x : Int64} (h1 : fsJ h r t i x = some h2) : ∃ (a n : Nat) (f : Nat → Int64), r = some a ∧ fF h a = some (.inr (t, n, .inr (.inl f))) ∧ vp_in i n ∧ h2 = fSet h a (.inr (t, n, .inr (.inl (vp_updL f i.toNatClampNeg x)))) := by
  unfold fsJ at h1
  split at h1
  · rename_i a n f hq
    obtain ⟨b, h2, h3⟩ := farr_inv hq
    cases h2
    by_cases z : i < 0 ∨ n ≤ i.toNatClampNeg
    · rw [if_pos z] at h1; cases h1
    · rw [if_neg z] at h1; cases h1
      exact ⟨a, n, f, rfl, h3, z, rfl⟩
  · cases h1
theorem fsD_inv {r : Option Nat} {t : Nat} {i : Int32} {x : UInt64} (h1 : fsD h r t i x = some h2) : ∃ (a n : Nat) (f : Nat → UInt64), r = some a ∧ fF h a = some (.inr (t, n, .inr (.inr (.inr (.inl f))))) ∧ vp_in i n ∧ h2 = fSet h a (.inr (t, n, .inr (.inr (.inr (.inl (vf_upd f i.toNatClampNeg x)))))) := by
  unfold fsD at h1
  split at h1
  · rename_i a n f hq
    obtain ⟨b, h2, h3⟩ := farr_inv hq
    cases h2
    by_cases z : i < 0 ∨ n ≤ i.toNatClampNeg
    · rw [if_pos z] at h1; cases h1
    · rw [if_neg z] at h1; cases h1
      exact ⟨a, n, f, rfl, h3, z, rfl⟩
  · cases h1
theorem fsR_inv {r x : Option Nat} {t ci : Nat} {i : Int32} (h1 : fsR h r t ci i x = some h2) : ∃ (a n v : Nat) (f : Nat → Option Nat) (vs : List Value), r = some a ∧ x = some v ∧ fF h a = some (.inr (t, n, .inr (.inr (.inr (.inr f))))) ∧ fF h v = some (.inl (ci, vs)) ∧ vp_in i n ∧ h2 = fSet h a (.inr (t, n, .inr (.inr (.inr (.inr (va_up f i.toNatClampNeg (some v))))))) := by
  unfold fsR at h1
  split at h1
  · rename_i a n f v hq
    obtain ⟨b, h2, h3⟩ := farr_inv hq
    cases h2
    split at h1
    · rename_i cj vs hv
      by_cases y : cj = ci
      · subst y
        rw [if_pos (Eq.refl _)] at h1
        by_cases z : i < 0 ∨ n ≤ i.toNatClampNeg
        · rw [if_pos z] at h1; cases h1
        · rw [if_neg z] at h1; cases h1
          exact ⟨a, n, v, f, vs, rfl, rfl, h3, hv, z, rfl⟩
      · rw [if_neg y] at h1; cases h1
    · cases h1
  · cases h1
theorem fTys_at {t : Nat} {ty : FieldType} (ht : ftl[t]? = some ty) : (fTys cA)[t]? = some (cA t, ty) := by
  unfold fTys
  rw [List.getElem?_map, List.getElem?_zipIdx, ht]
  simp
theorem fOne {a : Nat} {x : fCe} (hC : fCur D cA s h0 h H locs) (hF : fF h a = some x) : va_P D fcl [(a, fE cA x)] H := by
  intro j q hq
  have hz : j < 1 := (List.getElem?_eq_some_iff.mp hq).1
  rw [show j = 0 by omega] at hq
  cases hq
  exact hC.1 a _ hF
theorem fr_iald (hexec : p.tables.exec = Jvm.exec) (hb : c.code = cc) (K : fKw D cA h0 s) (hC : fCur D cA s h0 h H locs) {t : Nat} (ht : ftl[t]? = some .int) {r : Option Nat} {i x : Int32} (hg : faI h r t i = some x) (hdg : decode cc pc = .ok (.iaload, 1))
    (kk : W p l e R s m args below meth c H locs cells slots Q (F0 m (pc + 1) ls (.int x :: rest))) : W p l e R s m args below meth c H locs cells slots Q (F0 m pc ls (.int i :: va_rf r :: rest)) := by
  obtain ⟨a, n, f, rfl, hF, hin, rfl⟩ := faI_inv hg
  exact va_iald hexec hb K.1 (fOne hC hF) 0 t rfl (fTys_at ht) hin hdg kk
theorem fr_zald (hexec : p.tables.exec = Jvm.exec) (hb : c.code = cc) (K : fKw D cA h0 s) (hC : fCur D cA s h0 h H locs) {t : Nat} (ht : ftl[t]? = some .boolean) {r : Option Nat} {i x : Int32} (hg : faI h r t i = some x) (hdg : decode cc pc = .ok (.baload, 1))
    (kk : W p l e R s m args below meth c H locs cells slots Q (F0 m (pc + 1) ls (.int x :: rest))) : W p l e R s m args below meth c H locs cells slots Q (F0 m pc ls (.int i :: va_rf r :: rest)) := by
  obtain ⟨a, n, f, rfl, hF, hin, rfl⟩ := faI_inv hg
  exact va_zald hexec hb K.1 (fOne hC hF) 0 t rfl (fTys_at ht) hin hdg kk
theorem fr_lald (hexec : p.tables.exec = Jvm.exec) (hb : c.code = cc) (K : fKw D cA h0 s) (hC : fCur D cA s h0 h H locs) {t : Nat} (ht : ftl[t]? = some .long) {r : Option Nat} {i : Int32} {x : Int64} (hg : faJ h r t i = some x) (hdg : decode cc pc = .ok (.laload, 1))
    (kk : W p l e R s m args below meth c H locs cells slots Q (F0 m (pc + 1) ls (.long x :: rest))) : W p l e R s m args below meth c H locs cells slots Q (F0 m pc ls (.int i :: va_rf r :: rest)) := by
  obtain ⟨a, n, f, rfl, hF, hin, rfl⟩ := faJ_inv hg
  exact va_lald hexec hb K.1 (fOne hC hF) 0 t rfl (fTys_at ht) hin hdg kk
theorem fr_dald (hexec : p.tables.exec = Jvm.exec) (hb : c.code = cc) (K : fKw D cA h0 s) (hC : fCur D cA s h0 h H locs) {t : Nat} (ht : ftl[t]? = some .double) {r : Option Nat} {i : Int32} {x : UInt64} (hg : faD h r t i = some x) (hdg : decode cc pc = .ok (.daload, 1))
    (kk : W p l e R s m args below meth c H locs cells slots Q (F0 m (pc + 1) ls (.double x :: rest))) : W p l e R s m args below meth c H locs cells slots Q (F0 m pc ls (.int i :: va_rf r :: rest)) := by
  obtain ⟨a, n, f, rfl, hF, hin, rfl⟩ := faD_inv hg
  exact va_dald hexec hb K.1 (fOne hC hF) 0 t rfl (fTys_at ht) hin hdg kk
theorem fr_aald (hexec : p.tables.exec = Jvm.exec) (hb : c.code = cc) (K : fKw D cA h0 s) (hC : fCur D cA s h0 h H locs) {t : Nat} {C : String} (ht : ftl[t]? = some (.object C)) {r : Option Nat} {i : Int32} {x : Option Nat} (hg : faR h r t i = some x) (hdg : decode cc pc = .ok (.aaload, 1))
    (kk : W p l e R s m args below meth c H locs cells slots Q (F0 m (pc + 1) ls (va_rf x :: rest))) : W p l e R s m args below meth c H locs cells slots Q (F0 m pc ls (.int i :: va_rf r :: rest)) := by
  obtain ⟨a, n, f, rfl, hF, hin, rfl⟩ := faR_inv hg
  exact va_aldq hexec hb K.1 (fOne hC hF) 0 t rfl (fTys_at ht) hin hdg kk
theorem fr_alen (hexec : p.tables.exec = Jvm.exec) (hb : c.code = cc) (K : fKw D cA h0 s) (hC : fCur D cA s h0 h H locs) {t : Nat} {ty : FieldType} (ht : ftl[t]? = some ty) {r : Option Nat} {x : Int32} (hg : flen h r t = some x) (hdg : decode cc pc = .ok (.arraylength, 1))
    (kk : W p l e R s m args below meth c H locs cells slots Q (F0 m (pc + 1) ls (.int x :: rest))) : W p l e R s m args below meth c H locs cells slots Q (F0 m pc ls (va_rf r :: rest)) := by
  unfold flen at hg
  cases hq : farr h r t with
  | none => rw [hq] at hg; cases hg
  | some y =>
    rw [hq] at hg
    cases hg
    obtain ⟨a, rfl, hF⟩ := farr_inv hq
    exact va_alen hexec hb K.1 (fOne hC hF) 0 t rfl (fTys_at ht) rfl hdg kk
theorem fr_iast (hexec : p.tables.exec = Jvm.exec) (hb : c.code = cc) (K : fKw D cA h0 s) (hC : fCur D cA s h0 h H locs) {t : Nat} (ht : ftl[t]? = some .int) {r : Option Nat} {i x : Int32} (hg : fsI h r t i x = some h2) (hdg : decode cc pc = .ok (.iastore, 1))
    (kk : ∀ (H1 : Heap) (locs1 : List Loc), fCur D cA s h0 h2 H1 locs1 → W p l e R s m args below meth c H1 locs1 cells slots Q (F0 m (pc + 1) ls rest)) : W p l e R s m args below meth c H locs cells slots Q (F0 m pc ls (.int x :: .int i :: va_rf r :: rest)) := by
  obtain ⟨a, n, f, rfl, hF, hin, rfl⟩ := fsI_inv hg
  refine W.iast hexec hb (hC.1 a _ hF) ((K.1.2 t _ (fTys_at ht)).1 n (fun j => .int (f j))) (fun q => by cases q) (by show ¬ (i < 0 ∨ (arrV _ _ _).slots.size ≤ _); rw [arrV_size]; exact hin) rfl rfl hdg fun H1 e z oq => ?_
  refine kk H1 _ (hC.set hF ?_ z oq (fW_put (hC.1 a _ hF) e oq))
  show H1[a]? = some (vp_cell _ _)
  rw [e]
  show some (Cell.setSlot (vp_cell (cA t) (n, .inl f)) _ _) = some (vp_cell (cA t) (n, .inl (upd f i.toNatClampNeg x)))
  rw [vp_cell_i, vp_cell_i, arrV_store]
  congr 2
  funext q
  by_cases hq : q = i.toNatClampNeg
  · subst hq
    simp [updV, upd]
  · simp [updV, upd, hq]
theorem fr_zast (hexec : p.tables.exec = Jvm.exec) (hb : c.code = cc) (K : fKw D cA h0 s) (hC : fCur D cA s h0 h H locs) {t : Nat} (ht : ftl[t]? = some .boolean) {r : Option Nat} {i x : Int32} (hg : fsI h r t i (vp_nar .boolean x) = some h2) (hdg : decode cc pc = .ok (.bastore, 1))
    (kk : ∀ (H1 : Heap) (locs1 : List Loc), fCur D cA s h0 h2 H1 locs1 → W p l e R s m args below meth c H1 locs1 cells slots Q (F0 m (pc + 1) ls rest)) : W p l e R s m args below meth c H locs cells slots Q (F0 m pc ls (.int x :: .int i :: va_rf r :: rest)) := by
  obtain ⟨a, n, f, rfl, hF, hin, rfl⟩ := fsI_inv hg
  refine W.zast hexec hb (hC.1 a _ hF) ((K.1.2 t _ (fTys_at ht)).1 n (fun j => .int (f j))) (fun q => by cases q) (by show ¬ (i < 0 ∨ (arrV _ _ _).slots.size ≤ _); rw [arrV_size]; exact hin) rfl rfl hdg fun H1 e z oq => ?_
  refine kk H1 _ (hC.set hF ?_ z oq (fW_put (hC.1 a _ hF) e oq))
  show H1[a]? = some (vp_cell _ _)
  rw [e]
  show some (Cell.setSlot (vp_cell (cA t) (n, .inl f)) _ _) = some (vp_cell (cA t) (n, .inl (upd f i.toNatClampNeg (vp_nar .boolean x))))
  rw [vp_cell_i, vp_cell_i, arrV_store]
  congr 2
  funext q
  by_cases hq : q = i.toNatClampNeg
  · subst hq
    simp [updV, upd, vp_nar, narrow]
  · simp [updV, upd, hq]
theorem fr_last (hexec : p.tables.exec = Jvm.exec) (hb : c.code = cc) (K : fKw D cA h0 s) (hC : fCur D cA s h0 h H locs) {t : Nat} (ht : ftl[t]? = some .long) {r : Option Nat} {i : Int32} {x : Int64} (hg : fsJ h r t i x = some h2) (hdg : decode cc pc = .ok (.lastore, 1))
    (kk : ∀ (H1 : Heap) (locs1 : List Loc), fCur D cA s h0 h2 H1 locs1 → W p l e R s m args below meth c H1 locs1 cells slots Q (F0 m (pc + 1) ls rest)) : W p l e R s m args below meth c H locs cells slots Q (F0 m pc ls (.long x :: .int i :: va_rf r :: rest)) := by
  obtain ⟨a, n, f, rfl, hF, hin, rfl⟩ := fsJ_inv hg
  refine W.last hexec hb (hC.1 a _ hF) ((K.1.2 t _ (fTys_at ht)).1 n (fun j => .long (f j))) (fun q => by cases q) (by show ¬ (i < 0 ∨ (arrV _ _ _).slots.size ≤ _); rw [arrV_size]; exact hin) rfl rfl hdg fun H1 e z oq => ?_
  refine kk H1 _ (hC.set hF ?_ z oq (fW_put (hC.1 a _ hF) e oq))
  show H1[a]? = some (vp_cell _ _)
  rw [e]
  show some (Cell.setSlot (vp_cell (cA t) (n, .inr (.inl f))) _ _) = some (vp_cell (cA t) (n, .inr (.inl (vp_updL f i.toNatClampNeg x))))
  rw [vp_cell_l, vp_cell_l, arrV_store]
  congr 2
  funext q
  by_cases hq : q = i.toNatClampNeg
  · subst hq
    simp [updV, vp_updL]
  · simp [updV, vp_updL, hq]
theorem fr_dast (hexec : p.tables.exec = Jvm.exec) (hb : c.code = cc) (K : fKw D cA h0 s) (hC : fCur D cA s h0 h H locs) {t : Nat} (ht : ftl[t]? = some .double) {r : Option Nat} {i : Int32} {x : UInt64} (hg : fsD h r t i x = some h2) (hdg : decode cc pc = .ok (.dastore, 1))
    (kk : ∀ (H1 : Heap) (locs1 : List Loc), fCur D cA s h0 h2 H1 locs1 → W p l e R s m args below meth c H1 locs1 cells slots Q (F0 m (pc + 1) ls rest)) : W p l e R s m args below meth c H locs cells slots Q (F0 m pc ls (.double x :: .int i :: va_rf r :: rest)) := by
  obtain ⟨a, n, f, rfl, hF, hin, rfl⟩ := fsD_inv hg
  refine W.dast hexec hb (hC.1 a _ hF) ((K.1.2 t _ (fTys_at ht)).1 n (fun j => .double (f j))) (fun q => by cases q) (by show ¬ (i < 0 ∨ (arrV _ _ _).slots.size ≤ _); rw [arrV_size]; exact hin) rfl rfl hdg fun H1 e z oq => ?_
  refine kk H1 _ (hC.set hF ?_ z oq (fW_put (hC.1 a _ hF) e oq))
  show H1[a]? = some (vp_cell _ _)
  rw [e]
  show some (Cell.setSlot (vp_cell (cA t) (n, .inr (.inr (.inr (.inl f))))) _ _) = some (vp_cell (cA t) (n, .inr (.inr (.inr (.inl (vf_upd f i.toNatClampNeg x))))))
  rw [vp_cell_d, vp_cell_d, arrV_store]
  congr 2
  funext q
  by_cases hq : q = i.toNatClampNeg
  · subst hq
    simp [updV, vf_upd]
  · simp [updV, vf_upd, hq]
theorem fr_aast (hexec : p.tables.exec = Jvm.exec) (hb : c.code = cc) (K : fKw D cA h0 s) (hC : fCur D cA s h0 h H locs) {t ci : Nat} {C : String} {T : u_T} {N : Nat} {ty : Nat → FieldType} (ct : CT ci C T N ty) (ht : ftl[t]? = some (.object C)) {r x : Option Nat} {i : Int32} (hg : fsR h r t ci i x = some h2) (hdg : decode cc pc = .ok (.aastore, 1))
    (kk : ∀ (H1 : Heap) (locs1 : List Loc), fCur D cA s h0 h2 H1 locs1 → W p l e R s m args below meth c H1 locs1 cells slots Q (F0 m (pc + 1) ls rest)) : W p l e R s m args below meth c H locs cells slots Q (F0 m pc ls (va_rf x :: .int i :: va_rf r :: rest)) := by
  obtain ⟨a, n, v, f, vs, rfl, rfl, hF, hV, hin, rfl⟩ := fsR_inv hg
  have hlt : i.toNatClampNeg < n := Nat.not_le.mp fun q => hin (Or.inr q)
  have hneg : ¬ i < 0 := fun q => hin (Or.inl q)
  obtain ⟨r', hr', cellV, g1, g2, g3, -⟩ := hC.1 v _ hV
  have hcls := (K.1.1 ci _ ct.1).2
  obtain ⟨kA, comp, k1, k2, k3, -⟩ := (K.1.2 t _ (fTys_at ht)).2
  have hcomp : comp = D.1 ci := Option.some.inj (k3.symm.trans hcls.1)
  subst hcomp
  obtain ⟨kC, hkC, -⟩ := hcls.2
  refine W.aast hexec hb (hC.1 a _ hF) (fun q h => by cases h) (fun h => by cases h) k1 k2 rfl hkC ⟨hneg, by show _ < (arrV _ _ _).slots.size; rw [arrV_size]; exact hlt⟩ g1 (fun q h => by rw [g3] at h; cases h) (by rw [g2]; exact hkC) (by rw [g2]; exact va_assign hcls) rfl rfl hdg fun H1 e z oq => ?_
  refine kk H1 _ (hC.set hF ?_ z oq (fW_put (hC.1 a _ hF) e oq))
  show H1[a]? = some (vp_cell _ _)
  rw [e]
  show some (Cell.setSlot (vp_cell (cA t) (n, .inr (.inr (.inr (.inr f))))) _ _) = some (vp_cell (cA t) (n, .inr (.inr (.inr (.inr (va_up f i.toNatClampNeg (some v)))))))
  rw [vp_cell_q, vp_cell_q, arrV_store]
  congr 2
  funext q
  by_cases hq : q = i.toNatClampNeg
  · subst hq
    simp [updV, va_up, va_rf]
  · simp [updV, va_up, hq]
def fnew (h : fSt) (e : fCe) (n : Nat) : Option (Nat × fSt) := if fZ h + 1 ≤ fCB h ∧ fL h + n ≤ fLB h then some (fZ h, fPush h e n) else none
theorem fnew_inv {x : fCe} {n : Nat} {r : Nat × fSt} (h1 : fnew h x n = some r) : fZ h + 1 ≤ fCB h ∧ fL h + n ≤ fLB h ∧ r = (fZ h, fPush h x n) := by
  unfold fnew at h1
  by_cases z : fZ h + 1 ≤ fCB h ∧ fL h + n ≤ fLB h
  · rw [if_pos z] at h1; cases h1; exact ⟨z.1, z.2, rfl⟩
  · rw [if_neg z] at h1; cases h1
/-- new, of a class of ours -/
theorem fr_new (hexec : p.tables.exec = Jvm.exec) (hb : c.code = cc) (hts : ∀ w ∈ WA, w.before args s = true) {own C : String} {T : u_T} {N ci index : Nat} {ty : Nat → FieldType} (hown : s.vm.findClass own = some m.cls) (K : fKw D cA h0 s) (hC : fCur D cA s h0 h H locs) (ct : CT ci C T N ty) (hR : R.cells = fCB h0 - fZ h0 ∧ R.slots = fLB h0 - fL h0) {fs : List Value} {r : Nat × fSt} (hg : fnew h (.inl (ci, fs)) N = some r) (hfs : ∀ j, j < N → defaultValue (ty j) = vp_V fs j) (hcl : Cond.classLink own index C ∈ WA) (hinst : Cond.instantiable C N ∈ WA) (hini : Cond.initialized C ∈ WA) (hdg : decode cc pc = .ok (.new index, 3))
    (kk : ∀ (H1 : Heap) (k n : Nat), fCur D cA s h0 r.2 H1 locs → W p l e R s m args below meth c H1 locs k n Q (F0 m (pc + 3) ls (va_rf (some r.1) :: rest))) : W p l e R s m args below meth c H locs cells slots Q (F0 m pc ls rest) := by
  obtain ⟨g1, g2, rfl⟩ := fnew_inv hg
  refine fr_tight hC ?_
  obtain ⟨c1, c2, c3, c4, c5, c6, c7⟩ := id hC
  obtain ⟨d1, d2, d3, d4, -⟩ := c4
  have hKn := K.1.1 ci _ ct.1
  have hins := hts _ hinst
  have hfc : s.vm.findClass C = some (D.1 ci) := hKn.2.1
  refine W.newc hexec hb hown (hts _ hcl) hins (hts _ hini) (g := F0 m pc ls rest) rfl hdg (by rw [hR.1]; omega) (by rw [hR.2]; omega) fun cC' kC f1 f2 f3 f4 => ?_
  have hcc : cC' = D.1 ci := Option.some.inj (f1.symm.trans hfc)
  subst hcc
  generalize hH : H.push ({ cls := D.1 ci, slots := kC.instanceTypes.map defaultValue, vm := .none } : Cell) = H1
  have z1 : H1.size = H.size + 1 := by rw [← hH, Array.size_push]
  have e1 : H1[H.size]? = some ({ cls := D.1 ci, slots := kC.instanceTypes.map defaultValue, vm := .none } : Cell) := by rw [← hH, Array.getElem?_push_size]
  have o1 : ∀ q : Nat, q < H.size → H1[q]? = H[q]? := fun q hq => by rw [← hH, Array.getElem?_push, if_neg (Nat.ne_of_lt hq)]
  have hat : va_at D fcl (H.size, fE cA (.inl (ci, fs))) H1 := ⟨_, ct.1, (u_born ty hts ct.2.1 hKn f2 e1 ct.2.2.1).to hfs⟩
  have hcu := hC.push (n := N) hat z1 e1 (by show (kC.instanceTypes.map defaultValue).size ≤ N; rw [Array.size_map]; omega) o1 g1 g2
  have hk := kk H1 (fZ h - fZ h0 + 1) (fL h - fL h0 + N) hcu
  rw [c2]
  exact hk
/-- newarray -/
theorem fr_newa (hexec : p.tables.exec = Jvm.exec) (hb : c.code = cc) (hts : ∀ w ∈ WA, w.before args s = true) (K : fKw D cA h0 s) (hC : fCur D cA s h0 h H locs) (hR : R.cells = fCB h0 - fZ h0 ∧ R.slots = fLB h0 - fL h0) {atype : ArrayType} {t : Nat} (ht : ftl[t]? = some (newarray.typeOf atype)) (hw : Cond.arrayClass (newarray.typeOf atype) ∈ WA) {n : Int32} {a0 : vp_A} (ha : ∀ cA : ClassId, vp_cell cA a0 = arrV cA n.toNatClampNeg (fun _ => defaultValue (newarray.typeOf atype))) (hprim : va_RA s (cA t) (newarray.typeOf atype) = (s.vm.findClass ("[" ++ (newarray.typeOf atype).toString) = some (cA t))) {r : Nat × fSt} (hn : ¬ n < 0) (hg : fnew h (.inr (t, a0)) n.toNatClampNeg = some r) (hbytes : n.toNatClampNeg * componentBytes (newarray.typeOf atype) ≤ 536870912) (hdg : decode cc pc = .ok (.newarray atype, 2))
    (kk : ∀ (H1 : Heap) (k n : Nat), fCur D cA s h0 r.2 H1 locs → W p l e R s m args below meth c H1 locs k n Q (F0 m (pc + 2) ls (va_rf (some r.1) :: rest))) : W p l e R s m args below meth c H locs cells slots Q (F0 m pc ls (.int n :: rest)) := by
  obtain ⟨g1, g2, rfl⟩ := fnew_inv hg
  refine fr_tight hC ?_
  obtain ⟨c1, c2, c3, c4, c5, c6, c7⟩ := id hC
  obtain ⟨d1, d2, d3, d4, -⟩ := c4
  refine va_newaK hexec hb (hts _ hw) rfl hdg rfl hn rfl hbytes (by rw [hR.1]; omega) (by rw [hR.2]; omega) rfl fun H1 cB e1 z1 o1 hAr hNm => ?_
  have hcB : cB = cA t := by
    have h9 := (K.1.2 t _ (fTys_at ht)).2
    have h9 : va_RA s (cA t) (newarray.typeOf atype) := h9
    rw [hprim] at h9
    exact Option.some.inj (hNm.symm.trans h9)
  subst hcB
  have hat : va_at D fcl (H.size, fE cA (.inr (t, a0))) H1 := by
    show H1[H.size]? = some (vp_cell (cA t) a0)
    rw [ha, e1]
  have hcu := hC.push (n := n.toNatClampNeg) hat z1 e1 (by rw [arrV_size]; exact Nat.le_refl _) o1 g1 g2
  have hk := kk H1 (fZ h - fZ h0 + 1) (fL h - fL h0 + n.toNatClampNeg) hcu
  rw [c2]
  exact hk
/-- anewarray -/
theorem fr_newq (hexec : p.tables.exec = Jvm.exec) (hb : c.code = cc) (hts : ∀ w ∈ WA, w.before args s = true) {own C : String} {index : Nat} (hown : s.vm.findClass own = some m.cls) (K : fKw D cA h0 s) (hC : fCur D cA s h0 h H locs) (hR : R.cells = fCB h0 - fZ h0 ∧ R.slots = fLB h0 - fL h0) {t : Nat} (ht : ftl[t]? = some (.object C)) (hcl : Cond.classLink own index C ∈ WA) (hover : Cond.arrayOver (.object C) ∈ WA) {n : Int32} {r : Nat × fSt} (hn : ¬ n < 0) (hg : fnew h (.inr (t, n.toNatClampNeg, .inr (.inr (.inr (.inr (fun _ => none)))))) n.toNatClampNeg = some r) (hbytes : n.toNatClampNeg * 4 ≤ 536870912) (hdg : decode cc pc = .ok (.anewarray index, 3))
    (kk : ∀ (H1 : Heap) (k n : Nat), fCur D cA s h0 r.2 H1 locs → W p l e R s m args below meth c H1 locs k n Q (F0 m (pc + 3) ls (va_rf (some r.1) :: rest))) : W p l e R s m args below meth c H locs cells slots Q (F0 m pc ls (.int n :: rest)) := by
  obtain ⟨g1, g2, rfl⟩ := fnew_inv hg
  refine fr_tight hC ?_
  obtain ⟨c1, c2, c3, c4, c5, c6, c7⟩ := id hC
  obtain ⟨d1, d2, d3, d4, -⟩ := c4
  refine W.anew hexec hb hown (hts _ hcl) (hts _ hover) rfl hdg rfl hn hbytes (by rw [hR.1]; omega) (by rw [hR.2]; omega) fun cB kA comp f1 f2 f3 f4 => ?_
  have hcB : cB = cA t := by
    obtain ⟨kA', comp', -, -, -, h4⟩ := (K.1.2 t _ (fTys_at ht)).2
    exact Option.some.inj (f1.symm.trans h4)
  subst hcB
  generalize hH1 : H.push ({ cls := cA t, slots := Array.replicate n.toNatClampNeg .null, vm := .none } : Cell) = H1
  have z1 : H1.size = H.size + 1 := by rw [← hH1, Array.size_push]
  have e1 : H1[H.size]? = some (arrV (cA t) n.toNatClampNeg (fun _ => .null)) := by rw [← hH1, Array.getElem?_push_size, ← arrV_new]
  have o1 : ∀ q : Nat, q < H.size → H1[q]? = H[q]? := fun q hq => by rw [← hH1, Array.getElem?_push, if_neg (Nat.ne_of_lt hq)]
  have hat : va_at D fcl (H.size, fE cA (.inr (t, n.toNatClampNeg, .inr (.inr (.inr (.inr (fun _ => none))))))) H1 := e1
  have hcu := hC.push (n := n.toNatClampNeg) hat z1 e1 (by rw [arrV_size]; exact Nat.le_refl _) o1 g1 g2
  have hk := kk H1 (fZ h - fZ h0 + 1) (fL h - fL h0 + n.toNatClampNeg) hcu
  rw [c2]
  exact hk
end FH5
