/-! States beside the fresh one. -/
section BASE
theorem fSt_ext {h1 h2 : fSt} (a : ∀ b, fF h1 b = fF h2 b) (e : h1.2 = h2.2) : h1 = h2 := Prod.ext (funext a) e
def tH (h : fSt) : fSt := (fF h, fZ h + 1, fL h + 6, fCB h, fLB h)
def RM (k : Nat) (h : fSt) : Prop := fZ h + k ≤ fCB h ∧ fL h + 10 * k ≤ fLB h
theorem RM.le {k j : Nat} {h : fSt} (R : RM k h) (e : j ≤ k) : RM j h := ⟨by have := R.1; omega, by have := R.2; omega⟩
theorem th_eq {k : Nat} {h : fSt} (R : RM (k + 1) h) : fthr h = some (tH h) := by
  obtain ⟨r1, r2⟩ := R
  unfold fthr
  rw [if_pos ⟨by omega, by omega⟩]
  rfl
theorem RM_tH {k : Nat} {h : fSt} (R : RM (k + 1) h) : RM k (tH h) := by
  obtain ⟨r1, r2⟩ := R
  exact ⟨by show fZ h + 1 + k ≤ fCB h; omega, by show fL h + 6 + 10 * k ≤ fLB h; omega⟩
theorem RM.set {k a : Nat} {h : fSt} {e : fCe} (R : RM k h) : RM k (fSet h a e) := R
theorem fF_set {h : fSt} {a b : Nat} {e : fCe} : fF (fSet h a e) b = if b = a then some e else fF h b := rfl
theorem fF_set_eq {h : fSt} {a : Nat} {e : fCe} : fF (fSet h a e) a = some e := if_pos rfl
theorem fF_set_ne {h : fSt} {a b : Nat} {e : fCe} (n : b ≠ a) : fF (fSet h a e) b = fF h b := if_neg n
theorem fF_push_ne {h : fSt} {b n : Nat} {e : fCe} (q : b ≠ fZ h) : fF (fPush h e n) b = fF h b := if_neg q
theorem fF_push_eq {h : fSt} {n : Nat} {e : fCe} : fF (fPush h e n) (fZ h) = some e := if_pos rfl
theorem fget_F {h h2 : fSt} {a : Nat} (e : fF h2 a = fF h a) (ci k : Nat) : fget h2 (some a) ci k = fget h (some a) ci k := by
  simp only [fget, e]
theorem fgR_F {h h2 : fSt} {a : Nat} (e : fF h2 a = fF h a) (ci k : Nat) : fgR h2 (some a) ci k = fgR h (some a) ci k := by
  unfold fgR; rw [fget_F e]
theorem fgI_F {h h2 : fSt} {a : Nat} (e : fF h2 a = fF h a) (ci k : Nat) : fgI h2 (some a) ci k = fgI h (some a) ci k := by
  unfold fgI; rw [fget_F e]
theorem fobj_F {h h2 : fSt} {a : Nat} (e : fF h2 a = fF h a) (ci : Nat) : fobj h2 (some a) ci = fobj h (some a) ci := by
  simp only [fobj, e]
theorem fput_C {h : fSt} {a ci k : Nat} {v : Value} {fs : List Value} (e : fF h a = some (.inl (ci, fs))) (hk : k < fs.length) : fput h (some a) ci k v = some (fSet h a (.inl (ci, fs.set k v))) := by
  simp only [fput, e]
  rw [if_pos ⟨trivial, hk⟩]
/-- the model, out[0], outD[0] -/
def MG (z : Nat) (th tm hv : Int32) (ov : Int64) (od : UInt64) (h : fSt) : Prop := MF z th tm hv h ∧ (∃ f : Nat → Int64, fF h (z + 37) = some (.inr (1, 1, .inr (.inl f))) ∧ f 0 = ov) ∧ (∃ f : Nat → UInt64, fF h (z + 38) = some (.inr (3, 1, .inr (.inr (.inr (.inl f))))) ∧ f 0 = od) ∧ z + 39 ≤ fZ h
theorem MG.of {z : Nat} {th tm hv : Int32} {ov : Int64} {od : UInt64} {h h2 : fSt} (F : MG z th tm hv ov od h) (e : ∀ k, k < 39 → 15 ≤ k → fF h2 (z + k) = fF h (z + k)) (q : fZ h ≤ fZ h2) : MG z th tm hv ov od h2 := by
  obtain ⟨a, b, c, d⟩ := F
  refine ⟨a.of (fun k k1 k2 => e k (by omega) k2), ?_, ?_, by omega⟩
  · rw [e 37 (by decide) (by decide)]; exact b
  · rw [e 38 (by decide) (by decide)]; exact c
theorem MG_tH {z : Nat} {th tm hv : Int32} {ov : Int64} {od : UInt64} {h : fSt} (F : MG z th tm hv ov od h) : MG z th tm hv ov od (tH h) := F.of (fun _ _ _ => rfl) (Nat.le_succ _)
theorem MG.set {z a : Nat} {th tm hv : Int32} {ov : Int64} {od : UInt64} {h : fSt} {e : fCe} (F : MG z th tm hv ov od h) (q : a < z + 15 ∨ z + 39 ≤ a) : MG z th tm hv ov od (fSet h a e) := F.of (fun k k1 k2 => fF_set_ne (by omega)) (Nat.le_refl _)
theorem MG.push {z n : Nat} {th tm hv : Int32} {ov : Int64} {od : UInt64} {h : fSt} {e : fCe} (F : MG z th tm hv ov od h) : MG z th tm hv ov od (fPush h e n) := F.of (fun k k1 k2 => fF_push_ne (by have := F.2.2.2; omega)) (Nat.le_succ _)
theorem XF_tH {z : Nat} {h : fSt} (F : XF z h) : XF z (tH h) := F.of (fun _ _ => rfl)
theorem XF.push {z n : Nat} {h : fSt} {e : fCe} (F : XF z h) (q : z + 39 ≤ fZ h) : XF z (fPush h e n) := F.of (fun k k1 => fF_push_ne (by omega))
/-- the point's cell -/
def PT (z : Nat) (x y u : Int64) (c : Int32) (h : fSt) : fSt := fSet h (z + 9) (.inl (5, [.long x, .long y, .long u, .int c]))
theorem PT_PT {z : Nat} {x y u x2 y2 u2 : Int64} {c c2 : Int32} {h : fSt} : PT z x y u c (PT z x2 y2 u2 c2 h) = PT z x y u c h := by
  refine fSt_ext (fun b => ?_) rfl
  unfold PT
  by_cases q : b = z + 9
  · subst q; rw [fF_set_eq, fF_set_eq]
  · rw [fF_set_ne q, fF_set_ne q, fF_set_ne q]
theorem pF {z k : Nat} {x y u : Int64} {c : Int32} {h : fSt} (q : k ≠ 9) : fF (PT z x y u c h) (z + k) = fF h (z + k) := fF_set_ne (by omega)
theorem XF_PT {z : Nat} {x y u : Int64} {c : Int32} {h : fSt} (F : XF z h) : XF z (PT z x y u c h) := by
  unfold XF at F ⊢
  rw [show fF (PT z x y u c h) z = fF h z from pF (k := 0) (by decide), pF (k := 1) (by decide), pF (k := 2) (by decide), pF (k := 3) (by decide), pF (k := 4) (by decide), pF (k := 5) (by decide), pF (k := 6) (by decide), pF (k := 7) (by decide), pF (k := 10) (by decide), pF (k := 11) (by decide), pF (k := 12) (by decide), pF (k := 13) (by decide), pF (k := 14) (by decide)]
  obtain ⟨f0, f1, f2, f3, f4, f5, f6, f7, f8, f9, f10⟩ := F
  exact ⟨f0, f1, f2, f3, f4, f5, f6, f7, f8, ⟨x, y, u, c, fF_set_eq⟩, f10⟩
theorem MG_PT {z : Nat} {x y u : Int64} {c : Int32} {th tm hv : Int32} {ov : Int64} {od : UInt64} {h : fSt} (F : MG z th tm hv ov od h) : MG z th tm hv ov od (PT z x y u c h) := F.set (Or.inl (by omega))
theorem RM_PT {z k : Nat} {x y u : Int64} {c : Int32} {h : fSt} (R : RM k h) : RM k (PT z x y u c h) := R
theorem pJ0 {z : Nat} {x y u : Int64} {c : Int32} {h : fSt} : fgJ (PT z x y u c h) (some (z + 9)) 5 0 = some x := by
  have e : fF (PT z x y u c h) (z + 9) = some (.inl (5, [.long x, .long y, .long u, .int c])) := fF_set_eq
  simp only [fgJ, fget, e]
  rfl
theorem pJ1 {z : Nat} {x y u : Int64} {c : Int32} {h : fSt} : fgJ (PT z x y u c h) (some (z + 9)) 5 1 = some y := by
  have e : fF (PT z x y u c h) (z + 9) = some (.inl (5, [.long x, .long y, .long u, .int c])) := fF_set_eq
  simp only [fgJ, fget, e]
  rfl
theorem pJ2 {z : Nat} {x y u : Int64} {c : Int32} {h : fSt} : fgJ (PT z x y u c h) (some (z + 9)) 5 2 = some u := by
  have e : fF (PT z x y u c h) (z + 9) = some (.inl (5, [.long x, .long y, .long u, .int c])) := fF_set_eq
  simp only [fgJ, fget, e]
  rfl
theorem pI3 {z : Nat} {x y u : Int64} {c : Int32} {h : fSt} : fgI (PT z x y u c h) (some (z + 9)) 5 3 = some c := by
  have e : fF (PT z x y u c h) (z + 9) = some (.inl (5, [.long x, .long y, .long u, .int c])) := fF_set_eq
  simp only [fgI, fget, e]
  rfl
theorem pO9 {z : Nat} {x y u : Int64} {c : Int32} {h : fSt} : fobj (PT z x y u c h) (some (z + 9)) 5 = some (z + 9) := by
  have e : fF (PT z x y u c h) (z + 9) = some (.inl (5, [.long x, .long y, .long u, .int c])) := fF_set_eq
  simp only [fobj, e]
  rfl
theorem pP0 {z : Nat} {x y u v : Int64} {c : Int32} {h : fSt} : fput (PT z x y u c h) (some (z + 9)) 5 0 (.long v) = some (PT z v y u c h) := by
  have e : fF (PT z x y u c h) (z + 9) = some (.inl (5, [.long x, .long y, .long u, .int c])) := fF_set_eq
  rw [fput_C e (Nat.le_of_ble_eq_true rfl)]
  exact congrArg some (PT_PT (z := z) (h := h))
theorem pP1 {z : Nat} {x y u v : Int64} {c : Int32} {h : fSt} : fput (PT z x y u c h) (some (z + 9)) 5 1 (.long v) = some (PT z x v u c h) := by
  have e : fF (PT z x y u c h) (z + 9) = some (.inl (5, [.long x, .long y, .long u, .int c])) := fF_set_eq
  rw [fput_C e (Nat.le_of_ble_eq_true rfl)]
  exact congrArg some (PT_PT (z := z) (h := h))
theorem pP2 {z : Nat} {x y u v : Int64} {c : Int32} {h : fSt} : fput (PT z x y u c h) (some (z + 9)) 5 2 (.long v) = some (PT z x y v c h) := by
  have e : fF (PT z x y u c h) (z + 9) = some (.inl (5, [.long x, .long y, .long u, .int c])) := fF_set_eq
  rw [fput_C e (Nat.le_of_ble_eq_true rfl)]
  exact congrArg some (PT_PT (z := z) (h := h))
theorem pP3 {z : Nat} {x y u : Int64} {c v : Int32} {h : fSt} : fput (PT z x y u c h) (some (z + 9)) 5 3 (.int v) = some (PT z x y u v h) := by
  have e : fF (PT z x y u c h) (z + 9) = some (.inl (5, [.long x, .long y, .long u, .int c])) := fF_set_eq
  rw [fput_C e (Nat.le_of_ble_eq_true rfl)]
  exact congrArg some (PT_PT (z := z) (h := h))
theorem pZ3 {z : Nat} {x y u : Int64} {c : Int32} {h : fSt} : fputZ (PT z x y u c h) (some (z + 9)) 5 3 0 = some (PT z x y u 0 h) := by
  unfold fputZ
  rw [if_pos (Or.inl rfl), pP3]
theorem pt_of {z : Nat} {h : fSt} (F : XF z h) : ∃ (x y u : Int64) (c : Int32), h = PT z x y u c h := by
  obtain ⟨f0, f1, f2, f3, f4, f5, f6, f7, f8, ⟨x, y, u, c, f9⟩, f10⟩ := F
  refine ⟨x, y, u, c, fSt_ext (fun b => ?_) rfl⟩
  unfold PT
  by_cases q : b = z + 9
  · subst q; rw [fF_set_eq, f9]
  · rw [fF_set_ne q]
/-- the bounds, cleared -/
def B0 (h : fSt) (a : Nat) : fSt := fSet h a (.inl (1, [.long 0, .long 0]))
def BD (z : Nat) (h : fSt) : fSt := B0 (B0 (B0 (B0 h (z + 11)) (z + 12)) (z + 13)) (z + 14)
theorem b0F {h : fSt} {a b : Nat} (q : b ≠ a) : fF (B0 h a) b = fF h b := fF_set_ne q
theorem bdF {z k : Nat} {h : fSt} (q : k < 11 ∨ 15 ≤ k) : fF (BD z h) (z + k) = fF h (z + k) := by
  unfold BD
  rw [b0F (by omega), b0F (by omega), b0F (by omega), b0F (by omega)]
theorem XF_BD {z : Nat} {h : fSt} (F : XF z h) : XF z (BD z h) := by
  unfold XF at F ⊢
  rw [show fF (BD z h) z = fF h z from bdF (k := 0) (by decide), bdF (k := 1) (by decide), bdF (k := 2) (by decide), bdF (k := 3) (by decide), bdF (k := 4) (by decide), bdF (k := 5) (by decide), bdF (k := 6) (by decide), bdF (k := 7) (by decide), bdF (k := 10) (by decide), bdF (k := 9) (by decide)]
  obtain ⟨f0, f1, f2, f3, f4, f5, f6, f7, f8, f9, f10, f11, f12, f13⟩ := F
  refine ⟨f0, f1, f2, f3, f4, f5, f6, f7, f8, f9, ⟨0, 0, ?_⟩, ⟨0, 0, ?_⟩, ⟨0, 0, ?_⟩, ⟨0, 0, ?_⟩⟩
  · unfold BD; rw [b0F (by omega), b0F (by omega), b0F (by omega)]; exact fF_set_eq
  · unfold BD; rw [b0F (by omega), b0F (by omega)]; exact fF_set_eq
  · unfold BD; rw [b0F (by omega)]; exact fF_set_eq
  · unfold BD; exact fF_set_eq
theorem MG_BD {z : Nat} {th tm hv : Int32} {ov : Int64} {od : UInt64} {h : fSt} (F : MG z th tm hv ov od h) : MG z th tm hv ov od (BD z h) := F.of (fun k k1 k2 => bdF (Or.inr k2)) (Nat.le_refl _)
theorem RM_BD {z k : Nat} {h : fSt} (R : RM k h) : RM k (BD z h) := R
theorem bdJ {z i j : Nat} {h : fSt} (hi : i < 4) (hj : j < 2) : fgJ (BD z h) (some (z + 11 + i)) 1 j = some 0 := by
  have e : fF (BD z h) (z + 11 + i) = some (.inl (1, [.long 0, .long 0])) := by
    unfold BD
    rcases (by omega : i = 0 ∨ i = 1 ∨ i = 2 ∨ i = 3) with rfl | rfl | rfl | rfl
    · rw [b0F (by omega), b0F (by omega), b0F (by omega)]; exact fF_set_eq
    · rw [b0F (by omega), b0F (by omega)]; exact fF_set_eq
    · rw [b0F (by omega)]; exact fF_set_eq
    · exact fF_set_eq
  simp only [fgJ, fget, e]
  rcases (by omega : j = 0 ∨ j = 1) with rfl | rfl <;> rfl
def rng (a b c : Int32) : Int32 := if a < b then 0 else if c < a then 0 else 1
theorem rng_01 (a b c : Int32) : rng a b c = 0 ∨ rng a b c = 1 := by
  unfold rng
  by_cases q : a < b
  · rw [if_pos q]; exact Or.inl rfl
  · rw [if_neg q]
    by_cases q2 : c < a
    · rw [if_pos q2]; exact Or.inl rfl
    · rw [if_neg q2]; exact Or.inr rfl
theorem rng_1 {a b c : Int32} (h : ¬ rng a b c = 0) : rng a b c = 1 := (rng_01 a b c).resolve_left h
theorem x_isFrom (a b c : Int32) (h : fSt) : f_X7_isFrom a b c h = some (rng a b c, h) := by
  unfold f_X7_isFrom f_X7_isFrom_L0 f_X7_isFrom_L14 f_X7_isFrom_L15 rng
  by_cases q : a < b
  · rw [if_pos q, if_pos q, if_pos (Or.inl rfl)]
  · rw [if_neg q, if_neg q]
    by_cases q2 : c < a
    · rw [if_pos q2, if_pos q2, if_pos (Or.inl rfl)]
    · rw [if_neg q2, if_neg q2, if_pos (Or.inr rfl)]
theorem m_isIn (a b c : Int32) (h : fSt) : f_X8_isIn a b c h = some (rng a b c, h) := by
  unfold f_X8_isIn f_X8_isIn_L0 f_X8_isIn_L14 f_X8_isIn_L15 rng
  by_cases q : a < b
  · rw [if_pos q, if_pos q, if_pos (Or.inl rfl)]
  · rw [if_neg q, if_neg q]
    by_cases q2 : c < a
    · rw [if_pos q2, if_pos q2, if_pos (Or.inl rfl)]
    · rw [if_neg q2, if_neg q2, if_pos (Or.inr rfl)]
end BASE
