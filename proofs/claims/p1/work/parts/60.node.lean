section ADD
variable {z : Nat} {th tm hv : Int32} {ov : Int64} {od : UInt64} {h : fSt}
theorem push_set {c e : fCe} {n : Nat} : fSet (fPush h c n) (fZ h) e = fPush h e n := by
  refine fSt_ext (fun b => ?_) rfl
  by_cases q : b = fZ h
  · subst q; rw [fF_set_eq, fF_push_eq]
  · rw [fF_set_ne q, fF_push_ne q, fF_push_ne q]
def pcl (a b c : Int32) : fCe := .inl (6, [.int b, .int c, .int a, .int 0, .int 0, .int 0, .int 0, .null, .int 0])
theorem n_X6 (a b c : Int32) : f_X6_init (fZ h) a b c (fPush h (.inl (6, [.int 0, .int 0, .int 0, .int 0, .int 0, .int 0, .int 0, .null, .int 0])) 9) = some ((), fPush h (pcl a b c) 9) := by
  have p : ∀ (fs : List Value) (k : Nat) (v : Value), k < fs.length → fput (fPush h (.inl (6, fs)) 9) (some (fZ h)) 6 k v = some (fPush h (.inl (6, fs.set k v)) 9) := by
    intro fs k v hk
    rw [fput_C fF_push_eq hk, push_set]
  have q : fobj (fPush h (.inl (6, [.int 0, .int 0, .int 0, .int 0, .int 0, .int 0, .int 0, .null, .int 0])) 9) (some (fZ h)) 6 = some (fZ h) := by
    simp only [fobj, fF_push_eq]; rfl
  simp only [f_X6_init, f_X6_init_L0, q, Option.bind_some]
  rw [p _ _ _ (by decide), Option.bind_some, p _ _ _ (Nat.le_of_ble_eq_true rfl), Option.bind_some, p _ _ _ (Nat.le_of_ble_eq_true rfl), Option.bind_some]
  rfl
theorem n_X2 (a b c d : Int32) : f_X2_init (fZ h) a b c d (fPush h (.inl (2, [.int 0, .int 0, .int 0, .int 0])) 4) = some ((), fPush h (.inl (2, [.int a, .int b, .int c, .int d])) 4) := by
  have p : ∀ (fs : List Value) (k : Nat) (v : Value), k < fs.length → fput (fPush h (.inl (2, fs)) 4) (some (fZ h)) 2 k v = some (fPush h (.inl (2, fs.set k v)) 4) := by
    intro fs k v hk
    rw [fput_C fF_push_eq hk, push_set]
  have q : fobj (fPush h (.inl (2, [.int 0, .int 0, .int 0, .int 0])) 4) (some (fZ h)) 2 = some (fZ h) := by
    simp only [fobj, fF_push_eq]; rfl
  simp only [f_X2_init, f_X2_init_L0, q, Option.bind_some]
  rw [p _ _ _ (by decide), Option.bind_some, p _ _ _ (Nat.le_of_ble_eq_true rfl), Option.bind_some, p _ _ _ (Nat.le_of_ble_eq_true rfl), Option.bind_some, p _ _ _ (Nat.le_of_ble_eq_true rfl), Option.bind_some]
  rfl
/-- a step of the node's constructor: a property is made and kept -/
theorem n_prop {g k j : Nat} {fs : List Value} (R : RM (j + 1) h) (hg : g < fZ h) (e : fF h g = some (.inl (4, fs))) (hk : k < fs.length) (a b c : Int32) : ∃ h1, (∀ (K : fSt → Option (Unit × fSt)), ((fnew h (.inl (6, [.int 0, .int 0, .int 0, .int 0, .int 0, .int 0, .int 0, .null, .int 0])) 9).bind fun r3 => (f_X6_init r3.1 a b c r3.2).bind fun r5 => (fput r5.2 (some g) 4 k (va_rf (some r3.1))).bind K) = K h1) ∧ fF h1 g = some (.inl (4, fs.set k (.ref (fZ h)))) ∧ fZ h1 = fZ h + 1 ∧ RM j h1 ∧ ∀ b, b ≠ g → b < fZ h → fF h1 b = fF h b := by
  refine ⟨fSet (fPush h (pcl a b c) 9) g (.inl (4, fs.set k (.ref (fZ h)))), fun K => ?_, fF_set_eq, rfl, RM_push (e := pcl a b c) (n := 9) R (by decide), fun b b1 b2 => (fF_set_ne b1).trans (fF_push_ne (by omega))⟩
  rw [fnew_eq R (by decide), Option.bind_some, n_X6, Option.bind_some]
  have e2 : fF (fPush h (pcl a b c) 9) g = some (.inl (4, fs)) := (fF_push_ne (by omega)).trans e
  rw [fput_C e2 hk, Option.bind_some]
  rfl
theorem n_putI {g k : Nat} {fs : List Value} (v : Value) (e : fF h g = some (.inl (4, fs))) (hk : k < fs.length) : ∃ h1, fput h (some g) 4 k v = some h1 ∧ fF h1 g = some (.inl (4, fs.set k v)) ∧ fZ h1 = fZ h ∧ (∀ j, RM j h → RM j h1) ∧ ∀ b, b ≠ g → fF h1 b = fF h b :=
  ⟨_, fput_C e hk, fF_set_eq, rfl, fun _ R => R, fun b b1 => fF_set_ne b1⟩
def n0l : List Value := [.int 0, .int 0, .null, .null, .null, .null, .null, .int 0, .int 0, .int 0, .int 0, .int 0, .null, .int 0, .null, .null, .null, .null, .int 0]
theorem n_X4 {g : Nat} {j : Nat} (R : RM (j + 5) h) (hg : g < fZ h) (e : fF h g = some (.inl (4, n0l))) (n k w ht : Int32) : ∃ h2, f_X4_init g n k w ht h = some ((), h2) ∧ fF h2 g = some (.inl (4, [.int n, .int k, .ref (fZ h + 4), .ref (fZ h), .ref (fZ h + 1), .ref (fZ h + 2), .ref (fZ h + 3), .int 1, .int 1, .int 0, .int 0, .int 0, .null, .int 0, .null, .null, .null, .null, .int 0])) ∧ (∀ b, b ≠ g → b < fZ h → fF h2 b = fF h b) ∧ fZ h ≤ fZ h2 ∧ RM j h2 := by
  have q : fobj h (some g) 4 = some g := by simp only [fobj, e]; rfl
  obtain ⟨h1, K1, c1, z1, R1, k1⟩ := n_prop (k := 3) (j := j + 4) R hg e (Nat.le_of_ble_eq_true rfl) 0 (-200) 200
  have c1 : fF h1 g = some (.inl (4, [.int 0, .int 0, .null, .ref (fZ h), .null, .null, .null, .int 0, .int 0, .int 0, .int 0, .int 0, .null, .int 0, .null, .null, .null, .null, .int 0])) := c1
  obtain ⟨h2, K2, c2, z2, R2, k2⟩ := n_prop (k := 4) (j := j + 3) R1 (by omega) c1 (Nat.le_of_ble_eq_true rfl) 0 (-200) 200
  rw [show fZ h1 = fZ h + 1 by omega] at c2
  have c2 : fF h2 g = some (.inl (4, [.int 0, .int 0, .null, .ref (fZ h), .ref (fZ h + 1), .null, .null, .int 0, .int 0, .int 0, .int 0, .int 0, .null, .int 0, .null, .null, .null, .null, .int 0])) := c2
  obtain ⟨h3, K3, c3, z3, R3, k3⟩ := n_prop (k := 5) (j := j + 2) R2 (by omega) c2 (Nat.le_of_ble_eq_true rfl) 0 0 3
  rw [show fZ h2 = fZ h + 2 by omega] at c3
  have c3 : fF h3 g = some (.inl (4, [.int 0, .int 0, .null, .ref (fZ h), .ref (fZ h + 1), .ref (fZ h + 2), .null, .int 0, .int 0, .int 0, .int 0, .int 0, .null, .int 0, .null, .null, .null, .null, .int 0])) := c3
  obtain ⟨h4, K4, c4, z4, R4, k4⟩ := n_prop (k := 6) (j := j + 1) R3 (by omega) c3 (Nat.le_of_ble_eq_true rfl) 100 0 100
  rw [show fZ h3 = fZ h + 3 by omega] at c4
  have c4 : fF h4 g = some (.inl (4, [.int 0, .int 0, .null, .ref (fZ h), .ref (fZ h + 1), .ref (fZ h + 2), .ref (fZ h + 3), .int 0, .int 0, .int 0, .int 0, .int 0, .null, .int 0, .null, .null, .null, .null, .int 0])) := c4
  obtain ⟨h5, p5, c5, z5, R5, k5⟩ := n_putI (k := 7) (.int 1) c4 (Nat.le_of_ble_eq_true rfl)
  have c5 : fF h5 g = some (.inl (4, [.int 0, .int 0, .null, .ref (fZ h), .ref (fZ h + 1), .ref (fZ h + 2), .ref (fZ h + 3), .int 1, .int 0, .int 0, .int 0, .int 0, .null, .int 0, .null, .null, .null, .null, .int 0])) := c5
  obtain ⟨h6, p6, c6, z6, R6, k6⟩ := n_putI (k := 8) (.int 1) c5 (Nat.le_of_ble_eq_true rfl)
  have c6 : fF h6 g = some (.inl (4, [.int 0, .int 0, .null, .ref (fZ h), .ref (fZ h + 1), .ref (fZ h + 2), .ref (fZ h + 3), .int 1, .int 1, .int 0, .int 0, .int 0, .null, .int 0, .null, .null, .null, .null, .int 0])) := c6
  obtain ⟨h7, p7, c7, z7, R7, k7⟩ := n_putI (k := 0) (.int n) c6 (Nat.le_of_ble_eq_true rfl)
  have c7 : fF h7 g = some (.inl (4, [.int n, .int 0, .null, .ref (fZ h), .ref (fZ h + 1), .ref (fZ h + 2), .ref (fZ h + 3), .int 1, .int 1, .int 0, .int 0, .int 0, .null, .int 0, .null, .null, .null, .null, .int 0])) := c7
  obtain ⟨h8, p8, c8, z8, R8, k8⟩ := n_putI (k := 1) (.int k) c7 (Nat.le_of_ble_eq_true rfl)
  have c8 : fF h8 g = some (.inl (4, [.int n, .int k, .null, .ref (fZ h), .ref (fZ h + 1), .ref (fZ h + 2), .ref (fZ h + 3), .int 1, .int 1, .int 0, .int 0, .int 0, .null, .int 0, .null, .null, .null, .null, .int 0])) := c8
  have Ra : RM (j + 1) h8 := R8 _ (R7 _ (R6 _ (R5 _ R4)))
  have za : fZ h8 = fZ h + 4 := by omega
  have d6 : fF (fPush h8 (.inl (2, [.int 0, .int 0, .int w, .int ht])) 4) g = _ := (fF_push_ne (by omega)).trans c8
  obtain ⟨h9, p9, c9, z9, R9, k9⟩ := n_putI (k := 2) (.ref (fZ h8)) d6 (Nat.le_of_ble_eq_true rfl)
  rw [za] at c9
  refine ⟨h9, ?_, c9, ?_, ?_, R9 _ (RM_push (e := .inl (2, [.int 0, .int 0, .int w, .int ht])) (n := 4) Ra (by decide))⟩
  · unfold f_X4_init f_X4_init_L0
    rw [q, Option.bind_some, K1, K2, K3, K4, p5, Option.bind_some, p6, Option.bind_some, p7, Option.bind_some, p8, Option.bind_some, fnew_eq Ra (by decide), Option.bind_some, n_X2, Option.bind_some]
    have p9 : fput (fPush h8 (.inl (2, [.int 0, .int 0, .int w, .int ht])) 4) (some g) 4 2 (va_rf (some (fZ h8))) = some h9 := p9
    rw [p9, Option.bind_some]
  · intro b b1 b2
    have b3 : b < fZ h1 := by omega
    have b4 : b < fZ h2 := by omega
    have b5 : b < fZ h3 := by omega
    rw [k9 b b1, fF_push_ne (by omega), k8 b b1, k7 b b1, k6 b b1, k5 b b1, k4 b b1 b5, k3 b b1 b4, k2 b b1 b3, k1 b b1 b2]
  · have z9 : fZ h9 = fZ h8 + 1 := z9
    omega
end ADD
