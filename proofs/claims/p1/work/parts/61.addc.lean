section ADD
variable {z : Nat} {th tm hv : Int32} {ov : Int64} {od : UInt64} {h : fSt}
theorem n_put {a ci k : Nat} {fs : List Value} (v : Value) (e : fF h a = some (.inl (ci, fs))) (hk : k < fs.length) : ∃ h1, fput h (some a) ci k v = some h1 ∧ fF h1 a = some (.inl (ci, fs.set k v)) ∧ fZ h1 = fZ h ∧ (∀ j, RM j h → RM j h1) ∧ ∀ b, b ≠ a → fF h1 b = fF h b :=
  ⟨_, fput_C e hk, fF_set_eq, rfl, fun _ R => R, fun b b1 => fF_set_ne b1⟩
theorem n_s30 (F : XF z h) {g : Nat} {fs : List Value} (c : fF h g = some (.inl (4, fs))) : ∃ h1, fsR h (some (z + 1)) 4 4 1 (some g) = some h1 ∧ fZ h1 = fZ h ∧ (∀ j, RM j h → RM j h1) ∧ ∀ b, b ≠ z + 1 → fF h1 b = fF h b := by
  obtain ⟨f0, f1, f2⟩ := F
  have n : ¬ ((1 : Int32) < 0 ∨ 30 ≤ 1) := by decide
  refine ⟨fSet h (z + 1) (.inr (4, 30, .inr (.inr (.inr (.inr (va_up (va_up (fun _ => none) 0 (some (z + 3))) 1 (some g))))))), ?_, rfl, fun _ R => R, fun b b1 => fF_set_ne b1⟩
  simp only [fsR, farr, f1, c, if_true, nc1, if_neg n]
theorem x_addL (F : XF z h) (G : MG z 0 0 0 ov od h) (R : RM 1000 h) (b c d : Int32) : ∃ h2, f_X7_add_L63 (some z) b c d (some (z + 3)) h = some (.inl 1, h2) ∧ MG z 0 0 0 ov od h2 ∧ RM 900 h2 := by
  have hz := G.2.2.2
  obtain ⟨h1, e1, z1, R1, c1, k1⟩ : ∃ h1, fnew h (.inl (4, n0l)) 19 = some (fZ h, h1) ∧ fZ h1 = fZ h + 1 ∧ RM (993 + 5) h1 ∧ fF h1 (fZ h) = some (.inl (4, n0l)) ∧ ∀ i, i ≠ fZ h → fF h1 i = fF h i := by
    obtain ⟨r1, r2⟩ := R
    refine ⟨fPush h (.inl (4, n0l)) 19, ?_, rfl, ⟨by show fZ h + 1 + 998 ≤ fCB h; omega, by show fL h + 19 + 10 * 998 ≤ fLB h; omega⟩, fF_push_eq, fun i hi => fF_push_ne hi⟩
    unfold fnew
    rw [if_pos ⟨by omega, by omega⟩]
  have F1 : XF z h1 := F.of (fun i hi => k1 _ (by omega))
  obtain ⟨h2, e2, c2, k2, z2, R2⟩ := n_X4 R1 (show fZ h < fZ h1 by omega) c1 1 b c d
  have k3 : ∀ i, i < 39 → fF h2 (z + i) = fF h (z + i) := fun i hi => (k2 (z + i) (by omega) (by omega)).trans (k1 _ (by omega))
  have F2 : XF z h2 := F.of (fun i hi => k3 i (by omega))
  obtain ⟨h3, e3, z3, R3, k4⟩ := n_s30 F2 c2
  obtain ⟨f0, f1, f2, f3, f4⟩ := id F2
  have a0 : fF h3 z = _ := (k4 z (by omega)).trans f0
  have a3 : fF h3 (z + 3) = _ := (k4 (z + 3) (by omega)).trans f3
  have ag : fF h3 (fZ h) = _ := (k4 (fZ h) (by omega)).trans c2
  have i0 : fgI h3 (some z) 7 5 = some 1 := by simp only [fgI, fget, a0]; rfl
  obtain ⟨h4, e4, c4, z4, R4, k5⟩ := n_put (k := 5) (.int 2) a0 (Nat.le_of_ble_eq_true rfl)
  have b3 : fF h4 (z + 3) = _ := (k5 (z + 3) (by omega)).trans a3
  have bg : fF h4 (fZ h) = _ := (k5 (fZ h) (by omega)).trans ag
  have o3 : fobj h4 (some (z + 3)) 4 = some (z + 3) := by simp only [fobj, b3]; rfl
  have t15 : fgR h4 (some (z + 3)) 4 15 = some none := by simp only [fgR, fget, b3]; rfl
  obtain ⟨h5, e5, c5, z5, R5, k6⟩ := n_put (k := 15) (va_rf (some (fZ h))) b3 (Nat.le_of_ble_eq_true rfl)
  have d0 : fF h5 z = _ := (k6 z (by omega)).trans c4
  have dg : fF h5 (fZ h) = _ := (k6 (fZ h) (by omega)).trans bg
  obtain ⟨h6, e6, c6, z6, R6, k7⟩ := n_put (k := 16) (va_rf none) dg (Nat.le_of_ble_eq_true rfl)
  obtain ⟨h7, e7, c7, z7, R7, k8⟩ := n_put (k := 14) (va_rf (some (z + 3))) c6 (Nat.le_of_ble_eq_true rfl)
  have S : LSx z (fZ h) b (fZ h1 + 4, fZ h1, fZ h1 + 1, fZ h1 + 2, fZ h1 + 3) ov od (some (z + 3)) 1 none 0 none 0 h7 := by
    refine ⟨((k8 z (by omega)).trans (k7 z (by omega))).trans d0, ((k8 (z + 3) (by omega)).trans (k7 (z + 3) (by omega))).trans c5, c7, hz, ?_, ?_⟩
    · refine G.of (fun i hi hi2 => ?_) (by omega)
      rw [k8 _ (by omega), k7 _ (by omega), k6 _ (by omega), k5 _ (by omega), k4 _ (by omega), k3 i hi]
    · exact RM.le (R7 _ (R6 _ (R5 _ (R4 _ (R3 _ R2))))) (by decide)
  obtain ⟨h9, bw2, pw2, bg2, pg2, e9, S9⟩ := lay_all S
  refine ⟨h9, ?_, S9.2.2.2.2.1, S9.2.2.2.2.2⟩
  have z11 : (1 : Int32) + 1 = 2 := by decide
  unfold n0l at e1
  have tk : f_X4_takeIn (z + 3) (some (fZ h)) h4 = some ((), h7) := by
    unfold f_X4_takeIn f_X4_takeIn_L0
    rw [t15, Option.bind_some, sN_X4_takeIn_L7, if_pos rfl, e5, Option.bind_some]
    unfold f_X4_takeIn_L38
    rw [e6, Option.bind_some, e7, Option.bind_some]
  unfold f_X7_add_L63
  rw [xr0_7_5 F, Option.bind_some, if_neg (by decide), Option.bind_some, xr0_7_0 F, Option.bind_some, xl1 F, Option.bind_some, if_neg (by decide), xo3 F, Option.bind_some, x_depth F, Option.bind_some, if_pos (show (0 : Int32) < 4 by decide), e1, Option.bind_some, xr0_7_5 F1, Option.bind_some, e2, Option.bind_some, xr0_7_0 F2, Option.bind_some, xr0_7_5 F2, Option.bind_some, e3, Option.bind_some, i0, Option.bind_some, z11, e4, Option.bind_some, o3, Option.bind_some, tk, Option.bind_some, ls_oz S, Option.bind_some, e9, Option.bind_some, ls_g0 S9, Option.bind_some]

end ADD
