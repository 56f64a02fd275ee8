/-! THE FRESH OBJECT: class cells z .. z+14, model cells z+15 .. z+36, out z+37, outD z+38; garbage beyond. -/
theorem i32_lt {i : Int32} {n : Int32} {m : Nat} (h1 : ¬ i < 0) (h2 : i < n) (hn : n.toNatClampNeg = m) : ¬ (i < 0 ∨ m ≤ i.toNatClampNeg) := by
  rintro (q | q)
  · exact h1 q
  · have a1 : i.toInt < n.toInt := Int32.lt_iff_toInt_lt.mp h2
    have a2 : ¬ i.toInt < 0 := fun z => h1 (Int32.lt_iff_toInt_lt.mpr (by simpa using z))
    have a3 : n.toInt.toNat = m := hn
    have a4 : m ≤ i.toInt.toNat := q
    omega
theorem i32_ne {i : Int32} (h1 : ¬ i < 0) (h3 : i ≠ 0) : i.toNatClampNeg ≠ 0 := by
  intro q
  have a2 : ¬ i.toInt < 0 := fun z => h1 (Int32.lt_iff_toInt_lt.mpr (by simpa using z))
  have a4 : i.toInt.toNat = 0 := q
  have a5 : i.toInt = 0 := by omega
  exact h3 (Int32.toInt_inj.mp (by simpa using a5))
section FRESH
def XF (z : Nat) (h : fSt) : Prop := fF h z = some (.inl (7, [.ref (z + 1), .ref (z + 2), .ref (z + 3), .ref (z + 9), .ref (z + 10), .int 1, .int 0, .int 0, .ref (z + 3), .int 1])) ∧ fF h (z + 1) = some (.inr (4, 30, .inr (.inr (.inr (.inr (va_up (fun _ => none) 0 (some (z + 3)))))))) ∧ fF h (z + 2) = some (.inr (5, 12, .inr (.inr (.inr (.inr (fun _ => none)))))) ∧ fF h (z + 3) = some (.inl (4, [.int 0, .int 0, .ref (z + 8), .ref (z + 4), .ref (z + 5), .ref (z + 6), .ref (z + 7), .int 1, .int 1, .int 0, .int 0, .int 0, .null, .int 0, .null, .null, .null, .null, .int 0])) ∧ fF h (z + 4) = some (.inl (6, [.int (-200), .int 200, .int 0, .int 0, .int 0, .int 0, .int 0, .null, .int 0])) ∧ fF h (z + 5) = some (.inl (6, [.int (-200), .int 200, .int 0, .int 0, .int 0, .int 0, .int 0, .null, .int 0])) ∧ fF h (z + 6) = some (.inl (6, [.int (0), .int 3, .int 0, .int 0, .int 0, .int 0, .int 0, .null, .int 0])) ∧ fF h (z + 7) = some (.inl (6, [.int (0), .int 100, .int 100, .int 0, .int 0, .int 0, .int 0, .null, .int 0])) ∧ fF h (z + 10) = some (.inl (0, [.ref (z + 11), .ref (z + 12), .ref (z + 13), .ref (z + 14)])) ∧ (∃ (x y u : Int64) (c : Int32), fF h (z + 9) = some (.inl (5, [.long x, .long y, .long u, .int c]))) ∧ (∃ (x y : Int64), fF h (z + 11) = some (.inl (1, [.long x, .long y]))) ∧ (∃ (x y : Int64), fF h (z + 12) = some (.inl (1, [.long x, .long y]))) ∧ (∃ (x y : Int64), fF h (z + 13) = some (.inl (1, [.long x, .long y]))) ∧ (∃ (x y : Int64), fF h (z + 14) = some (.inl (1, [.long x, .long y])))
theorem xr0_7_0 {z : Nat} {h : fSt} (F : XF z h) : fgR h (some z) 7 0 = some (some (z + 1)) := by
  obtain ⟨f0, f1, f2, f3, f4, f5, f6, f7, f8, f9, f10, f11, f12, f13⟩ := F
  simp only [fgR, fget, f0]
  rfl
theorem xr0_7_1 {z : Nat} {h : fSt} (F : XF z h) : fgR h (some z) 7 1 = some (some (z + 2)) := by
  obtain ⟨f0, f1, f2, f3, f4, f5, f6, f7, f8, f9, f10, f11, f12, f13⟩ := F
  simp only [fgR, fget, f0]
  rfl
theorem xr0_7_2 {z : Nat} {h : fSt} (F : XF z h) : fgR h (some z) 7 2 = some (some (z + 3)) := by
  obtain ⟨f0, f1, f2, f3, f4, f5, f6, f7, f8, f9, f10, f11, f12, f13⟩ := F
  simp only [fgR, fget, f0]
  rfl
theorem xr0_7_3 {z : Nat} {h : fSt} (F : XF z h) : fgR h (some z) 7 3 = some (some (z + 9)) := by
  obtain ⟨f0, f1, f2, f3, f4, f5, f6, f7, f8, f9, f10, f11, f12, f13⟩ := F
  simp only [fgR, fget, f0]
  rfl
theorem xr0_7_4 {z : Nat} {h : fSt} (F : XF z h) : fgR h (some z) 7 4 = some (some (z + 10)) := by
  obtain ⟨f0, f1, f2, f3, f4, f5, f6, f7, f8, f9, f10, f11, f12, f13⟩ := F
  simp only [fgR, fget, f0]
  rfl
theorem xr0_7_5 {z : Nat} {h : fSt} (F : XF z h) : fgI h (some z) 7 5 = some 1 := by
  obtain ⟨f0, f1, f2, f3, f4, f5, f6, f7, f8, f9, f10, f11, f12, f13⟩ := F
  simp only [fgI, fget, f0]
  rfl
theorem xr0_7_6 {z : Nat} {h : fSt} (F : XF z h) : fgI h (some z) 7 6 = some 0 := by
  obtain ⟨f0, f1, f2, f3, f4, f5, f6, f7, f8, f9, f10, f11, f12, f13⟩ := F
  simp only [fgI, fget, f0]
  rfl
theorem xr0_7_7 {z : Nat} {h : fSt} (F : XF z h) : fgI h (some z) 7 7 = some 0 := by
  obtain ⟨f0, f1, f2, f3, f4, f5, f6, f7, f8, f9, f10, f11, f12, f13⟩ := F
  simp only [fgI, fget, f0]
  rfl
theorem xr0_7_8 {z : Nat} {h : fSt} (F : XF z h) : fgR h (some z) 7 8 = some (some (z + 3)) := by
  obtain ⟨f0, f1, f2, f3, f4, f5, f6, f7, f8, f9, f10, f11, f12, f13⟩ := F
  simp only [fgR, fget, f0]
  rfl
theorem xr0_7_9 {z : Nat} {h : fSt} (F : XF z h) : fgI h (some z) 7 9 = some 1 := by
  obtain ⟨f0, f1, f2, f3, f4, f5, f6, f7, f8, f9, f10, f11, f12, f13⟩ := F
  simp only [fgI, fget, f0]
  rfl
theorem xr3_4_0 {z : Nat} {h : fSt} (F : XF z h) : fgI h (some (z + 3)) 4 0 = some 0 := by
  obtain ⟨f0, f1, f2, f3, f4, f5, f6, f7, f8, f9, f10, f11, f12, f13⟩ := F
  simp only [fgI, fget, f3]
  rfl
theorem xr3_4_1 {z : Nat} {h : fSt} (F : XF z h) : fgI h (some (z + 3)) 4 1 = some 0 := by
  obtain ⟨f0, f1, f2, f3, f4, f5, f6, f7, f8, f9, f10, f11, f12, f13⟩ := F
  simp only [fgI, fget, f3]
  rfl
theorem xr3_4_2 {z : Nat} {h : fSt} (F : XF z h) : fgR h (some (z + 3)) 4 2 = some (some (z + 8)) := by
  obtain ⟨f0, f1, f2, f3, f4, f5, f6, f7, f8, f9, f10, f11, f12, f13⟩ := F
  simp only [fgR, fget, f3]
  rfl
theorem xr3_4_3 {z : Nat} {h : fSt} (F : XF z h) : fgR h (some (z + 3)) 4 3 = some (some (z + 4)) := by
  obtain ⟨f0, f1, f2, f3, f4, f5, f6, f7, f8, f9, f10, f11, f12, f13⟩ := F
  simp only [fgR, fget, f3]
  rfl
theorem xr3_4_4 {z : Nat} {h : fSt} (F : XF z h) : fgR h (some (z + 3)) 4 4 = some (some (z + 5)) := by
  obtain ⟨f0, f1, f2, f3, f4, f5, f6, f7, f8, f9, f10, f11, f12, f13⟩ := F
  simp only [fgR, fget, f3]
  rfl
theorem xr3_4_5 {z : Nat} {h : fSt} (F : XF z h) : fgR h (some (z + 3)) 4 5 = some (some (z + 6)) := by
  obtain ⟨f0, f1, f2, f3, f4, f5, f6, f7, f8, f9, f10, f11, f12, f13⟩ := F
  simp only [fgR, fget, f3]
  rfl
theorem xr3_4_6 {z : Nat} {h : fSt} (F : XF z h) : fgR h (some (z + 3)) 4 6 = some (some (z + 7)) := by
  obtain ⟨f0, f1, f2, f3, f4, f5, f6, f7, f8, f9, f10, f11, f12, f13⟩ := F
  simp only [fgR, fget, f3]
  rfl
theorem xr3_4_7 {z : Nat} {h : fSt} (F : XF z h) : fgI h (some (z + 3)) 4 7 = some 1 := by
  obtain ⟨f0, f1, f2, f3, f4, f5, f6, f7, f8, f9, f10, f11, f12, f13⟩ := F
  simp only [fgI, fget, f3]
  rfl
theorem xr3_4_8 {z : Nat} {h : fSt} (F : XF z h) : fgI h (some (z + 3)) 4 8 = some 1 := by
  obtain ⟨f0, f1, f2, f3, f4, f5, f6, f7, f8, f9, f10, f11, f12, f13⟩ := F
  simp only [fgI, fget, f3]
  rfl
theorem xr3_4_9 {z : Nat} {h : fSt} (F : XF z h) : fgI h (some (z + 3)) 4 9 = some 0 := by
  obtain ⟨f0, f1, f2, f3, f4, f5, f6, f7, f8, f9, f10, f11, f12, f13⟩ := F
  simp only [fgI, fget, f3]
  rfl
theorem xr3_4_10 {z : Nat} {h : fSt} (F : XF z h) : fgI h (some (z + 3)) 4 10 = some 0 := by
  obtain ⟨f0, f1, f2, f3, f4, f5, f6, f7, f8, f9, f10, f11, f12, f13⟩ := F
  simp only [fgI, fget, f3]
  rfl
theorem xr3_4_11 {z : Nat} {h : fSt} (F : XF z h) : fgI h (some (z + 3)) 4 11 = some 0 := by
  obtain ⟨f0, f1, f2, f3, f4, f5, f6, f7, f8, f9, f10, f11, f12, f13⟩ := F
  simp only [fgI, fget, f3]
  rfl
theorem xr3_4_12 {z : Nat} {h : fSt} (F : XF z h) : fgR h (some (z + 3)) 4 12 = some none := by
  obtain ⟨f0, f1, f2, f3, f4, f5, f6, f7, f8, f9, f10, f11, f12, f13⟩ := F
  simp only [fgR, fget, f3]
  rfl
theorem xr3_4_13 {z : Nat} {h : fSt} (F : XF z h) : fgI h (some (z + 3)) 4 13 = some 0 := by
  obtain ⟨f0, f1, f2, f3, f4, f5, f6, f7, f8, f9, f10, f11, f12, f13⟩ := F
  simp only [fgI, fget, f3]
  rfl
theorem xr3_4_14 {z : Nat} {h : fSt} (F : XF z h) : fgR h (some (z + 3)) 4 14 = some none := by
  obtain ⟨f0, f1, f2, f3, f4, f5, f6, f7, f8, f9, f10, f11, f12, f13⟩ := F
  simp only [fgR, fget, f3]
  rfl
theorem xr3_4_15 {z : Nat} {h : fSt} (F : XF z h) : fgR h (some (z + 3)) 4 15 = some none := by
  obtain ⟨f0, f1, f2, f3, f4, f5, f6, f7, f8, f9, f10, f11, f12, f13⟩ := F
  simp only [fgR, fget, f3]
  rfl
theorem xr3_4_16 {z : Nat} {h : fSt} (F : XF z h) : fgR h (some (z + 3)) 4 16 = some none := by
  obtain ⟨f0, f1, f2, f3, f4, f5, f6, f7, f8, f9, f10, f11, f12, f13⟩ := F
  simp only [fgR, fget, f3]
  rfl
theorem xr3_4_17 {z : Nat} {h : fSt} (F : XF z h) : fgR h (some (z + 3)) 4 17 = some none := by
  obtain ⟨f0, f1, f2, f3, f4, f5, f6, f7, f8, f9, f10, f11, f12, f13⟩ := F
  simp only [fgR, fget, f3]
  rfl
theorem xr3_4_18 {z : Nat} {h : fSt} (F : XF z h) : fgI h (some (z + 3)) 4 18 = some 0 := by
  obtain ⟨f0, f1, f2, f3, f4, f5, f6, f7, f8, f9, f10, f11, f12, f13⟩ := F
  simp only [fgI, fget, f3]
  rfl
theorem xr4_6_0 {z : Nat} {h : fSt} (F : XF z h) : fgI h (some (z + 4)) 6 0 = some (-200) := by
  obtain ⟨f0, f1, f2, f3, f4, f5, f6, f7, f8, f9, f10, f11, f12, f13⟩ := F
  simp only [fgI, fget, f4]
  rfl
theorem xr4_6_1 {z : Nat} {h : fSt} (F : XF z h) : fgI h (some (z + 4)) 6 1 = some 200 := by
  obtain ⟨f0, f1, f2, f3, f4, f5, f6, f7, f8, f9, f10, f11, f12, f13⟩ := F
  simp only [fgI, fget, f4]
  rfl
theorem xr4_6_2 {z : Nat} {h : fSt} (F : XF z h) : fgI h (some (z + 4)) 6 2 = some 0 := by
  obtain ⟨f0, f1, f2, f3, f4, f5, f6, f7, f8, f9, f10, f11, f12, f13⟩ := F
  simp only [fgI, fget, f4]
  rfl
theorem xr4_6_7 {z : Nat} {h : fSt} (F : XF z h) : fgR h (some (z + 4)) 6 7 = some none := by
  obtain ⟨f0, f1, f2, f3, f4, f5, f6, f7, f8, f9, f10, f11, f12, f13⟩ := F
  simp only [fgR, fget, f4]
  rfl
theorem xr5_6_0 {z : Nat} {h : fSt} (F : XF z h) : fgI h (some (z + 5)) 6 0 = some (-200) := by
  obtain ⟨f0, f1, f2, f3, f4, f5, f6, f7, f8, f9, f10, f11, f12, f13⟩ := F
  simp only [fgI, fget, f5]
  rfl
theorem xr5_6_1 {z : Nat} {h : fSt} (F : XF z h) : fgI h (some (z + 5)) 6 1 = some 200 := by
  obtain ⟨f0, f1, f2, f3, f4, f5, f6, f7, f8, f9, f10, f11, f12, f13⟩ := F
  simp only [fgI, fget, f5]
  rfl
theorem xr5_6_2 {z : Nat} {h : fSt} (F : XF z h) : fgI h (some (z + 5)) 6 2 = some 0 := by
  obtain ⟨f0, f1, f2, f3, f4, f5, f6, f7, f8, f9, f10, f11, f12, f13⟩ := F
  simp only [fgI, fget, f5]
  rfl
theorem xr5_6_7 {z : Nat} {h : fSt} (F : XF z h) : fgR h (some (z + 5)) 6 7 = some none := by
  obtain ⟨f0, f1, f2, f3, f4, f5, f6, f7, f8, f9, f10, f11, f12, f13⟩ := F
  simp only [fgR, fget, f5]
  rfl
theorem xr6_6_0 {z : Nat} {h : fSt} (F : XF z h) : fgI h (some (z + 6)) 6 0 = some (0) := by
  obtain ⟨f0, f1, f2, f3, f4, f5, f6, f7, f8, f9, f10, f11, f12, f13⟩ := F
  simp only [fgI, fget, f6]
  rfl
theorem xr6_6_1 {z : Nat} {h : fSt} (F : XF z h) : fgI h (some (z + 6)) 6 1 = some 3 := by
  obtain ⟨f0, f1, f2, f3, f4, f5, f6, f7, f8, f9, f10, f11, f12, f13⟩ := F
  simp only [fgI, fget, f6]
  rfl
theorem xr6_6_2 {z : Nat} {h : fSt} (F : XF z h) : fgI h (some (z + 6)) 6 2 = some 0 := by
  obtain ⟨f0, f1, f2, f3, f4, f5, f6, f7, f8, f9, f10, f11, f12, f13⟩ := F
  simp only [fgI, fget, f6]
  rfl
theorem xr6_6_7 {z : Nat} {h : fSt} (F : XF z h) : fgR h (some (z + 6)) 6 7 = some none := by
  obtain ⟨f0, f1, f2, f3, f4, f5, f6, f7, f8, f9, f10, f11, f12, f13⟩ := F
  simp only [fgR, fget, f6]
  rfl
theorem xr7_6_0 {z : Nat} {h : fSt} (F : XF z h) : fgI h (some (z + 7)) 6 0 = some (0) := by
  obtain ⟨f0, f1, f2, f3, f4, f5, f6, f7, f8, f9, f10, f11, f12, f13⟩ := F
  simp only [fgI, fget, f7]
  rfl
theorem xr7_6_1 {z : Nat} {h : fSt} (F : XF z h) : fgI h (some (z + 7)) 6 1 = some 100 := by
  obtain ⟨f0, f1, f2, f3, f4, f5, f6, f7, f8, f9, f10, f11, f12, f13⟩ := F
  simp only [fgI, fget, f7]
  rfl
theorem xr7_6_2 {z : Nat} {h : fSt} (F : XF z h) : fgI h (some (z + 7)) 6 2 = some 100 := by
  obtain ⟨f0, f1, f2, f3, f4, f5, f6, f7, f8, f9, f10, f11, f12, f13⟩ := F
  simp only [fgI, fget, f7]
  rfl
theorem xr7_6_7 {z : Nat} {h : fSt} (F : XF z h) : fgR h (some (z + 7)) 6 7 = some none := by
  obtain ⟨f0, f1, f2, f3, f4, f5, f6, f7, f8, f9, f10, f11, f12, f13⟩ := F
  simp only [fgR, fget, f7]
  rfl
theorem xr10_0_0 {z : Nat} {h : fSt} (F : XF z h) : fgR h (some (z + 10)) 0 0 = some (some (z + 11)) := by
  obtain ⟨f0, f1, f2, f3, f4, f5, f6, f7, f8, f9, f10, f11, f12, f13⟩ := F
  simp only [fgR, fget, f8]
  rfl
theorem xr10_0_1 {z : Nat} {h : fSt} (F : XF z h) : fgR h (some (z + 10)) 0 1 = some (some (z + 12)) := by
  obtain ⟨f0, f1, f2, f3, f4, f5, f6, f7, f8, f9, f10, f11, f12, f13⟩ := F
  simp only [fgR, fget, f8]
  rfl
theorem xr10_0_2 {z : Nat} {h : fSt} (F : XF z h) : fgR h (some (z + 10)) 0 2 = some (some (z + 13)) := by
  obtain ⟨f0, f1, f2, f3, f4, f5, f6, f7, f8, f9, f10, f11, f12, f13⟩ := F
  simp only [fgR, fget, f8]
  rfl
theorem xr10_0_3 {z : Nat} {h : fSt} (F : XF z h) : fgR h (some (z + 10)) 0 3 = some (some (z + 14)) := by
  obtain ⟨f0, f1, f2, f3, f4, f5, f6, f7, f8, f9, f10, f11, f12, f13⟩ := F
  simp only [fgR, fget, f8]
  rfl
theorem xo0 {z : Nat} {h : fSt} (F : XF z h) : fobj h (some z) 7 = some z := by
  obtain ⟨f0, f1, f2, f3, f4, f5, f6, f7, f8, f9, f10, f11, f12, f13⟩ := F
  skip
  simp only [fobj, f0]
  rfl
theorem xo3 {z : Nat} {h : fSt} (F : XF z h) : fobj h (some (z + 3)) 4 = some (z + 3) := by
  obtain ⟨f0, f1, f2, f3, f4, f5, f6, f7, f8, f9, f10, f11, f12, f13⟩ := F
  skip
  simp only [fobj, f3]
  rfl
theorem xo4 {z : Nat} {h : fSt} (F : XF z h) : fobj h (some (z + 4)) 6 = some (z + 4) := by
  obtain ⟨f0, f1, f2, f3, f4, f5, f6, f7, f8, f9, f10, f11, f12, f13⟩ := F
  skip
  simp only [fobj, f4]
  rfl
theorem xo5 {z : Nat} {h : fSt} (F : XF z h) : fobj h (some (z + 5)) 6 = some (z + 5) := by
  obtain ⟨f0, f1, f2, f3, f4, f5, f6, f7, f8, f9, f10, f11, f12, f13⟩ := F
  skip
  simp only [fobj, f5]
  rfl
theorem xo6 {z : Nat} {h : fSt} (F : XF z h) : fobj h (some (z + 6)) 6 = some (z + 6) := by
  obtain ⟨f0, f1, f2, f3, f4, f5, f6, f7, f8, f9, f10, f11, f12, f13⟩ := F
  skip
  simp only [fobj, f6]
  rfl
theorem xo7 {z : Nat} {h : fSt} (F : XF z h) : fobj h (some (z + 7)) 6 = some (z + 7) := by
  obtain ⟨f0, f1, f2, f3, f4, f5, f6, f7, f8, f9, f10, f11, f12, f13⟩ := F
  skip
  simp only [fobj, f7]
  rfl
theorem xo10 {z : Nat} {h : fSt} (F : XF z h) : fobj h (some (z + 10)) 0 = some (z + 10) := by
  obtain ⟨f0, f1, f2, f3, f4, f5, f6, f7, f8, f9, f10, f11, f12, f13⟩ := F
  skip
  simp only [fobj, f8]
  rfl
theorem xo9 {z : Nat} {h : fSt} (F : XF z h) : fobj h (some (z + 9)) 5 = some (z + 9) := by
  obtain ⟨f0, f1, f2, f3, f4, f5, f6, f7, f8, f9, f10, f11, f12, f13⟩ := F
  obtain ⟨x, y, u, c, f9⟩ := f9
  simp only [fobj, f9]
  rfl
theorem xo11 {z : Nat} {h : fSt} (F : XF z h) : fobj h (some (z + 11)) 1 = some (z + 11) := by
  obtain ⟨f0, f1, f2, f3, f4, f5, f6, f7, f8, f9, f10, f11, f12, f13⟩ := F
  obtain ⟨x, y, f10⟩ := f10
  simp only [fobj, f10]
  rfl
theorem xo12 {z : Nat} {h : fSt} (F : XF z h) : fobj h (some (z + 12)) 1 = some (z + 12) := by
  obtain ⟨f0, f1, f2, f3, f4, f5, f6, f7, f8, f9, f10, f11, f12, f13⟩ := F
  obtain ⟨x, y, f11⟩ := f11
  simp only [fobj, f11]
  rfl
theorem xo13 {z : Nat} {h : fSt} (F : XF z h) : fobj h (some (z + 13)) 1 = some (z + 13) := by
  obtain ⟨f0, f1, f2, f3, f4, f5, f6, f7, f8, f9, f10, f11, f12, f13⟩ := F
  obtain ⟨x, y, f12⟩ := f12
  simp only [fobj, f12]
  rfl
theorem xo14 {z : Nat} {h : fSt} (F : XF z h) : fobj h (some (z + 14)) 1 = some (z + 14) := by
  obtain ⟨f0, f1, f2, f3, f4, f5, f6, f7, f8, f9, f10, f11, f12, f13⟩ := F
  obtain ⟨x, y, f13⟩ := f13
  simp only [fobj, f13]
  rfl
theorem xl1 {z : Nat} {h : fSt} (F : XF z h) : flen h (some (z + 1)) 4 = some 30 := by
  obtain ⟨f0, f1, f2, f3, f4, f5, f6, f7, f8, f9, f10, f11, f12, f13⟩ := F
  simp only [flen, farr, f1]
  rfl
theorem xl2 {z : Nat} {h : fSt} (F : XF z h) : flen h (some (z + 2)) 5 = some 12 := by
  obtain ⟨f0, f1, f2, f3, f4, f5, f6, f7, f8, f9, f10, f11, f12, f13⟩ := F
  simp only [flen, farr, f2]
  rfl
theorem xa1_0 {z : Nat} {h : fSt} (F : XF z h) : faR h (some (z + 1)) 4 0 = some (some (z + 3)) := by
  obtain ⟨f0, f1, f2, f3, f4, f5, f6, f7, f8, f9, f10, f11, f12, f13⟩ := F
  simp only [faR, farr, f1]
  rfl
theorem xa1_n {z : Nat} {h : fSt} (F : XF z h) {i : Int32} (h1 : ¬ i < 0) (h2 : i < 30) (h3 : i ≠ 0) : faR h (some (z + 1)) 4 i = some none := by
  obtain ⟨f0, f1, f2, f3, f4, f5, f6, f7, f8, f9, f10, f11, f12, f13⟩ := F
  have e : ¬ (i < 0 ∨ 30 ≤ i.toNatClampNeg) := i32_lt h1 h2 (by decide)
  have e2 : i.toNatClampNeg ≠ 0 := i32_ne h1 h3
  simp only [faR, farr, f1, if_true, if_neg e, va_up, if_neg e2]
theorem XF.of {z : Nat} {h h2 : fSt} (F : XF z h) (e : ∀ k, k < 15 → fF h2 (z + k) = fF h (z + k)) : XF z h2 := by
  unfold XF at F ⊢
  rw [show fF h2 z = fF h z from e 0 (by decide), e 1 (by decide), e 2 (by decide), e 3 (by decide), e 4 (by decide), e 5 (by decide), e 6 (by decide), e 7 (by decide), e 10 (by decide), e 9 (by decide), e 11 (by decide), e 12 (by decide), e 13 (by decide), e 14 (by decide)]
  exact F
def MF (z : Nat) (th tm hv : Int32) (h : fSt) : Prop := fF h (z + 15) = some (.inl (8, [.int th, .int 1, .ref (z + 16), .ref (z + 17), .ref (z + 18), .ref (z + 19), .ref (z + 20), .ref (z + 21), .ref (z + 22), .ref (z + 23), .ref (z + 24), .ref (z + 25), .ref (z + 26), .ref (z + 27), .ref (z + 28), .ref (z + 29), .int 1, .int 0, .ref (z + 30), .ref (z + 31), .ref (z + 32), .ref (z + 33), .ref (z + 34), .ref (z + 35), .ref (z + 36), .int tm])) ∧ (∃ f : Nat → Int32, fF h (z + 16) = some (.inr (2, 30, .inl f)) ∧ f 0 = 0) ∧ (∃ f : Nat → Int32, fF h (z + 17) = some (.inr (2, 30, .inl f)) ∧ f 0 = 0) ∧ (∃ f : Nat → Int32, fF h (z + 18) = some (.inr (2, 30, .inl f)) ∧ f 0 = hv) ∧ (∃ f : Nat → Int32, fF h (z + 19) = some (.inr (2, 30, .inl f)) ∧ f 0 = 0) ∧ (∃ f : Nat → Int32, fF h (z + 20) = some (.inr (0, 30, .inl f)) ∧ f 0 = -1) ∧ (∃ f : Nat → Int32, fF h (z + 21) = some (.inr (0, 30, .inl f)) ∧ f 0 = 0) ∧ (∃ f : Nat → Int32, fF h (z + 22) = some (.inr (0, 30, .inl f))) ∧ (∃ f : Nat → Int32, fF h (z + 23) = some (.inr (0, 30, .inl f))) ∧ (∃ f : Nat → Int32, fF h (z + 24) = some (.inr (0, 30, .inl f)) ∧ f 0 = 1) ∧ (∃ f : Nat → Int32, fF h (z + 25) = some (.inr (0, 30, .inl f)) ∧ f 0 = 1) ∧ (∃ f : Nat → Int32, fF h (z + 26) = some (.inr (0, 30, .inl f)) ∧ f 0 = 0) ∧ (∃ f : Nat → Int32, fF h (z + 27) = some (.inr (0, 30, .inl f))) ∧ (∃ f : Nat → Int32, fF h (z + 28) = some (.inr (0, 120, .inl f)) ∧ f 0 = 0 ∧ f 1 = 0 ∧ f 2 = 0 ∧ f 3 = 100) ∧ (∃ f : Nat → Int32, fF h (z + 29) = some (.inr (0, 120, .inl f))) ∧ (∃ f : Nat → Int32, fF h (z + 30) = some (.inr (0, 12, .inl f))) ∧ (∃ f : Nat → Int32, fF h (z + 31) = some (.inr (0, 12, .inl f))) ∧ (∃ f : Nat → Int32, fF h (z + 32) = some (.inr (0, 12, .inl f))) ∧ (∃ f : Nat → Int32, fF h (z + 33) = some (.inr (0, 12, .inl f))) ∧ (∃ f : Nat → Int32, fF h (z + 34) = some (.inr (0, 12, .inl f))) ∧ (∃ f : Nat → Int32, fF h (z + 35) = some (.inr (0, 96, .inl f))) ∧ (∃ f : Nat → Int32, fF h (z + 36) = some (.inr (0, 96, .inl f)))
theorem mo15 {z : Nat} {th tm hv : Int32} {h : fSt} (F : MF z th tm hv h) : fobj h (some (z + 15)) 8 = some (z + 15) := by
  obtain ⟨m0, m2, m3, m4, m5, m6, m7, m8, m9, m10, m11, m12, m13, m14, m15, m18, m19, m20, m21, m22, m23, m24⟩ := F
  simp only [fobj, m0]
  rfl
theorem mr0 {z : Nat} {th tm hv : Int32} {h : fSt} (F : MF z th tm hv h) : fgI h (some (z + 15)) 8 0 = some th := by
  obtain ⟨m0, m2, m3, m4, m5, m6, m7, m8, m9, m10, m11, m12, m13, m14, m15, m18, m19, m20, m21, m22, m23, m24⟩ := F
  simp only [fgI, fget, m0]
  rfl
theorem mr1 {z : Nat} {th tm hv : Int32} {h : fSt} (F : MF z th tm hv h) : fgI h (some (z + 15)) 8 1 = some 1 := by
  obtain ⟨m0, m2, m3, m4, m5, m6, m7, m8, m9, m10, m11, m12, m13, m14, m15, m18, m19, m20, m21, m22, m23, m24⟩ := F
  simp only [fgI, fget, m0]
  rfl
theorem mr2 {z : Nat} {th tm hv : Int32} {h : fSt} (F : MF z th tm hv h) : fgR h (some (z + 15)) 8 2 = some (some (z + 16)) := by
  obtain ⟨m0, m2, m3, m4, m5, m6, m7, m8, m9, m10, m11, m12, m13, m14, m15, m18, m19, m20, m21, m22, m23, m24⟩ := F
  simp only [fgR, fget, m0]
  rfl
theorem mr3 {z : Nat} {th tm hv : Int32} {h : fSt} (F : MF z th tm hv h) : fgR h (some (z + 15)) 8 3 = some (some (z + 17)) := by
  obtain ⟨m0, m2, m3, m4, m5, m6, m7, m8, m9, m10, m11, m12, m13, m14, m15, m18, m19, m20, m21, m22, m23, m24⟩ := F
  simp only [fgR, fget, m0]
  rfl
theorem mr4 {z : Nat} {th tm hv : Int32} {h : fSt} (F : MF z th tm hv h) : fgR h (some (z + 15)) 8 4 = some (some (z + 18)) := by
  obtain ⟨m0, m2, m3, m4, m5, m6, m7, m8, m9, m10, m11, m12, m13, m14, m15, m18, m19, m20, m21, m22, m23, m24⟩ := F
  simp only [fgR, fget, m0]
  rfl
theorem mr5 {z : Nat} {th tm hv : Int32} {h : fSt} (F : MF z th tm hv h) : fgR h (some (z + 15)) 8 5 = some (some (z + 19)) := by
  obtain ⟨m0, m2, m3, m4, m5, m6, m7, m8, m9, m10, m11, m12, m13, m14, m15, m18, m19, m20, m21, m22, m23, m24⟩ := F
  simp only [fgR, fget, m0]
  rfl
theorem mr6 {z : Nat} {th tm hv : Int32} {h : fSt} (F : MF z th tm hv h) : fgR h (some (z + 15)) 8 6 = some (some (z + 20)) := by
  obtain ⟨m0, m2, m3, m4, m5, m6, m7, m8, m9, m10, m11, m12, m13, m14, m15, m18, m19, m20, m21, m22, m23, m24⟩ := F
  simp only [fgR, fget, m0]
  rfl
theorem mr7 {z : Nat} {th tm hv : Int32} {h : fSt} (F : MF z th tm hv h) : fgR h (some (z + 15)) 8 7 = some (some (z + 21)) := by
  obtain ⟨m0, m2, m3, m4, m5, m6, m7, m8, m9, m10, m11, m12, m13, m14, m15, m18, m19, m20, m21, m22, m23, m24⟩ := F
  simp only [fgR, fget, m0]
  rfl
theorem mr8 {z : Nat} {th tm hv : Int32} {h : fSt} (F : MF z th tm hv h) : fgR h (some (z + 15)) 8 8 = some (some (z + 22)) := by
  obtain ⟨m0, m2, m3, m4, m5, m6, m7, m8, m9, m10, m11, m12, m13, m14, m15, m18, m19, m20, m21, m22, m23, m24⟩ := F
  simp only [fgR, fget, m0]
  rfl
theorem mr9 {z : Nat} {th tm hv : Int32} {h : fSt} (F : MF z th tm hv h) : fgR h (some (z + 15)) 8 9 = some (some (z + 23)) := by
  obtain ⟨m0, m2, m3, m4, m5, m6, m7, m8, m9, m10, m11, m12, m13, m14, m15, m18, m19, m20, m21, m22, m23, m24⟩ := F
  simp only [fgR, fget, m0]
  rfl
theorem mr10 {z : Nat} {th tm hv : Int32} {h : fSt} (F : MF z th tm hv h) : fgR h (some (z + 15)) 8 10 = some (some (z + 24)) := by
  obtain ⟨m0, m2, m3, m4, m5, m6, m7, m8, m9, m10, m11, m12, m13, m14, m15, m18, m19, m20, m21, m22, m23, m24⟩ := F
  simp only [fgR, fget, m0]
  rfl
theorem mr11 {z : Nat} {th tm hv : Int32} {h : fSt} (F : MF z th tm hv h) : fgR h (some (z + 15)) 8 11 = some (some (z + 25)) := by
  obtain ⟨m0, m2, m3, m4, m5, m6, m7, m8, m9, m10, m11, m12, m13, m14, m15, m18, m19, m20, m21, m22, m23, m24⟩ := F
  simp only [fgR, fget, m0]
  rfl
theorem mr12 {z : Nat} {th tm hv : Int32} {h : fSt} (F : MF z th tm hv h) : fgR h (some (z + 15)) 8 12 = some (some (z + 26)) := by
  obtain ⟨m0, m2, m3, m4, m5, m6, m7, m8, m9, m10, m11, m12, m13, m14, m15, m18, m19, m20, m21, m22, m23, m24⟩ := F
  simp only [fgR, fget, m0]
  rfl
theorem mr13 {z : Nat} {th tm hv : Int32} {h : fSt} (F : MF z th tm hv h) : fgR h (some (z + 15)) 8 13 = some (some (z + 27)) := by
  obtain ⟨m0, m2, m3, m4, m5, m6, m7, m8, m9, m10, m11, m12, m13, m14, m15, m18, m19, m20, m21, m22, m23, m24⟩ := F
  simp only [fgR, fget, m0]
  rfl
theorem mr14 {z : Nat} {th tm hv : Int32} {h : fSt} (F : MF z th tm hv h) : fgR h (some (z + 15)) 8 14 = some (some (z + 28)) := by
  obtain ⟨m0, m2, m3, m4, m5, m6, m7, m8, m9, m10, m11, m12, m13, m14, m15, m18, m19, m20, m21, m22, m23, m24⟩ := F
  simp only [fgR, fget, m0]
  rfl
theorem mr15 {z : Nat} {th tm hv : Int32} {h : fSt} (F : MF z th tm hv h) : fgR h (some (z + 15)) 8 15 = some (some (z + 29)) := by
  obtain ⟨m0, m2, m3, m4, m5, m6, m7, m8, m9, m10, m11, m12, m13, m14, m15, m18, m19, m20, m21, m22, m23, m24⟩ := F
  simp only [fgR, fget, m0]
  rfl
theorem mr16 {z : Nat} {th tm hv : Int32} {h : fSt} (F : MF z th tm hv h) : fgI h (some (z + 15)) 8 16 = some 1 := by
  obtain ⟨m0, m2, m3, m4, m5, m6, m7, m8, m9, m10, m11, m12, m13, m14, m15, m18, m19, m20, m21, m22, m23, m24⟩ := F
  simp only [fgI, fget, m0]
  rfl
theorem mr17 {z : Nat} {th tm hv : Int32} {h : fSt} (F : MF z th tm hv h) : fgI h (some (z + 15)) 8 17 = some 0 := by
  obtain ⟨m0, m2, m3, m4, m5, m6, m7, m8, m9, m10, m11, m12, m13, m14, m15, m18, m19, m20, m21, m22, m23, m24⟩ := F
  simp only [fgI, fget, m0]
  rfl
theorem mr18 {z : Nat} {th tm hv : Int32} {h : fSt} (F : MF z th tm hv h) : fgR h (some (z + 15)) 8 18 = some (some (z + 30)) := by
  obtain ⟨m0, m2, m3, m4, m5, m6, m7, m8, m9, m10, m11, m12, m13, m14, m15, m18, m19, m20, m21, m22, m23, m24⟩ := F
  simp only [fgR, fget, m0]
  rfl
theorem mr19 {z : Nat} {th tm hv : Int32} {h : fSt} (F : MF z th tm hv h) : fgR h (some (z + 15)) 8 19 = some (some (z + 31)) := by
  obtain ⟨m0, m2, m3, m4, m5, m6, m7, m8, m9, m10, m11, m12, m13, m14, m15, m18, m19, m20, m21, m22, m23, m24⟩ := F
  simp only [fgR, fget, m0]
  rfl
theorem mr20 {z : Nat} {th tm hv : Int32} {h : fSt} (F : MF z th tm hv h) : fgR h (some (z + 15)) 8 20 = some (some (z + 32)) := by
  obtain ⟨m0, m2, m3, m4, m5, m6, m7, m8, m9, m10, m11, m12, m13, m14, m15, m18, m19, m20, m21, m22, m23, m24⟩ := F
  simp only [fgR, fget, m0]
  rfl
theorem mr21 {z : Nat} {th tm hv : Int32} {h : fSt} (F : MF z th tm hv h) : fgR h (some (z + 15)) 8 21 = some (some (z + 33)) := by
  obtain ⟨m0, m2, m3, m4, m5, m6, m7, m8, m9, m10, m11, m12, m13, m14, m15, m18, m19, m20, m21, m22, m23, m24⟩ := F
  simp only [fgR, fget, m0]
  rfl
theorem mr22 {z : Nat} {th tm hv : Int32} {h : fSt} (F : MF z th tm hv h) : fgR h (some (z + 15)) 8 22 = some (some (z + 34)) := by
  obtain ⟨m0, m2, m3, m4, m5, m6, m7, m8, m9, m10, m11, m12, m13, m14, m15, m18, m19, m20, m21, m22, m23, m24⟩ := F
  simp only [fgR, fget, m0]
  rfl
theorem mr23 {z : Nat} {th tm hv : Int32} {h : fSt} (F : MF z th tm hv h) : fgR h (some (z + 15)) 8 23 = some (some (z + 35)) := by
  obtain ⟨m0, m2, m3, m4, m5, m6, m7, m8, m9, m10, m11, m12, m13, m14, m15, m18, m19, m20, m21, m22, m23, m24⟩ := F
  simp only [fgR, fget, m0]
  rfl
theorem mr24 {z : Nat} {th tm hv : Int32} {h : fSt} (F : MF z th tm hv h) : fgR h (some (z + 15)) 8 24 = some (some (z + 36)) := by
  obtain ⟨m0, m2, m3, m4, m5, m6, m7, m8, m9, m10, m11, m12, m13, m14, m15, m18, m19, m20, m21, m22, m23, m24⟩ := F
  simp only [fgR, fget, m0]
  rfl
theorem mr25 {z : Nat} {th tm hv : Int32} {h : fSt} (F : MF z th tm hv h) : fgI h (some (z + 15)) 8 25 = some tm := by
  obtain ⟨m0, m2, m3, m4, m5, m6, m7, m8, m9, m10, m11, m12, m13, m14, m15, m18, m19, m20, m21, m22, m23, m24⟩ := F
  simp only [fgI, fget, m0]
  rfl
theorem ma2_0 {z : Nat} {th tm hv : Int32} {h : fSt} (F : MF z th tm hv h) : faI h (some (z + 16)) 2 0 = some (0) := by
  obtain ⟨m0, m2, m3, m4, m5, m6, m7, m8, m9, m10, m11, m12, m13, m14, m15, m18, m19, m20, m21, m22, m23, m24⟩ := F
  obtain ⟨f, mm, v0⟩ := m2
  simp only [faI, farr, mm]
  exact congrArg some v0
theorem ma3_0 {z : Nat} {th tm hv : Int32} {h : fSt} (F : MF z th tm hv h) : faI h (some (z + 17)) 2 0 = some (0) := by
  obtain ⟨m0, m2, m3, m4, m5, m6, m7, m8, m9, m10, m11, m12, m13, m14, m15, m18, m19, m20, m21, m22, m23, m24⟩ := F
  obtain ⟨f, mm, v0⟩ := m3
  simp only [faI, farr, mm]
  exact congrArg some v0
theorem ma4_0 {z : Nat} {th tm hv : Int32} {h : fSt} (F : MF z th tm hv h) : faI h (some (z + 18)) 2 0 = some (hv) := by
  obtain ⟨m0, m2, m3, m4, m5, m6, m7, m8, m9, m10, m11, m12, m13, m14, m15, m18, m19, m20, m21, m22, m23, m24⟩ := F
  obtain ⟨f, mm, v0⟩ := m4
  simp only [faI, farr, mm]
  exact congrArg some v0
theorem ma5_0 {z : Nat} {th tm hv : Int32} {h : fSt} (F : MF z th tm hv h) : faI h (some (z + 19)) 2 0 = some (0) := by
  obtain ⟨m0, m2, m3, m4, m5, m6, m7, m8, m9, m10, m11, m12, m13, m14, m15, m18, m19, m20, m21, m22, m23, m24⟩ := F
  obtain ⟨f, mm, v0⟩ := m5
  simp only [faI, farr, mm]
  exact congrArg some v0
theorem ma6_0 {z : Nat} {th tm hv : Int32} {h : fSt} (F : MF z th tm hv h) : faI h (some (z + 20)) 0 0 = some (-1) := by
  obtain ⟨m0, m2, m3, m4, m5, m6, m7, m8, m9, m10, m11, m12, m13, m14, m15, m18, m19, m20, m21, m22, m23, m24⟩ := F
  obtain ⟨f, mm, v0⟩ := m6
  simp only [faI, farr, mm]
  exact congrArg some v0
theorem ma7_0 {z : Nat} {th tm hv : Int32} {h : fSt} (F : MF z th tm hv h) : faI h (some (z + 21)) 0 0 = some (0) := by
  obtain ⟨m0, m2, m3, m4, m5, m6, m7, m8, m9, m10, m11, m12, m13, m14, m15, m18, m19, m20, m21, m22, m23, m24⟩ := F
  obtain ⟨f, mm, v0⟩ := m7
  simp only [faI, farr, mm]
  exact congrArg some v0
theorem ma10_0 {z : Nat} {th tm hv : Int32} {h : fSt} (F : MF z th tm hv h) : faI h (some (z + 24)) 0 0 = some (1) := by
  obtain ⟨m0, m2, m3, m4, m5, m6, m7, m8, m9, m10, m11, m12, m13, m14, m15, m18, m19, m20, m21, m22, m23, m24⟩ := F
  obtain ⟨f, mm, v0⟩ := m10
  simp only [faI, farr, mm]
  exact congrArg some v0
theorem ma11_0 {z : Nat} {th tm hv : Int32} {h : fSt} (F : MF z th tm hv h) : faI h (some (z + 25)) 0 0 = some (1) := by
  obtain ⟨m0, m2, m3, m4, m5, m6, m7, m8, m9, m10, m11, m12, m13, m14, m15, m18, m19, m20, m21, m22, m23, m24⟩ := F
  obtain ⟨f, mm, v0⟩ := m11
  simp only [faI, farr, mm]
  exact congrArg some v0
theorem ma12_0 {z : Nat} {th tm hv : Int32} {h : fSt} (F : MF z th tm hv h) : faI h (some (z + 26)) 0 0 = some (0) := by
  obtain ⟨m0, m2, m3, m4, m5, m6, m7, m8, m9, m10, m11, m12, m13, m14, m15, m18, m19, m20, m21, m22, m23, m24⟩ := F
  obtain ⟨f, mm, v0⟩ := m12
  simp only [faI, farr, mm]
  exact congrArg some v0
theorem ma14_0 {z : Nat} {th tm hv : Int32} {h : fSt} (F : MF z th tm hv h) : faI h (some (z + 28)) 0 0 = some (0) := by
  obtain ⟨m0, m2, m3, m4, m5, m6, m7, m8, m9, m10, m11, m12, m13, m14, m15, m18, m19, m20, m21, m22, m23, m24⟩ := F
  obtain ⟨f, mm, v0, v1, v2, v3⟩ := m14
  simp only [faI, farr, mm]
  exact congrArg some v0
theorem ma14_1 {z : Nat} {th tm hv : Int32} {h : fSt} (F : MF z th tm hv h) : faI h (some (z + 28)) 0 1 = some (0) := by
  obtain ⟨m0, m2, m3, m4, m5, m6, m7, m8, m9, m10, m11, m12, m13, m14, m15, m18, m19, m20, m21, m22, m23, m24⟩ := F
  obtain ⟨f, mm, v0, v1, v2, v3⟩ := m14
  simp only [faI, farr, mm]
  exact congrArg some v1
theorem ma14_2 {z : Nat} {th tm hv : Int32} {h : fSt} (F : MF z th tm hv h) : faI h (some (z + 28)) 0 2 = some (0) := by
  obtain ⟨m0, m2, m3, m4, m5, m6, m7, m8, m9, m10, m11, m12, m13, m14, m15, m18, m19, m20, m21, m22, m23, m24⟩ := F
  obtain ⟨f, mm, v0, v1, v2, v3⟩ := m14
  simp only [faI, farr, mm]
  exact congrArg some v2
theorem ma14_3 {z : Nat} {th tm hv : Int32} {h : fSt} (F : MF z th tm hv h) : faI h (some (z + 28)) 0 3 = some (100) := by
  obtain ⟨m0, m2, m3, m4, m5, m6, m7, m8, m9, m10, m11, m12, m13, m14, m15, m18, m19, m20, m21, m22, m23, m24⟩ := F
  obtain ⟨f, mm, v0, v1, v2, v3⟩ := m14
  simp only [faI, farr, mm]
  exact congrArg some v3
theorem MF.of {z : Nat} {th tm hv : Int32} {h h2 : fSt} (F : MF z th tm hv h) (e : ∀ k, k < 37 → 15 ≤ k → fF h2 (z + k) = fF h (z + k)) : MF z th tm hv h2 := by
  unfold MF at F ⊢
  rw [e 15 (by decide) (by decide), e 16 (by decide) (by decide), e 17 (by decide) (by decide), e 18 (by decide) (by decide), e 19 (by decide) (by decide), e 20 (by decide) (by decide), e 21 (by decide) (by decide), e 22 (by decide) (by decide), e 23 (by decide) (by decide), e 24 (by decide) (by decide), e 25 (by decide) (by decide), e 26 (by decide) (by decide), e 27 (by decide) (by decide), e 28 (by decide) (by decide), e 29 (by decide) (by decide), e 30 (by decide) (by decide), e 31 (by decide) (by decide), e 32 (by decide) (by decide), e 33 (by decide) (by decide), e 34 (by decide) (by decide), e 35 (by decide) (by decide), e 36 (by decide) (by decide)]
  exact F
end FRESH
