/-! add on the fresh object, both ways. -/
section ADD
variable {z : Nat} {th tm hv : Int32} {ov : Int64} {od : UInt64} {h : fSt}
theorem i32_s2 {a : Int32} (h0 : -100 ≤ a.toInt) (h1 : a.toInt ≤ 20000) : (a + 1).toInt = a.toInt + 1 := by
  rw [Int32.toInt_add]
  have e : (1 : Int32).toInt = 1 := by decide
  rw [e]
  exact Int.bmod_eq_of_le (by omega) (by omega)
theorem lay_N (self : Nat → Option Nat → Int32 → fSt → Option (Unit × fSt)) {g : Nat} (e : fgR h (some g) 4 15 = some none) (a3 a4 : Int32) (h3 : a3.toInt ≤ 100) : ∀ (m n : Nat) (a5 : Int32), -100 ≤ a5.toInt → a3.toInt - a5.toInt < m → f_X7_layHanging_L3 self (n + m + 1) (some z) (some g) a3 a4 a5 h = some ((), h) := by
  intro m
  induction m with
  | zero =>
    intro n a5 h0 hm
    rw [st_X7_layHanging_L3, if_pos (Int32.lt_iff_toInt_lt.mpr (by omega))]
  | succ m ih =>
    intro n a5 h0 hm
    rw [st_X7_layHanging_L3]
    by_cases q : a3 < a5
    · rw [if_pos q]
    · have q2 : ¬ a3.toInt < a5.toInt := fun y => q (Int32.lt_iff_toInt_lt.mpr y)
      have e1 := i32_s2 h0 (by omega)
      rw [if_neg q, e, Option.bind_some, sN_X7_layHanging_L15]
      exact ih n (a5 + 1) (by omega) (by omega)
theorem lay_C (self : Nat → Option Nat → Int32 → fSt → Option (Unit × fSt)) {w g : Nat} (e : fgR h (some w) 4 15 = some (some g)) (e2 : fgI h (some g) 4 10 = some 0) (e3 : fgR h (some g) 4 16 = some none) (a3 a4 : Int32) (h3 : a3.toInt ≤ 100) : ∀ (m n : Nat) (a5 : Int32), -100 ≤ a5.toInt → (a3.toInt < 0 ∨ 0 < a5.toInt) → a3.toInt - a5.toInt < m → f_X7_layHanging_L3 self (n + m + 1) (some z) (some w) a3 a4 a5 h = some ((), h) := by
  intro m
  induction m with
  | zero =>
    intro n a5 h0 hc hm
    rw [st_X7_layHanging_L3, if_pos (Int32.lt_iff_toInt_lt.mpr (by omega))]
  | succ m ih =>
    intro n a5 h0 hc hm
    rw [st_X7_layHanging_L3]
    by_cases q : a3 < a5
    · rw [if_pos q]
    · have q2 : ¬ a3.toInt < a5.toInt := fun y => q (Int32.lt_iff_toInt_lt.mpr y)
      have e1 := i32_s2 h0 (by omega)
      have n0 : ¬ (0 : Int32) = a5 := fun y => by
        rw [← y] at q2 hc
        have : (0 : Int32).toInt = 0 := by decide
        omega
      rw [if_neg q, e, Option.bind_some, sS_X7_layHanging_L15, e2, Option.bind_some, if_neg n0]
      unfold f_X7_layHanging_L38
      rw [e3, Option.bind_some, sN_X7_layHanging_L15]
      exact ih n (a5 + 1) (by omega) (by omega) (by omega)
def scl (z : Nat) (la : Option Nat) (o : Int32) : fCe := .inl (7, [.ref (z + 1), .ref (z + 2), .ref (z + 3), .ref (z + 9), .ref (z + 10), .int 2, .int 0, .int 0, va_rf la, .int o])
def wcl (z g : Nat) (be : Option Nat) (pl : Int32) : fCe := .inl (4, [.int 0, .int 0, .ref (z + 8), .ref (z + 4), .ref (z + 5), .ref (z + 6), .ref (z + 7), .int 1, .int 1, .int 0, .int 0, .int 0, .null, .int 0, .null, .ref g, .null, va_rf be, .int pl])
def gcl (z : Nat) (k : Int32) (a : Nat × Nat × Nat × Nat × Nat) (be : Option Nat) (pl : Int32) : fCe := .inl (4, [.int 1, .int k, .ref a.1, .ref a.2.1, .ref a.2.2.1, .ref a.2.2.2.1, .ref a.2.2.2.2, .int 1, .int 1, .int 0, .int 0, .int 0, .null, .int 0, .ref (z + 3), .null, .null, va_rf be, .int pl])
def LSx (z g : Nat) (k : Int32) (a : Nat × Nat × Nat × Nat × Nat) (ov : Int64) (od : UInt64) (la : Option Nat) (o : Int32) (bw : Option Nat) (pw : Int32) (bg : Option Nat) (pg : Int32) (h : fSt) : Prop := fF h z = some (scl z la o) ∧ fF h (z + 3) = some (wcl z g bw pw) ∧ fF h g = some (gcl z k a bg pg) ∧ z + 39 ≤ g ∧ MG z 0 0 0 ov od h ∧ RM 900 h
section LSS
variable {g : Nat} {k : Int32} {a : Nat × Nat × Nat × Nat × Nat} {la bw bg : Option Nat} {o pw pg : Int32}
theorem rfD (x : Option Nat) : (match va_rf x with | .null => some none | .ref b => some (some b) | _ => (none : Option (Option Nat))) = some x := by cases x <;> rfl
theorem ls_oz (S : LSx z g k a ov od la o bw pw bg pg h) : fobj h (some z) 7 = some z := by simp only [fobj, S.1, scl]; rfl
theorem ls_ow (S : LSx z g k a ov od la o bw pw bg pg h) : fobj h (some (z + 3)) 4 = some (z + 3) := by simp only [fobj, S.2.1, wcl]; rfl
theorem ls_og (S : LSx z g k a ov od la o bw pw bg pg h) : fobj h (some g) 4 = some g := by simp only [fobj, S.2.2.1, gcl]; rfl
theorem ls_z2 (S : LSx z g k a ov od la o bw pw bg pg h) : fgR h (some z) 7 2 = some (some (z + 3)) := by simp only [fgR, fget, S.1, scl]; rfl
theorem ls_z8 (S : LSx z g k a ov od la o bw pw bg pg h) : fgR h (some z) 7 8 = some la := by simp only [fgR, fget, S.1, scl]; cases la <;> rfl
theorem ls_z9 (S : LSx z g k a ov od la o bw pw bg pg h) : fgI h (some z) 7 9 = some o := by simp only [fgI, fget, S.1, scl]; rfl
theorem ls_w15 (S : LSx z g k a ov od la o bw pw bg pg h) : fgR h (some (z + 3)) 4 15 = some (some g) := by simp only [fgR, fget, S.2.1, wcl]; rfl
theorem ls_g0 (S : LSx z g k a ov od la o bw pw bg pg h) : fgI h (some g) 4 0 = some 1 := by simp only [fgI, fget, S.2.2.1, gcl]; rfl
theorem ls_g10 (S : LSx z g k a ov od la o bw pw bg pg h) : fgI h (some g) 4 10 = some 0 := by simp only [fgI, fget, S.2.2.1, gcl]; rfl
theorem ls_g15 (S : LSx z g k a ov od la o bw pw bg pg h) : fgR h (some g) 4 15 = some none := by simp only [fgR, fget, S.2.2.1, gcl]; rfl
theorem ls_g16 (S : LSx z g k a ov od la o bw pw bg pg h) : fgR h (some g) 4 16 = some none := by simp only [fgR, fget, S.2.2.1, gcl]; rfl
theorem ls_sz (S : LSx z g k a ov od la o bw pw bg pg h) (la2 : Option Nat) (o2 : Int32) : LSx z g k a ov od la2 o2 bw pw bg pg (fSet h z (scl z la2 o2)) := by
  obtain ⟨s1, s2, s3, s4, s5, s6⟩ := S
  exact ⟨fF_set_eq, (fF_set_ne (by omega)).trans s2, (fF_set_ne (by omega)).trans s3, s4, s5.set (Or.inl (by omega)), s6⟩
theorem ls_sw (S : LSx z g k a ov od la o bw pw bg pg h) (b2 : Option Nat) (p2 : Int32) : LSx z g k a ov od la o b2 p2 bg pg (fSet h (z + 3) (wcl z g b2 p2)) := by
  obtain ⟨s1, s2, s3, s4, s5, s6⟩ := S
  exact ⟨(fF_set_ne (by omega)).trans s1, fF_set_eq, (fF_set_ne (by omega)).trans s3, s4, s5.set (Or.inl (by omega)), s6⟩
theorem ls_sg (S : LSx z g k a ov od la o bw pw bg pg h) (b2 : Option Nat) (p2 : Int32) : LSx z g k a ov od la o bw pw b2 p2 (fSet h g (gcl z k a b2 p2)) := by
  obtain ⟨s1, s2, s3, s4, s5, s6⟩ := S
  exact ⟨(fF_set_ne (by omega)).trans s1, (fF_set_ne (by omega)).trans s2, fF_set_eq, s4, s5.set (Or.inr s4), s6⟩
theorem ls_pz8 (S : LSx z g k a ov od la o bw pw bg pg h) (x : Option Nat) : fput h (some z) 7 8 (va_rf x) = some (fSet h z (scl z x o)) := fput_C S.1 (Nat.le_of_ble_eq_true rfl)
theorem ls_pz9 (S : LSx z g k a ov od la o bw pw bg pg h) (x : Int32) : fput h (some z) 7 9 (.int x) = some (fSet h z (scl z la x)) := fput_C S.1 (Nat.le_of_ble_eq_true rfl)
theorem ls_pw17 (S : LSx z g k a ov od la o bw pw bg pg h) (x : Option Nat) : fput h (some (z + 3)) 4 17 (va_rf x) = some (fSet h (z + 3) (wcl z g x pw)) := fput_C S.2.1 (Nat.le_of_ble_eq_true rfl)
theorem ls_pw18 (S : LSx z g k a ov od la o bw pw bg pg h) (x : Int32) : fput h (some (z + 3)) 4 18 (.int x) = some (fSet h (z + 3) (wcl z g bw x)) := fput_C S.2.1 (Nat.le_of_ble_eq_true rfl)
theorem ls_pg17 (S : LSx z g k a ov od la o bw pw bg pg h) (x : Option Nat) : fput h (some g) 4 17 (va_rf x) = some (fSet h g (gcl z k a x pg)) := fput_C S.2.2.1 (Nat.le_of_ble_eq_true rfl)
theorem ls_pg18 (S : LSx z g k a ov od la o bw pw bg pg h) (x : Int32) : fput h (some g) 4 18 (.int x) = some (fSet h g (gcl z k a bg x)) := fput_C S.2.2.1 (Nat.le_of_ble_eq_true rfl)
theorem tm9 : (-9 : Int32).toInt = -9 := by decide
theorem tm1 : (-1 : Int32).toInt = -1 := by decide
theorem tp0 : (0 : Int32).toInt = 0 := by decide
theorem tp1 : (1 : Int32).toInt = 1 := by decide
theorem tp9 : (9 : Int32).toInt = 9 := by decide
theorem lay_gA (self : Nat → Option Nat → Int32 → fSt → Option (Unit × fSt)) (S : LSx z g k a ov od la o bw pw bg pg h) (d : Int32) : f_X7_layHanging self z (some g) (-9) (-1) d h = some ((), h) ∧ f_X7_layHanging self z (some g) 0 9 d h = some ((), h) :=
  ⟨lay_N self (ls_g15 S) (-1) d (by decide) 4095 0 (-9) (by decide) (by decide), lay_N self (ls_g15 S) 9 d (by decide) 4095 0 0 (by decide) (by decide)⟩
theorem lay_wA (self : Nat → Option Nat → Int32 → fSt → Option (Unit × fSt)) (S : LSx z g k a ov od la o bw pw bg pg h) (d : Int32) : f_X7_layHanging self z (some (z + 3)) (-9) (-1) d h = some ((), h) :=
  lay_C self (ls_w15 S) (ls_g10 S) (ls_g16 S) (-1) d (by decide) 4095 0 (-9) (by decide) (Or.inl (by decide)) (by decide)
/-- the node lies in the order -/
theorem lay_g (S : LSx z g k a ov od la o bw pw bg pg h) : ∃ h2, f_X7_lay 7 z (some g) 1 h = some ((), h2) ∧ LSx z g k a ov od (some g) (o + 1) bw pw la o h2 := by
  have S1 := ls_sg S la pg
  have S2 := ls_sg S1 la o
  have S3 := ls_sz S2 (some g) o
  have S4 := ls_sz S3 (some g) (o + 1)
  refine ⟨_, ?_, S4⟩
  simp +decide only [s1_X7_lay, f_X7_lay_L0, ls_oz S, (lay_gA (f_X7_lay 6) S (1 + 1)).1, ls_z8 S, ls_pg17 S, ls_z9 S1, ls_pg18 S1, ls_pz8 S2, ls_z9 S3, ls_pz9 S3, ls_oz S4, (lay_gA (f_X7_lay 6) S4 (1 + 1)).2, Option.bind_some, if_true, reduceIte]
theorem lay_wB (S : LSx z g k a ov od la o bw pw bg pg h) : ∃ h2, f_X7_layHanging (f_X7_lay 7) z (some (z + 3)) 0 9 1 h = some ((), h2) ∧ LSx z g k a ov od (some g) (o + 1) bw pw la o h2 := by
  obtain ⟨h2, e1, S2⟩ := lay_g S
  refine ⟨h2, ?_, S2⟩
  have q : f_X7_layHanging_L3 (f_X7_lay 7) 4095 (some z) (some (z + 3)) 9 1 1 h2 = some ((), h2) := lay_C (f_X7_lay 7) (ls_w15 S2) (ls_g10 S2) (ls_g16 S2) 9 1 (by decide) 4094 0 1 (by decide) (Or.inr (by decide)) (by decide)
  have n : ¬ (9 : Int32) < 0 := by decide
  have z1 : (0 : Int32) + 1 = 1 := by decide
  have st : ∀ k3 n, f_X7_layHanging_L15 (f_X7_lay 7) k3 (n + 1) (some z) (some (z + 3)) 9 1 0 none h2 = k3 (some z) (some (z + 3)) 9 1 (0 + 1) h2 := fun k3 n => rfl
  unfold f_X7_layHanging f_X7_layHanging_L0
  rw [s0_X7_layHanging_L3, if_neg n, ls_w15 S, Option.bind_some, sS_X7_layHanging_L15, ls_g10 S, Option.bind_some, if_pos rfl, ls_oz S, Option.bind_some, e1, Option.bind_some]
  unfold f_X7_layHanging_L38
  rw [ls_g16 S2, Option.bind_some, st, z1]
  exact q
theorem lay_all (S : LSx z g k a ov od la o bw pw bg pg h) : ∃ h2 bw2 pw2 bg2 pg2, f_X7_layOrder z h = some ((), h2) ∧ LSx z g k a ov od (some g) 2 bw2 pw2 bg2 pg2 h2 := by
  have S1 := ls_sz S none o
  have S2 := ls_sz S1 none 0
  have S3 := ls_sw S2 none pw
  have S4 := ls_sw S3 none 0
  have S5 := ls_sz S4 (some (z + 3)) 0
  have S6 := ls_sz S5 (some (z + 3)) 1
  obtain ⟨h7, e7, S7⟩ := lay_wB S6
  have z2 : (1 : Int32) + 1 = 2 := by decide
  rw [z2] at S7
  refine ⟨h7, _, _, _, _, ?_, S7⟩
  have z1 : (0 : Int32) + 1 = 1 := by decide
  simp +decide only [f_X7_layOrder, f_X7_layOrder_L0, ls_pz8 S, ls_pz9 S1, ls_z2 S2, ls_oz S2, s0_X7_lay, f_X7_lay_L0, z1, lay_wA (f_X7_lay 7) S2 1, ls_z8 S2, ls_pw17 S2, ls_z9 S3, ls_pw18 S3, ls_pz8 S4, ls_z9 S5, ls_pz9 S5, ls_oz S6, e7, Option.bind_some, if_true, reduceIte]
end LSS
end ADD
