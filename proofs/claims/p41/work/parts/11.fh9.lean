section FH12
theorem nZ {x : Int32} (h : x = 0 ∨ x = 1) : narrow .boolean (.int x) = .int x := by rcases h with rfl | rfl <;> rfl
theorem fZ9 {x : Int32} (h : x = 0 ∨ x = 1) : fits .boolean (.int x) = true := by rcases h with rfl | rfl <;> rfl
theorem nR (n : String) (r : Option Nat) : narrow (.object n) (va_rf r) = va_rf r := by cases r <;> rfl
theorem fR (n : String) (r : Option Nat) : fits (.object n) (va_rf r) = true := by cases r <;> rfl
theorem nAr (t : FieldType) (r : Option Nat) : narrow (.array t) (va_rf r) = va_rf r := by cases r <;> rfl
theorem fAr (t : FieldType) (r : Option Nat) : fits (.array t) (va_rf r) = true := by cases r <;> rfl
def fputZ (h : fSt) (r : Option Nat) (ci k : Nat) (x : Int32) : Option fSt := if x = 0 ∨ x = 1 then fput h r ci k (.int x) else none
theorem fputZ_inv {h h2 : fSt} {r : Option Nat} {ci k : Nat} {x : Int32} (h1 : fputZ h r ci k x = some h2) : (x = 0 ∨ x = 1) ∧ fput h r ci k (.int x) = some h2 := by
  unfold fputZ at h1
  by_cases z : x = 0 ∨ x = 1
  · rw [if_pos z] at h1; exact ⟨z, h1⟩
  · rw [if_neg z] at h1; cases h1
theorem fln {P : Nat × Value → Bool} : ([] : List (Nat × Value)).filter P = [] := rfl
theorem flk {P : Nat × Value → Bool} {q : Nat × Value} {l l2 : List (Nat × Value)} (h : P q = true) (t : l.filter P = l2) : (q :: l).filter P = q :: l2 := by rw [List.filter_cons_of_pos h, t]
theorem fld {P : Nat × Value → Bool} {q : Nat × Value} {l l2 : List (Nat × Value)} (h : P q = false) (t : l.filter P = l2) : (q :: l).filter P = l2 := by rw [List.filter_cons_of_neg (by rw [h]; exact Bool.false_ne_true), t]
theorem adj1 (i : Nat) (r : Option Nat) : (fun q : Nat × Value => !(q.1 == i + 1) && !(q.1 + 1 == i + 1 && q.2.category == 2)) (i, va_rf r) = true := by simp [va_rf_cat]
theorem adj2 (i : Nat) (r : Option Nat) : (fun q : Nat × Value => !(q.1 == i + 1) && (!(q.1 == i + 1 + 1) && !(q.1 + 1 == i + 1 && q.2.category == 2))) (i, va_rf r) = true := by simp [va_rf_cat, show ¬ i = i + 1 + 1 by omega]
theorem cat_le (v : Value) : v.category ≤ 2 := by rcases lv_cat v with h | h <;> rw [h] <;> decide
theorem cat_sum (l : List Value) : (l.map fun v => v.category).sum ≤ 2 * l.length := by
  induction l with
  | nil => exact Nat.le_refl _
  | cons v l ih =>
    have h := cat_le v
    simp only [List.map_cons, List.sum_cons, List.length_cons]
    omega
theorem cat8 (l : List Value) (h : l.length ≤ 4) : (l.map fun v => v.category).sum ≤ 8 := by
  have h1 := cat_sum l
  omega
theorem catL (l : List Value) (k : Nat) {n : Nat} (h : l.length ≤ 4) (h2 : 8 + k ≤ n) : (l.map fun v => v.category).sum + k ≤ n := by
  have h1 := cat8 l h
  omega
theorem newa_b {n : Nat} {k : Nat} (h : ¬ 67000000 < n) (hk : k ≤ 8) : n * k ≤ 536870912 := by
  have h1 : n ≤ 67000000 := Nat.le_of_not_lt h
  have h2 := Nat.mul_le_mul h1 hk
  omega
theorem all1 {α : Type} {P : α → Prop} {x : α} (h : P x) : ∀ z ∈ [x], P z := fun z hz => by rw [List.mem_singleton.mp hz]; exact h
theorem all2 {α : Type} {P : α → Prop} {x y : α} (h : P x) (k : P y) : ∀ z ∈ [x, y], P z := fun z hz => (List.mem_cons.mp hz).elim (fun e => by rw [e]; exact h) (all1 k z)
def rI (x : Int32 ⊕ Nat) : Option Value ⊕ Nat := match x with
  | .inl v => .inl (some (.int v))
  | .inr k => .inr k
def rJ (x : Int64 ⊕ Nat) : Option Value ⊕ Nat := match x with
  | .inl v => .inl (some (.long v))
  | .inr k => .inr k
def rD (x : UInt64 ⊕ Nat) : Option Value ⊕ Nat := match x with
  | .inl v => .inl (some (.double v))
  | .inr k => .inr k
def rR (x : Option Nat ⊕ Nat) : Option Value ⊕ Nat := match x with
  | .inl v => .inl (some (va_rf v))
  | .inr k => .inr k
def rV (x : Unit ⊕ Nat) : Option Value ⊕ Nat := match x with
  | .inl _ => .inl none
  | .inr k => .inr k
theorem swG {x : Int32} {n : Nat} (hn : n < 2 ^ 31) (h : ∀ k : Nat, k < n → ¬ x = nI k) : x.toInt < 0 ∨ (n : Int) - 1 < x.toInt := by
  by_cases h0 : x < 0
  · exact Or.inl (by simpa using Int32.lt_iff_toInt_lt.mp h0)
  · obtain ⟨j, hj, rfl⟩ := nI_of h0
    have h1 : ¬ j < n := fun q => h j q rfl
    rw [nI_toInt hj]
    exact Or.inr (by omega)
theorem swOut3 {x : Int32} (c0 : ¬ x = (0 : Int32)) (c1 : ¬ x = (1 : Int32)) (c2 : ¬ x = (2 : Int32)) : x.toInt < 0 ∨ (2 : Int) < x.toInt := by
  have h := swG (x := x) (n := 3) (by decide) (fun k hk => match k, hk with
    | 0, _ => c0
    | 1, _ => c1
    | 2, _ => c2
    | k + 3, hk => absurd hk (by omega))
  omega
theorem swOut4 {x : Int32} (c0 : ¬ x = (0 : Int32)) (c1 : ¬ x = (1 : Int32)) (c2 : ¬ x = (2 : Int32)) (c3 : ¬ x = (3 : Int32)) : x.toInt < 0 ∨ (3 : Int) < x.toInt := by
  have h := swG (x := x) (n := 4) (by decide) (fun k hk => match k, hk with
    | 0, _ => c0
    | 1, _ => c1
    | 2, _ => c2
    | 3, _ => c3
    | k + 4, hk => absurd hk (by omega))
  omega
theorem swOut38 {x : Int32} (c0 : ¬ x = (0 : Int32)) (c1 : ¬ x = (1 : Int32)) (c2 : ¬ x = (2 : Int32)) (c3 : ¬ x = (3 : Int32)) (c4 : ¬ x = (4 : Int32)) (c5 : ¬ x = (5 : Int32)) (c6 : ¬ x = (6 : Int32)) (c7 : ¬ x = (7 : Int32)) (c8 : ¬ x = (8 : Int32)) (c9 : ¬ x = (9 : Int32)) (c10 : ¬ x = (10 : Int32)) (c11 : ¬ x = (11 : Int32)) (c12 : ¬ x = (12 : Int32)) (c13 : ¬ x = (13 : Int32)) (c14 : ¬ x = (14 : Int32)) (c15 : ¬ x = (15 : Int32)) (c16 : ¬ x = (16 : Int32)) (c17 : ¬ x = (17 : Int32)) (c18 : ¬ x = (18 : Int32)) (c19 : ¬ x = (19 : Int32)) (c20 : ¬ x = (20 : Int32)) (c21 : ¬ x = (21 : Int32)) (c22 : ¬ x = (22 : Int32)) (c23 : ¬ x = (23 : Int32)) (c24 : ¬ x = (24 : Int32)) (c25 : ¬ x = (25 : Int32)) (c26 : ¬ x = (26 : Int32)) (c27 : ¬ x = (27 : Int32)) (c28 : ¬ x = (28 : Int32)) (c29 : ¬ x = (29 : Int32)) (c30 : ¬ x = (30 : Int32)) (c31 : ¬ x = (31 : Int32)) (c32 : ¬ x = (32 : Int32)) (c33 : ¬ x = (33 : Int32)) (c34 : ¬ x = (34 : Int32)) (c35 : ¬ x = (35 : Int32)) (c36 : ¬ x = (36 : Int32)) (c37 : ¬ x = (37 : Int32)) : x.toInt < 0 ∨ (37 : Int) < x.toInt := by
  have h := swG (x := x) (n := 38) (by decide) (fun k hk => match k, hk with
    | 0, _ => c0
    | 1, _ => c1
    | 2, _ => c2
    | 3, _ => c3
    | 4, _ => c4
    | 5, _ => c5
    | 6, _ => c6
    | 7, _ => c7
    | 8, _ => c8
    | 9, _ => c9
    | 10, _ => c10
    | 11, _ => c11
    | 12, _ => c12
    | 13, _ => c13
    | 14, _ => c14
    | 15, _ => c15
    | 16, _ => c16
    | 17, _ => c17
    | 18, _ => c18
    | 19, _ => c19
    | 20, _ => c20
    | 21, _ => c21
    | 22, _ => c22
    | 23, _ => c23
    | 24, _ => c24
    | 25, _ => c25
    | 26, _ => c26
    | 27, _ => c27
    | 28, _ => c28
    | 29, _ => c29
    | 30, _ => c30
    | 31, _ => c31
    | 32, _ => c32
    | 33, _ => c33
    | 34, _ => c34
    | 35, _ => c35
    | 36, _ => c36
    | 37, _ => c37
    | k + 38, hk => absurd hk (by omega))
  omega
end FH12
