section FH12
theorem nZ {x : Int32} (h : x = 0 ∨ x = 1) : narrow .boolean (.int x) = .int x := by rcases h with rfl | rfl <;> rfl
theorem fZ9 {x : Int32} (h : x = 0 ∨ x = 1) : fits .boolean (.int x) = true := by rcases h with rfl | rfl <;> rfl
theorem nR (n : String) (r : Option Nat) : narrow (.object n) (va_rf r) = va_rf r := by cases r <;> rfl
theorem fR (n : String) (r : Option Nat) : fits (.object n) (va_rf r) = true := by cases r <;> rfl
theorem nAr (t : FieldType) (r : Option Nat) : narrow (.array t) (va_rf r) = va_rf r := by cases r <;> rfl
theorem fAr (t : FieldType) (r : Option Nat) : fits (.array t) (va_rf r) = true := by cases r <;> rfl
def fputZ (h : fSt) (r : Option Nat) (ci k : Nat) (x : Int32) : Option fSt := if x = 0 ∨ x = 1 then fput h r ci k (.int x) else none
theorem fputZ_inv {h h2 : fSt} {r : Option Nat} {ci k : Nat} {x : Int32} (h1 : fputZ h r ci k x = some h2) : (x = 0 ∨ x = 1) ∧ fput h r ci k (.int x) = some h2 := by
  unfold fputZ at h1
  by_cases z : x = 0 ∨ x = 1
  · rw [if_pos z] at h1; exact ⟨z, h1⟩
  · rw [if_neg z] at h1; cases h1
theorem fln {P : Nat × Value → Bool} : ([] : List (Nat × Value)).filter P = [] := rfl
theorem flk {P : Nat × Value → Bool} {q : Nat × Value} {l l2 : List (Nat × Value)} (h : P q = true) (t : l.filter P = l2) : (q :: l).filter P = q :: l2 := by rw [List.filter_cons_of_pos h, t]
theorem fld {P : Nat × Value → Bool} {q : Nat × Value} {l l2 : List (Nat × Value)} (h : P q = false) (t : l.filter P = l2) : (q :: l).filter P = l2 := by rw [List.filter_cons_of_neg (by rw [h]; exact Bool.false_ne_true), t]
theorem adj1 (i : Nat) (r : Option Nat) : (fun q : Nat × Value => !(q.1 == i + 1) && !(q.1 + 1 == i + 1 && q.2.category == 2)) (i, va_rf r) = true := by simp [va_rf_cat]
theorem adj2 (i : Nat) (r : Option Nat) : (fun q : Nat × Value => !(q.1 == i + 1) && (!(q.1 == i + 1 + 1) && !(q.1 + 1 == i + 1 && q.2.category == 2))) (i, va_rf r) = true := by simp [va_rf_cat, show ¬ i = i + 1 + 1 by omega]
theorem cat_le (v : Value) : v.category ≤ 2 := by rcases lv_cat v with h | h <;> rw [h] <;> decide
theorem cat_sum (l : List Value) : (l.map fun v => v.category).sum ≤ 2 * l.length := by
  induction l with
  | nil => exact Nat.le_refl _
  | cons v l ih =>
    have h := cat_le v
    simp only [List.map_cons, List.sum_cons, List.length_cons]
    omega
theorem cat8 (l : List Value) (h : l.length ≤ 4) : (l.map fun v => v.category).sum ≤ 8 := by
  have h1 := cat_sum l
  omega
theorem catL (l : List Value) (k : Nat) {n : Nat} (h : l.length ≤ 4) (h2 : 8 + k ≤ n) : (l.map fun v => v.category).sum + k ≤ n := by
  have h1 := cat8 l h
  omega
theorem newa_b {n : Nat} {k : Nat} (h : ¬ 67000000 < n) (hk : k ≤ 8) : n * k ≤ 536870912 := by
  have h1 : n ≤ 67000000 := Nat.le_of_not_lt h
  have h2 := Nat.mul_le_mul h1 hk
  omega
theorem all1 {α : Type} {P : α → Prop} {x : α} (h : P x) : ∀ z ∈ [x], P z := fun z hz => by rw [List.mem_singleton.mp hz]; exact h
theorem all2 {α : Type} {P : α → Prop} {x y : α} (h : P x) (k : P y) : ∀ z ∈ [x, y], P z := fun z hz => (List.mem_cons.mp hz).elim (fun e => by rw [e]; exact h) (all1 k z)
def rI (x : Int32 ⊕ Nat) : Option Value ⊕ Nat := match x with
  | .inl v => .inl (some (.int v))
  | .inr k => .inr k
def rJ (x : Int64 ⊕ Nat) : Option Value ⊕ Nat := match x with
  | .inl v => .inl (some (.long v))
  | .inr k => .inr k
def rD (x : UInt64 ⊕ Nat) : Option Value ⊕ Nat := match x with
  | .inl v => .inl (some (.double v))
  | .inr k => .inr k
def rR (x : Option Nat ⊕ Nat) : Option Value ⊕ Nat := match x with
  | .inl v => .inl (some (va_rf v))
  | .inr k => .inr k
def rV (x : Unit ⊕ Nat) : Option Value ⊕ Nat := match x with
  | .inl _ => .inl none
  | .inr k => .inr k
end FH12
