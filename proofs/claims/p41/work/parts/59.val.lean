/-! Values between keys lie between them. No heap here. -/
section VAL
theorem tdiv_up {r f g : Int} (hr : 0 ≤ r) (hf : 0 ≤ f ∧ f ≤ g) (hg : 0 < g) : 0 ≤ (r * f).tdiv g ∧ (r * f).tdiv g ≤ r := by
  have h0 : 0 ≤ r * f := Int.mul_nonneg hr hf.1
  rw [Int.tdiv_eq_ediv_of_nonneg h0]
  refine ⟨Int.ediv_nonneg h0 (Int.le_of_lt hg), ?_⟩
  refine Int.ediv_le_of_le_mul hg ?_
  exact Int.mul_le_mul_of_nonneg_left hf.2 hr
theorem tdiv_dn {r f g : Int} (hr : r ≤ 0) (hf : 0 ≤ f ∧ f ≤ g) (hg : 0 < g) : r ≤ (r * f).tdiv g ∧ (r * f).tdiv g ≤ 0 := by
  have h := tdiv_up (r := -r) (by omega) hf hg
  rw [Int.neg_mul, Int.neg_tdiv] at h
  omega
theorem soft_rg {p g : Int} (h0 : 0 ≤ p) (h1 : p ≤ g) : 0 ≤ p * p * (3 * g - 2 * p) ∧ p * p * (3 * g - 2 * p) ≤ g * g * g := by
  have a : 0 ≤ p * p := Int.mul_nonneg h0 h0
  refine ⟨Int.mul_nonneg a (by omega), ?_⟩
  obtain ⟨d, rfl⟩ : ∃ d, g = p + d := ⟨g - p, by omega⟩
  have hd : 0 ≤ d := by omega
  have e1 : (p + d) * (p + d) * (p + d) - p * p * (3 * (p + d) - 2 * p) = d * d * (d + 3 * p) := by
    simp only [Int.mul_add, Int.add_mul, Int.mul_sub, Int.mul_assoc]
    have c1 : p * (p * d) = p * (d * p) := by rw [Int.mul_comm p d]
    have c2 : d * (p * p) = p * (d * p) := by rw [← Int.mul_assoc, Int.mul_comm d p, Int.mul_assoc, Int.mul_comm d p]
    have c3 : d * (p * d) = p * (d * d) := by rw [← Int.mul_assoc, Int.mul_comm d p, Int.mul_assoc]
    have c4 : d * (d * p) = p * (d * d) := by rw [Int.mul_comm d p, ← Int.mul_assoc, Int.mul_comm d p, Int.mul_assoc]
    have c5 : p * (p * (3 * p)) = 3 * (p * (p * p)) := by rw [Int.mul_left_comm p 3 p, Int.mul_left_comm p 3]
    have c6 : p * (p * (3 * d)) = 3 * (p * (d * p)) := by rw [Int.mul_left_comm p 3 d, Int.mul_left_comm p 3, Int.mul_comm p d]
    have c7 : p * (p * (2 * p)) = 2 * (p * (p * p)) := by rw [Int.mul_left_comm p 2 p, Int.mul_left_comm p 2]
    have c8 : d * (d * (3 * p)) = 3 * (p * (d * d)) := by rw [Int.mul_left_comm d 3 p, Int.mul_left_comm d 3, c4]
    omega
  have b : 0 ≤ d * d * (d + 3 * p) := Int.mul_nonneg (Int.mul_nonneg hd hd) (by omega)
  omega
theorem i64_div {a b : Int64} (h1 : -4000000000000000000 ≤ a.toInt.tdiv b.toInt) (h2 : a.toInt.tdiv b.toInt ≤ 4000000000000000000) : (a / b).toInt = a.toInt.tdiv b.toInt := by
  rw [Int64.toInt_div]
  exact Int.bmod_eq_of_le (by omega) (by omega)
/-- between two values -/
def btw (v w r : Int) : Prop := (v ≤ r ∧ r ≤ w) ∨ (w ≤ r ∧ r ≤ v)
theorem qMid_rg {e : Int32} {v rise past gap : Int64} (hv : -10000 ≤ v.toInt ∧ v.toInt ≤ 10000) (hr : -10000 ≤ rise.toInt ∧ rise.toInt ≤ 10000) (hp : 0 ≤ past.toInt ∧ past.toInt ≤ gap.toInt) (hg : 0 < gap.toInt ∧ gap.toInt ≤ 1000) : btw v.toInt (v.toInt + rise.toInt) (qMid e v rise past gap).toInt := by
  have e3 : (3 : Int64).toInt = 3 := by decide
  have e2 : (2 : Int64).toInt = 2 := by decide
  have key : ∀ q : Int, (0 ≤ rise.toInt → 0 ≤ q ∧ q ≤ rise.toInt) → (rise.toInt ≤ 0 → rise.toInt ≤ q ∧ q ≤ 0) → btw v.toInt (v.toInt + rise.toInt) (v.toInt + q) ∧ -10000 ≤ q ∧ q ≤ 10000 := by
    intro q h1 h2
    unfold btw
    omega
  unfold qMid
  by_cases q : e = 1
  · rw [if_pos q]
    have m1 := mul_rg hr (show -1000 ≤ past.toInt ∧ past.toInt ≤ 1000 by omega) (by decide) (by decide)
    have a1 : (rise * past).toInt = rise.toInt * past.toInt := i64_mul (by omega) (by omega)
    obtain ⟨k1, k2, k3⟩ := key ((rise.toInt * past.toInt).tdiv gap.toInt) (fun z => tdiv_up z hp hg.1) (fun z => tdiv_dn z hp hg.1)
    have a2 : (rise * past / gap).toInt = (rise.toInt * past.toInt).tdiv gap.toInt := by
      rw [i64_div (by rw [a1]; omega) (by rw [a1]; omega), a1]
    rw [i64_add (by rw [a2]; omega) (by rw [a2]; omega), a2]
    exact k1
  · rw [if_neg q]
    have p1 : -1000 ≤ past.toInt ∧ past.toInt ≤ 1000 := by omega
    have g1 : -1000 ≤ gap.toInt ∧ gap.toInt ≤ 1000 := by omega
    have m1 := mul_rg hr p1 (by decide) (by decide)
    have a1 : (rise * past).toInt = rise.toInt * past.toInt := i64_mul (by omega) (by omega)
    have m2 := mul_rg m1 p1 (by decide) (by decide)
    have a2 : (rise * past * past).toInt = rise.toInt * past.toInt * past.toInt := by
      rw [i64_mul (by rw [a1]; omega) (by rw [a1]; omega), a1]
    have b1 : (3 * gap).toInt = 3 * gap.toInt := by rw [i64_mul (by rw [e3]; omega) (by rw [e3]; omega), e3]
    have b2 : (2 * past).toInt = 2 * past.toInt := by rw [i64_mul (by rw [e2]; omega) (by rw [e2]; omega), e2]
    have b3 : (3 * gap - 2 * past).toInt = 3 * gap.toInt - 2 * past.toInt := by rw [i64_sub (by rw [b1, b2]; omega) (by rw [b1, b2]; omega), b1, b2]
    have m3 := mul_rg m2 (show -5000 ≤ 3 * gap.toInt - 2 * past.toInt ∧ 3 * gap.toInt - 2 * past.toInt ≤ 5000 by omega) (by decide) (by decide)
    have a3 : (rise * past * past * (3 * gap - 2 * past)).toInt = rise.toInt * past.toInt * past.toInt * (3 * gap.toInt - 2 * past.toInt) := by
      rw [i64_mul (by rw [a2, b3]; omega) (by rw [a2, b3]; omega), a2, b3]
    have n1 := mul_rg g1 g1 (by decide) (by decide)
    have c1 : (gap * gap).toInt = gap.toInt * gap.toInt := i64_mul (by omega) (by omega)
    have n2 := mul_rg n1 g1 (by decide) (by decide)
    have c2 : (gap * gap * gap).toInt = gap.toInt * gap.toInt * gap.toInt := by
      rw [i64_mul (by rw [c1]; omega) (by rw [c1]; omega), c1]
    have g3 : 0 < gap.toInt * gap.toInt * gap.toInt := Int.mul_pos (Int.mul_pos hg.1 hg.1) hg.1
    have f3 := soft_rg hp.1 hp.2
    have as : rise.toInt * past.toInt * past.toInt * (3 * gap.toInt - 2 * past.toInt) = rise.toInt * (past.toInt * past.toInt * (3 * gap.toInt - 2 * past.toInt)) := by
      rw [Int.mul_assoc rise.toInt, Int.mul_assoc rise.toInt]
    obtain ⟨k1, k2, k3⟩ := key ((rise.toInt * (past.toInt * past.toInt * (3 * gap.toInt - 2 * past.toInt))).tdiv (gap.toInt * gap.toInt * gap.toInt)) (fun z => tdiv_up z f3 g3) (fun z => tdiv_dn z f3 g3)
    have a4 : (rise * past * past * (3 * gap - 2 * past) / (gap * gap * gap)).toInt = (rise.toInt * (past.toInt * past.toInt * (3 * gap.toInt - 2 * past.toInt))).tdiv (gap.toInt * gap.toInt * gap.toInt) := by
      rw [i64_div (by rw [a3, c2, as]; omega) (by rw [a3, c2, as]; omega), a3, c2, as]
    rw [i64_add (by rw [a4]; omega) (by rw [a4]; omega), a4]
    exact k1
end VAL
