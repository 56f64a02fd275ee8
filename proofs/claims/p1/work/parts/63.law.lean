/-! The law on the fresh object. -/
section LAW6
variable {z : Nat} {ov : Int64} {od : UInt64} {h : fSt}
theorem a01 : (0 : Int32) + 1 = 1 := by decide
theorem a02 : (0 : Int32) + 2 = 2 := by decide
theorem a03 : (0 : Int32) + 3 = 3 := by decide
theorem a04 : (0 : Int32) + 4 = 4 := by decide
theorem a05 : (0 : Int32) + 5 = 5 := by decide
theorem a06 : (0 : Int32) + 6 = 6 := by decide
theorem nc2 : (2 : Int32).toNatClampNeg = 2 := by decide
theorem nc4 : (4 : Int32).toNatClampNeg = 4 := by decide
theorem nc5 : (5 : Int32).toNatClampNeg = 5 := by decide
theorem k_fin (xs : Nat → Int32) (a1 a2 a3 a4 : Option Nat) (h : fSt) : f_L_law_L28 6 xs 4095 a1 a2 a3 a4 6 h = some (1, h) := by
  rw [s1_L_law_L28, if_pos (by decide)]
theorem lc_add (F : XF z h) (G : MG z 0 0 0 ov od h) (R : RM (999 + 1) h) (xs : Nat → Int32) : ∃ h2, f_L_law_L212 6 xs (f_L_law_L28 6 xs 4095) (some z) (some (z + 15)) (some (z + 37)) (some (z + 38)) 0 h = some ((1 : Int32), h2) := by
  obtain ⟨k, v, h1, h2, e1, e2, e3, e4, e5, e6⟩ := pr_add F G R (xs 1) (xs 2) (xs 3) (xs 4)
  refine ⟨h2, ?_⟩
  by_cases q : k = 0
  · subst q
    have e6 := e6 rfl
    simp +decide only [f_L_law_L212, f_L_law_L301, f_L_law_L2859, a01, a02, a03, a04, a05, a06, nc0, nc1, nc2, nc3, nc4, nc5, k_fin, Option.bind_some, Sum.elim_inl, reduceIte, if_true, if_false, e1, e2, e3, e4, e5, e6]
  · simp +decide only [f_L_law_L212, f_L_law_L301, f_L_law_L2859, a01, a02, a03, a04, a05, a06, nc0, nc1, nc2, nc3, nc4, nc5, k_fin, Option.bind_some, Sum.elim_inl, reduceIte, if_true, if_false, e1, e2, e3, e4, e5, if_neg q]
theorem lc_remove (F : XF z h) (G : MG z 0 0 0 ov od h) (R : RM (999 + 1) h) (xs : Nat → Int32) : ∃ h2, f_L_law_L304 6 xs (f_L_law_L28 6 xs 4095) (some z) (some (z + 15)) (some (z + 37)) (some (z + 38)) 0 h = some ((1 : Int32), h2) := by
  obtain ⟨k, v, h1, h2, e1, e2, e3, e4, e5, e6⟩ := pr_remove F G R (xs 1)
  refine ⟨h2, ?_⟩
  by_cases q : k = 0
  · subst q
    have e6 := e6 rfl
    simp +decide only [f_L_law_L304, f_L_law_L357, f_L_law_L2859, a01, a02, a03, a04, a05, a06, nc0, nc1, nc2, nc3, nc4, nc5, k_fin, Option.bind_some, Sum.elim_inl, reduceIte, if_true, if_false, e1, e2, e3, e4, e5, e6]
  · simp +decide only [f_L_law_L304, f_L_law_L357, f_L_law_L2859, a01, a02, a03, a04, a05, a06, nc0, nc1, nc2, nc3, nc4, nc5, k_fin, Option.bind_some, Sum.elim_inl, reduceIte, if_true, if_false, e1, e2, e3, e4, e5, if_neg q]
theorem lc_hang (F : XF z h) (G : MG z 0 0 0 ov od h) (R : RM (999 + 1) h) (xs : Nat → Int32) : ∃ h2, f_L_law_L360 6 xs (f_L_law_L28 6 xs 4095) (some z) (some (z + 15)) (some (z + 37)) (some (z + 38)) 0 h = some ((1 : Int32), h2) := by
  obtain ⟨k, v, h1, h2, e1, e2, e3, e4, e5, e6⟩ := pr_hang F G R (xs 1) (xs 2)
  refine ⟨h2, ?_⟩
  by_cases q : k = 0
  · subst q
    have e6 := e6 rfl
    simp +decide only [f_L_law_L360, f_L_law_L425, f_L_law_L2859, a01, a02, a03, a04, a05, a06, nc0, nc1, nc2, nc3, nc4, nc5, k_fin, Option.bind_some, Sum.elim_inl, reduceIte, if_true, if_false, e1, e2, e3, e4, e5, e6]
  · simp +decide only [f_L_law_L360, f_L_law_L425, f_L_law_L2859, a01, a02, a03, a04, a05, a06, nc0, nc1, nc2, nc3, nc4, nc5, k_fin, Option.bind_some, Sum.elim_inl, reduceIte, if_true, if_false, e1, e2, e3, e4, e5, if_neg q]
theorem lc_move (F : XF z h) (G : MG z 0 0 0 ov od h) (R : RM (999 + 1) h) (xs : Nat → Int32) : ∃ h2, f_L_law_L428 6 xs (f_L_law_L28 6 xs 4095) (some z) (some (z + 15)) (some (z + 37)) (some (z + 38)) 0 h = some ((1 : Int32), h2) := by
  obtain ⟨k, v, h1, h2, e1, e2, e3, e4, e5, e6⟩ := pr_move F G R (xs 1) (xs 2) (xs 3)
  refine ⟨h2, ?_⟩
  by_cases q : k = 0
  · subst q
    have e6 := e6 rfl
    simp +decide only [f_L_law_L428, f_L_law_L505, f_L_law_L2859, a01, a02, a03, a04, a05, a06, nc0, nc1, nc2, nc3, nc4, nc5, k_fin, Option.bind_some, Sum.elim_inl, reduceIte, if_true, if_false, e1, e2, e3, e4, e5, e6]
  · simp +decide only [f_L_law_L428, f_L_law_L505, f_L_law_L2859, a01, a02, a03, a04, a05, a06, nc0, nc1, nc2, nc3, nc4, nc5, k_fin, Option.bind_some, Sum.elim_inl, reduceIte, if_true, if_false, e1, e2, e3, e4, e5, if_neg q]
theorem lc_scale (F : XF z h) (G : MG z 0 0 0 ov od h) (R : RM (999 + 1) h) (xs : Nat → Int32) : ∃ h2, f_L_law_L508 6 xs (f_L_law_L28 6 xs 4095) (some z) (some (z + 15)) (some (z + 37)) (some (z + 38)) 0 h = some ((1 : Int32), h2) := by
  obtain ⟨k, v, h1, h2, e1, e2, e3, e4, e5, e6⟩ := pr_scale F G R (xs 1) (xs 2) (xs 3)
  refine ⟨h2, ?_⟩
  by_cases q : k = 0
  · subst q
    have e6 := e6 rfl
    simp +decide only [f_L_law_L508, f_L_law_L585, f_L_law_L2859, a01, a02, a03, a04, a05, a06, nc0, nc1, nc2, nc3, nc4, nc5, k_fin, Option.bind_some, Sum.elim_inl, reduceIte, if_true, if_false, e1, e2, e3, e4, e5, e6]
  · simp +decide only [f_L_law_L508, f_L_law_L585, f_L_law_L2859, a01, a02, a03, a04, a05, a06, nc0, nc1, nc2, nc3, nc4, nc5, k_fin, Option.bind_some, Sum.elim_inl, reduceIte, if_true, if_false, e1, e2, e3, e4, e5, if_neg q]
theorem lc_turn (F : XF z h) (G : MG z 0 0 0 ov od h) (R : RM (999 + 1) h) (xs : Nat → Int32) : ∃ h2, f_L_law_L588 6 xs (f_L_law_L28 6 xs 4095) (some z) (some (z + 15)) (some (z + 37)) (some (z + 38)) 0 h = some ((1 : Int32), h2) := by
  by_cases qb : xs 3 = 0
  · obtain ⟨k, v, h1, h2, e1, e2, e3, e4, e5, e6⟩ := pr_turn F G R (xs 1) (xs 2) 0
    refine ⟨h2, ?_⟩
    by_cases q : k = 0
    · subst q
      have e6 := e6 rfl
      simp +decide only [f_L_law_L588, f_L_law_L615, f_L_law_L648, f_L_law_L681, f_L_law_L2859, if_pos qb, a01, a02, a03, a04, a05, a06, nc0, nc1, nc2, nc3, nc4, nc5, k_fin, Option.bind_some, Sum.elim_inl, reduceIte, if_true, if_false, e1, e2, e3, e4, e5, e6]
    · simp +decide only [f_L_law_L588, f_L_law_L615, f_L_law_L648, f_L_law_L681, f_L_law_L2859, if_pos qb, a01, a02, a03, a04, a05, a06, nc0, nc1, nc2, nc3, nc4, nc5, k_fin, Option.bind_some, Sum.elim_inl, reduceIte, if_true, if_false, e1, e2, e3, e4, e5, if_neg q]
  · obtain ⟨k, v, h1, h2, e1, e2, e3, e4, e5, e6⟩ := pr_turn F G R (xs 1) (xs 2) 1
    refine ⟨h2, ?_⟩
    by_cases q : k = 0
    · subst q
      have e6 := e6 rfl
      simp +decide only [f_L_law_L588, f_L_law_L615, f_L_law_L648, f_L_law_L681, f_L_law_L2859, if_neg qb, a01, a02, a03, a04, a05, a06, nc0, nc1, nc2, nc3, nc4, nc5, k_fin, Option.bind_some, Sum.elim_inl, reduceIte, if_true, if_false, e1, e2, e3, e4, e5, e6]
    · simp +decide only [f_L_law_L588, f_L_law_L615, f_L_law_L648, f_L_law_L681, f_L_law_L2859, if_neg qb, a01, a02, a03, a04, a05, a06, nc0, nc1, nc2, nc3, nc4, nc5, k_fin, Option.bind_some, Sum.elim_inl, reduceIte, if_true, if_false, e1, e2, e3, e4, e5, if_neg q]
theorem lc_look (F : XF z h) (G : MG z 0 0 0 ov od h) (R : RM (999 + 1) h) (xs : Nat → Int32) : ∃ h2, f_L_law_L684 6 xs (f_L_law_L28 6 xs 4095) (some z) (some (z + 15)) (some (z + 37)) (some (z + 38)) 0 h = some ((1 : Int32), h2) := by
  by_cases qb : xs 4 = 0
  · obtain ⟨k, v, h1, h2, e1, e2, e3, e4, e5, e6⟩ := pr_look F G R (xs 1) (xs 2) (xs 3) 0
    refine ⟨h2, ?_⟩
    by_cases q : k = 0
    · subst q
      have e6 := e6 rfl
      simp +decide only [f_L_law_L684, f_L_law_L717, f_L_law_L756, f_L_law_L789, f_L_law_L2859, if_pos qb, a01, a02, a03, a04, a05, a06, nc0, nc1, nc2, nc3, nc4, nc5, k_fin, Option.bind_some, Sum.elim_inl, reduceIte, if_true, if_false, e1, e2, e3, e4, e5, e6]
    · simp +decide only [f_L_law_L684, f_L_law_L717, f_L_law_L756, f_L_law_L789, f_L_law_L2859, if_pos qb, a01, a02, a03, a04, a05, a06, nc0, nc1, nc2, nc3, nc4, nc5, k_fin, Option.bind_some, Sum.elim_inl, reduceIte, if_true, if_false, e1, e2, e3, e4, e5, if_neg q]
  · obtain ⟨k, v, h1, h2, e1, e2, e3, e4, e5, e6⟩ := pr_look F G R (xs 1) (xs 2) (xs 3) 1
    refine ⟨h2, ?_⟩
    by_cases q : k = 0
    · subst q
      have e6 := e6 rfl
      simp +decide only [f_L_law_L684, f_L_law_L717, f_L_law_L756, f_L_law_L789, f_L_law_L2859, if_neg qb, a01, a02, a03, a04, a05, a06, nc0, nc1, nc2, nc3, nc4, nc5, k_fin, Option.bind_some, Sum.elim_inl, reduceIte, if_true, if_false, e1, e2, e3, e4, e5, e6]
    · simp +decide only [f_L_law_L684, f_L_law_L717, f_L_law_L756, f_L_law_L789, f_L_law_L2859, if_neg qb, a01, a02, a03, a04, a05, a06, nc0, nc1, nc2, nc3, nc4, nc5, k_fin, Option.bind_some, Sum.elim_inl, reduceIte, if_true, if_false, e1, e2, e3, e4, e5, if_neg q]
theorem lc_cut (F : XF z h) (G : MG z 0 0 0 ov od h) (R : RM (999 + 1) h) (xs : Nat → Int32) : ∃ h2, f_L_law_L792 6 xs (f_L_law_L28 6 xs 4095) (some z) (some (z + 15)) (some (z + 37)) (some (z + 38)) 0 h = some ((1 : Int32), h2) := by
  obtain ⟨k, v, h1, h2, e1, e2, e3, e4, e5, e6⟩ := pr_cut F G R (xs 1) (xs 2) (xs 3) (xs 4) (xs 5)
  refine ⟨h2, ?_⟩
  by_cases q : k = 0
  · subst q
    have e6 := e6 rfl
    unfold encB at e6
    by_cases qv : v = 0
    · rw [if_pos qv] at e6
      simp +decide only [f_L_law_L792, f_L_law_L900, f_L_law_L2859, f_L_law_L894, a01, a02, a03, a04, a05, a06, nc0, nc1, nc2, nc3, nc4, nc5, k_fin, Option.bind_some, Sum.elim_inl, reduceIte, if_true, if_false, e1, e2, e3, e4, e5, e6, if_pos qv]
    · rw [if_neg qv] at e6
      simp +decide only [f_L_law_L792, f_L_law_L900, f_L_law_L2859, f_L_law_L894, a01, a02, a03, a04, a05, a06, nc0, nc1, nc2, nc3, nc4, nc5, k_fin, Option.bind_some, Sum.elim_inl, reduceIte, if_true, if_false, e1, e2, e3, e4, e5, e6, if_neg qv]
  · simp +decide only [f_L_law_L792, f_L_law_L900, f_L_law_L2859, f_L_law_L894, a01, a02, a03, a04, a05, a06, nc0, nc1, nc2, nc3, nc4, nc5, k_fin, Option.bind_some, Sum.elim_inl, reduceIte, if_true, if_false, e1, e2, e3, e4, e5, if_neg q]
theorem lc_uncut (F : XF z h) (G : MG z 0 0 0 ov od h) (R : RM (999 + 1) h) (xs : Nat → Int32) : ∃ h2, f_L_law_L903 6 xs (f_L_law_L28 6 xs 4095) (some z) (some (z + 15)) (some (z + 37)) (some (z + 38)) 0 h = some ((1 : Int32), h2) := by
  obtain ⟨k, v, h1, h2, e1, e2, e3, e4, e5, e6⟩ := pr_uncut F G R (xs 1)
  refine ⟨h2, ?_⟩
  by_cases q : k = 0
  · subst q
    have e6 := e6 rfl
    unfold encB at e6
    by_cases qv : v = 0
    · rw [if_pos qv] at e6
      simp +decide only [f_L_law_L903, f_L_law_L963, f_L_law_L2859, f_L_law_L957, a01, a02, a03, a04, a05, a06, nc0, nc1, nc2, nc3, nc4, nc5, k_fin, Option.bind_some, Sum.elim_inl, reduceIte, if_true, if_false, e1, e2, e3, e4, e5, e6, if_pos qv]
    · rw [if_neg qv] at e6
      simp +decide only [f_L_law_L903, f_L_law_L963, f_L_law_L2859, f_L_law_L957, a01, a02, a03, a04, a05, a06, nc0, nc1, nc2, nc3, nc4, nc5, k_fin, Option.bind_some, Sum.elim_inl, reduceIte, if_true, if_false, e1, e2, e3, e4, e5, e6, if_neg qv]
  · simp +decide only [f_L_law_L903, f_L_law_L963, f_L_law_L2859, f_L_law_L957, a01, a02, a03, a04, a05, a06, nc0, nc1, nc2, nc3, nc4, nc5, k_fin, Option.bind_some, Sum.elim_inl, reduceIte, if_true, if_false, e1, e2, e3, e4, e5, if_neg q]
theorem lc_added (F : XF z h) (G : MG z 0 0 0 ov od h) (R : RM (999 + 1) h) (xs : Nat → Int32) : ∃ h2, f_L_law_L966 6 xs (f_L_law_L28 6 xs 4095) (some z) (some (z + 15)) (some (z + 37)) (some (z + 38)) 0 h = some ((1 : Int32), h2) := by
  obtain ⟨v, h1, h2, e1, e2, e3⟩ := pr_added F G
  refine ⟨h2, ?_⟩
  simp +decide only [f_L_law_L966, f_L_law_L2859, a01, a02, a03, a04, a05, a06, nc0, nc1, nc2, nc3, nc4, nc5, k_fin, Option.bind_some, Sum.elim_inl, reduceIte, if_true, if_false, xo0 F, e1, e2, e3]
theorem lc_nodes (F : XF z h) (G : MG z 0 0 0 ov od h) (R : RM (999 + 1) h) (xs : Nat → Int32) : ∃ h2, f_L_law_L979 6 xs (f_L_law_L28 6 xs 4095) (some z) (some (z + 15)) (some (z + 37)) (some (z + 38)) 0 h = some ((1 : Int32), h2) := by
  obtain ⟨v, h1, h2, e1, e2, e3⟩ := pr_nodes F G
  refine ⟨h2, ?_⟩
  simp +decide only [f_L_law_L979, f_L_law_L2859, a01, a02, a03, a04, a05, a06, nc0, nc1, nc2, nc3, nc4, nc5, k_fin, Option.bind_some, Sum.elim_inl, reduceIte, if_true, if_false, xo0 F, e1, e2, e3]
theorem lc_parent (F : XF z h) (G : MG z 0 0 0 ov od h) (R : RM (999 + 1) h) (xs : Nat → Int32) : ∃ h2, f_L_law_L992 6 xs (f_L_law_L28 6 xs 4095) (some z) (some (z + 15)) (some (z + 37)) (some (z + 38)) 0 h = some ((1 : Int32), h2) := by
  obtain ⟨k, v, h1, h2, e1, e2, e3, e4, e5, e6⟩ := pr_parent F G R (xs 1)
  refine ⟨h2, ?_⟩
  by_cases q : k = 0
  · subst q
    have e6 := e6 rfl
    simp +decide only [f_L_law_L992, f_L_law_L1045, f_L_law_L2859, a01, a02, a03, a04, a05, a06, nc0, nc1, nc2, nc3, nc4, nc5, k_fin, Option.bind_some, Sum.elim_inl, reduceIte, if_true, if_false, e1, e2, e3, e4, e5, e6]
  · simp +decide only [f_L_law_L992, f_L_law_L1045, f_L_law_L2859, a01, a02, a03, a04, a05, a06, nc0, nc1, nc2, nc3, nc4, nc5, k_fin, Option.bind_some, Sum.elim_inl, reduceIte, if_true, if_false, e1, e2, e3, e4, e5, if_neg q]
theorem lc_level (F : XF z h) (G : MG z 0 0 0 ov od h) (R : RM (999 + 1) h) (xs : Nat → Int32) : ∃ h2, f_L_law_L1048 6 xs (f_L_law_L28 6 xs 4095) (some z) (some (z + 15)) (some (z + 37)) (some (z + 38)) 0 h = some ((1 : Int32), h2) := by
  obtain ⟨k, v, h1, h2, e1, e2, e3, e4, e5, e6⟩ := pr_level F G R (xs 1)
  refine ⟨h2, ?_⟩
  by_cases q : k = 0
  · subst q
    have e6 := e6 rfl
    simp +decide only [f_L_law_L1048, f_L_law_L1101, f_L_law_L2859, a01, a02, a03, a04, a05, a06, nc0, nc1, nc2, nc3, nc4, nc5, k_fin, Option.bind_some, Sum.elim_inl, reduceIte, if_true, if_false, e1, e2, e3, e4, e5, e6]
  · simp +decide only [f_L_law_L1048, f_L_law_L1101, f_L_law_L2859, a01, a02, a03, a04, a05, a06, nc0, nc1, nc2, nc3, nc4, nc5, k_fin, Option.bind_some, Sum.elim_inl, reduceIte, if_true, if_false, e1, e2, e3, e4, e5, if_neg q]
theorem lc_common (F : XF z h) (G : MG z 0 0 0 ov od h) (R : RM (999 + 1) h) (xs : Nat → Int32) : ∃ h2, f_L_law_L1104 6 xs (f_L_law_L28 6 xs 4095) (some z) (some (z + 15)) (some (z + 37)) (some (z + 38)) 0 h = some ((1 : Int32), h2) := by
  obtain ⟨k, v, h1, h2, e1, e2, e3, e4, e5, e6⟩ := pr_common F G R (xs 1) (xs 2)
  refine ⟨h2, ?_⟩
  by_cases q : k = 0
  · subst q
    have e6 := e6 rfl
    simp +decide only [f_L_law_L1104, f_L_law_L1169, f_L_law_L2859, a01, a02, a03, a04, a05, a06, nc0, nc1, nc2, nc3, nc4, nc5, k_fin, Option.bind_some, Sum.elim_inl, reduceIte, if_true, if_false, e1, e2, e3, e4, e5, e6]
  · simp +decide only [f_L_law_L1104, f_L_law_L1169, f_L_law_L2859, a01, a02, a03, a04, a05, a06, nc0, nc1, nc2, nc3, nc4, nc5, k_fin, Option.bind_some, Sum.elim_inl, reduceIte, if_true, if_false, e1, e2, e3, e4, e5, if_neg q]
theorem lc_track (F : XF z h) (G : MG z 0 0 0 ov od h) (R : RM (999 + 1) h) (xs : Nat → Int32) : ∃ h2, f_L_law_L1172 6 xs (f_L_law_L28 6 xs 4095) (some z) (some (z + 15)) (some (z + 37)) (some (z + 38)) 0 h = some ((1 : Int32), h2) := by
  obtain ⟨k, v, h1, h2, e1, e2, e3, e4, e5, e6⟩ := pr_track F G R (xs 1) (xs 2) (xs 3) (xs 4)
  refine ⟨h2, ?_⟩
  by_cases q : k = 0
  · subst q
    have e6 := e6 rfl
    simp +decide only [f_L_law_L1172, f_L_law_L1261, f_L_law_L2859, a01, a02, a03, a04, a05, a06, nc0, nc1, nc2, nc3, nc4, nc5, k_fin, Option.bind_some, Sum.elim_inl, reduceIte, if_true, if_false, e1, e2, e3, e4, e5, e6]
  · simp +decide only [f_L_law_L1172, f_L_law_L1261, f_L_law_L2859, a01, a02, a03, a04, a05, a06, nc0, nc1, nc2, nc3, nc4, nc5, k_fin, Option.bind_some, Sum.elim_inl, reduceIte, if_true, if_false, e1, e2, e3, e4, e5, if_neg q]
theorem lc_key (F : XF z h) (G : MG z 0 0 0 ov od h) (R : RM (999 + 1) h) (xs : Nat → Int32) : ∃ h2, f_L_law_L1264 6 xs (f_L_law_L28 6 xs 4095) (some z) (some (z + 15)) (some (z + 37)) (some (z + 38)) 0 h = some ((1 : Int32), h2) := by
  obtain ⟨k, v, h1, h2, e1, e2, e3, e4, e5, e6⟩ := pr_key F G R (xs 1) (xs 2) (xs 3)
  refine ⟨h2, ?_⟩
  by_cases q : k = 0
  · subst q
    have e6 := e6 rfl
    simp +decide only [f_L_law_L1264, f_L_law_L1341, f_L_law_L2859, a01, a02, a03, a04, a05, a06, nc0, nc1, nc2, nc3, nc4, nc5, k_fin, Option.bind_some, Sum.elim_inl, reduceIte, if_true, if_false, e1, e2, e3, e4, e5, e6]
  · simp +decide only [f_L_law_L1264, f_L_law_L1341, f_L_law_L2859, a01, a02, a03, a04, a05, a06, nc0, nc1, nc2, nc3, nc4, nc5, k_fin, Option.bind_some, Sum.elim_inl, reduceIte, if_true, if_false, e1, e2, e3, e4, e5, if_neg q]
theorem lc_unkey (F : XF z h) (G : MG z 0 0 0 ov od h) (R : RM (999 + 1) h) (xs : Nat → Int32) : ∃ h2, f_L_law_L1344 6 xs (f_L_law_L28 6 xs 4095) (some z) (some (z + 15)) (some (z + 37)) (some (z + 38)) 0 h = some ((1 : Int32), h2) := by
  obtain ⟨k, v, h1, h2, e1, e2, e3, e4, e5, e6⟩ := pr_unkey F G R (xs 1) (xs 2)
  refine ⟨h2, ?_⟩
  by_cases q : k = 0
  · subst q
    have e6 := e6 rfl
    simp +decide only [f_L_law_L1344, f_L_law_L1409, f_L_law_L2859, a01, a02, a03, a04, a05, a06, nc0, nc1, nc2, nc3, nc4, nc5, k_fin, Option.bind_some, Sum.elim_inl, reduceIte, if_true, if_false, e1, e2, e3, e4, e5, e6]
  · simp +decide only [f_L_law_L1344, f_L_law_L1409, f_L_law_L2859, a01, a02, a03, a04, a05, a06, nc0, nc1, nc2, nc3, nc4, nc5, k_fin, Option.bind_some, Sum.elim_inl, reduceIte, if_true, if_false, e1, e2, e3, e4, e5, if_neg q]
theorem lc_setTime (F : XF z h) (G : MG z 0 0 0 ov od h) (R : RM (999 + 1) h) (xs : Nat → Int32) : ∃ h2, f_L_law_L1412 6 xs (f_L_law_L28 6 xs 4095) (some z) (some (z + 15)) (some (z + 37)) (some (z + 38)) 0 h = some ((1 : Int32), h2) := by
  obtain ⟨k, v, h1, h2, e1, e2, e3, e4, e5, e6⟩ := pr_setTime F G R (xs 1)
  refine ⟨h2, ?_⟩
  by_cases q : k = 0
  · subst q
    have e6 := e6 rfl
    simp +decide only [f_L_law_L1412, f_L_law_L1465, f_L_law_L2859, a01, a02, a03, a04, a05, a06, nc0, nc1, nc2, nc3, nc4, nc5, k_fin, Option.bind_some, Sum.elim_inl, reduceIte, if_true, if_false, e1, e2, e3, e4, e5, e6]
  · simp +decide only [f_L_law_L1412, f_L_law_L1465, f_L_law_L2859, a01, a02, a03, a04, a05, a06, nc0, nc1, nc2, nc3, nc4, nc5, k_fin, Option.bind_some, Sum.elim_inl, reduceIte, if_true, if_false, e1, e2, e3, e4, e5, if_neg q]
theorem lc_tracks (F : XF z h) (G : MG z 0 0 0 ov od h) (R : RM (999 + 1) h) (xs : Nat → Int32) : ∃ h2, f_L_law_L1468 6 xs (f_L_law_L28 6 xs 4095) (some z) (some (z + 15)) (some (z + 37)) (some (z + 38)) 0 h = some ((1 : Int32), h2) := by
  obtain ⟨v, h1, h2, e1, e2, e3⟩ := pr_tracks F G
  refine ⟨h2, ?_⟩
  simp +decide only [f_L_law_L1468, f_L_law_L2859, a01, a02, a03, a04, a05, a06, nc0, nc1, nc2, nc3, nc4, nc5, k_fin, Option.bind_some, Sum.elim_inl, reduceIte, if_true, if_false, xo0 F, e1, e2, e3]
theorem lc_now (F : XF z h) (G : MG z 0 0 0 ov od h) (R : RM (999 + 1) h) (xs : Nat → Int32) : ∃ h2, f_L_law_L1481 6 xs (f_L_law_L28 6 xs 4095) (some z) (some (z + 15)) (some (z + 37)) (some (z + 38)) 0 h = some ((1 : Int32), h2) := by
  obtain ⟨k, v, h1, h2, e1, e2, e3, e4, e5, e6⟩ := pr_now F G R (xs 1) (xs 2)
  refine ⟨h2, ?_⟩
  by_cases q : k = 0
  · subst q
    have e6 := e6 rfl
    simp +decide only [f_L_law_L1481, f_L_law_L1546, f_L_law_L2859, a01, a02, a03, a04, a05, a06, nc0, nc1, nc2, nc3, nc4, nc5, k_fin, Option.bind_some, Sum.elim_inl, reduceIte, if_true, if_false, e1, e2, e3, e4, e5, e6]
  · simp +decide only [f_L_law_L1481, f_L_law_L1546, f_L_law_L2859, a01, a02, a03, a04, a05, a06, nc0, nc1, nc2, nc3, nc4, nc5, k_fin, Option.bind_some, Sum.elim_inl, reduceIte, if_true, if_false, e1, e2, e3, e4, e5, if_neg q]
theorem lc_nextKey (F : XF z h) (G : MG z 0 0 0 ov od h) (R : RM (999 + 1) h) (xs : Nat → Int32) : ∃ h2, f_L_law_L1549 6 xs (f_L_law_L28 6 xs 4095) (some z) (some (z + 15)) (some (z + 37)) (some (z + 38)) 0 h = some ((1 : Int32), h2) := by
  obtain ⟨v, h1, h2, e1, e2, e3⟩ := pr_nextKey F G
  refine ⟨h2, ?_⟩
  simp +decide only [f_L_law_L1549, f_L_law_L2859, a01, a02, a03, a04, a05, a06, nc0, nc1, nc2, nc3, nc4, nc5, k_fin, Option.bind_some, Sum.elim_inl, reduceIte, if_true, if_false, xo0 F, e1, e2, e3]
theorem lc_toWhole (F : XF z h) (G : MG z 0 0 0 ov od h) (R : RM (999 + 1) h) (xs : Nat → Int32) : ∃ h2, f_L_law_L1562 6 xs (f_L_law_L28 6 xs 4095) (some z) (some (z + 15)) (some (z + 37)) (some (z + 38)) 0 h = some ((1 : Int32), h2) := by
  obtain ⟨k, v, h1, h2, e1, e2, e3, e4, e5, e6⟩ := pr_toWhole F G R (xs 1) (xs 2) (xs 3) (xs 4)
  refine ⟨h2, ?_⟩
  by_cases q : k = 0
  · subst q
    have e6 := e6 rfl
    simp +decide only [f_L_law_L1562, f_L_law_L1651, f_L_law_L2859, a01, a02, a03, a04, a05, a06, nc0, nc1, nc2, nc3, nc4, nc5, k_fin, Option.bind_some, Sum.elim_inl, reduceIte, if_true, if_false, e1, e2, e3, e4, e5, e6]
  · simp +decide only [f_L_law_L1562, f_L_law_L1651, f_L_law_L2859, a01, a02, a03, a04, a05, a06, nc0, nc1, nc2, nc3, nc4, nc5, k_fin, Option.bind_some, Sum.elim_inl, reduceIte, if_true, if_false, e1, e2, e3, e4, e5, if_neg q]
theorem lc_fromWhole (F : XF z h) (G : MG z 0 0 0 ov od h) (R : RM (999 + 1) h) (xs : Nat → Int32) : ∃ h2, f_L_law_L1654 6 xs (f_L_law_L28 6 xs 4095) (some z) (some (z + 15)) (some (z + 37)) (some (z + 38)) 0 h = some ((1 : Int32), h2) := by
  obtain ⟨k, v, h1, h2, e1, e2, e3, e4, e5, e6⟩ := pr_fromWhole F G R (xs 1) (xs 2) (xs 3) (xs 4)
  refine ⟨h2, ?_⟩
  by_cases q : k = 0
  · subst q
    have e6 := e6 rfl
    simp +decide only [f_L_law_L1654, f_L_law_L1743, f_L_law_L2859, a01, a02, a03, a04, a05, a06, nc0, nc1, nc2, nc3, nc4, nc5, k_fin, Option.bind_some, Sum.elim_inl, reduceIte, if_true, if_false, e1, e2, e3, e4, e5, e6]
  · simp +decide only [f_L_law_L1654, f_L_law_L1743, f_L_law_L2859, a01, a02, a03, a04, a05, a06, nc0, nc1, nc2, nc3, nc4, nc5, k_fin, Option.bind_some, Sum.elim_inl, reduceIte, if_true, if_false, e1, e2, e3, e4, e5, if_neg q]
theorem lc_between (F : XF z h) (G : MG z 0 0 0 ov od h) (R : RM (999 + 1) h) (xs : Nat → Int32) : ∃ h2, f_L_law_L1746 6 xs (f_L_law_L28 6 xs 4095) (some z) (some (z + 15)) (some (z + 37)) (some (z + 38)) 0 h = some ((1 : Int32), h2) := by
  obtain ⟨k, v, h1, h2, e1, e2, e3, e4, e5, e6⟩ := pr_between F G R (xs 1) (xs 2) (xs 3) (xs 4) (xs 5)
  refine ⟨h2, ?_⟩
  by_cases q : k = 0
  · subst q
    have e6 := e6 rfl
    simp +decide only [f_L_law_L1746, f_L_law_L1847, f_L_law_L2859, a01, a02, a03, a04, a05, a06, nc0, nc1, nc2, nc3, nc4, nc5, k_fin, Option.bind_some, Sum.elim_inl, reduceIte, if_true, if_false, e1, e2, e3, e4, e5, e6]
  · simp +decide only [f_L_law_L1746, f_L_law_L1847, f_L_law_L2859, a01, a02, a03, a04, a05, a06, nc0, nc1, nc2, nc3, nc4, nc5, k_fin, Option.bind_some, Sum.elim_inl, reduceIte, if_true, if_false, e1, e2, e3, e4, e5, if_neg q]
theorem lc_bound (F : XF z h) (G : MG z 0 0 0 ov od h) (R : RM (999 + 1) h) (xs : Nat → Int32) : ∃ h2, f_L_law_L1850 6 xs (f_L_law_L28 6 xs 4095) (some z) (some (z + 15)) (some (z + 37)) (some (z + 38)) 0 h = some ((1 : Int32), h2) := by
  by_cases qb : xs 3 = 0
  · obtain ⟨k, v, h1, h2, e1, e2, e3, e4, e5, e6⟩ := pr_bound F G R (xs 1) (xs 2) 0
    refine ⟨h2, ?_⟩
    by_cases q : k = 0
    · subst q
      have e6 := e6 rfl
      simp +decide only [f_L_law_L1850, f_L_law_L1877, f_L_law_L1910, f_L_law_L1943, f_L_law_L2859, if_pos qb, a01, a02, a03, a04, a05, a06, nc0, nc1, nc2, nc3, nc4, nc5, k_fin, Option.bind_some, Sum.elim_inl, reduceIte, if_true, if_false, e1, e2, e3, e4, e5, e6]
    · simp +decide only [f_L_law_L1850, f_L_law_L1877, f_L_law_L1910, f_L_law_L1943, f_L_law_L2859, if_pos qb, a01, a02, a03, a04, a05, a06, nc0, nc1, nc2, nc3, nc4, nc5, k_fin, Option.bind_some, Sum.elim_inl, reduceIte, if_true, if_false, e1, e2, e3, e4, e5, if_neg q]
  · obtain ⟨k, v, h1, h2, e1, e2, e3, e4, e5, e6⟩ := pr_bound F G R (xs 1) (xs 2) 1
    refine ⟨h2, ?_⟩
    by_cases q : k = 0
    · subst q
      have e6 := e6 rfl
      simp +decide only [f_L_law_L1850, f_L_law_L1877, f_L_law_L1910, f_L_law_L1943, f_L_law_L2859, if_neg qb, a01, a02, a03, a04, a05, a06, nc0, nc1, nc2, nc3, nc4, nc5, k_fin, Option.bind_some, Sum.elim_inl, reduceIte, if_true, if_false, e1, e2, e3, e4, e5, e6]
    · simp +decide only [f_L_law_L1850, f_L_law_L1877, f_L_law_L1910, f_L_law_L1943, f_L_law_L2859, if_neg qb, a01, a02, a03, a04, a05, a06, nc0, nc1, nc2, nc3, nc4, nc5, k_fin, Option.bind_some, Sum.elim_inl, reduceIte, if_true, if_false, e1, e2, e3, e4, e5, if_neg q]
theorem lc_isShown (F : XF z h) (G : MG z 0 0 0 ov od h) (R : RM (999 + 1) h) (xs : Nat → Int32) : ∃ h2, f_L_law_L1946 6 xs (f_L_law_L28 6 xs 4095) (some z) (some (z + 15)) (some (z + 37)) (some (z + 38)) 0 h = some ((1 : Int32), h2) := by
  obtain ⟨k, v, h1, h2, e1, e2, e3, e4, e5, e6⟩ := pr_isShown F G R (xs 1)
  refine ⟨h2, ?_⟩
  by_cases q : k = 0
  · subst q
    have e6 := e6 rfl
    unfold encB at e6
    by_cases qv : v = 0
    · rw [if_pos qv] at e6
      simp +decide only [f_L_law_L1946, f_L_law_L2006, f_L_law_L2859, f_L_law_L2000, a01, a02, a03, a04, a05, a06, nc0, nc1, nc2, nc3, nc4, nc5, k_fin, Option.bind_some, Sum.elim_inl, reduceIte, if_true, if_false, e1, e2, e3, e4, e5, e6, if_pos qv]
    · rw [if_neg qv] at e6
      simp +decide only [f_L_law_L1946, f_L_law_L2006, f_L_law_L2859, f_L_law_L2000, a01, a02, a03, a04, a05, a06, nc0, nc1, nc2, nc3, nc4, nc5, k_fin, Option.bind_some, Sum.elim_inl, reduceIte, if_true, if_false, e1, e2, e3, e4, e5, e6, if_neg qv]
  · simp +decide only [f_L_law_L1946, f_L_law_L2006, f_L_law_L2859, f_L_law_L2000, a01, a02, a03, a04, a05, a06, nc0, nc1, nc2, nc3, nc4, nc5, k_fin, Option.bind_some, Sum.elim_inl, reduceIte, if_true, if_false, e1, e2, e3, e4, e5, if_neg q]
theorem lc_strength (F : XF z h) (G : MG z 0 0 0 ov od h) (R : RM (999 + 1) h) (xs : Nat → Int32) : ∃ h2, f_L_law_L2009 6 xs (f_L_law_L28 6 xs 4095) (some z) (some (z + 15)) (some (z + 37)) (some (z + 38)) 0 h = some ((1 : Int32), h2) := by
  obtain ⟨k, v, h1, h2, e1, e2, e3, e4, e5, e6⟩ := pr_strength F G R (xs 1)
  refine ⟨h2, ?_⟩
  by_cases q : k = 0
  · subst q
    have e6 := e6 rfl
    simp +decide only [f_L_law_L2009, f_L_law_L2062, f_L_law_L2859, a01, a02, a03, a04, a05, a06, nc0, nc1, nc2, nc3, nc4, nc5, k_fin, Option.bind_some, Sum.elim_inl, reduceIte, if_true, if_false, e1, e2, e3, e4, e5, e6]
  · simp +decide only [f_L_law_L2009, f_L_law_L2062, f_L_law_L2859, a01, a02, a03, a04, a05, a06, nc0, nc1, nc2, nc3, nc4, nc5, k_fin, Option.bind_some, Sum.elim_inl, reduceIte, if_true, if_false, e1, e2, e3, e4, e5, if_neg q]
theorem lc_orderAt (F : XF z h) (G : MG z 0 0 0 ov od h) (R : RM (999 + 1) h) (xs : Nat → Int32) : ∃ h2, f_L_law_L2065 6 xs (f_L_law_L28 6 xs 4095) (some z) (some (z + 15)) (some (z + 37)) (some (z + 38)) 0 h = some ((1 : Int32), h2) := by
  obtain ⟨k, v, h1, h2, e1, e2, e3, e4, e5, e6⟩ := pr_orderAt F G R (xs 1)
  refine ⟨h2, ?_⟩
  by_cases q : k = 0
  · subst q
    have e6 := e6 rfl
    simp +decide only [f_L_law_L2065, f_L_law_L2118, f_L_law_L2859, a01, a02, a03, a04, a05, a06, nc0, nc1, nc2, nc3, nc4, nc5, k_fin, Option.bind_some, Sum.elim_inl, reduceIte, if_true, if_false, e1, e2, e3, e4, e5, e6]
  · simp +decide only [f_L_law_L2065, f_L_law_L2118, f_L_law_L2859, a01, a02, a03, a04, a05, a06, nc0, nc1, nc2, nc3, nc4, nc5, k_fin, Option.bind_some, Sum.elim_inl, reduceIte, if_true, if_false, e1, e2, e3, e4, e5, if_neg q]
theorem lc_placeOf (F : XF z h) (G : MG z 0 0 0 ov od h) (R : RM (999 + 1) h) (xs : Nat → Int32) : ∃ h2, f_L_law_L2121 6 xs (f_L_law_L28 6 xs 4095) (some z) (some (z + 15)) (some (z + 37)) (some (z + 38)) 0 h = some ((1 : Int32), h2) := by
  obtain ⟨k, v, h1, h2, e1, e2, e3, e4, e5, e6⟩ := pr_placeOf F G R (xs 1)
  refine ⟨h2, ?_⟩
  by_cases q : k = 0
  · subst q
    have e6 := e6 rfl
    simp +decide only [f_L_law_L2121, f_L_law_L2174, f_L_law_L2859, a01, a02, a03, a04, a05, a06, nc0, nc1, nc2, nc3, nc4, nc5, k_fin, Option.bind_some, Sum.elim_inl, reduceIte, if_true, if_false, e1, e2, e3, e4, e5, e6]
  · simp +decide only [f_L_law_L2121, f_L_law_L2174, f_L_law_L2859, a01, a02, a03, a04, a05, a06, nc0, nc1, nc2, nc3, nc4, nc5, k_fin, Option.bind_some, Sum.elim_inl, reduceIte, if_true, if_false, e1, e2, e3, e4, e5, if_neg q]
theorem lc_covers (F : XF z h) (G : MG z 0 0 0 ov od h) (R : RM (999 + 1) h) (xs : Nat → Int32) : ∃ h2, f_L_law_L2177 6 xs (f_L_law_L28 6 xs 4095) (some z) (some (z + 15)) (some (z + 37)) (some (z + 38)) 0 h = some ((1 : Int32), h2) := by
  obtain ⟨k, v, h1, h2, e1, e2, e3, e4, e5, e6⟩ := pr_covers F G R (xs 1) (xs 2) (xs 3) (xs 4)
  refine ⟨h2, ?_⟩
  by_cases q : k = 0
  · subst q
    have e6 := e6 rfl
    unfold encB at e6
    by_cases qv : v = 0
    · rw [if_pos qv] at e6
      simp +decide only [f_L_law_L2177, f_L_law_L2273, f_L_law_L2859, f_L_law_L2267, a01, a02, a03, a04, a05, a06, nc0, nc1, nc2, nc3, nc4, nc5, k_fin, Option.bind_some, Sum.elim_inl, reduceIte, if_true, if_false, e1, e2, e3, e4, e5, e6, if_pos qv]
    · rw [if_neg qv] at e6
      simp +decide only [f_L_law_L2177, f_L_law_L2273, f_L_law_L2859, f_L_law_L2267, a01, a02, a03, a04, a05, a06, nc0, nc1, nc2, nc3, nc4, nc5, k_fin, Option.bind_some, Sum.elim_inl, reduceIte, if_true, if_false, e1, e2, e3, e4, e5, e6, if_neg qv]
  · simp +decide only [f_L_law_L2177, f_L_law_L2273, f_L_law_L2859, f_L_law_L2267, a01, a02, a03, a04, a05, a06, nc0, nc1, nc2, nc3, nc4, nc5, k_fin, Option.bind_some, Sum.elim_inl, reduceIte, if_true, if_false, e1, e2, e3, e4, e5, if_neg q]
theorem lc_pick (F : XF z h) (G : MG z 0 0 0 ov od h) (R : RM (999 + 1) h) (xs : Nat → Int32) : ∃ h2, f_L_law_L2276 6 xs (f_L_law_L28 6 xs 4095) (some z) (some (z + 15)) (some (z + 37)) (some (z + 38)) 0 h = some ((1 : Int32), h2) := by
  obtain ⟨k, v, h1, h2, e1, e2, e3, e4, e5, e6⟩ := pr_pick F G R (xs 1) (xs 2) (xs 3)
  refine ⟨h2, ?_⟩
  by_cases q : k = 0
  · subst q
    have e6 := e6 rfl
    simp +decide only [f_L_law_L2276, f_L_law_L2353, f_L_law_L2859, a01, a02, a03, a04, a05, a06, nc0, nc1, nc2, nc3, nc4, nc5, k_fin, Option.bind_some, Sum.elim_inl, reduceIte, if_true, if_false, e1, e2, e3, e4, e5, e6]
  · simp +decide only [f_L_law_L2276, f_L_law_L2353, f_L_law_L2859, a01, a02, a03, a04, a05, a06, nc0, nc1, nc2, nc3, nc4, nc5, k_fin, Option.bind_some, Sum.elim_inl, reduceIte, if_true, if_false, e1, e2, e3, e4, e5, if_neg q]
theorem lc_many (F : XF z h) (G : MG z 0 0 0 ov od h) (R : RM (999 + 1) h) (xs : Nat → Int32) : ∃ h2, f_L_law_L2356 6 xs (f_L_law_L28 6 xs 4095) (some z) (some (z + 15)) (some (z + 37)) (some (z + 38)) 0 h = some ((1 : Int32), h2) := by
  obtain ⟨k, v, h1, h2, e1, e2, e3, e4, e5, e6⟩ := pr_many F G R (xs 1) (xs 2) (xs 3)
  refine ⟨h2, ?_⟩
  by_cases q : k = 0
  · subst q
    have e6 := e6 rfl
    simp +decide only [f_L_law_L2356, f_L_law_L2433, f_L_law_L2859, a01, a02, a03, a04, a05, a06, nc0, nc1, nc2, nc3, nc4, nc5, k_fin, Option.bind_some, Sum.elim_inl, reduceIte, if_true, if_false, e1, e2, e3, e4, e5, e6]
  · simp +decide only [f_L_law_L2356, f_L_law_L2433, f_L_law_L2859, a01, a02, a03, a04, a05, a06, nc0, nc1, nc2, nc3, nc4, nc5, k_fin, Option.bind_some, Sum.elim_inl, reduceIte, if_true, if_false, e1, e2, e3, e4, e5, if_neg q]
theorem lc_through (F : XF z h) (G : MG z 0 0 0 ov od h) (R : RM (999 + 1) h) (xs : Nat → Int32) : ∃ h2, f_L_law_L2436 6 xs (f_L_law_L28 6 xs 4095) (some z) (some (z + 15)) (some (z + 37)) (some (z + 38)) 0 h = some ((1 : Int32), h2) := by
  obtain ⟨k, v, h1, h2, e1, e2, e3, e4, e5, e6⟩ := pr_through F G R (xs 1) (xs 2) (xs 3)
  refine ⟨h2, ?_⟩
  by_cases q : k = 0
  · subst q
    have e6 := e6 rfl
    simp +decide only [f_L_law_L2436, f_L_law_L2513, f_L_law_L2859, a01, a02, a03, a04, a05, a06, nc0, nc1, nc2, nc3, nc4, nc5, k_fin, Option.bind_some, Sum.elim_inl, reduceIte, if_true, if_false, e1, e2, e3, e4, e5, e6]
  · simp +decide only [f_L_law_L2436, f_L_law_L2513, f_L_law_L2859, a01, a02, a03, a04, a05, a06, nc0, nc1, nc2, nc3, nc4, nc5, k_fin, Option.bind_some, Sum.elim_inl, reduceIte, if_true, if_false, e1, e2, e3, e4, e5, if_neg q]
theorem lc_changes (F : XF z h) (G : MG z 0 0 0 ov od h) (R : RM (999 + 1) h) (xs : Nat → Int32) : ∃ h2, f_L_law_L2516 6 xs (f_L_law_L28 6 xs 4095) (some z) (some (z + 15)) (some (z + 37)) (some (z + 38)) 0 h = some ((1 : Int32), h2) := by
  obtain ⟨k, v, h1, h2, e1, e2, e3, e4, e5, e6⟩ := pr_changes F G R (xs 1) (xs 2)
  refine ⟨h2, ?_⟩
  by_cases q : k = 0
  · subst q
    have e6 := e6 rfl
    simp +decide only [f_L_law_L2516, f_L_law_L2581, f_L_law_L2859, a01, a02, a03, a04, a05, a06, nc0, nc1, nc2, nc3, nc4, nc5, k_fin, Option.bind_some, Sum.elim_inl, reduceIte, if_true, if_false, e1, e2, e3, e4, e5, e6]
  · simp +decide only [f_L_law_L2516, f_L_law_L2581, f_L_law_L2859, a01, a02, a03, a04, a05, a06, nc0, nc1, nc2, nc3, nc4, nc5, k_fin, Option.bind_some, Sum.elim_inl, reduceIte, if_true, if_false, e1, e2, e3, e4, e5, if_neg q]
theorem lc_pickWithout (F : XF z h) (G : MG z 0 0 0 ov od h) (R : RM (999 + 1) h) (xs : Nat → Int32) : ∃ h2, f_L_law_L2584 6 xs (f_L_law_L28 6 xs 4095) (some z) (some (z + 15)) (some (z + 37)) (some (z + 38)) 0 h = some ((1 : Int32), h2) := by
  obtain ⟨k, v, h1, h2, e1, e2, e3, e4, e5, e6⟩ := pr_pickWithout F G R (xs 1) (xs 2) (xs 3) (xs 4)
  refine ⟨h2, ?_⟩
  by_cases q : k = 0
  · subst q
    have e6 := e6 rfl
    simp +decide only [f_L_law_L2584, f_L_law_L2673, f_L_law_L2859, a01, a02, a03, a04, a05, a06, nc0, nc1, nc2, nc3, nc4, nc5, k_fin, Option.bind_some, Sum.elim_inl, reduceIte, if_true, if_false, e1, e2, e3, e4, e5, e6]
  · simp +decide only [f_L_law_L2584, f_L_law_L2673, f_L_law_L2859, a01, a02, a03, a04, a05, a06, nc0, nc1, nc2, nc3, nc4, nc5, k_fin, Option.bind_some, Sum.elim_inl, reduceIte, if_true, if_false, e1, e2, e3, e4, e5, if_neg q]
theorem lc_nextPick (F : XF z h) (G : MG z 0 0 0 ov od h) (R : RM (999 + 1) h) (xs : Nat → Int32) : ∃ h2, f_L_law_L2676 6 xs (f_L_law_L28 6 xs 4095) (some z) (some (z + 15)) (some (z + 37)) (some (z + 38)) 0 h = some ((1 : Int32), h2) := by
  obtain ⟨k, v, h1, h2, e1, e2, e3, e4, e5, e6⟩ := pr_nextPick F G R (xs 1) (xs 2) (xs 3) (xs 4)
  refine ⟨h2, ?_⟩
  by_cases q : k = 0
  · subst q
    have e6 := e6 rfl
    simp +decide only [f_L_law_L2676, f_L_law_L2765, f_L_law_L2859, a01, a02, a03, a04, a05, a06, nc0, nc1, nc2, nc3, nc4, nc5, k_fin, Option.bind_some, Sum.elim_inl, reduceIte, if_true, if_false, e1, e2, e3, e4, e5, e6]
  · simp +decide only [f_L_law_L2676, f_L_law_L2765, f_L_law_L2859, a01, a02, a03, a04, a05, a06, nc0, nc1, nc2, nc3, nc4, nc5, k_fin, Option.bind_some, Sum.elim_inl, reduceIte, if_true, if_false, e1, e2, e3, e4, e5, if_neg q]
theorem lc_size (F : XF z h) (G : MG z 0 0 0 ov od h) (R : RM (999 + 1) h) (xs : Nat → Int32) : ∃ h2, f_L_law_L2768 6 xs (f_L_law_L28 6 xs 4095) (some z) (some (z + 15)) (some (z + 37)) (some (z + 38)) 0 h = some ((1 : Int32), h2) := by
  obtain ⟨k, v, h1, h2, e1, e2, e3, e4, e5, e6⟩ := pr_size F G R (xs 1)
  refine ⟨h2, ?_⟩
  by_cases q : k = 0
  · subst q
    obtain ⟨o, e6, e7⟩ := e6 rfl
    simp +decide only [f_L_law_L2768, f_L_law_L2842, f_L_law_L2859, f_L_law_L2840, a01, a02, a03, a04, a05, a06, nc0, nc1, nc2, nc3, nc4, nc5, k_fin, Option.bind_some, Sum.elim_inl, reduceIte, if_true, if_false, e1, e2, e3, e4, e5, e6, e7]
  · simp +decide only [f_L_law_L2768, f_L_law_L2842, f_L_law_L2859, f_L_law_L2840, a01, a02, a03, a04, a05, a06, nc0, nc1, nc2, nc3, nc4, nc5, k_fin, Option.bind_some, Sum.elim_inl, reduceIte, if_true, if_false, e1, e2, e3, e4, e5, if_neg q]
theorem lc_digest (F : XF z h) (G : MG z 0 0 0 ov od h) (R : RM (999 + 1) h) (xs : Nat → Int32) : ∃ h2, f_L_law_L2845 6 xs (f_L_law_L28 6 xs 4095) (some z) (some (z + 15)) (some (z + 37)) (some (z + 38)) 0 h = some ((1 : Int32), h2) := by
  obtain ⟨v, h1, h2, e1, e2, e3⟩ := pr_digest F G R
  refine ⟨h2, ?_⟩
  simp +decide only [f_L_law_L2845, f_L_law_L2859, a01, a02, a03, a04, a05, a06, nc0, nc1, nc2, nc3, nc4, nc5, k_fin, Option.bind_some, Sum.elim_inl, reduceIte, if_true, if_false, xo0 F, e1, e2, e3]
theorem lc_none (F : XF z h) (G : MG z 0 0 0 ov od h) (R : RM (999 + 1) h) (xs : Nat → Int32) : ∃ h2, f_L_law_L2859 6 xs (f_L_law_L28 6 xs 4095) (some z) (some (z + 15)) (some (z + 37)) (some (z + 38)) 0 h = some ((1 : Int32), h2) := ⟨h, by simp only [f_L_law_L2859, a06, k_fin]⟩
theorem law6 (F : XF z h) (G : MG z 0 0 0 ov od h) (R : RM (999 + 1) h) (xs : Nat → Int32) : ∃ h2, f_L_law_L28 6 xs 4096 (some z) (some (z + 15)) (some (z + 37)) (some (z + 38)) 0 h = some ((1 : Int32), h2) := by
  rw [s0_L_law_L28, if_neg (by decide), if_neg (by decide), nc0]
  by_cases q0 : xs 0 &&& 63 = 0
  · rw [if_pos q0]; exact lc_add F G R xs
  rw [if_neg q0]
  by_cases q1 : xs 0 &&& 63 = 1
  · rw [if_pos q1]; exact lc_remove F G R xs
  rw [if_neg q1]
  by_cases q2 : xs 0 &&& 63 = 2
  · rw [if_pos q2]; exact lc_hang F G R xs
  rw [if_neg q2]
  by_cases q3 : xs 0 &&& 63 = 3
  · rw [if_pos q3]; exact lc_move F G R xs
  rw [if_neg q3]
  by_cases q4 : xs 0 &&& 63 = 4
  · rw [if_pos q4]; exact lc_scale F G R xs
  rw [if_neg q4]
  by_cases q5 : xs 0 &&& 63 = 5
  · rw [if_pos q5]; exact lc_turn F G R xs
  rw [if_neg q5]
  by_cases q6 : xs 0 &&& 63 = 6
  · rw [if_pos q6]; exact lc_look F G R xs
  rw [if_neg q6]
  by_cases q7 : xs 0 &&& 63 = 7
  · rw [if_pos q7]; exact lc_cut F G R xs
  rw [if_neg q7]
  by_cases q8 : xs 0 &&& 63 = 8
  · rw [if_pos q8]; exact lc_uncut F G R xs
  rw [if_neg q8]
  by_cases q9 : xs 0 &&& 63 = 9
  · rw [if_pos q9]; exact lc_added F G R xs
  rw [if_neg q9]
  by_cases q10 : xs 0 &&& 63 = 10
  · rw [if_pos q10]; exact lc_nodes F G R xs
  rw [if_neg q10]
  by_cases q11 : xs 0 &&& 63 = 11
  · rw [if_pos q11]; exact lc_parent F G R xs
  rw [if_neg q11]
  by_cases q12 : xs 0 &&& 63 = 12
  · rw [if_pos q12]; exact lc_level F G R xs
  rw [if_neg q12]
  by_cases q13 : xs 0 &&& 63 = 13
  · rw [if_pos q13]; exact lc_common F G R xs
  rw [if_neg q13]
  by_cases q14 : xs 0 &&& 63 = 14
  · rw [if_pos q14]; exact lc_track F G R xs
  rw [if_neg q14]
  by_cases q15 : xs 0 &&& 63 = 15
  · rw [if_pos q15]; exact lc_key F G R xs
  rw [if_neg q15]
  by_cases q16 : xs 0 &&& 63 = 16
  · rw [if_pos q16]; exact lc_unkey F G R xs
  rw [if_neg q16]
  by_cases q17 : xs 0 &&& 63 = 17
  · rw [if_pos q17]; exact lc_setTime F G R xs
  rw [if_neg q17]
  by_cases q18 : xs 0 &&& 63 = 18
  · rw [if_pos q18]; exact lc_tracks F G R xs
  rw [if_neg q18]
  by_cases q19 : xs 0 &&& 63 = 19
  · rw [if_pos q19]; exact lc_now F G R xs
  rw [if_neg q19]
  by_cases q20 : xs 0 &&& 63 = 20
  · rw [if_pos q20]; exact lc_nextKey F G R xs
  rw [if_neg q20]
  by_cases q21 : xs 0 &&& 63 = 21
  · rw [if_pos q21]; exact lc_toWhole F G R xs
  rw [if_neg q21]
  by_cases q22 : xs 0 &&& 63 = 22
  · rw [if_pos q22]; exact lc_fromWhole F G R xs
  rw [if_neg q22]
  by_cases q23 : xs 0 &&& 63 = 23
  · rw [if_pos q23]; exact lc_between F G R xs
  rw [if_neg q23]
  by_cases q24 : xs 0 &&& 63 = 24
  · rw [if_pos q24]; exact lc_bound F G R xs
  rw [if_neg q24]
  by_cases q25 : xs 0 &&& 63 = 25
  · rw [if_pos q25]; exact lc_isShown F G R xs
  rw [if_neg q25]
  by_cases q26 : xs 0 &&& 63 = 26
  · rw [if_pos q26]; exact lc_strength F G R xs
  rw [if_neg q26]
  by_cases q27 : xs 0 &&& 63 = 27
  · rw [if_pos q27]; exact lc_orderAt F G R xs
  rw [if_neg q27]
  by_cases q28 : xs 0 &&& 63 = 28
  · rw [if_pos q28]; exact lc_placeOf F G R xs
  rw [if_neg q28]
  by_cases q29 : xs 0 &&& 63 = 29
  · rw [if_pos q29]; exact lc_covers F G R xs
  rw [if_neg q29]
  by_cases q30 : xs 0 &&& 63 = 30
  · rw [if_pos q30]; exact lc_pick F G R xs
  rw [if_neg q30]
  by_cases q31 : xs 0 &&& 63 = 31
  · rw [if_pos q31]; exact lc_many F G R xs
  rw [if_neg q31]
  by_cases q32 : xs 0 &&& 63 = 32
  · rw [if_pos q32]; exact lc_through F G R xs
  rw [if_neg q32]
  by_cases q33 : xs 0 &&& 63 = 33
  · rw [if_pos q33]; exact lc_changes F G R xs
  rw [if_neg q33]
  by_cases q34 : xs 0 &&& 63 = 34
  · rw [if_pos q34]; exact lc_pickWithout F G R xs
  rw [if_neg q34]
  by_cases q35 : xs 0 &&& 63 = 35
  · rw [if_pos q35]; exact lc_nextPick F G R xs
  rw [if_neg q35]
  by_cases q36 : xs 0 &&& 63 = 36
  · rw [if_pos q36]; exact lc_size F G R xs
  rw [if_neg q36]
  by_cases q37 : xs 0 &&& 63 = 37
  · rw [if_pos q37]; exact lc_digest F G R xs
  rw [if_neg q37]
  exact lc_none F G R xs
theorem law5 (L : Nat) (hL : L < 6) (xs : Nat → Int32) (a1 a2 a3 a4 : Option Nat) (h : fSt) : f_L_law_L28 L xs 4096 a1 a2 a3 a4 0 h = some ((1 : Int32), h) := by
  have e : ∀ L, L < 6 → Int32.ofNat L - 6 < 0 := by decide
  rw [s0_L_law_L28, if_pos (e L hL)]
end LAW6
