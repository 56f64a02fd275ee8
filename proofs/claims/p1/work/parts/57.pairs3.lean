/-! Class and model side by side: nextPick, the plain ones, size, digest. -/
section PAIR3
variable {z : Nat} {th tm hv : Int32} {ov : Int64} {od : UInt64} {h : fSt}
theorem i32_s1 {a : Int32} (h0 : 0 ≤ a.toInt) (h1 : a.toInt ≤ 20000) : (a + 1).toInt = a.toInt + 1 := by
  rw [Int32.toInt_add]
  have e : (1 : Int32).toInt = 1 := by decide
  rw [e]
  exact Int.bmod_eq_of_le (by omega) (by omega)
theorem x_npL (F : XF z h) (a b c a6 : Int32) (h6 : a6.toInt ≤ 9999) : ∀ (m n : Nat) (a7 : Int32), 0 ≤ a7.toInt → a6.toInt - a7.toInt < m → f_X7_nextPick_L65 (n + m + 1) (some z) a b c (-1) a6 a7 h = some (.inl (-1), h) := by
  intro m
  induction m with
  | zero =>
    intro n a7 h0 hm
    rw [st_X7_nextPick_L65, if_pos (Int32.lt_iff_toInt_lt.mpr (by omega))]
  | succ m ih =>
    intro n a7 h0 hm
    rw [st_X7_nextPick_L65]
    by_cases q : a6 < a7
    · rw [if_pos q]
    · rw [if_neg q]
      have q2 : ¬ a6.toInt < a7.toInt := fun y => q (Int32.lt_iff_toInt_lt.mpr y)
      have e := i32_s1 h0 (by omega)
      simp only [xo0 F, x_isToldAnew F, Option.bind_some, if_true, f_X7_nextPick_L99]
      exact ih n (a7 + 1) (by omega) (by omega)
theorem rng_le {a b c : Int32} (h : ¬ rng a b c = 0) : b.toInt ≤ a.toInt ∧ a.toInt ≤ c.toInt := by
  unfold rng at h
  by_cases q : a < b
  · rw [if_pos q] at h; exact absurd rfl h
  · rw [if_neg q] at h
    by_cases q2 : c < a
    · rw [if_pos q2] at h; exact absurd rfl h
    · exact ⟨Int.not_lt.mp (fun y => q (Int32.lt_iff_toInt_lt.mpr y)), Int.not_lt.mp (fun y => q2 (Int32.lt_iff_toInt_lt.mpr y))⟩
theorem x_nextPick_g (F : XF z h) {a b c d : Int32} (q : ¬ badS a b c) (q1 : ¬ rng d 1 100 = 0) : f_X7_nextPick z a b c d h = some (.inl (-1), h) := by
  obtain ⟨l1, l2⟩ := rng_le q1
  have e1 : (1 : Int32).toInt = 1 := by decide
  have e2 : (100 : Int32).toInt = 100 := by decide
  have e3 : (9999 : Int32).toInt = 9999 := by decide
  rw [e1] at l1
  rw [e2] at l2
  have z0 : ∀ x : Int32, 0 + x = x := fun x => Int32.zero_add x
  have n : ¬ (9999 : Int32) < d := fun y => by
    have := Int32.lt_iff_toInt_lt.mp y
    omega
  have k := x_npL F a b c d (by omega) 4095 0 1 (by rw [e1]; decide) (by rw [e1]; omega)
  simp only [f_X7_nextPick, f_X7_nextPick_L0, x_checkSpot_g q, x_isFrom, xr0_7_7 F, xo0 F, x_topAtN F, z0, Option.bind_some, Sum.elim_inl, if_neg q1, if_neg n]
  exact k
theorem x_nextPick_b {k : Nat} (R : RM (k + 1) h) {a b c d : Int32} (q : badS a b c ∨ rng d 1 100 = 0) : f_X7_nextPick z a b c d h = some (.inr 1, tH h) := by
  by_cases q0 : badS a b c
  · simp only [f_X7_nextPick, f_X7_nextPick_L0, x_checkSpot_b R q0, Option.bind_some, Sum.elim_inr]
  · simp only [f_X7_nextPick, f_X7_nextPick_L0, x_checkSpot_g q0, x_isFrom, if_pos (q.resolve_left q0), th_eq R, Option.bind_some, Sum.elim_inl]
theorem m_npL (a b c a4 : Int32) (h4 : a4.toInt ≤ 100) : ∀ (m n : Nat) (a8 tm : Int32) (h : fSt), MG z 0 tm 0 ov od h → RM (2 * m + 2) h → 0 ≤ a8.toInt → a4.toInt - a8.toInt < m → ∃ h2, f_X8_nextPick_L52 (n + m + 1) (some (z + 15)) a b c a4 0 (-1) (-1) a8 h = some (-1, h2) ∧ MG z 0 0 0 ov od h2 := by
  intro m
  induction m with
  | zero =>
    intro n a8 tm h G R h0 hm
    refine ⟨mT z 0 0 h, ?_, MG_mT G 0 0⟩
    rw [st_X8_nextPick_L52, if_pos (Int32.lt_iff_toInt_lt.mpr (by omega))]
    simp only [f_X8_nextPick_L109, m_put25 G, Option.bind_some]
  | succ m ih =>
    intro n a8 tm h G R h0 hm
    rw [st_X8_nextPick_L52]
    by_cases q : a4 < a8
    · refine ⟨mT z 0 0 h, ?_, MG_mT G 0 0⟩
      rw [if_pos q]
      simp only [f_X8_nextPick_L109, m_put25 G, Option.bind_some]
    · have q2 : ¬ a4.toInt < a8.toInt := fun y => q (Int32.lt_iff_toInt_lt.mpr y)
      have z0 : (0 : Int32) + a8 = a8 := Int32.zero_add a8
      have n9 : ¬ (9999 : Int32) < a8 := fun y => by
        have y1 := Int32.lt_iff_toInt_lt.mp y
        have y2 : (9999 : Int32).toInt = 9999 := by decide
        omega
      have e := i32_s1 h0 (by omega)
      have G1 : MG z 0 a8 0 ov od (mT z 0 a8 h) := MG_mT G 0 a8
      have R1 : RM (2 * m + 2 + 2) (mT z 0 a8 h) := RM.le (RM_mT R) (by omega)
      obtain ⟨h2, k1, k2⟩ := ih n (a8 + 1) a8 (oR (mT z 0 a8 h)) (MG_oR G1) (RM_oR R1) (by omega) (by omega)
      refine ⟨h2, ?_, k2⟩
      rw [if_neg q, z0, if_neg n9, if_pos rfl]
      simp only [m_put25 G, mo15 G1.1, m_pickNow R1 G1, Option.bind_some, if_true, f_X8_nextPick_L103]
      exact k1
theorem m_nextPick_g (R : RM 900 h) (G : MG z 0 0 0 ov od h) {a b c d : Int32} (q : ¬ badS a b c) (q1 : ¬ rng d 1 100 = 0) : ∃ h2, f_X8_nextPick (z + 15) a b c d h = some (-1, h2) ∧ MG z 0 0 0 ov od h2 := by
  obtain ⟨l1, l2⟩ := rng_le q1
  have e1 : (1 : Int32).toInt = 1 := by decide
  have e2 : (100 : Int32).toInt = 100 := by decide
  rw [e1] at l1
  rw [e2] at l2
  have G1 : MG z 0 0 0 ov od (mT z 0 0 h) := MG_mT G 0 0
  have R1 : RM (898 + 2) (mT z 0 0 h) := R
  obtain ⟨h2, k1, k2⟩ := m_npL (z := z) (ov := ov) (od := od) a b c d l2 100 3995 1 0 (oR (mT z 0 0 h)) (MG_oR G1) (RM.le (RM_oR R1) (by omega)) (by rw [e1]; decide) (by rw [e1]; omega)
  refine ⟨h2, ?_, k2⟩
  simp only [f_X8_nextPick, f_X8_nextPick_L0, m_put0 G, m_isPointg q, m_isIn, mr25 G1.1, mo15 G1.1, m_pickNow R1 G1, Option.bind_some, if_neg (show ¬ (1 : Int32) = 0 by decide), if_neg q1]
  exact k1
theorem m_nextPick_b (G : MG z 0 0 0 ov od h) {a b c d : Int32} (q : badS a b c ∨ rng d 1 100 = 0) : f_X8_nextPick (z + 15) a b c d h = some (0, mT z 1 0 (mT z 0 0 h)) := by
  have G1 : MG z 0 0 0 ov od (mT z 0 0 h) := MG_mT G 0 0
  by_cases q0 : badS a b c
  · simp only [f_X8_nextPick, f_X8_nextPick_L0, f_X8_nextPick_L25, m_put0 G, m_isPointb q0, mo15 G1.1, m_no G1, Option.bind_some, if_true]
  · simp only [f_X8_nextPick, f_X8_nextPick_L0, f_X8_nextPick_L25, m_put0 G, m_isPointg q0, m_isIn, mo15 G1.1, m_no G1, Option.bind_some, if_neg (show ¬ (1 : Int32) = 0 by decide), if_pos (q.resolve_left q0)]
theorem pr_nextPick (F : XF z h) (G : MG z 0 0 0 ov od h) (R : RM (999 + 1) h) (a b c d : Int32) : Pr z Int32.toInt64 (f_L_nextPick (some z) a b c d (some (z + 37))) (f_X8_nextPick (z + 15) a b c d) h := by
  by_cases q : badS a b c ∨ rng d 1 100 = 0
  · refine Pr.mk (k := 1) (v := 0) (tH h) (mT z 1 0 (mT z 0 0 (tH h))) ?_ (MG_tH G) (m_nextPick_b (MG_tH G) q) (MG_mT (MG_mT (MG_tH G) 0 0) 1 0) (fun q => absurd q (by decide))
    simp +decide only [f_L_nextPick, f_L_nextPick_L0, xo0 F, x_nextPick_b R q, Option.bind_some, Sum.elim_inl, Sum.elim_inr, reduceIte, reduceCtorEq, if_true, if_false, true_or, or_true, ite_self]
  · have q0 : ¬ badS a b c := fun y => q (Or.inl y)
    have q1 : ¬ rng d 1 100 = 0 := fun y => q (Or.inr y)
    obtain ⟨h2, k1, k2⟩ := m_nextPick_g (RM.le R (by decide) : RM 900 (oS z (Int32.toInt64 (-1)) h)) (MG_oS G (Int32.toInt64 (-1))) q0 q1
    refine Pr.mk (k := 0) (v := -1) (oS z (Int32.toInt64 (-1)) h) h2 ?_ (MG_oS G (Int32.toInt64 (-1))) k1 k2 (fun _ => rfl)
    simp +decide only [f_L_nextPick, f_L_nextPick_L0, xo0 F, x_nextPick_g F q0 q1, o_st G, Option.bind_some, Sum.elim_inl, Sum.elim_inr, reduceIte, reduceCtorEq, if_true, if_false, true_or, or_true, ite_self]
def PrE {α : Type} (z : Nat) (fX fM : fSt → Option (α × fSt)) (h : fSt) : Prop := ∃ (v : α) (h1 h2 : fSt), fX h = some (v, h1) ∧ fobj h1 (some (z + 15)) 8 = some (z + 15) ∧ fM h1 = some (v, h2)
theorem pr_added (F : XF z h) (G : MG z 0 0 0 ov od h) : PrE z (f_X7_added z) (f_X8_added (z + 15)) h := by
  refine ⟨1, h, mT z 0 0 h, ?_, mo15 G.1, ?_⟩
  · simp only [f_X7_added, f_X7_added_L0, xr0_7_5 F, Option.bind_some]
  · simp only [f_X8_added, f_X8_added_L0, mr1 G.1, mo15 G.1, m_ok G, Option.bind_some]
theorem pr_nodes (F : XF z h) (G : MG z 0 0 0 ov od h) : PrE z (f_X7_nodes z) (f_X8_nodes (z + 15)) h := by
  refine ⟨1, h, mT z 0 0 h, ?_, mo15 G.1, ?_⟩
  · simp only [f_X7_nodes, f_X7_nodes_L0, xr0_7_9 F, Option.bind_some]
  · simp only [f_X8_nodes, f_X8_nodes_L0, m_nodesNow G, mo15 G.1, m_ok G, Option.bind_some]
theorem pr_tracks (F : XF z h) (G : MG z 0 0 0 ov od h) : PrE z (f_X7_tracks z) (f_X8_tracks (z + 15)) h := by
  refine ⟨0, h, mT z 0 0 h, ?_, mo15 G.1, ?_⟩
  · simp only [f_X7_tracks, f_X7_tracks_L0, xr0_7_6 F, Option.bind_some]
  · simp only [f_X8_tracks, f_X8_tracks_L0, mr17 G.1, mo15 G.1, m_ok G, Option.bind_some]
theorem pr_nextKey (F : XF z h) (G : MG z 0 0 0 ov od h) : PrE z (f_X7_nextKey z) (f_X8_nextKey (z + 15)) h := by
  refine ⟨-1, h, mT z 0 0 h, ?_, mo15 G.1, ?_⟩
  · simp only [x_nextKey F, Option.bind_some]
  · simp only [f_X8_nextKey, f_X8_nextKey_L0, m_nextKeyNow G, mo15 G.1, m_ok G, Option.bind_some]
theorem pr_sizeq : (FP.ddiv (FP.i2d 1) (FP.i2d 1)) &&& 0x7fffffffffffffff ≤ 0x7ff0000000000000 := by decide +kernel
theorem pr_sizec : Op.cmpValue (FP.dcmp (FP.ddiv (FP.i2d 1) (FP.i2d 1)) (FP.ddiv (FP.i2d 1) (FP.i2d 1))) CmpOp.l = 0 := by decide +kernel
def PrD (z : Nat) (fL : fSt → Option ((Int32 ⊕ Nat) × fSt)) (fM : fSt → Option (UInt64 × fSt)) (h : fSt) : Prop := ∃ (k : Int32) (v : UInt64) (h1 h2 : fSt), fL h = some (.inl k, h1) ∧ fobj h1 (some (z + 15)) 8 = some (z + 15) ∧ fM h1 = some (v, h2) ∧ fobj h2 (some (z + 15)) 8 = some (z + 15) ∧ f_X8_thrown (z + 15) h2 = some (k, h2) ∧ (k = 0 → ∃ o, faD h2 (some (z + 38)) 3 0 = some o ∧ Op.cmpValue (FP.dcmp o v) CmpOp.l = 0)
set_option maxRecDepth 100000 in
theorem x_size0 (F : XF z h) : f_X7_size z 0 h = some (.inl (FP.ddiv (FP.i2d 1) (FP.i2d 1)), h) := by
  have e : ((1 : Int32) * 1) = 1 := by decide
  simp only [f_X7_size, f_X7_size_L0, xo0 F, x_found0 F, sS_X7_size_L11, sN_X7_size_L11, xr3_4_7 F, xr3_4_8 F, xr3_4_14 F, e, if_pos pr_sizeq, Option.bind_some, Sum.elim_inl]
theorem pr_size (F : XF z h) (G : MG z 0 0 0 ov od h) (R : RM (999 + 1) h) (a : Int32) : PrD z (f_L_size (some z) a (some (z + 38))) (f_X8_size (z + 15) a) h := by
  by_cases q : a = 0
  · subst q
    have G1 := MG_dS G (FP.ddiv (FP.i2d 1) (FP.i2d 1))
    have G2 := MG_mT G1 0 0
    refine ⟨0, FP.ddiv (FP.i2d 1) (FP.i2d 1), dS z (FP.ddiv (FP.i2d 1) (FP.i2d 1)) h, mT z 0 0 (dS z (FP.ddiv (FP.i2d 1) (FP.i2d 1)) h), ?_, mo15 G1.1, ?_, mo15 G2.1, m_thr G2, fun _ => ⟨_, MG_D G2, pr_sizec⟩⟩
    · simp only [f_L_size, f_L_size_L0, xo0 F, x_size0 F, d_st G, Option.bind_some, Sum.elim_inl]
    · simp only [f_X8_size, f_X8_size_L0, f_X8_size_L14, mo15 G1.1, m_isNode0 G1, m_put0 G1, mr0 G2.1, s0_X8_size_L33, if_pos pr_sizeq, Option.bind_some, if_true, if_neg (show ¬ (1 : Int32) = 0 by decide)]
  · have Gt := MG_tH G
    have G2 := MG_mT Gt 1 0
    refine ⟨1, FP.dconst0, tH h, mT z 1 0 (tH h), ?_, mo15 Gt.1, ?_, mo15 G2.1, m_thr G2, fun y => absurd y (by decide)⟩
    · simp +decide only [f_L_size, f_L_size_L0, f_X7_size, f_X7_size_L0, xo0 F, x_foundn R F q, Option.bind_some, Sum.elim_inr, if_true, reduceIte]
    · simp +decide only [f_X8_size, f_X8_size_L0, f_X8_size_L14, mo15 Gt.1, m_isNoden Gt q, m_put0 Gt, mr0 G2.1, Option.bind_some, if_true, if_false, reduceIte]
end PAIR3
