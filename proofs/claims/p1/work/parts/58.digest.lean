/-! The digest of the fresh object, both ways. -/
section DIG
variable {z : Nat} {th tm hv : Int32} {ov : Int64} {od : UInt64} {h : fSt}
theorem q01 : ((0 : Int32) + 1) = 1 := by decide
theorem q12 : ((1 : Int32) + 1) = 2 := by decide
theorem q23 : ((2 : Int32) + 1) = 3 := by decide
theorem q34 : ((3 : Int32) + 1) = 4 := by decide
set_option maxRecDepth 100000 in
theorem x_mixP (F : XF z h) (d x y : Int64) : f_X7_mixedWithPoint z d (PT z x y 1 0 h) = some ((((d * 31 + part1 x y 0) * 31 + part1 x y 1) * 31 + part1 x y 2) * 31 + part1 x y 3, PT z x y 1 0 h) := by
  simp +decide only [f_X7_mixedWithPoint, f_X7_mixedWithPoint_L0, s0_X7_mixedWithPoint_L5, s1_X7_mixedWithPoint_L5, s2_X7_mixedWithPoint_L5, s3_X7_mixedWithPoint_L5, s4_X7_mixedWithPoint_L5, q01, q12, q23, q34, xr0_7_3 (XF_PT F), pO9, x_part, f_X7_mixed, f_X7_mixed_L0, Option.bind_some, if_true, if_false, reduceIte]
theorem x_sides (F : XF z h) : f_X0_side (z + 10) 0 (BD z h) = some (some (z + 11), BD z h) ∧ f_X0_side (z + 10) 1 (BD z h) = some (some (z + 12), BD z h) ∧ f_X0_side (z + 10) 2 (BD z h) = some (some (z + 13), BD z h) ∧ f_X0_side (z + 10) 3 (BD z h) = some (some (z + 14), BD z h) := by
  refine ⟨?_, ?_, ?_, ?_⟩
  · simp +decide only [f_X0_side, f_X0_side_L0, xr10_0_0 (XF_BD F), Option.bind_some, if_true]
  · simp +decide only [f_X0_side, f_X0_side_L0, xr10_0_1 (XF_BD F), Option.bind_some, if_true, if_false]
  · simp +decide only [f_X0_side, f_X0_side_L0, xr10_0_2 (XF_BD F), Option.bind_some, if_true, if_false]
  · simp +decide only [f_X0_side, f_X0_side_L0, xr10_0_3 (XF_BD F), Option.bind_some, if_true, if_false]
set_option maxRecDepth 100000 in
theorem x_mixB (F : XF z h) (d : Int64) : f_X7_mixedWithNode_L219 4096 (some z) d 0 (BD z h) = some (((((((((d * 31 + 0) * 31 + 0) * 31 + 0) * 31 + 0) * 31 + 0) * 31 + 0) * 31 + 0) * 31 + 0), BD z h) := by
  obtain ⟨s0, s1, s2, s3⟩ := x_sides F
  have j : ∀ i, i < 4 → ∀ k, k < 2 → fgJ (BD z h) (some (z + 11 + i)) 1 k = some 0 := fun i hi k hk => bdJ hi hk
  have j00 := j 0 (by decide) 0 (by decide)
  have j01 := j 0 (by decide) 1 (by decide)
  have j10 : fgJ (BD z h) (some (z + 12)) 1 0 = some 0 := j 1 (by decide) 0 (by decide)
  have j11 : fgJ (BD z h) (some (z + 12)) 1 1 = some 0 := j 1 (by decide) 1 (by decide)
  have j20 : fgJ (BD z h) (some (z + 13)) 1 0 = some 0 := j 2 (by decide) 0 (by decide)
  have j21 : fgJ (BD z h) (some (z + 13)) 1 1 = some 0 := j 2 (by decide) 1 (by decide)
  have j30 : fgJ (BD z h) (some (z + 14)) 1 0 = some 0 := j 3 (by decide) 0 (by decide)
  have j31 : fgJ (BD z h) (some (z + 14)) 1 1 = some 0 := j 3 (by decide) 1 (by decide)
  have j00 : fgJ (BD z h) (some (z + 11)) 1 0 = some 0 := j00
  have j01 : fgJ (BD z h) (some (z + 11)) 1 1 = some 0 := j01
  simp +decide only [s0_X7_mixedWithNode_L219, s1_X7_mixedWithNode_L219, s2_X7_mixedWithNode_L219, s3_X7_mixedWithNode_L219, s4_X7_mixedWithNode_L219, q01, q12, q23, q34, xr0_7_4 (XF_BD F), xo10 (XF_BD F), s0, s1, s2, s3, j00, j01, j10, j11, j20, j21, j30, j31, f_X7_mixed, f_X7_mixed_L0, Option.bind_some, if_true, if_false, reduceIte]
def dg1 (d : Int64) : Int64 := (((((((d * 31 + Int32.toInt64 0) * 31 + Int32.toInt64 (-1)) * 31 + Int32.toInt64 0) * 31 + Int32.toInt64 0) * 31 + Int32.toInt64 0) * 31 + Int32.toInt64 0) * 31 + Int32.toInt64 100) * 31 + 1
def dg2 (d : Int64) : Int64 := (d * 31 + Int32.toInt64 100) * 31 + Int32.toInt64 0
def dgP (d x y : Int64) : Int64 := (((d * 31 + part1 x y 0) * 31 + part1 x y 1) * 31 + part1 x y 2) * 31 + part1 x y 3
def dgB (d : Int64) : Int64 := ((((((((d * 31 + 0) * 31 + 0) * 31 + 0) * 31 + 0) * 31 + 0) * 31 + 0) * 31 + 0) * 31 + 0)
def dgN (d : Int64) : Int64 := dgB (dgP (dgP (dg2 (dg1 d)) (Int32.toInt64 1) (Int32.toInt64 2)) 1 2)
set_option maxRecDepth 100000 in
theorem x_mixN (F : XF z h) (d : Int64) : f_X7_mixedWithNode z d (some (z + 3)) h = some (dgN d, BD z (PT z 1 2 1 0 h)) := by
  have F1 := XF_PT (x := Int32.toInt64 1) (y := Int32.toInt64 2) (u := 1) (c := 0) F
  have F2 := XF_PT (x := 1) (y := 2) (u := 1) (c := 0) F
  have e1 : f_X5_set (z + 9) 1 2 1 (PT z (Int32.toInt64 1) (Int32.toInt64 2) 1 0 h) = some ((), PT z 1 2 1 0 h) := by
    rw [x_set F1, PT_PT]
  have e2 : f_X7_mixedWithNode_L129 (some z) (some (z + 3)) 1 (dg1 d - 1) h = some (dgN d, BD z (PT z 1 2 1 0 h)) → True := fun _ => trivial
  have k : ∀ d0 : Int64, f_X7_mixedWithNode_L129 (some z) (some (z + 3)) 1 (d0) h = some (dgB (dgP (dgP (dg2 (d0 * 31 + 1)) (Int32.toInt64 1) (Int32.toInt64 2)) 1 2), BD z (PT z 1 2 1 0 h)) := by
    intro d0
    simp only [f_X7_mixedWithNode_L129, f_X7_mixed, f_X7_mixed_L0, xr0_7_7 F, x_strengthOf F, xr3_4_18 F, xo0 F, x_raise F, xo0 F1, x_mixP F, xr0_7_3 F1, xo9 F1, e1, xr0_7_3 F2, xr0_7_7 F2, x_sink F, xo0 F2, x_gather F2, x_mixB F2, Option.bind_some]
    rfl
  simp +decide only [f_X7_mixedWithNode, f_X7_mixedWithNode_L0, f_X7_mixed, f_X7_mixed_L0, xr3_4_0 F, x_parentNumber F, xo3 F, x_depth F, xr3_4_3 F, xr3_4_4 F, xr3_4_5 F, xr3_4_6 F, xr0_7_7 F, xo4 F, xo5 F, xo6 F, xo7 F, x_at4 F, x_at5 F, x_at6 F, x_at7 F, x_isShownAt F, k, Option.bind_some, if_true, if_false, reduceIte]
  rfl
def dgK (d : Int64) : Int64 := ((((((((((d * 31 + Int32.toInt64 (-1)) * 31 + Int32.toInt64 (-1)) * 31 + Int32.toInt64 (-1)) * 31 + Int32.toInt64 (-1)) * 31 + Int32.toInt64 (-1)) * 31 + Int32.toInt64 (-1)) * 31 + Int32.toInt64 (-1)) * 31 + Int32.toInt64 (-1)) * 31 + Int32.toInt64 (-1)) * 31 + Int32.toInt64 (-1)) * 31 + Int32.toInt64 0
def dg0 : Int64 := (((2647 * 31 + Int32.toInt64 1) * 31 + Int32.toInt64 1) * 31 + Int32.toInt64 0) * 31 + Int32.toInt64 (-1)
theorem t0 : ((0 : Int32) + 10) = 10 := by decide
theorem t10 : ((10 : Int32) + 10) = 20 := by decide
theorem t20 : ((20 : Int32) + 10) = 30 := by decide
theorem t30 : ((30 : Int32) + 10) = 40 := by decide
theorem t40 : ((40 : Int32) + 10) = 50 := by decide
theorem t50 : ((50 : Int32) + 10) = 60 := by decide
theorem t60 : ((60 : Int32) + 10) = 70 := by decide
theorem t70 : ((70 : Int32) + 10) = 80 := by decide
theorem t80 : ((80 : Int32) + 10) = 90 := by decide
theorem t90 : ((90 : Int32) + 10) = 100 := by decide
set_option maxRecDepth 100000 in
theorem x_picks (F : XF z h) (d : Int64) : f_X7_digest_L80 4096 (some z) d 0 h = some (dgK d, h) := by
  have e := x_changes_g F (a := 0) (b := 7) (by decide) (by decide)
  simp +decide only [s0_X7_digest_L80, s1_X7_digest_L80, s2_X7_digest_L80, s3_X7_digest_L80, s4_X7_digest_L80, s5_X7_digest_L80, s6_X7_digest_L80, s7_X7_digest_L80, s8_X7_digest_L80, s9_X7_digest_L80, s10_X7_digest_L80, t0, t10, t20, t30, t40, t50, t60, t70, t80, t90, xr0_7_7 F, xo0 F, x_topAtN F, e, f_X7_mixed, f_X7_mixed_L0, Option.bind_some, Sum.elim_inl, if_true, if_false, reduceIte]
  rfl
set_option maxRecDepth 100000 in
theorem x_digest (F : XF z h) : f_X7_digest z h = some (dgK (dgN dg0), BD z (PT z 1 2 1 0 h)) := by
  have F2 := XF_BD (XF_PT (x := 1) (y := 2) (u := 1) (c := 0) F)
  simp +decide only [f_X7_digest, f_X7_digest_L0, f_X7_mixed, f_X7_mixed_L0, xr0_7_5 F, xr0_7_9 F, xr0_7_6 F, xo0 F, x_nextKey F, s0_X7_digest_L44, x_nodeOrNull0 F, x_mixN F, f_X7_digest_L72, q01, s1_X7_digest_L44, xr0_7_5 F2, x_picks F2, Option.bind_some, if_true, if_false, reduceIte]
  rfl
theorem sm1 : smallA (Int32.toInt64 1) := rngK (by decide)
theorem sm2 : smallA (Int32.toInt64 2) := rngK (by decide)
def pq (w : Int32) : Int64 := Int32.toInt64 (Int64.toInt32 (part1 (Int32.toInt64 1) (Int32.toInt64 2) w))
abbrev pW (h : fSt) : fSt := pS (Int32.toInt64 1) (Int32.toInt64 2) 1 h
set_option maxRecDepth 100000 in
theorem m_dig190 (k53 : Option Nat → Int64 → Option Nat → Int32 → fSt → Option (Int64 × fSt)) {k : Nat} (R : RM (k + 4) h) (G : MG z th tm hv ov od h) (d : Int64) (a3 : Option Nat) : f_X8_digest_L190 k53 4096 (some (z + 15)) d a3 0 0 h = f_X8_digest_L223 k53 4096 (some (z + 15)) ((((d * 31 + pq 0) * 31 + pq 1) * 31 + pq 2) * 31 + pq 3) a3 0 0 (pW (pW (pW (pW h)))) := by
  have R1 : RM (k + 3) (pW h) := RM_pS R
  have R2 : RM (k + 2) (pW (pW h)) := RM_pS R1
  have R3 : RM (k + 1) (pW (pW (pW h))) := RM_pS R2
  have G1 : MG z th tm hv ov od (pW h) := MG_pS G _ _ _
  have G2 : MG z th tm hv ov od (pW (pW h)) := MG_pS G1 _ _ _
  have G3 : MG z th tm hv ov od (pW (pW (pW h))) := MG_pS G2 _ _ _
  have e0 := m_toWholeNow R G 0 (by decide) sm1 sm2
  have e1 := m_toWholeNow R1 G1 1 (by decide) sm1 sm2
  have e2 := m_toWholeNow R2 G2 2 (by decide) sm1 sm2
  have e3 := m_toWholeNow R3 G3 3 (by decide) sm1 sm2
  simp +decide only [s0_X8_digest_L190, s1_X8_digest_L190, s2_X8_digest_L190, s3_X8_digest_L190, s4_X8_digest_L190, q01, q12, q23, q34, mo15 G.1, mo15 G1.1, mo15 G2.1, mo15 G3.1, e0, e1, e2, e3, Option.bind_some, if_true, if_false, reduceIte]
  rfl
set_option maxRecDepth 100000 in
theorem m_dig223 (k53 : Option Nat → Int64 → Option Nat → Int32 → fSt → Option (Int64 × fSt)) {k : Nat} (R : RM (k + 4) h) (G : MG z th tm hv ov od h) (d : Int64) (a3 : Option Nat) : f_X8_digest_L223 k53 4096 (some (z + 15)) d a3 0 0 h = f_X8_digest_L256 k53 4096 (some (z + 15)) ((((d * 31 + pq 0) * 31 + pq 1) * 31 + pq 2) * 31 + pq 3) a3 0 0 (pW (pW (pW (pW h)))) := by
  have R1 : RM (k + 3) (pW h) := RM_pS R
  have R2 : RM (k + 2) (pW (pW h)) := RM_pS R1
  have R3 : RM (k + 1) (pW (pW (pW h))) := RM_pS R2
  have G1 : MG z th tm hv ov od (pW h) := MG_pS G _ _ _
  have G2 : MG z th tm hv ov od (pW (pW h)) := MG_pS G1 _ _ _
  have G3 : MG z th tm hv ov od (pW (pW (pW h))) := MG_pS G2 _ _ _
  have e0 := m_fromWholeNow R G 0 (by decide) sm1 sm2
  have e1 := m_fromWholeNow R1 G1 1 (by decide) sm1 sm2
  have e2 := m_fromWholeNow R2 G2 2 (by decide) sm1 sm2
  have e3 := m_fromWholeNow R3 G3 3 (by decide) sm1 sm2
  simp +decide only [s0_X8_digest_L223, s1_X8_digest_L223, s2_X8_digest_L223, s3_X8_digest_L223, s4_X8_digest_L223, q01, q12, q23, q34, mo15 G.1, mo15 G1.1, mo15 G2.1, mo15 G3.1, e0, e1, e2, e3, Option.bind_some, if_true, if_false, reduceIte]
  rfl
set_option maxRecDepth 100000 in
theorem m_dig256 (k53 : Option Nat → Int64 → Option Nat → Int32 → fSt → Option (Int64 × fSt)) (G : MG z th tm hv ov od h) (d : Int64) (a3 : Option Nat) : f_X8_digest_L256 k53 4096 (some (z + 15)) d a3 0 0 h = k53 (some (z + 15)) (((((((((d * 31 + Int32.toInt64 0) * 31 + Int32.toInt64 0) * 31 + Int32.toInt64 0) * 31 + Int32.toInt64 0) * 31 + Int32.toInt64 0) * 31 + Int32.toInt64 0) * 31 + Int32.toInt64 0) * 31 + Int32.toInt64 0)) a3 1 h := by
  simp +decide only [s0_X8_digest_L256, s1_X8_digest_L256, s2_X8_digest_L256, s3_X8_digest_L256, s4_X8_digest_L256, q01, q12, q23, q34, mo15 G.1, m_boundNow G, f_X8_digest_L300, Option.bind_some, if_true, if_false, reduceIte]
set_option maxRecDepth 100000 in
theorem m_dig113 (k53 : Option Nat → Int64 → Option Nat → Int32 → fSt → Option (Int64 × fSt)) {k : Nat} (G : MG z th tm 0 ov od h) (d : Int64) (g : Nat) (hg : faI h (some g) 0 0 = some 0) : f_X8_digest_L113 k53 4096 (some (z + 15)) d (some g) 0 0 h = f_X8_digest_L190 k53 4096 (some (z + 15)) ((((((((d * 31 + Int32.toInt64 0) * 31 + Int32.toInt64 0) * 31 + Int32.toInt64 0) * 31 + Int32.toInt64 100) * 31 + Int32.toInt64 1) * 31 + Int32.toInt64 100) * 31 + Int32.toInt64 0)) (some g) 0 0 h := by
  simp +decide only [s0_X8_digest_L113, s1_X8_digest_L113, s2_X8_digest_L113, s3_X8_digest_L113, s4_X8_digest_L113, q01, q12, q23, q34, mo15 G.1, m_has0 G, m_has1 G, m_has2 G, m_has3 G, m_isShownNow G, f_X8_digest_L160, m_strengthNow, f_X8_placeIn, f_X8_placeIn_L0, s0_X8_placeIn_L2, hg, Option.bind_some, if_true, if_false, reduceIte]
set_option maxRecDepth 100000 in
theorem m_picks {k : Nat} (R : RM (k + 22) h) (G : MG z th tm hv ov od h) (d : Int64) : ∃ h2, f_X8_digest_L309 4096 (some (z + 15)) d 0 h = some (dgK d, h2) := by
  have R1 : RM (k + 20) (oR h) := RM_oR R
  have G1 : MG z th tm hv ov od (oR h) := MG_oR G
  have e1 := m_pickNow R G 0 0 1
  have R2 : RM (k + 18) (oR (oR h)) := RM_oR R1
  have G2 : MG z th tm hv ov od (oR (oR h)) := MG_oR G1
  have e2 := m_pickNow R1 G1 10 10 1
  have R3 : RM (k + 16) (oR (oR (oR h))) := RM_oR R2
  have G3 : MG z th tm hv ov od (oR (oR (oR h))) := MG_oR G2
  have e3 := m_pickNow R2 G2 20 20 1
  have R4 : RM (k + 14) (oR (oR (oR (oR h)))) := RM_oR R3
  have G4 : MG z th tm hv ov od (oR (oR (oR (oR h)))) := MG_oR G3
  have e4 := m_pickNow R3 G3 30 30 1
  have R5 : RM (k + 12) (oR (oR (oR (oR (oR h))))) := RM_oR R4
  have G5 : MG z th tm hv ov od (oR (oR (oR (oR (oR h))))) := MG_oR G4
  have e5 := m_pickNow R4 G4 40 40 1
  have R6 : RM (k + 10) (oR (oR (oR (oR (oR (oR h)))))) := RM_oR R5
  have G6 : MG z th tm hv ov od (oR (oR (oR (oR (oR (oR h)))))) := MG_oR G5
  have e6 := m_pickNow R5 G5 50 50 1
  have R7 : RM (k + 8) (oR (oR (oR (oR (oR (oR (oR h))))))) := RM_oR R6
  have G7 : MG z th tm hv ov od (oR (oR (oR (oR (oR (oR (oR h))))))) := MG_oR G6
  have e7 := m_pickNow R6 G6 60 60 1
  have R8 : RM (k + 6) (oR (oR (oR (oR (oR (oR (oR (oR h)))))))) := RM_oR R7
  have G8 : MG z th tm hv ov od (oR (oR (oR (oR (oR (oR (oR (oR h)))))))) := MG_oR G7
  have e8 := m_pickNow R7 G7 70 70 1
  have R9 : RM (k + 4) (oR (oR (oR (oR (oR (oR (oR (oR (oR h))))))))) := RM_oR R8
  have G9 : MG z th tm hv ov od (oR (oR (oR (oR (oR (oR (oR (oR (oR h))))))))) := MG_oR G8
  have e9 := m_pickNow R8 G8 80 80 1
  have R10 : RM (k + 2) (oR (oR (oR (oR (oR (oR (oR (oR (oR (oR h)))))))))) := RM_oR R9
  have G10 : MG z th tm hv ov od (oR (oR (oR (oR (oR (oR (oR (oR (oR (oR h)))))))))) := MG_oR G9
  have e10 := m_pickNow R9 G9 90 90 1
  refine ⟨(oR (oR (oR (oR (oR (oR (oR (oR (oR (oR h)))))))))), ?_⟩
  simp +decide only [s0_X8_digest_L309, s1_X8_digest_L309, s2_X8_digest_L309, s3_X8_digest_L309, s4_X8_digest_L309, s5_X8_digest_L309, s6_X8_digest_L309, s7_X8_digest_L309, s8_X8_digest_L309, s9_X8_digest_L309, s10_X8_digest_L309, t0, t10, t20, t30, t40, t50, t60, t70, t80, t90, mo15 G.1, mo15 G1.1, mo15 G2.1, mo15 G3.1, mo15 G4.1, mo15 G5.1, mo15 G6.1, mo15 G7.1, mo15 G8.1, mo15 G9.1, mo15 G10.1, e1, e2, e3, e4, e5, e6, e7, e8, e9, e10, m_changesNow G10, Option.bind_some, if_true, if_false, reduceIte]
  rfl
theorem dg_same : (((((((((((((((((((((((((((((82057 + Int32.toInt64 1) * 31 + Int32.toInt64 1) * 31 + Int32.toInt64 0) * 31 + Int32.toInt64 (-1)) * 31 + Int32.toInt64 0) * 31 + Int32.toInt64 (-1)) * 31 + Int32.toInt64 0) * 31 + Int32.toInt64 0) * 31 + Int32.toInt64 0) * 31 + Int32.toInt64 0) * 31 + Int32.toInt64 100) * 31 + Int32.toInt64 1) * 31 + Int32.toInt64 100) * 31 + Int32.toInt64 0) * 31 + pq 0) * 31 + pq 1) * 31 + pq 2) * 31 + pq 3) * 31 + pq 0) * 31 + pq 1) * 31 + pq 2) * 31 + pq 3) * 31 + Int32.toInt64 0) * 31 + Int32.toInt64 0) * 31 + Int32.toInt64 0) * 31 + Int32.toInt64 0) * 31 + Int32.toInt64 0) * 31 + Int32.toInt64 0) * 31 + Int32.toInt64 0) * 31 + Int32.toInt64 0 = dgN dg0 := by decide +kernel
set_option maxRecDepth 100000 in
theorem m_digest (R : RM 900 h) (G : MG z 0 0 0 ov od h) : ∃ h2, f_X8_digest (z + 15) h = some (dgK (dgN dg0), h2) := by
  have G1 : MG z 0 0 0 ov od (mT z 0 0 h) := MG_mT G 0 0
  have R1 : RM (898 + 2) (mT z 0 0 h) := R
  have G2 : MG z 0 0 0 ov od (oR (mT z 0 0 h)) := MG_oR G1
  have R2 : RM (894 + 4) (oR (mT z 0 0 h)) := RM_oR R1
  have R3 : RM (890 + 4) (pW (pW (pW (pW (oR (mT z 0 0 h)))))) := RM_pS (RM_pS (RM_pS (RM_pS R2)))
  have G3 : MG z 0 0 0 ov od (pW (pW (pW (pW (oR (mT z 0 0 h)))))) := MG_pS (MG_pS (MG_pS (MG_pS G2 _ _ _) _ _ _) _ _ _) _ _ _
  have R4 : RM (868 + 22) (pW (pW (pW (pW (pW (pW (pW (pW (oR (mT z 0 0 h)))))))))) := RM_pS (RM_pS (RM_pS (RM_pS R3)))
  have G4 : MG z 0 0 0 ov od (pW (pW (pW (pW (pW (pW (pW (pW (oR (mT z 0 0 h)))))))))) := MG_pS (MG_pS (MG_pS (MG_pS G3 _ _ _) _ _ _) _ _ _) _ _ _
  obtain ⟨h2, e⟩ := m_picks R4 G4 (dgN dg0)
  refine ⟨h2, ?_⟩
  rw [← e, ← dg_same]
  simp +decide only [f_X8_digest, f_X8_digest_L0, m_put0 G, mr1 G1.1, mo15 G1.1, m_nodesNow G1, mr17 G1.1, m_nextKeyNow G1, m_ordered R1 G1, s0_X8_digest_L53, mr1 G2.1, mr2 G2.1, ma2_0 G2.1, mr6 G2.1, ma6_0 G2.1, mo15 G2.1, m_levelNow G2, m_dig113 (k := 0) _ G2 _ _ oR_a, m_dig190 _ R2 G2, m_dig223 _ R3 G3, m_dig256 _ G4, s1_X8_digest_L53, mr1 G4.1, Option.bind_some, if_true, if_false, reduceIte]
theorem pr_digest (F : XF z h) (G : MG z 0 0 0 ov od h) (R : RM (999 + 1) h) : PrE z (f_X7_digest z) (f_X8_digest (z + 15)) h := by
  have G1 : MG z 0 0 0 ov od (BD z (PT z 1 2 1 0 h)) := MG_BD (MG_PT G)
  obtain ⟨h2, e⟩ := m_digest (RM.le R (by decide) : RM 900 (BD z (PT z 1 2 1 0 h))) G1
  exact ⟨_, _, h2, x_digest F, mo15 G1.1, e⟩
end DIG
