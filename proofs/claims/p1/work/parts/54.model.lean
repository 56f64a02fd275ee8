/-! The model on the fresh object. -/
section MDL
variable {z : Nat} {th tm hv : Int32} {ov : Int64} {od : UInt64} {h : fSt}
def mcell (z : Nat) (th tm : Int32) : fCe := .inl (8, [.int th, .int 1, .ref (z + 16), .ref (z + 17), .ref (z + 18), .ref (z + 19), .ref (z + 20), .ref (z + 21), .ref (z + 22), .ref (z + 23), .ref (z + 24), .ref (z + 25), .ref (z + 26), .ref (z + 27), .ref (z + 28), .ref (z + 29), .int 1, .int 0, .ref (z + 30), .ref (z + 31), .ref (z + 32), .ref (z + 33), .ref (z + 34), .ref (z + 35), .ref (z + 36), .int tm])
def mT (z : Nat) (th tm : Int32) (h : fSt) : fSt := fSet h (z + 15) (mcell z th tm)
theorem MG_mT (G : MG z th tm hv ov od h) (v t : Int32) : MG z v t hv ov od (mT z v t h) := by
  obtain ⟨⟨m0, mm⟩, b, c, d⟩ := G
  have e : ∀ k, k ≠ 15 → fF (mT z v t h) (z + k) = fF h (z + k) := fun k q => fF_set_ne (by omega)
  refine ⟨⟨fF_set_eq, ?_⟩, ?_, ?_, d⟩
  · rw [e 16 (by decide), e 17 (by decide), e 18 (by decide), e 19 (by decide), e 20 (by decide), e 21 (by decide), e 22 (by decide), e 23 (by decide), e 24 (by decide), e 25 (by decide), e 26 (by decide), e 27 (by decide), e 28 (by decide), e 29 (by decide), e 30 (by decide), e 31 (by decide), e 32 (by decide), e 33 (by decide), e 34 (by decide), e 35 (by decide), e 36 (by decide)]; exact mm
  · rw [e 37 (by decide)]; exact b
  · rw [e 38 (by decide)]; exact c
theorem RM_mT {k : Nat} {v t : Int32} (R : RM k h) : RM k (mT z v t h) := by
  exact R
theorem m_put0 (G : MG z th tm hv ov od h) (v : Int32) : fput h (some (z + 15)) 8 0 (.int v) = some (mT z v tm h) := by
  exact fput_C G.1.1 (Nat.le_of_ble_eq_true rfl)
theorem m_put25 (G : MG z th tm hv ov od h) (v : Int32) : fput h (some (z + 15)) 8 25 (.int v) = some (mT z th v h) := by
  exact fput_C G.1.1 (Nat.le_of_ble_eq_true rfl)
theorem m_no (G : MG z th tm hv ov od h) (v : Int32) : f_X8_no (z + 15) v h = some (0, mT z v tm h) := by
  simp only [f_X8_no, f_X8_no_L0, m_put0 G, Option.bind_some]
theorem m_isNot (G : MG z th tm hv ov od h) (v : Int32) : f_X8_isNot (z + 15) v h = some (0, mT z v tm h) := by
  simp only [f_X8_isNot, f_X8_isNot_L0, m_put0 G, Option.bind_some]
theorem m_ok (G : MG z th tm hv ov od h) (v : Int32) : f_X8_ok (z + 15) v h = some (v, mT z 0 tm h) := by
  simp only [f_X8_ok, f_X8_ok_L0, m_put0 G, Option.bind_some]
theorem m_thr (G : MG z th tm hv ov od h) : f_X8_thrown (z + 15) h = some (th, h) := by
  simp only [f_X8_thrown, f_X8_thrown_L0, mr0 G.1, Option.bind_some]
theorem rng00 {a : Int32} (h : a ≠ 0) : rng a 0 0 = 0 := by
  unfold rng
  by_cases q : a < 0
  · rw [if_pos q]
  · rw [if_neg q]
    by_cases q2 : 0 < a
    · rw [if_pos q2]
    · exact absurd (Int32.le_antisymm (Int32.not_lt.mp q2) (Int32.not_lt.mp q)) h
theorem m_isNode0 (G : MG z th tm hv ov od h) : f_X8_isNode (z + 15) 0 h = some (1, h) := by
  have e : rng 0 0 0 = 1 := by decide
  have e1 : ((1 : Int32) - 1) = 0 := by decide
  simp +decide only [f_X8_isNode, f_X8_isNode_L0, f_X8_isNode_L28, m_isIn, e1, e, or_true, mo15 G.1, mr0 G.1, mr1 G.1, mr2 G.1, mr3 G.1, mr4 G.1, mr5 G.1, mr6 G.1, mr7 G.1, mr8 G.1, mr9 G.1, mr10 G.1, mr11 G.1, mr12 G.1, mr13 G.1, mr14 G.1, mr15 G.1, mr16 G.1, mr17 G.1, mr18 G.1, mr19 G.1, mr20 G.1, mr21 G.1, mr22 G.1, mr23 G.1, mr24 G.1, mr25 G.1, ma2_0 G.1, ma3_0 G.1, ma4_0 G.1, ma5_0 G.1, ma6_0 G.1, ma7_0 G.1, ma10_0 G.1, ma11_0 G.1, ma12_0 G.1, ma14_0 G.1, ma14_1 G.1, ma14_2 G.1, ma14_3 G.1, Option.bind_some, Sum.elim_inl, Sum.elim_inr, reduceIte, reduceCtorEq, if_true, if_false]
theorem m_isNoden (G : MG z th tm hv ov od h) {a : Int32} (ha : a ≠ 0) : f_X8_isNode (z + 15) a h = some (0, h) := by
  have e1 : ((1 : Int32) - 1) = 0 := by decide
  simp +decide only [f_X8_isNode, f_X8_isNode_L0, f_X8_isNode_L27, f_X8_isNode_L28, m_isIn, e1, rng00 ha, true_or, mo15 G.1, mr0 G.1, mr1 G.1, mr2 G.1, mr3 G.1, mr4 G.1, mr5 G.1, mr6 G.1, mr7 G.1, mr8 G.1, mr9 G.1, mr10 G.1, mr11 G.1, mr12 G.1, mr13 G.1, mr14 G.1, mr15 G.1, mr16 G.1, mr17 G.1, mr18 G.1, mr19 G.1, mr20 G.1, mr21 G.1, mr22 G.1, mr23 G.1, mr24 G.1, mr25 G.1, ma2_0 G.1, ma3_0 G.1, ma4_0 G.1, ma5_0 G.1, ma6_0 G.1, ma7_0 G.1, ma10_0 G.1, ma11_0 G.1, ma12_0 G.1, ma14_0 G.1, ma14_1 G.1, ma14_2 G.1, ma14_3 G.1, Option.bind_some, Sum.elim_inl, Sum.elim_inr, reduceIte, reduceCtorEq, if_true, if_false]
theorem m_isTrack (G : MG z th tm hv ov od h) (a : Int32) : f_X8_isTrack (z + 15) a h = some (0, h) := by
  have e1 : ((0 : Int32) - 1) = -1 := by decide
  have e2 : rng a 0 (-1) = 0 := by
    unfold rng
    by_cases q : a < 0
    · rw [if_pos q]
    · rw [if_neg q, if_pos (Int32.lt_of_lt_of_le (by decide) (Int32.not_lt.mp q))]
  simp +decide only [f_X8_isTrack, f_X8_isTrack_L0, m_isIn, e1, e2, true_or, mo15 G.1, mr0 G.1, mr1 G.1, mr2 G.1, mr3 G.1, mr4 G.1, mr5 G.1, mr6 G.1, mr7 G.1, mr8 G.1, mr9 G.1, mr10 G.1, mr11 G.1, mr12 G.1, mr13 G.1, mr14 G.1, mr15 G.1, mr16 G.1, mr17 G.1, mr18 G.1, mr19 G.1, mr20 G.1, mr21 G.1, mr22 G.1, mr23 G.1, mr24 G.1, mr25 G.1, ma2_0 G.1, ma3_0 G.1, ma4_0 G.1, ma5_0 G.1, ma6_0 G.1, ma7_0 G.1, ma10_0 G.1, ma11_0 G.1, ma12_0 G.1, ma14_0 G.1, ma14_1 G.1, ma14_2 G.1, ma14_3 G.1, Option.bind_some, Sum.elim_inl, Sum.elim_inr, reduceIte, reduceCtorEq, if_true, if_false]
theorem m_levelNow (G : MG z th tm hv ov od h) : f_X8_levelNow (z + 15) 0 h = some (0, h) := by
  simp +decide only [f_X8_levelNow, f_X8_levelNow_L0, s0_X8_levelNow_L9, mo15 G.1, mr0 G.1, mr1 G.1, mr2 G.1, mr3 G.1, mr4 G.1, mr5 G.1, mr6 G.1, mr7 G.1, mr8 G.1, mr9 G.1, mr10 G.1, mr11 G.1, mr12 G.1, mr13 G.1, mr14 G.1, mr15 G.1, mr16 G.1, mr17 G.1, mr18 G.1, mr19 G.1, mr20 G.1, mr21 G.1, mr22 G.1, mr23 G.1, mr24 G.1, mr25 G.1, ma2_0 G.1, ma3_0 G.1, ma4_0 G.1, ma5_0 G.1, ma6_0 G.1, ma7_0 G.1, ma10_0 G.1, ma11_0 G.1, ma12_0 G.1, ma14_0 G.1, ma14_1 G.1, ma14_2 G.1, ma14_3 G.1, Option.bind_some, Sum.elim_inl, Sum.elim_inr, reduceIte, reduceCtorEq, if_true, if_false]
theorem m_trackOf (G : MG z th tm hv ov od h) (a p : Int32) : f_X8_trackOf (z + 15) a p h = some (-1, h) := by
  simp +decide only [f_X8_trackOf, f_X8_trackOf_L0, s0_X8_trackOf_L2, mr17 G.1, Option.bind_some, Sum.elim_inl, Sum.elim_inr, reduceIte, reduceCtorEq, if_true, if_false]
theorem m_valueAt0 (G : MG z th tm hv ov od h) (t : Int32) : f_X8_valueAt (z + 15) 0 0 t h = some (0, h) := by
  have e : ((0 : Int32) * 4 + 0) = 0 := by decide
  simp +decide only [f_X8_valueAt, f_X8_valueAt_L0, f_X8_valueAt_L24, f_X8_valueAt_L44, m_trackOf G, e, mr14 G.1, ma14_0 G.1, mo15 G.1, Option.bind_some, Sum.elim_inl, Sum.elim_inr, reduceIte, reduceCtorEq, if_true, if_false]
theorem m_has0 (G : MG z th tm hv ov od h) : f_X8_has (z + 15) 0 0 h = some (0, h) := by
  simp +decide only [f_X8_has, f_X8_has_L0, m_valueAt0 G, mr25 G.1, mo15 G.1, Option.bind_some, Sum.elim_inl, Sum.elim_inr, reduceIte, reduceCtorEq, if_true, if_false]
theorem m_valueAt1 (G : MG z th tm hv ov od h) (t : Int32) : f_X8_valueAt (z + 15) 0 1 t h = some (0, h) := by
  have e : ((0 : Int32) * 4 + 1) = 1 := by decide
  simp +decide only [f_X8_valueAt, f_X8_valueAt_L0, f_X8_valueAt_L24, f_X8_valueAt_L44, m_trackOf G, e, mr14 G.1, ma14_1 G.1, mo15 G.1, Option.bind_some, Sum.elim_inl, Sum.elim_inr, reduceIte, reduceCtorEq, if_true, if_false]
theorem m_has1 (G : MG z th tm hv ov od h) : f_X8_has (z + 15) 0 1 h = some (0, h) := by
  simp +decide only [f_X8_has, f_X8_has_L0, m_valueAt1 G, mr25 G.1, mo15 G.1, Option.bind_some, Sum.elim_inl, Sum.elim_inr, reduceIte, reduceCtorEq, if_true, if_false]
theorem m_valueAt2 (G : MG z th tm hv ov od h) (t : Int32) : f_X8_valueAt (z + 15) 0 2 t h = some (0, h) := by
  have e : ((0 : Int32) * 4 + 2) = 2 := by decide
  simp +decide only [f_X8_valueAt, f_X8_valueAt_L0, f_X8_valueAt_L24, f_X8_valueAt_L44, m_trackOf G, e, mr14 G.1, ma14_2 G.1, mo15 G.1, Option.bind_some, Sum.elim_inl, Sum.elim_inr, reduceIte, reduceCtorEq, if_true, if_false]
theorem m_has2 (G : MG z th tm hv ov od h) : f_X8_has (z + 15) 0 2 h = some (0, h) := by
  simp +decide only [f_X8_has, f_X8_has_L0, m_valueAt2 G, mr25 G.1, mo15 G.1, Option.bind_some, Sum.elim_inl, Sum.elim_inr, reduceIte, reduceCtorEq, if_true, if_false]
theorem m_valueAt3 (G : MG z th tm hv ov od h) (t : Int32) : f_X8_valueAt (z + 15) 0 3 t h = some (100, h) := by
  have e : ((0 : Int32) * 4 + 3) = 3 := by decide
  simp +decide only [f_X8_valueAt, f_X8_valueAt_L0, f_X8_valueAt_L24, f_X8_valueAt_L44, m_trackOf G, e, mr14 G.1, ma14_3 G.1, mo15 G.1, Option.bind_some, Sum.elim_inl, Sum.elim_inr, reduceIte, reduceCtorEq, if_true, if_false]
theorem m_has3 (G : MG z th tm hv ov od h) : f_X8_has (z + 15) 0 3 h = some (100, h) := by
  simp +decide only [f_X8_has, f_X8_has_L0, m_valueAt3 G, mr25 G.1, mo15 G.1, Option.bind_some, Sum.elim_inl, Sum.elim_inr, reduceIte, reduceCtorEq, if_true, if_false]
theorem m_isShownNow (G : MG z th tm 0 ov od h) : f_X8_isShownNow (z + 15) 0 h = some (1, h) := by
  simp +decide only [f_X8_isShownNow, f_X8_isShownNow_L0, s0_X8_isShownNow_L2, s1_X8_isShownNow_L2, f_X8_isShownNow_L51, m_has3 G, or_true, mo15 G.1, mr0 G.1, mr1 G.1, mr2 G.1, mr3 G.1, mr4 G.1, mr5 G.1, mr6 G.1, mr7 G.1, mr8 G.1, mr9 G.1, mr10 G.1, mr11 G.1, mr12 G.1, mr13 G.1, mr14 G.1, mr15 G.1, mr16 G.1, mr17 G.1, mr18 G.1, mr19 G.1, mr20 G.1, mr21 G.1, mr22 G.1, mr23 G.1, mr24 G.1, mr25 G.1, ma2_0 G.1, ma3_0 G.1, ma4_0 G.1, ma5_0 G.1, ma6_0 G.1, ma7_0 G.1, ma10_0 G.1, ma11_0 G.1, ma12_0 G.1, ma14_0 G.1, ma14_1 G.1, ma14_2 G.1, ma14_3 G.1, Option.bind_some, Sum.elim_inl, Sum.elim_inr, reduceIte, reduceCtorEq, if_true, if_false]
theorem m_strengthNow : f_X8_strengthNow 8 (z + 15) 0 h = some (100, h) := by
  simp +decide only [s0_X8_strengthNow, f_X8_strengthNow_L0, f_X8_strengthNow_L29, if_true, reduceIte]
theorem m_isWithin (G : MG z th tm hv ov od h) : f_X8_isWithin (z + 15) 0 0 h = some (1, h) := by
  simp +decide only [f_X8_isWithin, f_X8_isWithin_L0, s0_X8_isWithin_L2, Option.bind_some, Sum.elim_inl, Sum.elim_inr, reduceIte, reduceCtorEq, if_true, if_false]
theorem m_nodesNow (G : MG z th tm hv ov od h) : f_X8_nodesNow (z + 15) h = some (1, h) := by
  have e : ((0 : Int32) + 1) = 1 := by decide
  simp +decide only [f_X8_nodesNow, f_X8_nodesNow_L0, s0_X8_nodesNow_L4, f_X8_nodesNow_L27, s1_X8_nodesNow_L4, e, mo15 G.1, mr0 G.1, mr1 G.1, mr2 G.1, mr3 G.1, mr4 G.1, mr5 G.1, mr6 G.1, mr7 G.1, mr8 G.1, mr9 G.1, mr10 G.1, mr11 G.1, mr12 G.1, mr13 G.1, mr14 G.1, mr15 G.1, mr16 G.1, mr17 G.1, mr18 G.1, mr19 G.1, mr20 G.1, mr21 G.1, mr22 G.1, mr23 G.1, mr24 G.1, mr25 G.1, ma2_0 G.1, ma3_0 G.1, ma4_0 G.1, ma5_0 G.1, ma6_0 G.1, ma7_0 G.1, ma10_0 G.1, ma11_0 G.1, ma12_0 G.1, ma14_0 G.1, ma14_1 G.1, ma14_2 G.1, ma14_3 G.1, Option.bind_some, Sum.elim_inl, Sum.elim_inr, reduceIte, reduceCtorEq, if_true, if_false]
theorem m_hanging (G : MG z th tm hv ov od h) (a : Int32) : f_X8_hanging (z + 15) a h = some (0, h) := by
  simp +decide only [f_X8_hanging, f_X8_hanging_L0, s0_X8_hanging_L4, mr1 G.1, Option.bind_some, Sum.elim_inl, Sum.elim_inr, reduceIte, reduceCtorEq, if_true, if_false]
theorem m_coversNow (G : MG z th tm hv ov od h) (a b c : Int32) : f_X8_coversNow (z + 15) 0 a b c h = some (0, h) := by
  simp +decide only [f_X8_coversNow, f_X8_coversNow_L0, f_X8_coversNow_L17, mo15 G.1, mr0 G.1, mr1 G.1, mr2 G.1, mr3 G.1, mr4 G.1, mr5 G.1, mr6 G.1, mr7 G.1, mr8 G.1, mr9 G.1, mr10 G.1, mr11 G.1, mr12 G.1, mr13 G.1, mr14 G.1, mr15 G.1, mr16 G.1, mr17 G.1, mr18 G.1, mr19 G.1, mr20 G.1, mr21 G.1, mr22 G.1, mr23 G.1, mr24 G.1, mr25 G.1, ma2_0 G.1, ma3_0 G.1, ma4_0 G.1, ma5_0 G.1, ma6_0 G.1, ma7_0 G.1, ma10_0 G.1, ma11_0 G.1, ma12_0 G.1, ma14_0 G.1, ma14_1 G.1, ma14_2 G.1, ma14_3 G.1, Option.bind_some, Sum.elim_inl, Sum.elim_inr, reduceIte, reduceCtorEq, if_true, if_false]
def oR (h : fSt) : fSt := fSet (fPush (fPush h (.inr (0, 1, .inl (fun _ => 0))) 1) (.inr (0, 0, .inl (fun _ => 0))) 0) (fZ h) (.inr (0, 1, .inl (upd (fun _ => 0) 0 0)))
theorem MG_oR (G : MG z th tm hv ov od h) : MG z th tm hv ov od (oR h) := by
  have d := G.2.2.2
  exact MG.set (MG.push (MG.push G)) (Or.inr (by omega))
theorem RM_oR {k : Nat} (R : RM (k + 2) h) : RM k (oR h) := by
  obtain ⟨r1, r2⟩ := R
  exact ⟨by show fZ h + 1 + 1 + k ≤ fCB h; omega, by show fL h + 1 + 0 + 10 * k ≤ fLB h; omega⟩
theorem fnew_eq {k n : Nat} {e : fCe} (R : RM (k + 1) h) (hn : n ≤ 10) : fnew h e n = some (fZ h, fPush h e n) := by
  obtain ⟨r1, r2⟩ := R
  unfold fnew
  rw [if_pos ⟨by omega, by omega⟩]
theorem RM_push {k n : Nat} {e : fCe} (R : RM (k + 1) h) (hn : n ≤ 10) : RM k (fPush h e n) := by
  obtain ⟨r1, r2⟩ := R
  exact ⟨by show fZ h + 1 + k ≤ fCB h; omega, by show fL h + n + 10 * k ≤ fLB h; omega⟩
theorem oR_F : fF (oR h) (fZ h) = some (.inr (0, 1, .inl (upd (fun _ => 0) 0 0))) := fF_set_eq
theorem oR_a : faI (oR h) (some (fZ h)) 0 0 = some 0 := by
  simp only [faI, farr, oR_F]; rfl
theorem oR_l : flen (oR h) (some (fZ h)) 0 = some 1 := by
  simp only [flen, farr, oR_F]; rfl
theorem nc0 : (0 : Int32).toNatClampNeg = 0 := by decide
theorem nc1 : (1 : Int32).toNatClampNeg = 1 := by decide
theorem nc3 : (3 : Int32).toNatClampNeg = 3 := by decide
set_option maxRecDepth 100000 in
theorem m_ordered {k : Nat} (R : RM (k + 2) h) (G : MG z th tm hv ov od h) : f_X8_ordered (z + 15) h = some (some (fZ h), oR h) := by
  have R1 : RM (k + 1) (fPush h (.inr (0, 1, .inl (fun _ => 0))) 1) := RM_push R (by decide)
  have G1 : MG z th tm hv ov od (fPush h (.inr (0, 1, .inl (fun _ => 0))) 1) := MG.push G
  have G2 : MG z th tm hv ov od (fPush (fPush h (.inr (0, 1, .inl (fun _ => 0))) 1) (.inr (0, 0, .inl (fun _ => 0))) 0) := MG.push G1
  have e0 := fnew_eq (e := .inr (0, 1, .inl (fun _ => 0))) (n := 1) R (by decide)
  have e1 := fnew_eq (e := .inr (0, 0, .inl (fun _ => 0))) (n := 0) R1 (by decide)
  have e2 : fsI (fPush (fPush h (.inr (0, 1, .inl (fun _ => 0))) 1) (.inr (0, 0, .inl (fun _ => 0))) 0) (some (fZ h)) 0 0 0 = some (oR h) := by
    have q : fF (fPush (fPush h (.inr (0, 1, .inl (fun _ => 0))) 1) (.inr (0, 0, .inl (fun _ => 0))) 0) (fZ h) = some (.inr (0, 1, .inl (fun _ => 0))) := by
      rw [fF_push_ne (show fZ h ≠ fZ h + 1 by omega)]; exact fF_push_eq
    simp only [fsI, farr, q, if_true]; rfl
  have n0 : ¬ ((0 : Int32) < 0 ∨ 67000000 < 0) := by decide
  have n1 : ¬ ((1 : Int32) < 0 ∨ 67000000 < 1) := by decide
  simp +decide only [f_X8_ordered, f_X8_ordered_L0, m_nodesNow G, mo15 G.1, nc0, nc1, n0, n1, e0, s0_X8_order, f_X8_order_L0, mo15 G1.1, m_hanging G1, e1, s0_X8_order_L16, mr1 G2.1, s0_X8_order_L138, f_X8_order_L178, e2, s0_X8_order_L186, Option.bind_some, Sum.elim_inl, Sum.elim_inr, reduceIte, reduceCtorEq, if_true, if_false]
set_option maxRecDepth 100000 in
theorem m_pickNow {k : Nat} (R : RM (k + 2) h) (G : MG z th tm hv ov od h) (a b c : Int32) : f_X8_pickNow (z + 15) a b c h = some (-1, oR h) := by
  have e : ((1 : Int32) - 1) = 0 := by decide
  have e2 : ((0 : Int32) + -1) = -1 := by decide
  simp +decide only [f_X8_pickNow, f_X8_pickNow_L0, mo15 G.1, m_ordered R G, oR_l, e, s0_X8_pickNow_L13, oR_a, mo15 (MG_oR G).1, m_coversNow (MG_oR G), e2, s1_X8_pickNow_L13, Option.bind_some, Sum.elim_inl, Sum.elim_inr, reduceIte, reduceCtorEq, if_true, if_false]
set_option maxRecDepth 100000 in
theorem m_isOther (G : MG z th tm hv ov od h) (a b : Int32) : f_X8_isOther 8 (z + 15) 0 a b h = some (0, h) := by
  have e1 : ((0 : Int32) + 1) = 1 := by decide
  have e2 : ((1 : Int32) + 1) = 2 := by decide
  have e3 : ((2 : Int32) + 1) = 3 := by decide
  have e4 : ((3 : Int32) + 1) = 4 := by decide
  simp +decide only [s0_X8_isOther, f_X8_isOther_L0, s0_X8_isOther_L3, s1_X8_isOther_L3, s2_X8_isOther_L3, s3_X8_isOther_L3, s4_X8_isOther_L3, e1, e2, e3, e4, m_valueAt0 G, m_valueAt1 G, m_valueAt2 G, m_valueAt3 G, f_X8_isOther_L65, f_X8_isOther_L66, true_or, mo15 G.1, mr0 G.1, mr1 G.1, mr2 G.1, mr3 G.1, mr4 G.1, mr5 G.1, mr6 G.1, mr7 G.1, mr8 G.1, mr9 G.1, mr10 G.1, mr11 G.1, mr12 G.1, mr13 G.1, mr14 G.1, mr15 G.1, mr16 G.1, mr17 G.1, mr18 G.1, mr19 G.1, mr20 G.1, mr21 G.1, mr22 G.1, mr23 G.1, mr24 G.1, mr25 G.1, ma2_0 G.1, ma3_0 G.1, ma4_0 G.1, ma5_0 G.1, ma6_0 G.1, ma7_0 G.1, ma10_0 G.1, ma11_0 G.1, ma12_0 G.1, ma14_0 G.1, ma14_1 G.1, ma14_2 G.1, ma14_3 G.1, Option.bind_some, Sum.elim_inl, Sum.elim_inr, reduceIte, reduceCtorEq, if_true, if_false]
set_option maxRecDepth 100000 in
theorem m_changesNow (G : MG z th tm hv ov od h) (a b : Int32) : f_X8_changesNow (z + 15) a b h = some (0, h) := by
  have e1 : ((0 : Int32) + 1) = 1 := by decide
  have e0 : ((0 : Int32) + 0) = 0 := by decide
  simp +decide only [f_X8_changesNow, f_X8_changesNow_L0, s0_X8_changesNow_L5, f_X8_changesNow_L40, f_X8_changesNow_L41, s1_X8_changesNow_L5, m_isOther G, e0, e1, mo15 G.1, mr0 G.1, mr1 G.1, mr2 G.1, mr3 G.1, mr4 G.1, mr5 G.1, mr6 G.1, mr7 G.1, mr8 G.1, mr9 G.1, mr10 G.1, mr11 G.1, mr12 G.1, mr13 G.1, mr14 G.1, mr15 G.1, mr16 G.1, mr17 G.1, mr18 G.1, mr19 G.1, mr20 G.1, mr21 G.1, mr22 G.1, mr23 G.1, mr24 G.1, mr25 G.1, ma2_0 G.1, ma3_0 G.1, ma4_0 G.1, ma5_0 G.1, ma6_0 G.1, ma7_0 G.1, ma10_0 G.1, ma11_0 G.1, ma12_0 G.1, ma14_0 G.1, ma14_1 G.1, ma14_2 G.1, ma14_3 G.1, Option.bind_some, Sum.elim_inl, Sum.elim_inr, reduceIte, reduceCtorEq, if_true, if_false]
theorem m_nextKeyNow (G : MG z th tm hv ov od h) : f_X8_nextKeyNow (z + 15) h = some (-1, h) := by
  simp +decide only [f_X8_nextKeyNow, f_X8_nextKeyNow_L0, s0_X8_nextKeyNow_L4, mr17 G.1, Option.bind_some, Sum.elim_inl, Sum.elim_inr, reduceIte, reduceCtorEq, if_true, if_false]
theorem m_boundNow (G : MG z th tm hv ov od h) (s u : Int32) : f_X8_boundNow (z + 15) 0 s u h = some (0, h) := by
  simp +decide only [f_X8_boundNow, f_X8_boundNow_L0, s0_X8_boundNow_L11, f_X8_boundNow_L245, mr1 G.1, Option.bind_some, Sum.elim_inl, Sum.elim_inr, reduceIte, reduceCtorEq, if_true, if_false]
def p3 (x y u : Int64) : Nat → Int64 := vp_updL (vp_updL (vp_updL (fun _ => 0) 0 x) 1 y) 2 u
def pS (x y u : Int64) (h : fSt) : fSt := fSet (fSet (fSet (fPush h (.inr (1, 3, .inr (.inl (fun _ => 0)))) 3) (fZ h) (.inr (1, 3, .inr (.inl (vp_updL (fun _ => 0) 0 x))))) (fZ h) (.inr (1, 3, .inr (.inl (vp_updL (vp_updL (fun _ => 0) 0 x) 1 y))))) (fZ h) (.inr (1, 3, .inr (.inl (p3 x y u))))
theorem MG_pS (G : MG z th tm hv ov od h) (x y u : Int64) : MG z th tm hv ov od (pS x y u h) := by
  have d := G.2.2.2
  exact MG.set (MG.set (MG.set (MG.push G) (Or.inr (by omega))) (Or.inr (by omega))) (Or.inr (by omega))
theorem RM_pS {k : Nat} {x y u : Int64} (R : RM (k + 1) h) : RM k (pS x y u h) := by
  exact RM_push (e := .inr (1, 3, .inr (.inl (fun _ => 0)))) (n := 3) R (by decide)
theorem m_point {k : Nat} (R : RM (k + 1) h) (x y u : Int64) : f_X8_point x y u h = some (some (fZ h), pS x y u h) := by
  have n3 : ¬ ((3 : Int32) < 0 ∨ 67000000 < 3) := by decide
  have e0 := fnew_eq (e := .inr (1, 3, .inr (.inl (fun _ => 0)))) (n := 3) R (by decide)
  have st : ∀ (h1 : fSt) (f : Nat → Int64) (i : Int32) (v : Int64), fF h1 (fZ h) = some (.inr (1, 3, .inr (.inl f))) → ¬ (i < 0 ∨ 3 ≤ i.toNatClampNeg) → fsJ h1 (some (fZ h)) 1 i v = some (fSet h1 (fZ h) (.inr (1, 3, .inr (.inl (vp_updL f i.toNatClampNeg v))))) := by
    intro h1 f i v q1 q2
    simp only [fsJ, farr, q1, if_true, if_neg q2]
  simp only [f_X8_point, f_X8_point_L0, nc3, if_neg n3, e0, Option.bind_some]
  rw [st _ _ 0 x fF_push_eq (by decide), Option.bind_some, st _ _ 1 y fF_set_eq (by decide), Option.bind_some, st _ _ 2 u fF_set_eq (by decide)]
  rfl
theorem pS_J {x y u : Int64} (i : Int32) (hi : ¬ (i < 0 ∨ 3 ≤ i.toNatClampNeg)) : faJ (pS x y u h) (some (fZ h)) 1 i = some (p3 x y u i.toNatClampNeg) := by
  have q : fF (pS x y u h) (fZ h) = some (.inr (1, 3, .inr (.inl (p3 x y u)))) := fF_set_eq
  simp only [faJ, farr, q, if_true, if_neg hi]
theorem gcdA {A : Int64} (h1 : ¬ A = 0) (h2 : A = 1 ∨ 1 / A = 0) : (1 - 1 / A * A = 0 ∧ A = 1) ∨ 1 - 1 / A * A = 1 := by
  rcases h2 with rfl | q
  · exact Or.inl ⟨by decide, rfl⟩
  · right; rw [q, Int64.zero_mul, Int64.sub_zero]
def smallA (x : Int64) : Prop := (if 0 < x then x else -x) = 0 ∨ (if 0 < x then x else -x) = 1 ∨ 1 / (if 0 < x then x else -x) = 0
theorem m_partL (w : Int32) (x A : Int64) (hA : A = 0 ∨ A = 1 ∨ 1 / A = 0) : f_X8_part_L21 4096 w x 1 A 1 h = some (Int64.toInt32 (if w - w / 2 * 2 = 0 then x else 1), h) := by
  have n1 : ¬ ((1 : Int64) = 0) := by decide
  have d1 : ∀ y : Int64, y / 1 = y := fun y => Int64.div_one
  have fin : ∀ n, f_X8_part_L21 (n + 1) w x 1 0 1 h = some (Int64.toInt32 (if w - w / 2 * 2 = 0 then x else 1), h) := by
    intro n
    simp only [st_X8_part_L21, if_true, if_neg n1, f_X8_part_L64, d1]
    by_cases q : w - w / 2 * 2 = 0
    · rw [if_pos q, if_pos q]
    · rw [if_neg q, if_neg q]
  by_cases q0 : A = 0
  · rw [q0]; exact fin 4095
  · rcases gcdA q0 (hA.resolve_left q0) with ⟨q1, q2⟩ | q1
    · subst q2
      rw [s0_X8_part_L21, if_neg n1, if_neg n1, q1]
      exact fin 4094
    · rw [s0_X8_part_L21, if_neg q0, if_neg q0, q1, s1_X8_part_L21, if_neg n1, if_neg n1, i64_sub1]
      exact fin 4093
theorem rng03 {w : Int32} (h : ¬ rng w 0 3 = 0) : w = 0 ∨ w = 1 ∨ w = 2 ∨ w = 3 := by
  unfold rng at h
  by_cases q : w < 0
  · rw [if_pos q] at h; exact absurd rfl h
  · rw [if_neg q] at h
    by_cases q2 : 3 < w
    · rw [if_pos q2] at h; exact absurd rfl h
    · have a1 : ¬ w.toInt < 0 := fun y => q (Int32.lt_iff_toInt_lt.mpr (by simpa using y))
      have a2 : ¬ 3 < w.toInt := fun y => q2 (Int32.lt_iff_toInt_lt.mpr (by simpa using y))
      rcases (by omega : w.toInt = 0 ∨ w.toInt = 1 ∨ w.toInt = 2 ∨ w.toInt = 3) with e | e | e | e
      · exact Or.inl (Int32.toInt_inj.mp (by simpa using e))
      · exact Or.inr (Or.inl (Int32.toInt_inj.mp (by simpa using e)))
      · exact Or.inr (Or.inr (Or.inl (Int32.toInt_inj.mp (by simpa using e))))
      · exact Or.inr (Or.inr (Or.inr (Int32.toInt_inj.mp (by simpa using e))))
theorem smallK : ∀ n : Nat, n < 2001 → smallA (Int32.toInt64 (Int32.ofInt ((n : Int) - 1000))) := by
  unfold smallA
  decide +kernel
theorem rngK {x : Int32} (h : ¬ rng x (-1000) 1000 = 0) : smallA x.toInt64 := by
  unfold rng at h
  by_cases q : x < -1000
  · rw [if_pos q] at h; exact absurd rfl h
  · rw [if_neg q] at h
    by_cases q2 : 1000 < x
    · rw [if_pos q2] at h; exact absurd rfl h
    · have a1 : ¬ x.toInt < -1000 := fun y => q (Int32.lt_iff_toInt_lt.mpr (by simpa using y))
      have a2 : ¬ 1000 < x.toInt := fun y => q2 (Int32.lt_iff_toInt_lt.mpr (by simpa using y))
      have e : x = Int32.ofInt (((x.toInt + 1000).toNat : Int) - 1000) := by
        rw [show (((x.toInt + 1000).toNat : Int) - 1000) = x.toInt by omega]
        exact (Int32.ofInt_toInt x).symm
      rw [e]
      exact smallK _ (by omega)
theorem m_part {x y : Int64} (w : Int32) (hw : ¬ rng w 0 3 = 0) (hx : smallA x) (hy : smallA y) : f_X8_part (some (fZ h)) w (pS x y 1 h) = some (Int64.toInt32 (part1 x y w), pS x y 1 h) := by
  have e2 : faJ (pS x y 1 h) (some (fZ h)) 1 2 = some 1 := pS_J 2 (by decide)
  have h03 : w = 0 ∨ w = 1 ∨ w = 2 ∨ w = 3 := rng03 hw
  unfold f_X8_part f_X8_part_L0 part1
  rcases h03 with rfl | rfl | rfl | rfl
  · rw [show ((0 : Int32) / 2) = 0 by decide, pS_J 0 (by decide), e2, Option.bind_some, Option.bind_some, show p3 x y 1 (0 : Int32).toNatClampNeg = x from rfl, if_neg (show ¬ (2 : Int32) ≤ 0 by decide)]
    exact m_partL 0 x _ hx
  · rw [show ((1 : Int32) / 2) = 0 by decide, pS_J 0 (by decide), e2, Option.bind_some, Option.bind_some, show p3 x y 1 (0 : Int32).toNatClampNeg = x from rfl, if_neg (show ¬ (2 : Int32) ≤ 1 by decide)]
    exact m_partL 1 x _ hx
  · rw [show ((2 : Int32) / 2) = 1 by decide, pS_J 1 (by decide), e2, Option.bind_some, Option.bind_some, show p3 x y 1 (1 : Int32).toNatClampNeg = y from rfl, if_pos (show (2 : Int32) ≤ 2 by decide)]
    exact m_partL 2 y _ hy
  · rw [show ((3 : Int32) / 2) = 1 by decide, pS_J 1 (by decide), e2, Option.bind_some, Option.bind_some, show p3 x y 1 (1 : Int32).toNatClampNeg = y from rfl, if_pos (show (2 : Int32) ≤ 3 by decide)]
    exact m_partL 3 y _ hy
theorem m_toWholeNow {k : Nat} (R : RM (k + 1) h) (G : MG z th tm hv ov od h) {a b : Int32} (w : Int32) (hw : ¬ rng w 0 3 = 0) (ha : smallA a.toInt64) (hb : smallA b.toInt64) : f_X8_toWholeNow (z + 15) 0 a b w h = some (Int64.toInt32 (part1 a.toInt64 b.toInt64 w), pS a.toInt64 b.toInt64 1 h) := by
  simp +decide only [f_X8_toWholeNow, f_X8_toWholeNow_L0, m_point R, mo15 (MG_pS G a.toInt64 b.toInt64 1).1, s0_X8_upAll_L2, f_X8_upAll, f_X8_upAll_L0, m_part w hw ha hb, Option.bind_some, Sum.elim_inl, Sum.elim_inr, reduceIte, reduceCtorEq, if_true, if_false]
theorem m_fromWholeNow {k : Nat} (R : RM (k + 1) h) (G : MG z th tm hv ov od h) {a b : Int32} (w : Int32) (hw : ¬ rng w 0 3 = 0) (ha : smallA a.toInt64) (hb : smallA b.toInt64) : f_X8_fromWholeNow (z + 15) 0 a b w h = some (Int64.toInt32 (part1 a.toInt64 b.toInt64 w), pS a.toInt64 b.toInt64 1 h) := by
  simp +decide only [f_X8_fromWholeNow, f_X8_fromWholeNow_L0, m_point R, mo15 (MG_pS G a.toInt64 b.toInt64 1).1, s0_X8_downAll, f_X8_downAll_L0, m_part w hw ha hb, Option.bind_some, Sum.elim_inl, Sum.elim_inr, reduceIte, reduceCtorEq, if_true, if_false]
end MDL
