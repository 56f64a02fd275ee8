section ADD
variable {z : Nat} {th tm hv : Int32} {ov : Int64} {od : UInt64} {h : fSt}
theorem m_up6 (G : MG z th tm hv ov od h) (x : Int32) : ∃ f, fsI h (some (z + 20)) 0 1 x = some (fSet h (z + 20) (.inr (0, 30, .inl (upd f 1 x)))) ∧ MG z th tm hv ov od (fSet h (z + 20) (.inr (0, 30, .inl (upd f 1 x)))) := by
  obtain ⟨⟨m15, m16, m17, m18, m19, ⟨f, mm, v0⟩, m21, m22, m23, m24, m25, m26, m27, m28, m29, m30, m31, m32, m33, m34, m35, m36⟩, b, c, d⟩ := G
  have e : ∀ k, k ≠ 20 → fF (fSet h (z + 20) (.inr (0, 30, .inl (upd f 1 x)))) (z + k) = fF h (z + k) := fun k q => fF_set_ne (by omega)
  refine ⟨f, ?_, ⟨?_, ?_, ?_, ?_, ?_, ⟨_, fF_set_eq, (if_neg (by decide)).trans v0⟩, ?_, ?_, ?_, ?_, ?_, ?_, ?_, ?_, ?_, ?_, ?_, ?_, ?_, ?_, ?_, ?_⟩, ?_, ?_, d⟩
  · have n : ¬ ((1 : Int32) < 0 ∨ 30 ≤ 1) := by decide
    simp only [fsI, farr, mm, if_true, if_neg n, nc1]
  · rw [e 15 (by decide)]; exact m15
  · rw [e 16 (by decide)]; exact m16
  · rw [e 17 (by decide)]; exact m17
  · rw [e 18 (by decide)]; exact m18
  · rw [e 19 (by decide)]; exact m19
  · rw [e 21 (by decide)]; exact m21
  · rw [e 22 (by decide)]; exact m22
  · rw [e 23 (by decide)]; exact m23
  · rw [e 24 (by decide)]; exact m24
  · rw [e 25 (by decide)]; exact m25
  · rw [e 26 (by decide)]; exact m26
  · rw [e 27 (by decide)]; exact m27
  · rw [e 28 (by decide)]; exact m28
  · rw [e 29 (by decide)]; exact m29
  · rw [e 30 (by decide)]; exact m30
  · rw [e 31 (by decide)]; exact m31
  · rw [e 32 (by decide)]; exact m32
  · rw [e 33 (by decide)]; exact m33
  · rw [e 34 (by decide)]; exact m34
  · rw [e 35 (by decide)]; exact m35
  · rw [e 36 (by decide)]; exact m36
  · rw [e 37 (by decide)]; exact b
  · rw [e 38 (by decide)]; exact c
theorem m_up7 (G : MG z th tm hv ov od h) (x : Int32) : ∃ f, fsI h (some (z + 21)) 0 1 x = some (fSet h (z + 21) (.inr (0, 30, .inl (upd f 1 x)))) ∧ MG z th tm hv ov od (fSet h (z + 21) (.inr (0, 30, .inl (upd f 1 x)))) := by
  obtain ⟨⟨m15, m16, m17, m18, m19, m20, ⟨f, mm, v0⟩, m22, m23, m24, m25, m26, m27, m28, m29, m30, m31, m32, m33, m34, m35, m36⟩, b, c, d⟩ := G
  have e : ∀ k, k ≠ 21 → fF (fSet h (z + 21) (.inr (0, 30, .inl (upd f 1 x)))) (z + k) = fF h (z + k) := fun k q => fF_set_ne (by omega)
  refine ⟨f, ?_, ⟨?_, ?_, ?_, ?_, ?_, ?_, ⟨_, fF_set_eq, (if_neg (by decide)).trans v0⟩, ?_, ?_, ?_, ?_, ?_, ?_, ?_, ?_, ?_, ?_, ?_, ?_, ?_, ?_, ?_⟩, ?_, ?_, d⟩
  · have n : ¬ ((1 : Int32) < 0 ∨ 30 ≤ 1) := by decide
    simp only [fsI, farr, mm, if_true, if_neg n, nc1]
  · rw [e 15 (by decide)]; exact m15
  · rw [e 16 (by decide)]; exact m16
  · rw [e 17 (by decide)]; exact m17
  · rw [e 18 (by decide)]; exact m18
  · rw [e 19 (by decide)]; exact m19
  · rw [e 20 (by decide)]; exact m20
  · rw [e 22 (by decide)]; exact m22
  · rw [e 23 (by decide)]; exact m23
  · rw [e 24 (by decide)]; exact m24
  · rw [e 25 (by decide)]; exact m25
  · rw [e 26 (by decide)]; exact m26
  · rw [e 27 (by decide)]; exact m27
  · rw [e 28 (by decide)]; exact m28
  · rw [e 29 (by decide)]; exact m29
  · rw [e 30 (by decide)]; exact m30
  · rw [e 31 (by decide)]; exact m31
  · rw [e 32 (by decide)]; exact m32
  · rw [e 33 (by decide)]; exact m33
  · rw [e 34 (by decide)]; exact m34
  · rw [e 35 (by decide)]; exact m35
  · rw [e 36 (by decide)]; exact m36
  · rw [e 37 (by decide)]; exact b
  · rw [e 38 (by decide)]; exact c
theorem m_up8 (G : MG z th tm hv ov od h) (x : Int32) : ∃ f, fsI h (some (z + 22)) 0 1 x = some (fSet h (z + 22) (.inr (0, 30, .inl (upd f 1 x)))) ∧ MG z th tm hv ov od (fSet h (z + 22) (.inr (0, 30, .inl (upd f 1 x)))) := by
  obtain ⟨⟨m15, m16, m17, m18, m19, m20, m21, ⟨f, mm⟩, m23, m24, m25, m26, m27, m28, m29, m30, m31, m32, m33, m34, m35, m36⟩, b, c, d⟩ := G
  have e : ∀ k, k ≠ 22 → fF (fSet h (z + 22) (.inr (0, 30, .inl (upd f 1 x)))) (z + k) = fF h (z + k) := fun k q => fF_set_ne (by omega)
  refine ⟨f, ?_, ⟨?_, ?_, ?_, ?_, ?_, ?_, ?_, ⟨_, fF_set_eq⟩, ?_, ?_, ?_, ?_, ?_, ?_, ?_, ?_, ?_, ?_, ?_, ?_, ?_, ?_⟩, ?_, ?_, d⟩
  · have n : ¬ ((1 : Int32) < 0 ∨ 30 ≤ 1) := by decide
    simp only [fsI, farr, mm, if_true, if_neg n, nc1]
  · rw [e 15 (by decide)]; exact m15
  · rw [e 16 (by decide)]; exact m16
  · rw [e 17 (by decide)]; exact m17
  · rw [e 18 (by decide)]; exact m18
  · rw [e 19 (by decide)]; exact m19
  · rw [e 20 (by decide)]; exact m20
  · rw [e 21 (by decide)]; exact m21
  · rw [e 23 (by decide)]; exact m23
  · rw [e 24 (by decide)]; exact m24
  · rw [e 25 (by decide)]; exact m25
  · rw [e 26 (by decide)]; exact m26
  · rw [e 27 (by decide)]; exact m27
  · rw [e 28 (by decide)]; exact m28
  · rw [e 29 (by decide)]; exact m29
  · rw [e 30 (by decide)]; exact m30
  · rw [e 31 (by decide)]; exact m31
  · rw [e 32 (by decide)]; exact m32
  · rw [e 33 (by decide)]; exact m33
  · rw [e 34 (by decide)]; exact m34
  · rw [e 35 (by decide)]; exact m35
  · rw [e 36 (by decide)]; exact m36
  · rw [e 37 (by decide)]; exact b
  · rw [e 38 (by decide)]; exact c
theorem m_up9 (G : MG z th tm hv ov od h) (x : Int32) : ∃ f, fsI h (some (z + 23)) 0 1 x = some (fSet h (z + 23) (.inr (0, 30, .inl (upd f 1 x)))) ∧ MG z th tm hv ov od (fSet h (z + 23) (.inr (0, 30, .inl (upd f 1 x)))) := by
  obtain ⟨⟨m15, m16, m17, m18, m19, m20, m21, m22, ⟨f, mm⟩, m24, m25, m26, m27, m28, m29, m30, m31, m32, m33, m34, m35, m36⟩, b, c, d⟩ := G
  have e : ∀ k, k ≠ 23 → fF (fSet h (z + 23) (.inr (0, 30, .inl (upd f 1 x)))) (z + k) = fF h (z + k) := fun k q => fF_set_ne (by omega)
  refine ⟨f, ?_, ⟨?_, ?_, ?_, ?_, ?_, ?_, ?_, ?_, ⟨_, fF_set_eq⟩, ?_, ?_, ?_, ?_, ?_, ?_, ?_, ?_, ?_, ?_, ?_, ?_, ?_⟩, ?_, ?_, d⟩
  · have n : ¬ ((1 : Int32) < 0 ∨ 30 ≤ 1) := by decide
    simp only [fsI, farr, mm, if_true, if_neg n, nc1]
  · rw [e 15 (by decide)]; exact m15
  · rw [e 16 (by decide)]; exact m16
  · rw [e 17 (by decide)]; exact m17
  · rw [e 18 (by decide)]; exact m18
  · rw [e 19 (by decide)]; exact m19
  · rw [e 20 (by decide)]; exact m20
  · rw [e 21 (by decide)]; exact m21
  · rw [e 22 (by decide)]; exact m22
  · rw [e 24 (by decide)]; exact m24
  · rw [e 25 (by decide)]; exact m25
  · rw [e 26 (by decide)]; exact m26
  · rw [e 27 (by decide)]; exact m27
  · rw [e 28 (by decide)]; exact m28
  · rw [e 29 (by decide)]; exact m29
  · rw [e 30 (by decide)]; exact m30
  · rw [e 31 (by decide)]; exact m31
  · rw [e 32 (by decide)]; exact m32
  · rw [e 33 (by decide)]; exact m33
  · rw [e 34 (by decide)]; exact m34
  · rw [e 35 (by decide)]; exact m35
  · rw [e 36 (by decide)]; exact m36
  · rw [e 37 (by decide)]; exact b
  · rw [e 38 (by decide)]; exact c
theorem m_up13 (G : MG z th tm hv ov od h) (x : Int32) : ∃ f, fsI h (some (z + 27)) 0 1 x = some (fSet h (z + 27) (.inr (0, 30, .inl (upd f 1 x)))) ∧ MG z th tm hv ov od (fSet h (z + 27) (.inr (0, 30, .inl (upd f 1 x)))) := by
  obtain ⟨⟨m15, m16, m17, m18, m19, m20, m21, m22, m23, m24, m25, m26, ⟨f, mm⟩, m28, m29, m30, m31, m32, m33, m34, m35, m36⟩, b, c, d⟩ := G
  have e : ∀ k, k ≠ 27 → fF (fSet h (z + 27) (.inr (0, 30, .inl (upd f 1 x)))) (z + k) = fF h (z + k) := fun k q => fF_set_ne (by omega)
  refine ⟨f, ?_, ⟨?_, ?_, ?_, ?_, ?_, ?_, ?_, ?_, ?_, ?_, ?_, ?_, ⟨_, fF_set_eq⟩, ?_, ?_, ?_, ?_, ?_, ?_, ?_, ?_, ?_⟩, ?_, ?_, d⟩
  · have n : ¬ ((1 : Int32) < 0 ∨ 30 ≤ 1) := by decide
    simp only [fsI, farr, mm, if_true, if_neg n, nc1]
  · rw [e 15 (by decide)]; exact m15
  · rw [e 16 (by decide)]; exact m16
  · rw [e 17 (by decide)]; exact m17
  · rw [e 18 (by decide)]; exact m18
  · rw [e 19 (by decide)]; exact m19
  · rw [e 20 (by decide)]; exact m20
  · rw [e 21 (by decide)]; exact m21
  · rw [e 22 (by decide)]; exact m22
  · rw [e 23 (by decide)]; exact m23
  · rw [e 24 (by decide)]; exact m24
  · rw [e 25 (by decide)]; exact m25
  · rw [e 26 (by decide)]; exact m26
  · rw [e 28 (by decide)]; exact m28
  · rw [e 29 (by decide)]; exact m29
  · rw [e 30 (by decide)]; exact m30
  · rw [e 31 (by decide)]; exact m31
  · rw [e 32 (by decide)]; exact m32
  · rw [e 33 (by decide)]; exact m33
  · rw [e 34 (by decide)]; exact m34
  · rw [e 35 (by decide)]; exact m35
  · rw [e 36 (by decide)]; exact m36
  · rw [e 37 (by decide)]; exact b
  · rw [e 38 (by decide)]; exact c
theorem faJ_F {h h2 : fSt} {a : Nat} (e : fF h2 a = fF h a) {t : Nat} {i : Int32} : faJ h2 (some a) t i = faJ h (some a) t i := by
  simp only [faJ, farr, e]
def mc12 (z : Nat) : fCe := .inl (8, [.int 0, .int 1, .ref (z + 16), .ref (z + 17), .ref (z + 18), .ref (z + 19), .ref (z + 20), .ref (z + 21), .ref (z + 22), .ref (z + 23), .ref (z + 24), .ref (z + 25), .ref (z + 26), .ref (z + 27), .ref (z + 28), .ref (z + 29), .int 2, .int 0, .ref (z + 30), .ref (z + 31), .ref (z + 32), .ref (z + 33), .ref (z + 34), .ref (z + 35), .ref (z + 36), .int 0])
def mc22 (z : Nat) : fCe := .inl (8, [.int 0, .int 2, .ref (z + 16), .ref (z + 17), .ref (z + 18), .ref (z + 19), .ref (z + 20), .ref (z + 21), .ref (z + 22), .ref (z + 23), .ref (z + 24), .ref (z + 25), .ref (z + 26), .ref (z + 27), .ref (z + 28), .ref (z + 29), .int 2, .int 0, .ref (z + 30), .ref (z + 31), .ref (z + 32), .ref (z + 33), .ref (z + 34), .ref (z + 35), .ref (z + 36), .int 0])
theorem m_addL (G : MG z 0 0 0 ov od h) (b c d : Int32) : ∃ h2, f_X8_add_L61 (some (z + 15)) 0 b c d h = some (1, h2) ∧ fobj h2 (some (z + 15)) 8 = some (z + 15) ∧ f_X8_thrown (z + 15) h2 = some (0, h2) ∧ faJ h2 (some (z + 37)) 1 0 = some ov := by
  obtain ⟨g1, u1, G1⟩ := m_up6 G 0
  generalize fSet h (z + 20) _ = s1 at u1 G1
  obtain ⟨g2, u2, G2⟩ := m_up7 G1 b
  generalize fSet s1 (z + 21) _ = s2 at u2 G2
  obtain ⟨g3, u3, G3⟩ := m_up8 G2 c
  generalize fSet s2 (z + 22) _ = s3 at u3 G3
  obtain ⟨g4, u4, G4⟩ := m_up9 G3 d
  generalize fSet s3 (z + 23) _ = s4 at u4 G4
  have p16 : fput s4 (some (z + 15)) 8 16 (.int 2) = some (fSet s4 (z + 15) (mc12 z)) := fput_C G4.1.1 (Nat.le_of_ble_eq_true rfl)
  obtain ⟨f, mm⟩ : ∃ f, fF s4 (z + 27) = some (.inr (0, 30, .inl f)) := by
    obtain ⟨⟨m15, m16, m17, m18, m19, m20, m21, m22, m23, m24, m25, m26, m27, m28⟩, -⟩ := G4
    exact m27
  have mm2 : fF (fSet s4 (z + 15) (mc12 z)) (z + 27) = _ := (fF_set_ne (by omega)).trans mm
  have u5 : fsI (fSet s4 (z + 15) (mc12 z)) (some (z + 27)) 0 1 1 = some (fSet (fSet s4 (z + 15) (mc12 z)) (z + 27) (.inr (0, 30, .inl (upd f 1 1)))) := by
    have n : ¬ ((1 : Int32) < 0 ∨ 30 ≤ 1) := by decide
    simp only [fsI, farr, mm2, if_true, if_neg n, nc1]
  have c5 : fF (fSet (fSet s4 (z + 15) (mc12 z)) (z + 27) (.inr (0, 30, .inl (upd f 1 1)))) (z + 15) = some (mc12 z) := (fF_set_ne (by omega)).trans fF_set_eq
  have j5 : faJ (fSet (fSet s4 (z + 15) (mc12 z)) (z + 27) (.inr (0, 30, .inl (upd f 1 1)))) (some (z + 37)) 1 0 = some ov := by
    rw [faJ_F (show fF (fSet (fSet s4 (z + 15) (mc12 z)) (z + 27) (.inr (0, 30, .inl (upd f 1 1)))) (z + 37) = fF s4 (z + 37) from (fF_set_ne (by omega)).trans (fF_set_ne (by omega)))]
    exact MG_J G4
  have i5 : fgI (fSet (fSet s4 (z + 15) (mc12 z)) (z + 27) (.inr (0, 30, .inl (upd f 1 1)))) (some (z + 15)) 8 1 = some 1 := by simp only [fgI, fget, c5]; rfl
  generalize fSet (fSet s4 (z + 15) (mc12 z)) (z + 27) (.inr (0, 30, .inl (upd f 1 1))) = s6 at u5 c5 i5 j5
  have p6 : fput s6 (some (z + 15)) 8 1 (.int 2) = some (fSet s6 (z + 15) (mc22 z)) := fput_C c5 (Nat.le_of_ble_eq_true rfl)
  have z11 : (1 : Int32) + 1 = 2 := by decide
  refine ⟨fSet s6 (z + 15) (mc22 z), ?_, ?_, ?_, ?_⟩
  · simp +decide only [f_X8_add_L61, mr1 G.1, mo15 G.1, m_levelNow G, mr6 G.1, u1, mr7 G1.1, mr1 G1.1, u2, mr8 G2.1, mr1 G2.1, u3, mr9 G3.1, mr1 G3.1, u4, mr13 G4.1, mr1 G4.1, mr16 G4.1, z11, p16, u5, i5, p6, Option.bind_some, if_true, if_false, reduceIte]
  · simp only [fobj, fF_set_eq, mc22]; rfl
  · have q : fgI (fSet s6 (z + 15) (mc22 z)) (some (z + 15)) 8 0 = some 0 := by simp only [fgI, fget, fF_set_eq, mc22]; rfl
    simp only [f_X8_thrown, f_X8_thrown_L0, q, Option.bind_some]
  · rw [faJ_F (show fF (fSet s6 (z + 15) (mc22 z)) (z + 37) = fF s6 (z + 37) from fF_set_ne (by omega))]
    exact j5
set_option maxRecDepth 100000 in
theorem pr_add (F : XF z h) (G : MG z 0 0 0 ov od h) (R : RM (999 + 1) h) (a b c d : Int32) : Pr z Int32.toInt64 (f_L_add (some z) a b c d (some (z + 37))) (f_X8_add (z + 15) a b c d) h := by
  by_cases q : a = 0
  · subst q
    by_cases q1 : rng b 0 2 = 0
    · refine Pr.mk (k := 2) (v := 0) (tH h) (mT z 2 0 (mT z 0 0 (tH h))) ?_ (MG_tH G) ?_ (MG_mT (MG_mT (MG_tH G) 0 0) 2 0) (fun q => absurd q (by decide))
      · simp +decide only [f_L_add_L0, f_L_add, f_X7_add, f_X7_add_L0, f_X7_add_L53, xo0 F, x_found0 F, x_isFrom, th_eq R, if_pos q1, Option.bind_some, Sum.elim_inl, Sum.elim_inr, reduceIte, reduceCtorEq, if_true, if_false, true_or, or_true, ite_self]
      · simp +decide only [f_X8_add, f_X8_add_L0, f_X8_add_L55, mo15 (MG_tH G).1, m_put0 (MG_tH G), mo15 (MG_mT (MG_tH G) 0 0).1, m_isNode0 (MG_mT (MG_tH G) 0 0), m_isIn, m_no (MG_mT (MG_tH G) 0 0), if_pos q1, Option.bind_some, Sum.elim_inl, Sum.elim_inr, reduceIte, reduceCtorEq, if_true, if_false, true_or, or_true, ite_self]
    · by_cases qb : b = 0
      · subst qb
        obtain ⟨h1, e1, G1, R1⟩ := x_addL F G R 0 c d
        have G2 : MG z 0 0 0 (Int32.toInt64 1) od (oS z (Int32.toInt64 1) h1) := MG_oS G1 _
        obtain ⟨h2, e2, e3, e4, e5⟩ := m_addL (MG_mT G2 0 0) 0 c d
        refine ⟨0, 1, oS z (Int32.toInt64 1) h1, h2, ?_, mo15 G2.1, ?_, e3, e4, fun _ => e5⟩
        · simp +decide only [f_L_add, f_L_add_L0, f_X7_add, f_X7_add_L0, xo0 F, x_found0 F, x_isFrom, if_neg q1, e1, o_st G1, Option.bind_some, Sum.elim_inl, Sum.elim_inr, reduceIte, reduceCtorEq, if_true, if_false, true_or, or_true, ite_self]
        · simp +decide only [f_X8_add, f_X8_add_L0, m_put0 G2, mo15 (MG_mT G2 0 0).1, m_isNode0 (MG_mT G2 0 0), m_isIn, if_neg q1, e2, Option.bind_some, Sum.elim_inl, Sum.elim_inr, reduceIte, reduceCtorEq, if_true, if_false, true_or, or_true, ite_self]
      · by_cases q2 : rng c 1 200 = 0
        · refine Pr.mk (k := 2) (v := 0) (tH h) (mT z 2 0 (mT z 0 0 (tH h))) ?_ (MG_tH G) ?_ (MG_mT (MG_mT (MG_tH G) 0 0) 2 0) (fun q => absurd q (by decide))
          · simp +decide only [f_L_add_L0, f_L_add, f_X7_add, f_X7_add_L0, f_X7_add_L53, xo0 F, x_found0 F, x_isFrom, th_eq R, if_neg q1, if_neg qb, if_pos q2, Option.bind_some, Sum.elim_inl, Sum.elim_inr, reduceIte, reduceCtorEq, if_true, if_false, true_or, or_true, ite_self]
          · simp +decide only [f_X8_add, f_X8_add_L0, f_X8_add_L55, mo15 (MG_tH G).1, m_put0 (MG_tH G), mo15 (MG_mT (MG_tH G) 0 0).1, m_isNode0 (MG_mT (MG_tH G) 0 0), m_isIn, m_no (MG_mT (MG_tH G) 0 0), if_neg q1, if_neg qb, if_pos q2, Option.bind_some, Sum.elim_inl, Sum.elim_inr, reduceIte, reduceCtorEq, if_true, if_false, true_or, or_true, ite_self]
        · by_cases q3 : rng d 1 200 = 0
          · refine Pr.mk (k := 2) (v := 0) (tH h) (mT z 2 0 (mT z 0 0 (tH h))) ?_ (MG_tH G) ?_ (MG_mT (MG_mT (MG_tH G) 0 0) 2 0) (fun q => absurd q (by decide))
            · simp +decide only [f_L_add_L0, f_L_add, f_X7_add, f_X7_add_L0, f_X7_add_L53, xo0 F, x_found0 F, x_isFrom, th_eq R, if_neg q1, if_neg qb, if_neg q2, if_pos q3, Option.bind_some, Sum.elim_inl, Sum.elim_inr, reduceIte, reduceCtorEq, if_true, if_false, true_or, or_true, ite_self]
            · simp +decide only [f_X8_add, f_X8_add_L0, f_X8_add_L55, mo15 (MG_tH G).1, m_put0 (MG_tH G), mo15 (MG_mT (MG_tH G) 0 0).1, m_isNode0 (MG_mT (MG_tH G) 0 0), m_isIn, m_no (MG_mT (MG_tH G) 0 0), if_neg q1, if_neg qb, if_neg q2, if_pos q3, Option.bind_some, Sum.elim_inl, Sum.elim_inr, reduceIte, reduceCtorEq, if_true, if_false, true_or, or_true, ite_self]
          · obtain ⟨h1, e1, G1, R1⟩ := x_addL F G R b c d
            have G2 : MG z 0 0 0 (Int32.toInt64 1) od (oS z (Int32.toInt64 1) h1) := MG_oS G1 _
            obtain ⟨h2, e2, e3, e4, e5⟩ := m_addL (MG_mT G2 0 0) b c d
            refine ⟨0, 1, oS z (Int32.toInt64 1) h1, h2, ?_, mo15 G2.1, ?_, e3, e4, fun _ => e5⟩
            · simp +decide only [f_L_add, f_L_add_L0, f_X7_add, f_X7_add_L0, xo0 F, x_found0 F, x_isFrom, if_neg q1, if_neg qb, if_neg q2, if_neg q3, e1, o_st G1, Option.bind_some, Sum.elim_inl, Sum.elim_inr, reduceIte, reduceCtorEq, if_true, if_false, true_or, or_true, ite_self]
            · simp +decide only [f_X8_add, f_X8_add_L0, m_put0 G2, mo15 (MG_mT G2 0 0).1, m_isNode0 (MG_mT G2 0 0), m_isIn, if_neg q1, if_neg qb, if_neg q2, if_neg q3, e2, Option.bind_some, Sum.elim_inl, Sum.elim_inr, reduceIte, reduceCtorEq, if_true, if_false, true_or, or_true, ite_self]
  · refine Pr.mk (k := 1) (v := 0) (tH h) (mT z 1 0 (mT z 0 0 (tH h))) ?_ (MG_tH G) ?_ (MG_mT (MG_mT (MG_tH G) 0 0) 1 0) (fun q => absurd q (by decide))
    · simp +decide only [f_L_add_L0, f_L_add, f_X7_add, f_X7_add_L0, f_X7_add_L53, xo0 F, x_foundn R F q, x_fbwn R F q, Option.bind_some, Sum.elim_inl, Sum.elim_inr, reduceIte, reduceCtorEq, if_true, if_false, true_or, or_true, ite_self]
    · simp +decide only [f_X8_add, f_X8_add_L0, f_X8_add_L55, mo15 (MG_tH G).1, m_put0 (MG_tH G), mo15 (MG_mT (MG_tH G) 0 0).1, m_isNoden (MG_mT (MG_tH G) 0 0) q, m_no (MG_mT (MG_tH G) 0 0), m_isNot (MG_mT (MG_tH G) 0 0), Option.bind_some, Sum.elim_inl, Sum.elim_inr, reduceIte, reduceCtorEq, if_true, if_false, true_or, or_true, ite_self]
end ADD
