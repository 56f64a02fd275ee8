/-! Class and model side by side: the queries. -/
section PAIR2
variable {z : Nat} {th tm hv : Int32} {ov : Int64} {od : UInt64} {h : fSt}
theorem badP_w {a b c : Int32} (q : ¬ badP a b c) : ¬ rng c 0 3 = 0 ∧ smallA a.toInt64 ∧ smallA b.toInt64 := ⟨fun y => q (Or.inr (Or.inr y)), rngK (fun y => q (Or.inl y)), rngK (fun y => q (Or.inr (Or.inl y)))⟩
set_option maxRecDepth 100000 in
theorem pr_toWhole (F : XF z h) (G : MG z 0 0 0 ov od h) (R : RM (999 + 1) h) (a b c d : Int32) : Pr z Int32.toInt64 (f_L_toWhole (some z) a b c d (some (z + 37))) (f_X8_toWhole (z + 15) a b c d) h := by
  by_cases q : a = 0
  · subst q
    by_cases q1 : badP b c d
    · refine Pr.mk (k := 2) (v := 0) (tH h) (mT z 2 0 (tH h)) ?_ (MG_tH G) ?_ (MG_mT (MG_tH G) 2 0) (fun q => absurd q (by decide))
      · simp +decide only [f_L_toWhole_L0, f_L_toWhole, f_X7_toWhole_L0, f_X7_toWhole, xo0 F, x_found0 F, x_checkPoint_b R q1, Option.bind_some, Sum.elim_inl, Sum.elim_inr, reduceIte, reduceCtorEq, if_true, if_false, true_or, or_true, ite_self]
      · simp +decide only [f_X8_toWhole_L37, f_X8_toWhole_L0, f_X8_toWhole, mo15 (MG_tH G).1, m_put0 (MG_tH G), mr0 (MG_mT (MG_tH G) 2 0).1, m_isNode0 (MG_tH G), m_askedb q1, Option.bind_some, Sum.elim_inl, Sum.elim_inr, reduceIte, reduceCtorEq, if_true, if_false, true_or, or_true, ite_self]
    · obtain ⟨w1, w2, w3⟩ := badP_w q1
      have R9 : RM (900 + 1) (mT z 0 0 (oS z (Int32.toInt64 (Int64.toInt32 (part1 b.toInt64 c.toInt64 d))) (PT z b.toInt64 c.toInt64 1 0 h))) := RM.le R (by decide)
      refine Pr.mk (k := 0) (v := Int64.toInt32 (part1 b.toInt64 c.toInt64 d)) (oS z (Int32.toInt64 (Int64.toInt32 (part1 b.toInt64 c.toInt64 d))) (PT z b.toInt64 c.toInt64 1 0 h)) (pS b.toInt64 c.toInt64 1 (mT z 0 0 (oS z (Int32.toInt64 (Int64.toInt32 (part1 b.toInt64 c.toInt64 d))) (PT z b.toInt64 c.toInt64 1 0 h)))) ?_ (MG_oS (MG_PT (x := b.toInt64) (y := c.toInt64) (u := 1) (c := 0) G) (Int32.toInt64 (Int64.toInt32 (part1 b.toInt64 c.toInt64 d)))) ?_ (MG_pS (MG_mT (MG_oS (MG_PT (x := b.toInt64) (y := c.toInt64) (u := 1) (c := 0) G) (Int32.toInt64 (Int64.toInt32 (part1 b.toInt64 c.toInt64 d)))) 0 0) b.toInt64 c.toInt64 1) (fun _ => rfl)
      · simp +decide only [f_L_toWhole_L0, f_L_toWhole, f_X7_toWhole_L0, f_X7_toWhole, xo0 F, x_found0 F, x_checkPoint_g q1, x_raise F, xr0_7_3 (XF_PT F), pO9, x_part, o_st (MG_PT (x := b.toInt64) (y := c.toInt64) (u := 1) (c := 0) G), Option.bind_some, Sum.elim_inl, Sum.elim_inr, reduceIte, reduceCtorEq, if_true, if_false, true_or, or_true, ite_self]
      · simp +decide only [f_X8_toWhole_L37, f_X8_toWhole_L0, f_X8_toWhole, mo15 (MG_oS (MG_PT (x := b.toInt64) (y := c.toInt64) (u := 1) (c := 0) G) (Int32.toInt64 (Int64.toInt32 (part1 b.toInt64 c.toInt64 d)))).1, m_isNode0 (MG_oS (MG_PT (x := b.toInt64) (y := c.toInt64) (u := 1) (c := 0) G) (Int32.toInt64 (Int64.toInt32 (part1 b.toInt64 c.toInt64 d)))), m_askedg q1, m_put0 (MG_oS (MG_PT (x := b.toInt64) (y := c.toInt64) (u := 1) (c := 0) G) (Int32.toInt64 (Int64.toInt32 (part1 b.toInt64 c.toInt64 d)))), mo15 (MG_mT (MG_oS (MG_PT (x := b.toInt64) (y := c.toInt64) (u := 1) (c := 0) G) (Int32.toInt64 (Int64.toInt32 (part1 b.toInt64 c.toInt64 d)))) 0 0).1, mr0 (MG_mT (MG_oS (MG_PT (x := b.toInt64) (y := c.toInt64) (u := 1) (c := 0) G) (Int32.toInt64 (Int64.toInt32 (part1 b.toInt64 c.toInt64 d)))) 0 0).1, m_toWholeNow R9 (MG_mT (MG_oS (MG_PT (x := b.toInt64) (y := c.toInt64) (u := 1) (c := 0) G) (Int32.toInt64 (Int64.toInt32 (part1 b.toInt64 c.toInt64 d)))) 0 0) d w1 w2 w3, Option.bind_some, Sum.elim_inl, Sum.elim_inr, reduceIte, reduceCtorEq, if_true, if_false, true_or, or_true, ite_self]
  · refine Pr.mk (k := 1) (v := 0) (tH h) (mT z 1 0 (tH h)) ?_ (MG_tH G) ?_ (MG_mT (MG_tH G) 1 0) (fun q => absurd q (by decide))
    · simp +decide only [f_L_toWhole_L0, f_L_toWhole, f_X7_toWhole_L0, f_X7_toWhole, xo0 F, x_foundn R F q, Option.bind_some, Sum.elim_inl, Sum.elim_inr, reduceIte, reduceCtorEq, if_true, if_false, true_or, or_true, ite_self]
    · simp +decide only [f_X8_toWhole_L37, f_X8_toWhole_L0, f_X8_toWhole, mo15 (MG_tH G).1, m_put0 (MG_tH G), mr0 (MG_mT (MG_tH G) 1 0).1, m_isNoden (MG_tH G) q, m_asked0, Option.bind_some, Sum.elim_inl, Sum.elim_inr, reduceIte, reduceCtorEq, if_true, if_false, true_or, or_true, ite_self]
set_option maxRecDepth 100000 in
theorem pr_fromWhole (F : XF z h) (G : MG z 0 0 0 ov od h) (R : RM (999 + 1) h) (a b c d : Int32) : Pr z Int32.toInt64 (f_L_fromWhole (some z) a b c d (some (z + 37))) (f_X8_fromWhole (z + 15) a b c d) h := by
  by_cases q : a = 0
  · subst q
    by_cases q1 : badP b c d
    · refine Pr.mk (k := 2) (v := 0) (tH h) (mT z 2 0 (tH h)) ?_ (MG_tH G) ?_ (MG_mT (MG_tH G) 2 0) (fun q => absurd q (by decide))
      · simp +decide only [f_L_fromWhole_L0, f_L_fromWhole, f_X7_fromWhole_L0, f_X7_fromWhole, xo0 F, x_found0 F, x_checkPoint_b R q1, Option.bind_some, Sum.elim_inl, Sum.elim_inr, reduceIte, reduceCtorEq, if_true, if_false, true_or, or_true, ite_self]
      · simp +decide only [f_X8_fromWhole_L37, f_X8_fromWhole_L0, f_X8_fromWhole, mo15 (MG_tH G).1, m_put0 (MG_tH G), mr0 (MG_mT (MG_tH G) 2 0).1, m_isNode0 (MG_tH G), m_askedb q1, Option.bind_some, Sum.elim_inl, Sum.elim_inr, reduceIte, reduceCtorEq, if_true, if_false, true_or, or_true, ite_self]
    · obtain ⟨w1, w2, w3⟩ := badP_w q1
      have R9 : RM (900 + 1) (mT z 0 0 (oS z (Int32.toInt64 (Int64.toInt32 (part1 b.toInt64 c.toInt64 d))) (PT z b.toInt64 c.toInt64 1 0 h))) := RM.le R (by decide)
      refine Pr.mk (k := 0) (v := Int64.toInt32 (part1 b.toInt64 c.toInt64 d)) (oS z (Int32.toInt64 (Int64.toInt32 (part1 b.toInt64 c.toInt64 d))) (PT z b.toInt64 c.toInt64 1 0 h)) (pS b.toInt64 c.toInt64 1 (mT z 0 0 (oS z (Int32.toInt64 (Int64.toInt32 (part1 b.toInt64 c.toInt64 d))) (PT z b.toInt64 c.toInt64 1 0 h)))) ?_ (MG_oS (MG_PT (x := b.toInt64) (y := c.toInt64) (u := 1) (c := 0) G) (Int32.toInt64 (Int64.toInt32 (part1 b.toInt64 c.toInt64 d)))) ?_ (MG_pS (MG_mT (MG_oS (MG_PT (x := b.toInt64) (y := c.toInt64) (u := 1) (c := 0) G) (Int32.toInt64 (Int64.toInt32 (part1 b.toInt64 c.toInt64 d)))) 0 0) b.toInt64 c.toInt64 1) (fun _ => rfl)
      · simp +decide only [f_L_fromWhole_L0, f_L_fromWhole, f_X7_fromWhole_L0, f_X7_fromWhole, xo0 F, x_found0 F, x_checkPoint_g q1, xr0_7_3 F, xo9 F, x_set F, xr0_7_3 (XF_PT F), xr0_7_7 (XF_PT F), x_sink F, pO9, x_part, o_st (MG_PT (x := b.toInt64) (y := c.toInt64) (u := 1) (c := 0) G), Option.bind_some, Sum.elim_inl, Sum.elim_inr, reduceIte, reduceCtorEq, if_true, if_false, true_or, or_true, ite_self]
      · simp +decide only [f_X8_fromWhole_L37, f_X8_fromWhole_L0, f_X8_fromWhole, mo15 (MG_oS (MG_PT (x := b.toInt64) (y := c.toInt64) (u := 1) (c := 0) G) (Int32.toInt64 (Int64.toInt32 (part1 b.toInt64 c.toInt64 d)))).1, m_isNode0 (MG_oS (MG_PT (x := b.toInt64) (y := c.toInt64) (u := 1) (c := 0) G) (Int32.toInt64 (Int64.toInt32 (part1 b.toInt64 c.toInt64 d)))), m_askedg q1, m_put0 (MG_oS (MG_PT (x := b.toInt64) (y := c.toInt64) (u := 1) (c := 0) G) (Int32.toInt64 (Int64.toInt32 (part1 b.toInt64 c.toInt64 d)))), mo15 (MG_mT (MG_oS (MG_PT (x := b.toInt64) (y := c.toInt64) (u := 1) (c := 0) G) (Int32.toInt64 (Int64.toInt32 (part1 b.toInt64 c.toInt64 d)))) 0 0).1, mr0 (MG_mT (MG_oS (MG_PT (x := b.toInt64) (y := c.toInt64) (u := 1) (c := 0) G) (Int32.toInt64 (Int64.toInt32 (part1 b.toInt64 c.toInt64 d)))) 0 0).1, m_fromWholeNow R9 (MG_mT (MG_oS (MG_PT (x := b.toInt64) (y := c.toInt64) (u := 1) (c := 0) G) (Int32.toInt64 (Int64.toInt32 (part1 b.toInt64 c.toInt64 d)))) 0 0) d w1 w2 w3, Option.bind_some, Sum.elim_inl, Sum.elim_inr, reduceIte, reduceCtorEq, if_true, if_false, true_or, or_true, ite_self]
  · refine Pr.mk (k := 1) (v := 0) (tH h) (mT z 1 0 (tH h)) ?_ (MG_tH G) ?_ (MG_mT (MG_tH G) 1 0) (fun q => absurd q (by decide))
    · simp +decide only [f_L_fromWhole_L0, f_L_fromWhole, f_X7_fromWhole_L0, f_X7_fromWhole, xo0 F, x_foundn R F q, Option.bind_some, Sum.elim_inl, Sum.elim_inr, reduceIte, reduceCtorEq, if_true, if_false, true_or, or_true, ite_self]
    · simp +decide only [f_X8_fromWhole_L37, f_X8_fromWhole_L0, f_X8_fromWhole, mo15 (MG_tH G).1, m_put0 (MG_tH G), mr0 (MG_mT (MG_tH G) 1 0).1, m_isNoden (MG_tH G) q, m_asked0, Option.bind_some, Sum.elim_inl, Sum.elim_inr, reduceIte, reduceCtorEq, if_true, if_false, true_or, or_true, ite_self]
set_option maxRecDepth 100000 in
theorem pr_between (F : XF z h) (G : MG z 0 0 0 ov od h) (R : RM (999 + 1) h) (a b c d e : Int32) : Pr z Int32.toInt64 (f_L_between (some z) a b c d e (some (z + 37))) (f_X8_between (z + 15) a b c d e) h := by
  by_cases q : a = 0
  · subst q
    by_cases q0 : b = 0
    · subst q0
      by_cases q1 : badP c d e
      · refine Pr.mk (k := 2) (v := 0) (tH h) (mT z 2 0 (tH h)) ?_ (MG_tH G) ?_ (MG_mT (MG_tH G) 2 0) (fun q => absurd q (by decide))
        · simp +decide only [f_L_between_L0, f_L_between, f_X7_between_L0, f_X7_between, xo0 F, x_found0 F, x_checkPoint_b R q1, Option.bind_some, Sum.elim_inl, Sum.elim_inr, reduceIte, reduceCtorEq, if_true, if_false, true_or, or_true, ite_self]
        · simp +decide only [f_X8_between_L23, f_X8_between_L22, f_X8_between_L0, f_X8_between, mo15 (MG_tH G).1, m_put0 (MG_tH G), mr0 (MG_mT (MG_tH G) 2 0).1, m_isNode0 (MG_tH G), m_askedb q1, Option.bind_some, Sum.elim_inl, Sum.elim_inr, reduceIte, reduceCtorEq, if_true, if_false, true_or, or_true, ite_self]
      · obtain ⟨w1, w2, w3⟩ := badP_w q1
        have R9 : RM (900 + 1) (mT z 0 0 (oS z (Int32.toInt64 (Int64.toInt32 (part1 c.toInt64 d.toInt64 e))) (PT z c.toInt64 d.toInt64 1 0 h))) := RM.le R (by decide)
        refine Pr.mk (k := 0) (v := Int64.toInt32 (part1 c.toInt64 d.toInt64 e)) (oS z (Int32.toInt64 (Int64.toInt32 (part1 c.toInt64 d.toInt64 e))) (PT z c.toInt64 d.toInt64 1 0 h)) (pS c.toInt64 d.toInt64 1 (mT z 0 0 (oS z (Int32.toInt64 (Int64.toInt32 (part1 c.toInt64 d.toInt64 e))) (PT z c.toInt64 d.toInt64 1 0 h)))) ?_ (MG_oS (MG_PT (x := c.toInt64) (y := d.toInt64) (u := 1) (c := 0) G) (Int32.toInt64 (Int64.toInt32 (part1 c.toInt64 d.toInt64 e)))) ?_ (MG_pS (MG_mT (MG_oS (MG_PT (x := c.toInt64) (y := d.toInt64) (u := 1) (c := 0) G) (Int32.toInt64 (Int64.toInt32 (part1 c.toInt64 d.toInt64 e)))) 0 0) c.toInt64 d.toInt64 1) (fun _ => rfl)
        · simp +decide only [f_L_between_L0, f_L_between, f_X7_between_L0, f_X7_between, xo0 F, x_found0 F, x_checkPoint_g q1, x_raise F, xr0_7_3 (XF_PT F), xr0_7_7 (XF_PT F), x_sink F, pO9, x_part, o_st (MG_PT (x := c.toInt64) (y := d.toInt64) (u := 1) (c := 0) G), Option.bind_some, Sum.elim_inl, Sum.elim_inr, reduceIte, reduceCtorEq, if_true, if_false, true_or, or_true, ite_self]
        · simp +decide only [f_X8_between_L23, f_X8_between_L22, f_X8_between_L0, f_X8_between, mo15 (MG_oS (MG_PT (x := c.toInt64) (y := d.toInt64) (u := 1) (c := 0) G) (Int32.toInt64 (Int64.toInt32 (part1 c.toInt64 d.toInt64 e)))).1, m_isNode0 (MG_oS (MG_PT (x := c.toInt64) (y := d.toInt64) (u := 1) (c := 0) G) (Int32.toInt64 (Int64.toInt32 (part1 c.toInt64 d.toInt64 e)))), m_askedg q1, m_put0 (MG_oS (MG_PT (x := c.toInt64) (y := d.toInt64) (u := 1) (c := 0) G) (Int32.toInt64 (Int64.toInt32 (part1 c.toInt64 d.toInt64 e)))), mo15 (MG_mT (MG_oS (MG_PT (x := c.toInt64) (y := d.toInt64) (u := 1) (c := 0) G) (Int32.toInt64 (Int64.toInt32 (part1 c.toInt64 d.toInt64 e)))) 0 0).1, mr0 (MG_mT (MG_oS (MG_PT (x := c.toInt64) (y := d.toInt64) (u := 1) (c := 0) G) (Int32.toInt64 (Int64.toInt32 (part1 c.toInt64 d.toInt64 e)))) 0 0).1, m_point R9, mo15 (MG_pS (MG_mT (MG_oS (MG_PT (x := c.toInt64) (y := d.toInt64) (u := 1) (c := 0) G) (Int32.toInt64 (Int64.toInt32 (part1 c.toInt64 d.toInt64 e)))) 0 0) c.toInt64 d.toInt64 1).1, f_X8_upAll, f_X8_upAll_L0, s0_X8_upAll_L2, s0_X8_downAll, f_X8_downAll_L0, m_part e w1 w2 w3, Option.bind_some, Sum.elim_inl, Sum.elim_inr, reduceIte, reduceCtorEq, if_true, if_false, true_or, or_true, ite_self]
    · refine Pr.mk (k := 1) (v := 0) (tH h) (mT z 1 0 (tH h)) ?_ (MG_tH G) ?_ (MG_mT (MG_tH G) 1 0) (fun q => absurd q (by decide))
      · simp +decide only [f_L_between_L0, f_L_between, f_X7_between_L0, f_X7_between, xo0 F, x_found0 F, x_foundn R F q0, Option.bind_some, Sum.elim_inl, Sum.elim_inr, reduceIte, reduceCtorEq, if_true, if_false, true_or, or_true, ite_self]
      · simp +decide only [f_X8_between_L23, f_X8_between_L22, f_X8_between_L0, f_X8_between, mo15 (MG_tH G).1, m_put0 (MG_tH G), mr0 (MG_mT (MG_tH G) 1 0).1, m_isNode0 (MG_tH G), m_isNoden (MG_tH G) q0, m_asked0, Option.bind_some, Sum.elim_inl, Sum.elim_inr, reduceIte, reduceCtorEq, if_true, if_false, true_or, or_true, ite_self]
  · refine Pr.mk (k := 1) (v := 0) (tH h) (mT z 1 0 (tH h)) ?_ (MG_tH G) ?_ (MG_mT (MG_tH G) 1 0) (fun q => absurd q (by decide))
    · simp +decide only [f_L_between_L0, f_L_between, f_X7_between_L0, f_X7_between, xo0 F, x_foundn R F q, Option.bind_some, Sum.elim_inl, Sum.elim_inr, reduceIte, reduceCtorEq, if_true, if_false, true_or, or_true, ite_self]
    · simp +decide only [f_X8_between_L23, f_X8_between_L22, f_X8_between_L0, f_X8_between, mo15 (MG_tH G).1, m_put0 (MG_tH G), mr0 (MG_mT (MG_tH G) 1 0).1, m_isNoden (MG_tH G) q, m_asked0, Option.bind_some, Sum.elim_inl, Sum.elim_inr, reduceIte, reduceCtorEq, if_true, if_false, true_or, or_true, ite_self]
theorem x_side (F : XF z h) {s : Int32} (q : ¬ rng s 0 3 = 0) : ∃ o, f_X0_side (z + 10) s (BD z h) = some (some o, BD z h) ∧ fgJ (BD z h) (some o) 1 0 = some 0 ∧ fgJ (BD z h) (some o) 1 1 = some 0 := by
  rcases rng03 q with rfl | rfl | rfl | rfl
  · exact ⟨z + 11, by simp +decide only [f_X0_side, f_X0_side_L0, xr10_0_0 (XF_BD F), Option.bind_some, if_true], bdJ (i := 0) (by decide) (by decide), bdJ (i := 0) (by decide) (by decide)⟩
  · exact ⟨z + 12, by simp +decide only [f_X0_side, f_X0_side_L0, xr10_0_1 (XF_BD F), Option.bind_some, if_true, if_false], bdJ (i := 1) (by decide) (by decide), bdJ (i := 1) (by decide) (by decide)⟩
  · exact ⟨z + 13, by simp +decide only [f_X0_side, f_X0_side_L0, xr10_0_2 (XF_BD F), Option.bind_some, if_true, if_false], bdJ (i := 2) (by decide) (by decide), bdJ (i := 2) (by decide) (by decide)⟩
  · exact ⟨z + 14, by simp +decide only [f_X0_side, f_X0_side_L0, xr10_0_3 (XF_BD F), Option.bind_some, if_true, if_false], bdJ (i := 3) (by decide) (by decide), bdJ (i := 3) (by decide) (by decide)⟩
theorem j2i0 : Int64.toInt32 0 = 0 := by decide
set_option maxRecDepth 100000 in
theorem pr_bound (F : XF z h) (G : MG z 0 0 0 ov od h) (R : RM (999 + 1) h) (a b c : Int32) : Pr z Int32.toInt64 (f_L_bound (some z) a b c (some (z + 37))) (f_X8_bound (z + 15) a b c) h := by
  by_cases q : a = 0
  · subst q
    by_cases q1 : rng b 0 3 = 0
    · refine Pr.mk (k := 2) (v := 0) (tH h) (mT z 2 0 (mT z 0 0 (tH h))) ?_ (MG_tH G) ?_ (MG_mT (MG_mT (MG_tH G) 0 0) 2 0) (fun q => absurd q (by decide))
      · simp +decide only [f_L_bound_L0, f_L_bound, f_X7_bound_L60, f_X7_bound_L0, f_X7_bound, xo0 F, x_found0 F, x_isFrom, if_pos q1, th_eq R, Option.bind_some, Sum.elim_inl, Sum.elim_inr, reduceIte, reduceCtorEq, if_true, if_false, true_or, or_true, ite_self]
      · simp +decide only [f_X8_bound_L43, f_X8_bound_L0, f_X8_bound, mo15 (MG_tH G).1, m_put0 (MG_tH G), mo15 (MG_mT (MG_tH G) 0 0).1, m_isNode0 (MG_mT (MG_tH G) 0 0), m_no (MG_mT (MG_tH G) 0 0), m_isIn, if_pos q1, Option.bind_some, Sum.elim_inl, Sum.elim_inr, reduceIte, reduceCtorEq, if_true, if_false, true_or, or_true, ite_self]
    · obtain ⟨o, p1, p2, p3⟩ := x_side F q1
      refine Pr.mk (k := 0) (v := 0) (oS z (Int32.toInt64 0) (BD z h)) (mT z 0 0 (oS z (Int32.toInt64 0) (BD z h))) ?_ (MG_oS (MG_BD G) (Int32.toInt64 0)) ?_ ((MG_mT (MG_oS (MG_BD G) (Int32.toInt64 0)) 0 0)) (fun _ => rfl)
      · simp +decide only [f_L_bound_L0, f_L_bound, f_X7_bound_L60, f_X7_bound_L0, f_X7_bound, xo0 F, x_found0 F, x_isFrom, if_neg q1, x_gather F, xr0_7_4 (XF_BD F), xo10 (XF_BD F), p1, p2, p3, j2i0, o_st (MG_BD G), Option.bind_some, Sum.elim_inl, Sum.elim_inr, reduceIte, reduceCtorEq, if_true, if_false, true_or, or_true, ite_self]
      · simp +decide only [f_X8_bound_L43, f_X8_bound_L0, f_X8_bound, mo15 (MG_oS (MG_BD G) (Int32.toInt64 0)).1, m_put0 (MG_oS (MG_BD G) (Int32.toInt64 0)), mo15 (MG_mT (MG_oS (MG_BD G) (Int32.toInt64 0)) 0 0).1, m_isNode0 (MG_mT (MG_oS (MG_BD G) (Int32.toInt64 0)) 0 0), m_isIn, if_neg q1, m_boundNow (MG_mT (MG_oS (MG_BD G) (Int32.toInt64 0)) 0 0), Option.bind_some, Sum.elim_inl, Sum.elim_inr, reduceIte, reduceCtorEq, if_true, if_false, true_or, or_true, ite_self]
  · refine Pr.mk (k := 1) (v := 0) (tH h) (mT z 1 0 (mT z 0 0 (tH h))) ?_ (MG_tH G) ?_ (MG_mT (MG_mT (MG_tH G) 0 0) 1 0) (fun q => absurd q (by decide))
    · simp +decide only [f_L_bound_L0, f_L_bound, f_X7_bound_L60, f_X7_bound_L0, f_X7_bound, xo0 F, x_foundn R F q, x_fbwn R F q, Option.bind_some, Sum.elim_inl, Sum.elim_inr, reduceIte, reduceCtorEq, if_true, if_false, true_or, or_true, ite_self]
    · simp +decide only [f_X8_bound_L43, f_X8_bound_L0, f_X8_bound, mo15 (MG_tH G).1, m_put0 (MG_tH G), mo15 (MG_mT (MG_tH G) 0 0).1, m_isNoden (MG_mT (MG_tH G) 0 0) q, m_no (MG_mT (MG_tH G) 0 0), m_isNot (MG_mT (MG_tH G) 0 0), Option.bind_some, Sum.elim_inl, Sum.elim_inr, reduceIte, reduceCtorEq, if_true, if_false, true_or, or_true, ite_self]
theorem encB1 : encB 1 = 1 := by decide
theorem encB0 : encB 0 = 0 := by decide
set_option maxRecDepth 100000 in
theorem pr_isShown (F : XF z h) (G : MG z 0 0 0 ov od h) (R : RM (999 + 1) h) (a : Int32) : Pr z encB (f_L_isShown (some z) a (some (z + 37))) (f_X8_isShown (z + 15) a) h := by
  by_cases q : a = 0
  · subst q
    refine Pr.mk (k := 0) (v := 1) (oS z (encB 1) h) (mT z 0 0 (oS z (encB 1) h)) ?_ (MG_oS G (encB 1)) ?_ ((MG_mT (MG_oS G (encB 1)) 0 0)) (fun _ => rfl)
    · simp +decide only [f_L_isShown_L15, f_L_isShown_L0, f_L_isShown, f_X7_isShown_L0, f_X7_isShown, xo0 F, x_found0 F, xr0_7_7 F, xo3 F, x_isShownAt F, encB1, o_st G, Option.bind_some, Sum.elim_inl, Sum.elim_inr, reduceIte, reduceCtorEq, if_true, if_false, true_or, or_true, ite_self]
    · simp +decide only [f_X8_isShown_L37, f_X8_isShown_L36, f_X8_isShown_L14, f_X8_isShown_L0, f_X8_isShown, mo15 (MG_oS G (encB 1)).1, m_isNode0 (MG_oS G (encB 1)), m_put0 (MG_oS G (encB 1)), mo15 (MG_mT (MG_oS G (encB 1)) 0 0).1, mr0 (MG_mT (MG_oS G (encB 1)) 0 0).1, m_isShownNow (MG_mT (MG_oS G (encB 1)) 0 0), Option.bind_some, Sum.elim_inl, Sum.elim_inr, reduceIte, reduceCtorEq, if_true, if_false, true_or, or_true, ite_self]
  · refine Pr.mk (k := 1) (v := 0) (tH h) (mT z 1 0 (tH h)) ?_ (MG_tH G) ?_ (MG_mT (MG_tH G) 1 0) (fun q => absurd q (by decide))
    · simp +decide only [f_L_isShown_L15, f_L_isShown_L0, f_L_isShown, f_X7_isShown_L0, f_X7_isShown, xo0 F, x_foundn R F q, Option.bind_some, Sum.elim_inl, Sum.elim_inr, reduceIte, reduceCtorEq, if_true, if_false, true_or, or_true, ite_self]
    · simp +decide only [f_X8_isShown_L37, f_X8_isShown_L36, f_X8_isShown_L14, f_X8_isShown_L0, f_X8_isShown, mo15 (MG_tH G).1, m_put0 (MG_tH G), mr0 (MG_mT (MG_tH G) 1 0).1, m_isNoden (MG_tH G) q, Option.bind_some, Sum.elim_inl, Sum.elim_inr, reduceIte, reduceCtorEq, if_true, if_false, true_or, or_true, ite_self]
set_option maxRecDepth 100000 in
theorem pr_covers (F : XF z h) (G : MG z 0 0 0 ov od h) (R : RM (999 + 1) h) (a b c d : Int32) : Pr z encB (f_L_covers (some z) a b c d (some (z + 37))) (f_X8_covers (z + 15) a b c d) h := by
  by_cases q : a = 0
  · subst q
    by_cases q1 : badS b c d
    · refine Pr.mk (k := 2) (v := 0) (tH h) (mT z 2 0 (tH h)) ?_ (MG_tH G) ?_ (MG_mT (MG_tH G) 2 0) (fun q => absurd q (by decide))
      · simp +decide only [f_L_covers_L20, f_L_covers_L0, f_L_covers, f_X7_covers_L0, f_X7_covers, xo0 F, x_found0 F, x_checkSpot_b R q1, Option.bind_some, Sum.elim_inl, Sum.elim_inr, reduceIte, reduceCtorEq, if_true, if_false, true_or, or_true, ite_self]
      · simp +decide only [f_X8_covers_L55, f_X8_covers_L54, f_X8_covers_L28, f_X8_covers_L0, f_X8_covers, mo15 (MG_tH G).1, m_put0 (MG_tH G), mr0 (MG_mT (MG_tH G) 2 0).1, m_isNode0 (MG_tH G), m_isPointb q1, Option.bind_some, Sum.elim_inl, Sum.elim_inr, reduceIte, reduceCtorEq, if_true, if_false, true_or, or_true, ite_self]
    · refine Pr.mk (k := 0) (v := 0) (oS z (encB 0) h) (mT z 0 0 (oS z (encB 0) h)) ?_ (MG_oS G (encB 0)) ?_ ((MG_mT (MG_oS G (encB 0)) 0 0)) (fun _ => rfl)
      · simp +decide only [f_L_covers_L20, f_L_covers_L0, f_L_covers, f_X7_covers_L0, f_X7_covers, xo0 F, x_found0 F, x_checkSpot_g q1, xr0_7_7 F, x_coversAt F, encB0, o_st G, Option.bind_some, Sum.elim_inl, Sum.elim_inr, reduceIte, reduceCtorEq, if_true, if_false, true_or, or_true, ite_self]
      · simp +decide only [f_X8_covers_L55, f_X8_covers_L54, f_X8_covers_L28, f_X8_covers_L0, f_X8_covers, mo15 (MG_oS G (encB 0)).1, m_isNode0 (MG_oS G (encB 0)), m_isPointg q1, m_put0 (MG_oS G (encB 0)), mo15 (MG_mT (MG_oS G (encB 0)) 0 0).1, mr0 (MG_mT (MG_oS G (encB 0)) 0 0).1, m_coversNow (MG_mT (MG_oS G (encB 0)) 0 0), Option.bind_some, Sum.elim_inl, Sum.elim_inr, reduceIte, reduceCtorEq, if_true, if_false, true_or, or_true, ite_self]
  · refine Pr.mk (k := 1) (v := 0) (tH h) (mT z 1 0 (tH h)) ?_ (MG_tH G) ?_ (MG_mT (MG_tH G) 1 0) (fun q => absurd q (by decide))
    · simp +decide only [f_L_covers_L20, f_L_covers_L0, f_L_covers, f_X7_covers_L0, f_X7_covers, xo0 F, x_foundn R F q, Option.bind_some, Sum.elim_inl, Sum.elim_inr, reduceIte, reduceCtorEq, if_true, if_false, true_or, or_true, ite_self]
    · simp +decide only [f_X8_covers_L55, f_X8_covers_L54, f_X8_covers_L28, f_X8_covers_L0, f_X8_covers, mo15 (MG_tH G).1, m_put0 (MG_tH G), mr0 (MG_mT (MG_tH G) 1 0).1, m_isNoden (MG_tH G) q, Option.bind_some, Sum.elim_inl, Sum.elim_inr, reduceIte, reduceCtorEq, if_true, if_false, true_or, or_true, ite_self]
theorem x_orderAt0 (F : XF z h) : f_X7_orderAt z 0 h = some (.inl 0, h) := by
  simp +decide only [f_X7_orderAt, f_X7_orderAt_L0, sS_X7_orderAt_L5, xr0_7_8 F, xr3_4_18 F, xr3_4_0 F, Option.bind_some, if_true]
theorem x_orderAtn {k : Nat} (R : RM (k + 1) h) (F : XF z h) {a : Int32} (q : ¬ a = 0) : f_X7_orderAt z a h = some (.inr 0, tH h) := by
  have q2 : ¬ (0 : Int32) = a := fun e => q e.symm
  simp +decide only [f_X7_orderAt, f_X7_orderAt_L0, sS_X7_orderAt_L5, sN_X7_orderAt_L5, xr0_7_8 F, xr3_4_18 F, xr3_4_17 F, if_neg q2, th_eq R, Option.bind_some]
theorem n11 : ((1 : Int32) - 1) = 0 := by decide
set_option maxRecDepth 100000 in
theorem pr_orderAt (F : XF z h) (G : MG z 0 0 0 ov od h) (R : RM (999 + 1) h) (a : Int32) : Pr z Int32.toInt64 (f_L_orderAt (some z) a (some (z + 37))) (f_X8_orderAt (z + 15) a) h := by
  by_cases q : a = 0
  · subst q
    have e : ¬ rng 0 0 0 = 0 := by decide
    have R9 : RM (900 + 2) (mT z 0 0 (oS z (Int32.toInt64 (0)) h)) := RM.le R (by decide)
    refine Pr.mk (k := 0) (v := (0)) (oS z (Int32.toInt64 (0)) h) (oR (mT z 0 0 (oS z (Int32.toInt64 (0)) h))) ?_ (MG_oS G (Int32.toInt64 (0))) ?_ (MG_oR (MG_mT (MG_oS G (Int32.toInt64 (0))) 0 0)) (fun _ => rfl)
    · simp +decide only [f_L_orderAt_L0, f_L_orderAt, xo0 F, x_orderAt0 F, o_st G, Option.bind_some, Sum.elim_inl, Sum.elim_inr, reduceIte, reduceCtorEq, if_true, if_false, true_or, or_true, ite_self]
    · simp +decide only [f_X8_orderAt_L33, f_X8_orderAt_L0, f_X8_orderAt, mo15 (MG_oS G (Int32.toInt64 (0))).1, m_put0 (MG_oS G (Int32.toInt64 (0))), mo15 (MG_mT (MG_oS G (Int32.toInt64 (0))) 0 0).1, m_nodesNow (MG_mT (MG_oS G (Int32.toInt64 (0))) 0 0), n11, m_isIn, if_neg e, m_ordered R9 (MG_mT (MG_oS G (Int32.toInt64 (0))) 0 0), oR_a, Option.bind_some, Sum.elim_inl, Sum.elim_inr, reduceIte, reduceCtorEq, if_true, if_false, true_or, or_true, ite_self]
  · refine Pr.mk (k := 1) (v := 0) (tH h) (mT z 1 0 (mT z 0 0 (tH h))) ?_ (MG_tH G) ?_ (MG_mT (MG_mT (MG_tH G) 0 0) 1 0) (fun q => absurd q (by decide))
    · simp +decide only [f_L_orderAt_L0, f_L_orderAt, xo0 F, x_orderAtn R F q, Option.bind_some, Sum.elim_inl, Sum.elim_inr, reduceIte, reduceCtorEq, if_true, if_false, true_or, or_true, ite_self]
    · simp +decide only [f_X8_orderAt_L33, f_X8_orderAt_L0, f_X8_orderAt, mo15 (MG_tH G).1, m_put0 (MG_tH G), mo15 (MG_mT (MG_tH G) 0 0).1, m_nodesNow (MG_mT (MG_tH G) 0 0), n11, m_isIn, rng00 q, m_no (MG_mT (MG_tH G) 0 0), Option.bind_some, Sum.elim_inl, Sum.elim_inr, reduceIte, reduceCtorEq, if_true, if_false, true_or, or_true, ite_self]
set_option maxRecDepth 100000 in
theorem pr_placeOf (F : XF z h) (G : MG z 0 0 0 ov od h) (R : RM (999 + 1) h) (a : Int32) : Pr z Int32.toInt64 (f_L_placeOf (some z) a (some (z + 37))) (f_X8_placeOf (z + 15) a) h := by
  by_cases q : a = 0
  · subst q
    have R9 : RM (900 + 2) (mT z 0 0 (oS z (Int32.toInt64 (0)) h)) := RM.le R (by decide)
    refine Pr.mk (k := 0) (v := (0)) (oS z (Int32.toInt64 (0)) h) (oR (mT z 0 0 (oS z (Int32.toInt64 (0)) h))) ?_ (MG_oS G (Int32.toInt64 (0))) ?_ (MG_oR (MG_mT (MG_oS G (Int32.toInt64 (0))) 0 0)) (fun _ => rfl)
    · simp +decide only [f_L_placeOf_L0, f_L_placeOf, f_X7_placeOf_L0, f_X7_placeOf, xo0 F, x_found0 F, xr3_4_18 F, o_st G, Option.bind_some, Sum.elim_inl, Sum.elim_inr, reduceIte, reduceCtorEq, if_true, if_false, true_or, or_true, ite_self]
    · simp +decide only [f_X8_placeOf_L29, f_X8_placeOf_L0, f_X8_placeOf, mo15 (MG_oS G (Int32.toInt64 (0))).1, m_put0 (MG_oS G (Int32.toInt64 (0))), mo15 (MG_mT (MG_oS G (Int32.toInt64 (0))) 0 0).1, m_isNode0 (MG_mT (MG_oS G (Int32.toInt64 (0))) 0 0), m_ordered R9 (MG_mT (MG_oS G (Int32.toInt64 (0))) 0 0), f_X8_placeIn, f_X8_placeIn_L0, s0_X8_placeIn_L2, oR_a, Option.bind_some, Sum.elim_inl, Sum.elim_inr, reduceIte, reduceCtorEq, if_true, if_false, true_or, or_true, ite_self]
  · refine Pr.mk (k := 1) (v := 0) (tH h) (mT z 1 0 (mT z 0 0 (tH h))) ?_ (MG_tH G) ?_ (MG_mT (MG_mT (MG_tH G) 0 0) 1 0) (fun q => absurd q (by decide))
    · simp +decide only [f_L_placeOf_L0, f_L_placeOf, f_X7_placeOf_L0, f_X7_placeOf, xo0 F, x_foundn R F q, x_fbwn R F q, Option.bind_some, Sum.elim_inl, Sum.elim_inr, reduceIte, reduceCtorEq, if_true, if_false, true_or, or_true, ite_self]
    · simp +decide only [f_X8_placeOf_L29, f_X8_placeOf_L0, f_X8_placeOf, mo15 (MG_tH G).1, m_put0 (MG_tH G), mo15 (MG_mT (MG_tH G) 0 0).1, m_isNoden (MG_mT (MG_tH G) 0 0) q, m_no (MG_mT (MG_tH G) 0 0), m_isNot (MG_mT (MG_tH G) 0 0), Option.bind_some, Sum.elim_inl, Sum.elim_inr, reduceIte, reduceCtorEq, if_true, if_false, true_or, or_true, ite_self]
set_option maxRecDepth 100000 in
theorem pr_pick (F : XF z h) (G : MG z 0 0 0 ov od h) (R : RM (999 + 1) h) (a b c : Int32) : Pr z Int32.toInt64 (f_L_pick (some z) a b c (some (z + 37))) (f_X8_pick (z + 15) a b c) h := by
  by_cases q1 : badS a b c
  · refine Pr.mk (k := 1) (v := 0) (tH h) (mT z 1 0 (mT z 0 0 (tH h))) ?_ (MG_tH G) ?_ (MG_mT (MG_mT (MG_tH G) 0 0) 1 0) (fun q => absurd q (by decide))
    · simp +decide only [f_L_pick_L0, f_L_pick, f_X7_pick_L0, f_X7_pick, xo0 F, x_checkSpot_b R q1, Option.bind_some, Sum.elim_inl, Sum.elim_inr, reduceIte, reduceCtorEq, if_true, if_false, true_or, or_true, ite_self]
    · simp +decide only [f_X8_pick_L29, f_X8_pick_L0, f_X8_pick, mo15 (MG_tH G).1, m_put0 (MG_tH G), mo15 (MG_mT (MG_tH G) 0 0).1, m_isPointb q1, m_no (MG_mT (MG_tH G) 0 0), Option.bind_some, Sum.elim_inl, Sum.elim_inr, reduceIte, reduceCtorEq, if_true, if_false, true_or, or_true, ite_self]
  · have R9 : RM (900 + 2) (mT z 0 0 (oS z (Int32.toInt64 (-1)) h)) := RM.le R (by decide)
    refine Pr.mk (k := 0) (v := (-1)) (oS z (Int32.toInt64 (-1)) h) (oR (mT z 0 0 (oS z (Int32.toInt64 (-1)) h))) ?_ (MG_oS G (Int32.toInt64 (-1))) ?_ (MG_oR (MG_mT (MG_oS G (Int32.toInt64 (-1))) 0 0)) (fun _ => rfl)
    · simp +decide only [f_L_pick_L0, f_L_pick, f_X7_pick_L0, f_X7_pick, xo0 F, x_checkSpot_g q1, xr0_7_7 F, x_topAtN F, o_st G, Option.bind_some, Sum.elim_inl, Sum.elim_inr, reduceIte, reduceCtorEq, if_true, if_false, true_or, or_true, ite_self]
    · simp +decide only [f_X8_pick_L29, f_X8_pick_L0, f_X8_pick, mo15 (MG_oS G (Int32.toInt64 (-1))).1, m_put0 (MG_oS G (Int32.toInt64 (-1))), mo15 (MG_mT (MG_oS G (Int32.toInt64 (-1))) 0 0).1, m_isPointg q1, m_pickNow R9 (MG_mT (MG_oS G (Int32.toInt64 (-1))) 0 0), Option.bind_some, Sum.elim_inl, Sum.elim_inr, reduceIte, reduceCtorEq, if_true, if_false, true_or, or_true, ite_self]
set_option maxRecDepth 100000 in
theorem pr_many (F : XF z h) (G : MG z 0 0 0 ov od h) (R : RM (999 + 1) h) (a b c : Int32) : Pr z Int32.toInt64 (f_L_many (some z) a b c (some (z + 37))) (f_X8_many (z + 15) a b c) h := by
  by_cases q1 : badS a b c
  · refine Pr.mk (k := 1) (v := 0) (tH h) (mT z 1 0 (mT z 0 0 (tH h))) ?_ (MG_tH G) ?_ (MG_mT (MG_mT (MG_tH G) 0 0) 1 0) (fun q => absurd q (by decide))
    · simp +decide only [f_L_many_L0, f_L_many, f_X7_many_L39, f_X7_many_L0, f_X7_many, xo0 F, x_checkSpot_b R q1, Option.bind_some, Sum.elim_inl, Sum.elim_inr, reduceIte, reduceCtorEq, if_true, if_false, true_or, or_true, ite_self]
    · simp +decide only [f_X8_many_L64, f_X8_many_L63, f_X8_many_L0, f_X8_many, mo15 (MG_tH G).1, m_put0 (MG_tH G), mo15 (MG_mT (MG_tH G) 0 0).1, m_isPointb q1, m_no (MG_mT (MG_tH G) 0 0), Option.bind_some, Sum.elim_inl, Sum.elim_inr, reduceIte, reduceCtorEq, if_true, if_false, true_or, or_true, ite_self]
  · refine Pr.mk (k := 0) (v := (0)) (oS z (Int32.toInt64 (0)) h) (mT z 0 0 (oS z (Int32.toInt64 (0)) h)) ?_ (MG_oS G (Int32.toInt64 (0))) ?_ ((MG_mT (MG_oS G (Int32.toInt64 (0))) 0 0)) (fun _ => rfl)
    · simp +decide only [f_L_many_L0, f_L_many, f_X7_many_L39, f_X7_many_L0, f_X7_many, xo0 F, x_checkSpot_g q1, xr0_7_8 F, sS_X7_many_L15, sN_X7_many_L15, xr0_7_7 F, xo0 F, x_coversAt F, xr3_4_17 F, o_st G, Option.bind_some, Sum.elim_inl, Sum.elim_inr, reduceIte, reduceCtorEq, if_true, if_false, true_or, or_true, ite_self]
    · simp +decide only [f_X8_many_L64, f_X8_many_L63, f_X8_many_L0, f_X8_many, mo15 (MG_oS G (Int32.toInt64 (0))).1, m_put0 (MG_oS G (Int32.toInt64 (0))), mo15 (MG_mT (MG_oS G (Int32.toInt64 (0))) 0 0).1, m_isPointg q1, s0_X8_many_L26, mr1 (MG_mT (MG_oS G (Int32.toInt64 (0))) 0 0).1, Option.bind_some, Sum.elim_inl, Sum.elim_inr, reduceIte, reduceCtorEq, if_true, if_false, true_or, or_true, ite_self]
theorem m1p : ((0 : Int32) + -1) = -1 := by decide
set_option maxRecDepth 100000 in
theorem pr_through (F : XF z h) (G : MG z 0 0 0 ov od h) (R : RM (999 + 1) h) (a b c : Int32) : Pr z Int32.toInt64 (f_L_through (some z) a b c (some (z + 37))) (f_X8_through (z + 15) a b c) h := by
  by_cases q1 : badS a b c
  · refine Pr.mk (k := 1) (v := 0) (tH h) (mT z 1 0 (mT z 0 0 (tH h))) ?_ (MG_tH G) ?_ (MG_mT (MG_mT (MG_tH G) 0 0) 1 0) (fun q => absurd q (by decide))
    · simp +decide only [f_L_through_L0, f_L_through, f_X7_through_L59, f_X7_through_L0, f_X7_through, xo0 F, x_checkSpot_b R q1, Option.bind_some, Sum.elim_inl, Sum.elim_inr, reduceIte, reduceCtorEq, if_true, if_false, true_or, or_true, ite_self]
    · simp +decide only [f_X8_through_L78, f_X8_through_L0, f_X8_through, mo15 (MG_tH G).1, m_put0 (MG_tH G), mo15 (MG_mT (MG_tH G) 0 0).1, m_isPointb q1, m_no (MG_mT (MG_tH G) 0 0), Option.bind_some, Sum.elim_inl, Sum.elim_inr, reduceIte, reduceCtorEq, if_true, if_false, true_or, or_true, ite_self]
  · have R9 : RM (900 + 2) (mT z 0 0 (oS z (Int32.toInt64 (10000)) h)) := RM.le R (by decide)
    refine Pr.mk (k := 0) (v := (10000)) (oS z (Int32.toInt64 (10000)) h) (oR (mT z 0 0 (oS z (Int32.toInt64 (10000)) h))) ?_ (MG_oS G (Int32.toInt64 (10000))) ?_ (MG_oR (MG_mT (MG_oS G (Int32.toInt64 (10000))) 0 0)) (fun _ => rfl)
    · simp +decide only [f_L_through_L0, f_L_through, f_X7_through_L59, f_X7_through_L0, f_X7_through, xo0 F, x_checkSpot_g q1, xr0_7_8 F, sS_X7_through_L17, sN_X7_through_L17, xr0_7_7 F, xo0 F, x_coversAt F, xr3_4_17 F, o_st G, Option.bind_some, Sum.elim_inl, Sum.elim_inr, reduceIte, reduceCtorEq, if_true, if_false, true_or, or_true, ite_self]
    · simp +decide only [f_X8_through_L78, f_X8_through_L0, f_X8_through, mo15 (MG_oS G (Int32.toInt64 (10000))).1, m_put0 (MG_oS G (Int32.toInt64 (10000))), mo15 (MG_mT (MG_oS G (Int32.toInt64 (10000))) 0 0).1, m_isPointg q1, m_ordered R9 (MG_mT (MG_oS G (Int32.toInt64 (10000))) 0 0), oR_l, n11, s0_X8_through_L38, oR_a, mo15 (MG_oR (MG_mT (MG_oS G (Int32.toInt64 (10000))) 0 0)).1, m_coversNow (MG_oR (MG_mT (MG_oS G (Int32.toInt64 (10000))) 0 0)), m1p, s1_X8_through_L38, Option.bind_some, Sum.elim_inl, Sum.elim_inr, reduceIte, reduceCtorEq, if_true, if_false, true_or, or_true, ite_self]
theorem x_changes_b {k : Nat} (R : RM (k + 1) h) {a b : Int32} (q : rng a 0 9999 = 0 ∨ rng b 0 9999 = 0) : f_X7_changes z a b h = some (.inr 1, tH h) := by
  by_cases qa : rng a 0 9999 = 0
  · simp only [f_X7_changes, f_X7_changes_L0, x_checkTime R, if_pos qa, Option.bind_some, Sum.elim_inr]
  · have qb := q.resolve_left qa
    simp only [f_X7_changes, f_X7_changes_L0, x_checkTime R, if_neg qa, if_pos qb, Option.bind_some, Sum.elim_inr, Sum.elim_inl]
set_option maxRecDepth 100000 in
theorem pr_changes (F : XF z h) (G : MG z 0 0 0 ov od h) (R : RM (999 + 1) h) (a b : Int32) : Pr z Int32.toInt64 (f_L_changes (some z) a b (some (z + 37))) (f_X8_changes (z + 15) a b) h := by
  by_cases qa : rng a 0 9999 = 0
  · refine Pr.mk (k := 1) (v := 0) (tH h) (mT z 1 0 (mT z 0 0 (tH h))) ?_ (MG_tH G) ?_ (MG_mT (MG_mT (MG_tH G) 0 0) 1 0) (fun q => absurd q (by decide))
    · simp +decide only [f_L_changes_L0, f_L_changes, xo0 F, x_changes_b R (Or.inl qa), Option.bind_some, Sum.elim_inl, Sum.elim_inr, reduceIte, reduceCtorEq, if_true, if_false, true_or, or_true, ite_self]
    · simp +decide only [f_X8_changes_L41, f_X8_changes_L36, f_X8_changes_L0, f_X8_changes, mo15 (MG_tH G).1, m_put0 (MG_tH G), mo15 (MG_mT (MG_tH G) 0 0).1, m_isIn, if_pos qa, m_no (MG_mT (MG_tH G) 0 0), Option.bind_some, Sum.elim_inl, Sum.elim_inr, reduceIte, reduceCtorEq, if_true, if_false, true_or, or_true, ite_self]
  · by_cases qb : rng b 0 9999 = 0
    · refine Pr.mk (k := 1) (v := 0) (tH h) (mT z 1 0 (mT z 0 0 (tH h))) ?_ (MG_tH G) ?_ (MG_mT (MG_mT (MG_tH G) 0 0) 1 0) (fun q => absurd q (by decide))
      · simp +decide only [f_L_changes_L0, f_L_changes, xo0 F, x_changes_b R (Or.inr qb), Option.bind_some, Sum.elim_inl, Sum.elim_inr, reduceIte, reduceCtorEq, if_true, if_false, true_or, or_true, ite_self]
      · simp +decide only [f_X8_changes_L41, f_X8_changes_L36, f_X8_changes_L0, f_X8_changes, mo15 (MG_tH G).1, m_put0 (MG_tH G), mo15 (MG_mT (MG_tH G) 0 0).1, m_isIn, if_neg qa, if_pos qb, m_no (MG_mT (MG_tH G) 0 0), Option.bind_some, Sum.elim_inl, Sum.elim_inr, reduceIte, reduceCtorEq, if_true, if_false, true_or, or_true, ite_self]
    · refine Pr.mk (k := 0) (v := (0)) (oS z (Int32.toInt64 (0)) h) (mT z 0 0 (oS z (Int32.toInt64 (0)) h)) ?_ (MG_oS G (Int32.toInt64 (0))) ?_ ((MG_mT (MG_oS G (Int32.toInt64 (0))) 0 0)) (fun _ => rfl)
      · simp +decide only [f_L_changes_L0, f_L_changes, xo0 F, x_changes_g F qa qb, o_st G, Option.bind_some, Sum.elim_inl, Sum.elim_inr, reduceIte, reduceCtorEq, if_true, if_false, true_or, or_true, ite_self]
      · simp +decide only [f_X8_changes_L41, f_X8_changes_L36, f_X8_changes_L0, f_X8_changes, mo15 (MG_oS G (Int32.toInt64 (0))).1, m_put0 (MG_oS G (Int32.toInt64 (0))), mo15 (MG_mT (MG_oS G (Int32.toInt64 (0))) 0 0).1, m_isIn, if_neg qa, if_neg qb, m_changesNow (MG_mT (MG_oS G (Int32.toInt64 (0))) 0 0), Option.bind_some, Sum.elim_inl, Sum.elim_inr, reduceIte, reduceCtorEq, if_true, if_false, true_or, or_true, ite_self]
theorem m_put4 (G : MG z th tm hv ov od h) (x : Int32) : ∃ f, fsI h (some (z + 18)) 2 0 x = some (fSet h (z + 18) (.inr (2, 30, .inl (upd f 0 x)))) ∧ MG z th tm x ov od (fSet h (z + 18) (.inr (2, 30, .inl (upd f 0 x)))) := by
  obtain ⟨⟨m0, m2, m3, ⟨f, mm, v0⟩, m6⟩, b, c, d⟩ := G
  have e : ∀ k, k ≠ 18 → fF (fSet h (z + 18) (.inr (2, 30, .inl (upd f 0 x)))) (z + k) = fF h (z + k) := fun k q => fF_set_ne (by omega)
  refine ⟨f, ?_, ⟨?_, ?_, ?_, ⟨_, fF_set_eq, rfl⟩, ?_⟩, ?_, ?_, d⟩
  · have n : ¬ ((0 : Int32) < 0 ∨ 30 ≤ 0) := by decide
    simp only [fsI, farr, mm, if_true, if_neg n, nc0]
  · rw [e 15 (by decide)]; exact m0
  · rw [e 16 (by decide)]; exact m2
  · rw [e 17 (by decide)]; exact m3
  · rw [e 19 (by decide), e 20 (by decide), e 21 (by decide), e 22 (by decide), e 23 (by decide), e 24 (by decide), e 25 (by decide), e 26 (by decide), e 27 (by decide), e 28 (by decide), e 29 (by decide), e 30 (by decide), e 31 (by decide), e 32 (by decide), e 33 (by decide), e 34 (by decide), e 35 (by decide), e 36 (by decide)]; exact m6
  · rw [e 37 (by decide)]; exact b
  · rw [e 38 (by decide)]; exact c
theorem n01 : vp_nar .boolean 1 = 1 := by decide
theorem n00 : vp_nar .boolean 0 = 0 := by decide
set_option maxRecDepth 100000 in
theorem pr_pickWithout (F : XF z h) (G : MG z 0 0 0 ov od h) (R : RM (999 + 1) h) (a b c d : Int32) : Pr z Int32.toInt64 (f_L_pickWithout (some z) a b c d (some (z + 37))) (f_X8_pickWithout (z + 15) a b c d) h := by
  by_cases q : a = 0
  · subst q
    by_cases q1 : badS b c d
    · refine Pr.mk (k := 2) (v := 0) (tH h) (mT z 2 0 (mT z 0 0 (tH h))) ?_ (MG_tH G) ?_ (MG_mT (MG_mT (MG_tH G) 0 0) 2 0) (fun q => absurd q (by decide))
      · simp +decide only [f_L_pickWithout_L0, f_L_pickWithout, f_X7_pickWithout_L0, f_X7_pickWithout, xo0 F, x_found0 F, x_checkSpot_b R q1, Option.bind_some, Sum.elim_inl, Sum.elim_inr, reduceIte, reduceCtorEq, if_true, if_false, true_or, or_true, ite_self]
      · simp +decide only [f_X8_pickWithout_L0, f_X8_pickWithout, mo15 (MG_tH G).1, m_put0 (MG_tH G), mo15 (MG_mT (MG_tH G) 0 0).1, m_isNode0 (MG_mT (MG_tH G) 0 0), m_isPointb q1, m_no (MG_mT (MG_tH G) 0 0), Option.bind_some, Sum.elim_inl, Sum.elim_inr, reduceIte, reduceCtorEq, if_true, if_false, true_or, or_true, ite_self]
    · obtain ⟨f, p1, p2⟩ := m_put4 (MG_mT (MG_oS G (Int32.toInt64 (-1))) 0 0) 1
      have R9 : RM (900 + 2) (fSet (mT z 0 0 (oS z (Int32.toInt64 (-1)) h)) (z + 18) (.inr (2, 30, .inl (upd f 0 1)))) := RM.le R (by decide)
      obtain ⟨g, p3, p4⟩ := m_put4 (MG_oR p2) 0
      refine Pr.mk (k := 0) (v := -1) (oS z (Int32.toInt64 (-1)) h) (fSet (oR (fSet (mT z 0 0 (oS z (Int32.toInt64 (-1)) h)) (z + 18) (.inr (2, 30, .inl (upd f 0 1))))) (z + 18) (.inr (2, 30, .inl (upd g 0 0)))) ?_ (MG_oS G (Int32.toInt64 (-1))) ?_ (p4) (fun _ => rfl)
      · simp +decide only [f_L_pickWithout_L0, f_L_pickWithout, f_X7_pickWithout_L0, f_X7_pickWithout, xo0 F, x_found0 F, x_checkSpot_g q1, xr0_7_7 F, x_topAtS F, o_st G, Option.bind_some, Sum.elim_inl, Sum.elim_inr, reduceIte, reduceCtorEq, if_true, if_false, true_or, or_true, ite_self]
      · simp +decide only [f_X8_pickWithout_L0, f_X8_pickWithout, mo15 (MG_oS G (Int32.toInt64 (-1))).1, m_put0 (MG_oS G (Int32.toInt64 (-1))), mo15 (MG_mT (MG_oS G (Int32.toInt64 (-1))) 0 0).1, m_isNode0 (MG_mT (MG_oS G (Int32.toInt64 (-1))) 0 0), m_isPointg q1, mr4 (MG_mT (MG_oS G (Int32.toInt64 (-1))) 0 0).1, ma4_0 (MG_mT (MG_oS G (Int32.toInt64 (-1))) 0 0).1, n01, n00, p1, mo15 p2.1, m_pickNow R9 p2, mr4 (MG_oR p2).1, p3, Option.bind_some, Sum.elim_inl, Sum.elim_inr, reduceIte, reduceCtorEq, if_true, if_false, true_or, or_true, ite_self]
  · refine Pr.mk (k := 1) (v := 0) (tH h) (mT z 1 0 (mT z 0 0 (tH h))) ?_ (MG_tH G) ?_ (MG_mT (MG_mT (MG_tH G) 0 0) 1 0) (fun q => absurd q (by decide))
    · simp +decide only [f_L_pickWithout_L0, f_L_pickWithout, f_X7_pickWithout_L0, f_X7_pickWithout, xo0 F, x_foundn R F q, x_fbwn R F q, Option.bind_some, Sum.elim_inl, Sum.elim_inr, reduceIte, reduceCtorEq, if_true, if_false, true_or, or_true, ite_self]
    · simp +decide only [f_X8_pickWithout_L0, f_X8_pickWithout, mo15 (MG_tH G).1, m_put0 (MG_tH G), mo15 (MG_mT (MG_tH G) 0 0).1, m_isNoden (MG_mT (MG_tH G) 0 0) q, m_no (MG_mT (MG_tH G) 0 0), m_isNot (MG_mT (MG_tH G) 0 0), Option.bind_some, Sum.elim_inl, Sum.elim_inr, reduceIte, reduceCtorEq, if_true, if_false, true_or, or_true, ite_self]
end PAIR2
