/-! Class and model side by side. -/
section PAIR
def oF (z : Nat) (h : fSt) : Nat → Int64 := match fF h (z + 37) with
  | some (.inr (_, _, .inr (.inl f))) => f
  | _ => fun _ => 0
def oS (z : Nat) (x : Int64) (h : fSt) : fSt := fSet h (z + 37) (.inr (1, 1, .inr (.inl (vp_updL (oF z h) 0 x))))
def dF (z : Nat) (h : fSt) : Nat → UInt64 := match fF h (z + 38) with
  | some (.inr (_, _, .inr (.inr (.inr (.inl f))))) => f
  | _ => fun _ => 0
def dS (z : Nat) (x : UInt64) (h : fSt) : fSt := fSet h (z + 38) (.inr (3, 1, .inr (.inr (.inr (.inl (vf_upd (dF z h) 0 x))))))
variable {z : Nat} {th tm hv : Int32} {ov : Int64} {od : UInt64} {h : fSt}
theorem o_st (G : MG z th tm hv ov od h) (x : Int64) : fsJ h (some (z + 37)) 1 0 x = some (oS z x h) := by
  obtain ⟨-, ⟨f, e, -⟩, -, -⟩ := G
  have n : ¬ ((0 : Int32) < 0 ∨ 1 ≤ (0 : Int32).toNatClampNeg) := by decide
  simp only [fsJ, farr, e, if_true, if_neg n, oS, oF]
  rfl
theorem d_st (G : MG z th tm hv ov od h) (x : UInt64) : fsD h (some (z + 38)) 3 0 x = some (dS z x h) := by
  obtain ⟨-, -, ⟨f, e, -⟩, -⟩ := G
  have n : ¬ ((0 : Int32) < 0 ∨ 1 ≤ (0 : Int32).toNatClampNeg) := by decide
  simp only [fsD, farr, e, if_true, if_neg n, dS, dF]
  rfl
theorem MG_oS (G : MG z th tm hv ov od h) (x : Int64) : MG z th tm hv x od (oS z x h) := by
  obtain ⟨a, b, c, d⟩ := G
  refine ⟨a.of (fun k k1 k2 => fF_set_ne (by omega)), ⟨_, fF_set_eq, rfl⟩, ?_, d⟩
  rw [show fF (oS z x h) (z + 38) = fF h (z + 38) from fF_set_ne (by omega)]
  exact c
theorem MG_dS (G : MG z th tm hv ov od h) (x : UInt64) : MG z th tm hv ov x (dS z x h) := by
  obtain ⟨a, b, c, d⟩ := G
  refine ⟨a.of (fun k k1 k2 => fF_set_ne (by omega)), ?_, ⟨_, fF_set_eq, rfl⟩, d⟩
  rw [show fF (dS z x h) (z + 37) = fF h (z + 37) from fF_set_ne (by omega)]
  exact b
theorem MG_J (G : MG z th tm hv ov od h) : faJ h (some (z + 37)) 1 0 = some ov := by
  obtain ⟨-, ⟨f, e, q⟩, -, -⟩ := G
  have n : ¬ ((0 : Int32) < 0 ∨ 1 ≤ 0) := by decide
  simp only [faJ, farr, e, if_true, if_neg n, nc0, q]
theorem MG_D (G : MG z th tm hv ov od h) : faD h (some (z + 38)) 3 0 = some od := by
  obtain ⟨-, -, ⟨f, e, q⟩, -⟩ := G
  have n : ¬ ((0 : Int32) < 0 ∨ 1 ≤ 0) := by decide
  simp only [faD, farr, e, if_true, if_neg n, nc0, q]
theorem RM_oS {k : Nat} {x : Int64} (R : RM k h) : RM k (oS z x h) := R
theorem RM_dS {k : Nat} {x : UInt64} (R : RM k h) : RM k (dS z x h) := R
/-- the class's answer, caught, and the model's: code, out and value agree -/
def Pr (z : Nat) (enc : Int32 → Int64) (fL : fSt → Option ((Int32 ⊕ Nat) × fSt)) (fM : fSt → Option (Int32 × fSt)) (h : fSt) : Prop := ∃ (k v : Int32) (h1 h2 : fSt), fL h = some (.inl k, h1) ∧ fobj h1 (some (z + 15)) 8 = some (z + 15) ∧ fM h1 = some (v, h2) ∧ fobj h2 (some (z + 15)) 8 = some (z + 15) ∧ f_X8_thrown (z + 15) h2 = some (k, h2) ∧ (k = 0 → faJ h2 (some (z + 37)) 1 0 = some (enc v))
theorem Pr.mk {enc : Int32 → Int64} {fL : fSt → Option ((Int32 ⊕ Nat) × fSt)} {fM : fSt → Option (Int32 × fSt)} {k v th1 tm1 hv1 : Int32} {ov1 : Int64} {od1 : UInt64} (h1 h2 : fSt) (e1 : fL h = some (.inl k, h1)) (G1 : MG z th1 tm1 hv1 ov1 od1 h1) (e2 : fM h1 = some (v, h2)) (G2 : MG z k tm hv ov od h2) (e3 : k = 0 → ov = enc v) : Pr z enc fL fM h :=
  ⟨k, v, h1, h2, e1, mo15 G1.1, e2, mo15 G2.1, m_thr G2, fun q => by rw [MG_J G2, e3 q]⟩
def encB (v : Int32) : Int64 := if v = 0 then 0 else 1
theorem m_refusal (G : MG z th tm hv ov od h) (a s : Int32) : f_X8_refusal (z + 15) a s h = some (if a = 0 then 2 else 1, h) := by
  by_cases q : a = 0
  · subst q
    simp +decide only [f_X8_refusal, f_X8_refusal_L0, mo15 G.1, m_isNode0 G, Option.bind_some, if_true, if_false, reduceIte]
  · simp +decide only [f_X8_refusal, f_X8_refusal_L0, mo15 G.1, m_isNoden G q, Option.bind_some, if_true, reduceIte, if_neg q]
def own (p : Int32) : Int32 := if p = 3 then 100 else 0
theorem x_propb (F : XF z h) {p : Int32} (q : rng p 0 3 = 0) : f_X4_property (z + 3) p h = some (none, h) := by
  have n0 : p ≠ 0 := fun e => absurd q (by rw [e]; decide)
  have n1 : p ≠ 1 := fun e => absurd q (by rw [e]; decide)
  have n2 : p ≠ 2 := fun e => absurd q (by rw [e]; decide)
  have n3 : p ≠ 3 := fun e => absurd q (by rw [e]; decide)
  simp only [f_X4_property, f_X4_property_L0, if_neg n0, if_neg n1, if_neg n2, if_neg n3]
theorem x_propg (F : XF z h) {p : Int32} (q : ¬ rng p 0 3 = 0) : ∃ o, f_X4_property (z + 3) p h = some (some o, h) ∧ fobj h (some o) 6 = some o ∧ ∀ t, f_X6_at o t h = some (own p, h) := by
  rcases rng03 q with rfl | rfl | rfl | rfl
  · exact ⟨z + 4, by simp +decide only [f_X4_property, f_X4_property_L0, xr3_4_3 F, Option.bind_some, if_true], xo4 F, fun t => x_at4 F t⟩
  · exact ⟨z + 5, by simp +decide only [f_X4_property, f_X4_property_L0, xr3_4_4 F, Option.bind_some, if_true, if_false], xo5 F, fun t => x_at5 F t⟩
  · exact ⟨z + 6, by simp +decide only [f_X4_property, f_X4_property_L0, xr3_4_5 F, Option.bind_some, if_true, if_false], xo6 F, fun t => x_at6 F t⟩
  · exact ⟨z + 7, by simp +decide only [f_X4_property, f_X4_property_L0, xr3_4_6 F, Option.bind_some, if_true, if_false], xo7 F, fun t => x_at7 F t⟩
theorem m_hasP (G : MG z th tm hv ov od h) {p : Int32} (q : ¬ rng p 0 3 = 0) : f_X8_has (z + 15) 0 p h = some (own p, h) := by
  rcases rng03 q with rfl | rfl | rfl | rfl
  · exact m_has0 G
  · exact m_has1 G
  · exact m_has2 G
  · exact m_has3 G
theorem m_isPointb {a b c : Int32} (q : badS a b c) : f_X8_isPoint a b c h = some (0, h) := by
  unfold f_X8_isPoint f_X8_isPoint_L0 f_X8_isPoint_L40 f_X8_isPoint_L41
  simp only [m_isIn, Option.bind_some, true_or, if_true]
  rcases q with q | q | q
  · rw [if_pos q]
  · rw [if_pos q]; simp only [ite_self]
  · rw [if_pos q]; simp only [ite_self]
theorem m_isPointg {a b c : Int32} (q : ¬ badS a b c) : f_X8_isPoint a b c h = some (1, h) := by
  unfold f_X8_isPoint f_X8_isPoint_L0 f_X8_isPoint_L41
  simp only [m_isIn, Option.bind_some]
  rw [if_neg (fun y => q (Or.inl y)), if_neg (fun y => q (Or.inr (Or.inl y))), if_neg (fun y => q (Or.inr (Or.inr y))), if_pos (Or.inr trivial)]
theorem m_asked0 (a b c : Int32) : f_X8_asked (z + 15) 0 a b c h = some (1, h) := rfl
theorem m_askedb {a b c : Int32} (q : badP a b c) : f_X8_asked (z + 15) 1 a b c h = some (2, h) := by
  unfold f_X8_asked f_X8_asked_L0 f_X8_asked_L46 f_X8_asked_L47
  rw [if_neg (by decide)]
  simp only [m_isIn, Option.bind_some]
  rcases q with q | q | q
  · rw [if_pos q]
  · rw [if_pos q]; simp only [ite_self]
  · rw [if_pos q]; simp only [ite_self]
theorem m_askedg {a b c : Int32} (q : ¬ badP a b c) : f_X8_asked (z + 15) 1 a b c h = some (0, h) := by
  unfold f_X8_asked f_X8_asked_L0 f_X8_asked_L47
  rw [if_neg (by decide)]
  simp only [m_isIn, Option.bind_some]
  rw [if_neg (fun y => q (Or.inl y)), if_neg (fun y => q (Or.inr (Or.inl y))), if_neg (fun y => q (Or.inr (Or.inr y)))]
set_option maxRecDepth 100000 in
theorem pr_remove (F : XF z h) (G : MG z 0 0 0 ov od h) (R : RM (999 + 1) h) (a : Int32) : Pr z Int32.toInt64 (f_L_remove (some z) a (some (z + 37))) (f_X8_remove (z + 15) a) h := by
  by_cases q : a = 0
  · subst q
    refine Pr.mk (k := 2) (v := 0) (tH h) (mT z 2 0 (mT z 0 0 (tH h))) ?_ (MG_tH G) ?_ (MG_mT (MG_mT (MG_tH G) 0 0) 2 0) (fun q => absurd q (by decide))
    · simp +decide only [f_L_remove_L0, f_L_remove, f_X7_remove_L36, f_X7_remove_L0, f_X7_remove, xo0 F, x_fbw0 R F, Option.bind_some, Sum.elim_inl, Sum.elim_inr, reduceIte, reduceCtorEq, if_true, if_false, true_or, or_true, ite_self]
    · simp +decide only [f_X8_remove_L109, f_X8_remove_L103, f_X8_remove_L0, f_X8_remove, mo15 (MG_tH G).1, m_put0 (MG_tH G), mo15 (MG_mT (MG_tH G) 0 0).1, m_isNode0 (MG_mT (MG_tH G) 0 0), m_no (MG_mT (MG_tH G) 0 0), Option.bind_some, Sum.elim_inl, Sum.elim_inr, reduceIte, reduceCtorEq, if_true, if_false, true_or, or_true, ite_self]
  · refine Pr.mk (k := 1) (v := 0) (tH h) (mT z 1 0 (mT z 0 0 (tH h))) ?_ (MG_tH G) ?_ (MG_mT (MG_mT (MG_tH G) 0 0) 1 0) (fun q => absurd q (by decide))
    · simp +decide only [f_L_remove_L0, f_L_remove, f_X7_remove_L36, f_X7_remove_L0, f_X7_remove, xo0 F, x_foundn R F q, x_fbwn R F q, Option.bind_some, Sum.elim_inl, Sum.elim_inr, reduceIte, reduceCtorEq, if_true, if_false, true_or, or_true, ite_self]
    · simp +decide only [f_X8_remove_L109, f_X8_remove_L103, f_X8_remove_L0, f_X8_remove, mo15 (MG_tH G).1, m_put0 (MG_tH G), mo15 (MG_mT (MG_tH G) 0 0).1, m_isNoden (MG_mT (MG_tH G) 0 0) q, m_no (MG_mT (MG_tH G) 0 0), m_isNot (MG_mT (MG_tH G) 0 0), Option.bind_some, Sum.elim_inl, Sum.elim_inr, reduceIte, reduceCtorEq, if_true, if_false, true_or, or_true, ite_self]
set_option maxRecDepth 100000 in
theorem pr_hang (F : XF z h) (G : MG z 0 0 0 ov od h) (R : RM (999 + 1) h) (a b : Int32) : Pr z Int32.toInt64 (f_L_hang (some z) a b (some (z + 37))) (f_X8_hang (z + 15) a b) h := by
  by_cases q : a = 0
  · subst q
    by_cases q : b = 0
    · subst q
      refine Pr.mk (k := 2) (v := 0) (tH h) (mT z 2 0 (mT z 0 0 (tH h))) ?_ (MG_tH G) ?_ (MG_mT (MG_mT (MG_tH G) 0 0) 2 0) (fun q => absurd q (by decide))
      · simp +decide only [f_L_hang_L0, f_L_hang, f_X7_hang_L30, f_X7_hang_L0, f_X7_hang, xo0 F, x_found0 F, xr0_7_2 F, th_eq R, Option.bind_some, Sum.elim_inl, Sum.elim_inr, reduceIte, reduceCtorEq, if_true, if_false, true_or, or_true, ite_self]
      · simp +decide only [f_X8_hang_L21, f_X8_hang_L40, f_X8_hang_L97, f_X8_hang_L0, f_X8_hang, mo15 (MG_tH G).1, m_put0 (MG_tH G), mo15 (MG_mT (MG_tH G) 0 0).1, m_isNode0 (MG_mT (MG_tH G) 0 0), m_no (MG_mT (MG_tH G) 0 0), Option.bind_some, Sum.elim_inl, Sum.elim_inr, reduceIte, reduceCtorEq, if_true, if_false, true_or, or_true, ite_self]
    · refine Pr.mk (k := 1) (v := 0) (tH h) (mT z 1 0 (mT z 0 0 (tH h))) ?_ (MG_tH G) ?_ (MG_mT (MG_mT (MG_tH G) 0 0) 1 0) (fun q => absurd q (by decide))
      · simp +decide only [f_L_hang_L0, f_L_hang, f_X7_hang_L30, f_X7_hang_L0, f_X7_hang, xo0 F, x_found0 F, x_foundn R F q, Option.bind_some, Sum.elim_inl, Sum.elim_inr, reduceIte, reduceCtorEq, if_true, if_false, true_or, or_true, ite_self]
      · simp +decide only [f_X8_hang_L21, f_X8_hang_L40, f_X8_hang_L97, f_X8_hang_L0, f_X8_hang, mo15 (MG_tH G).1, m_put0 (MG_tH G), mo15 (MG_mT (MG_tH G) 0 0).1, m_isNode0 (MG_mT (MG_tH G) 0 0), m_isNoden (MG_mT (MG_tH G) 0 0) q, m_no (MG_mT (MG_tH G) 0 0), Option.bind_some, Sum.elim_inl, Sum.elim_inr, reduceIte, reduceCtorEq, if_true, if_false, true_or, or_true, ite_self]
  · refine Pr.mk (k := 1) (v := 0) (tH h) (mT z 1 0 (mT z 0 0 (tH h))) ?_ (MG_tH G) ?_ (MG_mT (MG_mT (MG_tH G) 0 0) 1 0) (fun q => absurd q (by decide))
    · simp +decide only [f_L_hang_L0, f_L_hang, f_X7_hang_L30, f_X7_hang_L0, f_X7_hang, xo0 F, x_foundn R F q, x_fbwn R F q, Option.bind_some, Sum.elim_inl, Sum.elim_inr, reduceIte, reduceCtorEq, if_true, if_false, true_or, or_true, ite_self]
    · simp +decide only [f_X8_hang_L21, f_X8_hang_L40, f_X8_hang_L97, f_X8_hang_L0, f_X8_hang, mo15 (MG_tH G).1, m_put0 (MG_tH G), mo15 (MG_mT (MG_tH G) 0 0).1, m_isNoden (MG_mT (MG_tH G) 0 0) q, m_no (MG_mT (MG_tH G) 0 0), m_isNot (MG_mT (MG_tH G) 0 0), Option.bind_some, Sum.elim_inl, Sum.elim_inr, reduceIte, reduceCtorEq, if_true, if_false, true_or, or_true, ite_self]
set_option maxRecDepth 100000 in
theorem pr_move (F : XF z h) (G : MG z 0 0 0 ov od h) (R : RM (999 + 1) h) (a b c : Int32) : Pr z Int32.toInt64 (f_L_move (some z) a b c (some (z + 37))) (f_X8_move (z + 15) a b c) h := by
  by_cases q : a = 0
  · subst q
    refine Pr.mk (k := 2) (v := 0) (tH h) (mT z 2 0 (tH h)) ?_ (MG_tH G) ?_ (MG_mT (MG_tH G) 2 0) (fun q => absurd q (by decide))
    · simp +decide only [f_L_move_L0, f_L_move, f_X7_move_L31, f_X7_move_L0, f_X7_move, xo0 F, x_fbw0 R F, Option.bind_some, Sum.elim_inl, Sum.elim_inr, reduceIte, reduceCtorEq, if_true, if_false, true_or, or_true, ite_self]
    · simp +decide only [f_X8_move_L34, f_X8_move_L33, f_X8_move_L0, f_X8_move, mo15 (MG_tH G).1, m_isIn, m_refusal (MG_tH G), m_put0 (MG_tH G), mr0 (MG_mT (MG_tH G) 2 0).1, reduceIte, Option.bind_some, Sum.elim_inl, Sum.elim_inr, reduceIte, reduceCtorEq, if_true, if_false, true_or, or_true, ite_self]
  · refine Pr.mk (k := 1) (v := 0) (tH h) (mT z 1 0 (tH h)) ?_ (MG_tH G) ?_ (MG_mT (MG_tH G) 1 0) (fun q => absurd q (by decide))
    · simp +decide only [f_L_move_L0, f_L_move, f_X7_move_L31, f_X7_move_L0, f_X7_move, xo0 F, x_fbwn R F q, Option.bind_some, Sum.elim_inl, Sum.elim_inr, reduceIte, reduceCtorEq, if_true, if_false, true_or, or_true, ite_self]
    · simp +decide only [f_X8_move_L34, f_X8_move_L33, f_X8_move_L0, f_X8_move, mo15 (MG_tH G).1, m_isIn, m_refusal (MG_tH G), m_put0 (MG_tH G), mr0 (MG_mT (MG_tH G) 1 0).1, if_neg q, Option.bind_some, Sum.elim_inl, Sum.elim_inr, reduceIte, reduceCtorEq, if_true, if_false, true_or, or_true, ite_self]
set_option maxRecDepth 100000 in
theorem pr_scale (F : XF z h) (G : MG z 0 0 0 ov od h) (R : RM (999 + 1) h) (a b c : Int32) : Pr z Int32.toInt64 (f_L_scale (some z) a b c (some (z + 37))) (f_X8_scale (z + 15) a b c) h := by
  by_cases q : a = 0
  · subst q
    refine Pr.mk (k := 2) (v := 0) (tH h) (mT z 2 0 (tH h)) ?_ (MG_tH G) ?_ (MG_mT (MG_tH G) 2 0) (fun q => absurd q (by decide))
    · simp +decide only [f_L_scale_L0, f_L_scale, f_X7_scale_L25, f_X7_scale_L0, f_X7_scale, xo0 F, x_fbw0 R F, Option.bind_some, Sum.elim_inl, Sum.elim_inr, reduceIte, reduceCtorEq, if_true, if_false, true_or, or_true, ite_self]
    · simp +decide only [f_X8_scale_L26, f_X8_scale_L25, f_X8_scale_L0, f_X8_scale, mo15 (MG_tH G).1, m_isIn, m_refusal (MG_tH G), m_put0 (MG_tH G), mr0 (MG_mT (MG_tH G) 2 0).1, reduceIte, Option.bind_some, Sum.elim_inl, Sum.elim_inr, reduceIte, reduceCtorEq, if_true, if_false, true_or, or_true, ite_self]
  · refine Pr.mk (k := 1) (v := 0) (tH h) (mT z 1 0 (tH h)) ?_ (MG_tH G) ?_ (MG_mT (MG_tH G) 1 0) (fun q => absurd q (by decide))
    · simp +decide only [f_L_scale_L0, f_L_scale, f_X7_scale_L25, f_X7_scale_L0, f_X7_scale, xo0 F, x_fbwn R F q, Option.bind_some, Sum.elim_inl, Sum.elim_inr, reduceIte, reduceCtorEq, if_true, if_false, true_or, or_true, ite_self]
    · simp +decide only [f_X8_scale_L26, f_X8_scale_L25, f_X8_scale_L0, f_X8_scale, mo15 (MG_tH G).1, m_isIn, m_refusal (MG_tH G), m_put0 (MG_tH G), mr0 (MG_mT (MG_tH G) 1 0).1, if_neg q, Option.bind_some, Sum.elim_inl, Sum.elim_inr, reduceIte, reduceCtorEq, if_true, if_false, true_or, or_true, ite_self]
set_option maxRecDepth 100000 in
theorem pr_turn (F : XF z h) (G : MG z 0 0 0 ov od h) (R : RM (999 + 1) h) (a b c : Int32) : Pr z Int32.toInt64 (f_L_turn (some z) a b c (some (z + 37))) (f_X8_turn (z + 15) a b c) h := by
  by_cases q : a = 0
  · subst q
    refine Pr.mk (k := 2) (v := 0) (tH h) (mT z 2 0 (tH h)) ?_ (MG_tH G) ?_ (MG_mT (MG_tH G) 2 0) (fun q => absurd q (by decide))
    · simp +decide only [f_L_turn_L0, f_L_turn, f_X7_turn_L0, f_X7_turn, xo0 F, x_fbw0 R F, Option.bind_some, Sum.elim_inl, Sum.elim_inr, reduceIte, reduceCtorEq, if_true, if_false, true_or, or_true, ite_self]
    · simp +decide only [f_X8_turn_L0, f_X8_turn, mo15 (MG_tH G).1, m_isIn, m_refusal (MG_tH G), m_put0 (MG_tH G), mr0 (MG_mT (MG_tH G) 2 0).1, reduceIte, Option.bind_some, Sum.elim_inl, Sum.elim_inr, reduceIte, reduceCtorEq, if_true, if_false, true_or, or_true, ite_self]
  · refine Pr.mk (k := 1) (v := 0) (tH h) (mT z 1 0 (tH h)) ?_ (MG_tH G) ?_ (MG_mT (MG_tH G) 1 0) (fun q => absurd q (by decide))
    · simp +decide only [f_L_turn_L0, f_L_turn, f_X7_turn_L0, f_X7_turn, xo0 F, x_fbwn R F q, Option.bind_some, Sum.elim_inl, Sum.elim_inr, reduceIte, reduceCtorEq, if_true, if_false, true_or, or_true, ite_self]
    · simp +decide only [f_X8_turn_L0, f_X8_turn, mo15 (MG_tH G).1, m_isIn, m_refusal (MG_tH G), m_put0 (MG_tH G), mr0 (MG_mT (MG_tH G) 1 0).1, if_neg q, Option.bind_some, Sum.elim_inl, Sum.elim_inr, reduceIte, reduceCtorEq, if_true, if_false, true_or, or_true, ite_self]
set_option maxRecDepth 100000 in
theorem pr_look (F : XF z h) (G : MG z 0 0 0 ov od h) (R : RM (999 + 1) h) (a b c d : Int32) : Pr z Int32.toInt64 (f_L_look (some z) a b c d (some (z + 37))) (f_X8_look (z + 15) a b c d) h := by
  by_cases q : a = 0
  · subst q
    refine Pr.mk (k := 2) (v := 0) (tH h) (mT z 2 0 (tH h)) ?_ (MG_tH G) ?_ (MG_mT (MG_tH G) 2 0) (fun q => absurd q (by decide))
    · simp +decide only [f_L_look_L0, f_L_look, f_X7_look_L30, f_X7_look_L0, f_X7_look, xo0 F, x_fbw0 R F, Option.bind_some, Sum.elim_inl, Sum.elim_inr, reduceIte, reduceCtorEq, if_true, if_false, true_or, or_true, ite_self]
    · simp +decide only [f_X8_look_L29, f_X8_look_L28, f_X8_look_L0, f_X8_look, mo15 (MG_tH G).1, m_isIn, m_refusal (MG_tH G), m_put0 (MG_tH G), mr0 (MG_mT (MG_tH G) 2 0).1, reduceIte, Option.bind_some, Sum.elim_inl, Sum.elim_inr, reduceIte, reduceCtorEq, if_true, if_false, true_or, or_true, ite_self]
  · refine Pr.mk (k := 1) (v := 0) (tH h) (mT z 1 0 (tH h)) ?_ (MG_tH G) ?_ (MG_mT (MG_tH G) 1 0) (fun q => absurd q (by decide))
    · simp +decide only [f_L_look_L0, f_L_look, f_X7_look_L30, f_X7_look_L0, f_X7_look, xo0 F, x_fbwn R F q, Option.bind_some, Sum.elim_inl, Sum.elim_inr, reduceIte, reduceCtorEq, if_true, if_false, true_or, or_true, ite_self]
    · simp +decide only [f_X8_look_L29, f_X8_look_L28, f_X8_look_L0, f_X8_look, mo15 (MG_tH G).1, m_isIn, m_refusal (MG_tH G), m_put0 (MG_tH G), mr0 (MG_mT (MG_tH G) 1 0).1, if_neg q, Option.bind_some, Sum.elim_inl, Sum.elim_inr, reduceIte, reduceCtorEq, if_true, if_false, true_or, or_true, ite_self]
set_option maxRecDepth 100000 in
theorem pr_cut (F : XF z h) (G : MG z 0 0 0 ov od h) (R : RM (999 + 1) h) (a b c d e : Int32) : Pr z encB (f_L_cut (some z) a b c d e (some (z + 37))) (f_X8_cut (z + 15) a b c d e) h := by
  by_cases q : a = 0
  · subst q
    refine Pr.mk (k := 2) (v := 0) (tH h) (mT z 2 0 (tH h)) ?_ (MG_tH G) ?_ (MG_mT (MG_tH G) 2 0) (fun q => absurd q (by decide))
    · simp +decide only [f_L_cut_L22, f_L_cut_L0, f_L_cut, f_X7_cut_L28, f_X7_cut_L59, f_X7_cut_L82, f_X7_cut_L0, f_X7_cut, xo0 F, x_fbw0 R F, Option.bind_some, Sum.elim_inl, Sum.elim_inr, reduceIte, reduceCtorEq, if_true, if_false, true_or, or_true, ite_self]
    · simp +decide only [f_X8_cut_L58, f_X8_cut_L57, f_X8_cut_L0, f_X8_cut, mo15 (MG_tH G).1, m_isIn, m_refusal (MG_tH G), m_put0 (MG_tH G), mr0 (MG_mT (MG_tH G) 2 0).1, reduceIte, Option.bind_some, Sum.elim_inl, Sum.elim_inr, reduceIte, reduceCtorEq, if_true, if_false, true_or, or_true, ite_self]
  · refine Pr.mk (k := 1) (v := 0) (tH h) (mT z 1 0 (tH h)) ?_ (MG_tH G) ?_ (MG_mT (MG_tH G) 1 0) (fun q => absurd q (by decide))
    · simp +decide only [f_L_cut_L22, f_L_cut_L0, f_L_cut, f_X7_cut_L28, f_X7_cut_L59, f_X7_cut_L82, f_X7_cut_L0, f_X7_cut, xo0 F, x_fbwn R F q, Option.bind_some, Sum.elim_inl, Sum.elim_inr, reduceIte, reduceCtorEq, if_true, if_false, true_or, or_true, ite_self]
    · simp +decide only [f_X8_cut_L58, f_X8_cut_L57, f_X8_cut_L0, f_X8_cut, mo15 (MG_tH G).1, m_isIn, m_refusal (MG_tH G), m_put0 (MG_tH G), mr0 (MG_mT (MG_tH G) 1 0).1, if_neg q, Option.bind_some, Sum.elim_inl, Sum.elim_inr, reduceIte, reduceCtorEq, if_true, if_false, true_or, or_true, ite_self]
theorem m_put5 (G : MG z th tm hv ov od h) : ∃ f, fsI h (some (z + 19)) 2 0 (vp_nar .boolean 0) = some (fSet h (z + 19) (.inr (2, 30, .inl (upd f 0 0)))) ∧ MG z th tm hv ov od (fSet h (z + 19) (.inr (2, 30, .inl (upd f 0 0)))) := by
  obtain ⟨⟨m0, m2, m3, m4, ⟨f, mm, v0⟩, m6⟩, b, c, d⟩ := G
  have e : ∀ k, k ≠ 19 → fF (fSet h (z + 19) (.inr (2, 30, .inl (upd f 0 0)))) (z + k) = fF h (z + k) := fun k q => fF_set_ne (by omega)
  refine ⟨f, ?_, ⟨?_, ?_, ?_, ?_, ⟨_, fF_set_eq, rfl⟩, ?_⟩, ?_, ?_, d⟩
  · have n : ¬ ((0 : Int32) < 0 ∨ 30 ≤ 0) := by decide
    have n2 : vp_nar .boolean 0 = 0 := by decide
    simp only [fsI, farr, mm, if_true, if_neg n, n2, nc0]
  · rw [e 15 (by decide)]; exact m0
  · rw [e 16 (by decide)]; exact m2
  · rw [e 17 (by decide)]; exact m3
  · rw [e 18 (by decide)]; exact m4
  · rw [e 20 (by decide), e 21 (by decide), e 22 (by decide), e 23 (by decide), e 24 (by decide), e 25 (by decide), e 26 (by decide), e 27 (by decide), e 28 (by decide), e 29 (by decide), e 30 (by decide), e 31 (by decide), e 32 (by decide), e 33 (by decide), e 34 (by decide), e 35 (by decide), e 36 (by decide)]; exact m6
  · rw [e 37 (by decide)]; exact b
  · rw [e 38 (by decide)]; exact c
theorem x_put3 (F : XF z h) : fput h (some (z + 3)) 4 12 (va_rf none) = some (fSet h (z + 3) (.inl (4, [.int 0, .int 0, .ref (z + 8), .ref (z + 4), .ref (z + 5), .ref (z + 6), .ref (z + 7), .int 1, .int 1, .int 0, .int 0, .int 0, .null, .int 0, .null, .null, .null, .null, .int 0]))) := fput_C F.2.2.2.1 (Nat.le_of_ble_eq_true rfl)
set_option maxRecDepth 100000 in
theorem pr_uncut (F : XF z h) (G : MG z 0 0 0 ov od h) (R : RM (999 + 1) h) (a : Int32) : Pr z encB (f_L_uncut (some z) a (some (z + 37))) (f_X8_uncut (z + 15) a) h := by
  by_cases q : a = 0
  · subst q
    have G3 : MG z 0 0 0 ov od (fSet h (z + 3) (.inl (4, [.int 0, .int 0, .ref (z + 8), .ref (z + 4), .ref (z + 5), .ref (z + 6), .ref (z + 7), .int 1, .int 1, .int 0, .int 0, .int 0, .null, .int 0, .null, .null, .null, .null, .int 0]))) := MG.set G (Or.inl (by omega))
    have G4 := MG_mT (MG_oS G3 0) 0 0
    obtain ⟨f, p1, p2⟩ := m_put5 G4
    refine Pr.mk (k := 0) (v := 0) (oS z 0 (fSet h (z + 3) (.inl (4, [.int 0, .int 0, .ref (z + 8), .ref (z + 4), .ref (z + 5), .ref (z + 6), .ref (z + 7), .int 1, .int 1, .int 0, .int 0, .int 0, .null, .int 0, .null, .null, .null, .null, .int 0])))) (fSet (mT z 0 0 (oS z 0 (fSet h (z + 3) (.inl (4, [.int 0, .int 0, .ref (z + 8), .ref (z + 4), .ref (z + 5), .ref (z + 6), .ref (z + 7), .int 1, .int 1, .int 0, .int 0, .int 0, .null, .int 0, .null, .null, .null, .null, .int 0]))))) (z + 19) (.inr (2, 30, .inl (upd f 0 0)))) ?_ (MG_oS G3 0) ?_ (p2) (fun _ => rfl)
    · simp +decide only [f_L_uncut_L15, f_L_uncut_L0, f_L_uncut, f_X7_uncut_L18, f_X7_uncut_L0, f_X7_uncut, xo0 F, x_found0 F, xr3_4_12 F, x_put3 F, o_st G3, Option.bind_some, Sum.elim_inl, Sum.elim_inr, reduceIte, reduceCtorEq, if_true, if_false, true_or, or_true, ite_self]
    · simp +decide only [f_X8_uncut_L0, f_X8_uncut, mo15 (MG_oS G3 0).1, m_put0 (MG_oS G3 0), mo15 G4.1, m_isNode0 G4, mr5 G4.1, ma5_0 G4.1, p1, Option.bind_some, Sum.elim_inl, Sum.elim_inr, reduceIte, reduceCtorEq, if_true, if_false, true_or, or_true, ite_self]
  · refine Pr.mk (k := 1) (v := 0) (tH h) (mT z 1 0 (mT z 0 0 (tH h))) ?_ (MG_tH G) ?_ (MG_mT (MG_mT (MG_tH G) 0 0) 1 0) (fun q => absurd q (by decide))
    · simp +decide only [f_L_uncut_L15, f_L_uncut_L0, f_L_uncut, f_X7_uncut_L18, f_X7_uncut_L0, f_X7_uncut, xo0 F, x_foundn R F q, x_fbwn R F q, Option.bind_some, Sum.elim_inl, Sum.elim_inr, reduceIte, reduceCtorEq, if_true, if_false, true_or, or_true, ite_self]
    · simp +decide only [f_X8_uncut_L0, f_X8_uncut, mo15 (MG_tH G).1, m_put0 (MG_tH G), mo15 (MG_mT (MG_tH G) 0 0).1, m_isNoden (MG_mT (MG_tH G) 0 0) q, m_no (MG_mT (MG_tH G) 0 0), m_isNot (MG_mT (MG_tH G) 0 0), Option.bind_some, Sum.elim_inl, Sum.elim_inr, reduceIte, reduceCtorEq, if_true, if_false, true_or, or_true, ite_self]
set_option maxRecDepth 100000 in
theorem pr_parent (F : XF z h) (G : MG z 0 0 0 ov od h) (R : RM (999 + 1) h) (a : Int32) : Pr z Int32.toInt64 (f_L_parent (some z) a (some (z + 37))) (f_X8_parent (z + 15) a) h := by
  by_cases q : a = 0
  · subst q
    refine Pr.mk (k := 0) (v := (-1)) (oS z (Int32.toInt64 (-1)) h) (mT z 0 0 (oS z (Int32.toInt64 (-1)) h)) ?_ (MG_oS G (Int32.toInt64 (-1))) ?_ ((MG_mT (MG_oS G (Int32.toInt64 (-1))) 0 0)) (fun _ => rfl)
    · simp +decide only [f_L_parent_L0, f_L_parent, f_X7_parent_L0, f_X7_parent, xo0 F, x_found0 F, x_parentNumber F, o_st G, Option.bind_some, Sum.elim_inl, Sum.elim_inr, reduceIte, reduceCtorEq, if_true, if_false, true_or, or_true, ite_self]
    · simp +decide only [f_X8_parent_L27, f_X8_parent_L0, f_X8_parent, mo15 (MG_oS G (Int32.toInt64 (-1))).1, m_put0 (MG_oS G (Int32.toInt64 (-1))), mo15 (MG_mT (MG_oS G (Int32.toInt64 (-1))) 0 0).1, m_isNode0 (MG_mT (MG_oS G (Int32.toInt64 (-1))) 0 0), mr6 (MG_mT (MG_oS G (Int32.toInt64 (-1))) 0 0).1, ma6_0 (MG_mT (MG_oS G (Int32.toInt64 (-1))) 0 0).1, Option.bind_some, Sum.elim_inl, Sum.elim_inr, reduceIte, reduceCtorEq, if_true, if_false, true_or, or_true, ite_self]
  · refine Pr.mk (k := 1) (v := 0) (tH h) (mT z 1 0 (mT z 0 0 (tH h))) ?_ (MG_tH G) ?_ (MG_mT (MG_mT (MG_tH G) 0 0) 1 0) (fun q => absurd q (by decide))
    · simp +decide only [f_L_parent_L0, f_L_parent, f_X7_parent_L0, f_X7_parent, xo0 F, x_foundn R F q, x_fbwn R F q, Option.bind_some, Sum.elim_inl, Sum.elim_inr, reduceIte, reduceCtorEq, if_true, if_false, true_or, or_true, ite_self]
    · simp +decide only [f_X8_parent_L27, f_X8_parent_L0, f_X8_parent, mo15 (MG_tH G).1, m_put0 (MG_tH G), mo15 (MG_mT (MG_tH G) 0 0).1, m_isNoden (MG_mT (MG_tH G) 0 0) q, m_no (MG_mT (MG_tH G) 0 0), m_isNot (MG_mT (MG_tH G) 0 0), Option.bind_some, Sum.elim_inl, Sum.elim_inr, reduceIte, reduceCtorEq, if_true, if_false, true_or, or_true, ite_self]
set_option maxRecDepth 100000 in
theorem pr_level (F : XF z h) (G : MG z 0 0 0 ov od h) (R : RM (999 + 1) h) (a : Int32) : Pr z Int32.toInt64 (f_L_level (some z) a (some (z + 37))) (f_X8_level (z + 15) a) h := by
  by_cases q : a = 0
  · subst q
    refine Pr.mk (k := 0) (v := (0)) (oS z (Int32.toInt64 (0)) h) (mT z 0 0 (oS z (Int32.toInt64 (0)) h)) ?_ (MG_oS G (Int32.toInt64 (0))) ?_ ((MG_mT (MG_oS G (Int32.toInt64 (0))) 0 0)) (fun _ => rfl)
    · simp +decide only [f_L_level_L0, f_L_level, f_X7_level_L0, f_X7_level, xo0 F, x_found0 F, xo3 F, x_depth F, o_st G, Option.bind_some, Sum.elim_inl, Sum.elim_inr, reduceIte, reduceCtorEq, if_true, if_false, true_or, or_true, ite_self]
    · simp +decide only [f_X8_level_L26, f_X8_level_L0, f_X8_level, mo15 (MG_oS G (Int32.toInt64 (0))).1, m_put0 (MG_oS G (Int32.toInt64 (0))), mo15 (MG_mT (MG_oS G (Int32.toInt64 (0))) 0 0).1, m_isNode0 (MG_mT (MG_oS G (Int32.toInt64 (0))) 0 0), m_levelNow (MG_mT (MG_oS G (Int32.toInt64 (0))) 0 0), Option.bind_some, Sum.elim_inl, Sum.elim_inr, reduceIte, reduceCtorEq, if_true, if_false, true_or, or_true, ite_self]
  · refine Pr.mk (k := 1) (v := 0) (tH h) (mT z 1 0 (mT z 0 0 (tH h))) ?_ (MG_tH G) ?_ (MG_mT (MG_mT (MG_tH G) 0 0) 1 0) (fun q => absurd q (by decide))
    · simp +decide only [f_L_level_L0, f_L_level, f_X7_level_L0, f_X7_level, xo0 F, x_foundn R F q, x_fbwn R F q, Option.bind_some, Sum.elim_inl, Sum.elim_inr, reduceIte, reduceCtorEq, if_true, if_false, true_or, or_true, ite_self]
    · simp +decide only [f_X8_level_L26, f_X8_level_L0, f_X8_level, mo15 (MG_tH G).1, m_put0 (MG_tH G), mo15 (MG_mT (MG_tH G) 0 0).1, m_isNoden (MG_mT (MG_tH G) 0 0) q, m_no (MG_mT (MG_tH G) 0 0), m_isNot (MG_mT (MG_tH G) 0 0), Option.bind_some, Sum.elim_inl, Sum.elim_inr, reduceIte, reduceCtorEq, if_true, if_false, true_or, or_true, ite_self]
set_option maxRecDepth 100000 in
theorem pr_strength (F : XF z h) (G : MG z 0 0 0 ov od h) (R : RM (999 + 1) h) (a : Int32) : Pr z Int32.toInt64 (f_L_strength (some z) a (some (z + 37))) (f_X8_strength (z + 15) a) h := by
  by_cases q : a = 0
  · subst q
    refine Pr.mk (k := 0) (v := (100)) (oS z (Int32.toInt64 (100)) h) (mT z 0 0 (oS z (Int32.toInt64 (100)) h)) ?_ (MG_oS G (Int32.toInt64 (100))) ?_ ((MG_mT (MG_oS G (Int32.toInt64 (100))) 0 0)) (fun _ => rfl)
    · simp +decide only [f_L_strength_L0, f_L_strength, f_X7_strength_L0, f_X7_strength, xo0 F, x_found0 F, xr0_7_7 F, x_strengthOf F, o_st G, Option.bind_some, Sum.elim_inl, Sum.elim_inr, reduceIte, reduceCtorEq, if_true, if_false, true_or, or_true, ite_self]
    · simp +decide only [f_X8_strength_L26, f_X8_strength_L0, f_X8_strength, mo15 (MG_oS G (Int32.toInt64 (100))).1, m_put0 (MG_oS G (Int32.toInt64 (100))), mo15 (MG_mT (MG_oS G (Int32.toInt64 (100))) 0 0).1, m_isNode0 (MG_mT (MG_oS G (Int32.toInt64 (100))) 0 0), m_strengthNow, Option.bind_some, Sum.elim_inl, Sum.elim_inr, reduceIte, reduceCtorEq, if_true, if_false, true_or, or_true, ite_self]
  · refine Pr.mk (k := 1) (v := 0) (tH h) (mT z 1 0 (mT z 0 0 (tH h))) ?_ (MG_tH G) ?_ (MG_mT (MG_mT (MG_tH G) 0 0) 1 0) (fun q => absurd q (by decide))
    · simp +decide only [f_L_strength_L0, f_L_strength, f_X7_strength_L0, f_X7_strength, xo0 F, x_foundn R F q, x_fbwn R F q, Option.bind_some, Sum.elim_inl, Sum.elim_inr, reduceIte, reduceCtorEq, if_true, if_false, true_or, or_true, ite_self]
    · simp +decide only [f_X8_strength_L26, f_X8_strength_L0, f_X8_strength, mo15 (MG_tH G).1, m_put0 (MG_tH G), mo15 (MG_mT (MG_tH G) 0 0).1, m_isNoden (MG_mT (MG_tH G) 0 0) q, m_no (MG_mT (MG_tH G) 0 0), m_isNot (MG_mT (MG_tH G) 0 0), Option.bind_some, Sum.elim_inl, Sum.elim_inr, reduceIte, reduceCtorEq, if_true, if_false, true_or, or_true, ite_self]
set_option maxRecDepth 100000 in
theorem pr_common (F : XF z h) (G : MG z 0 0 0 ov od h) (R : RM (999 + 1) h) (a b : Int32) : Pr z Int32.toInt64 (f_L_common (some z) a b (some (z + 37))) (f_X8_common (z + 15) a b) h := by
  by_cases q : a = 0
  · subst q
    by_cases q : b = 0
    · subst q
      refine Pr.mk (k := 0) (v := (0)) (oS z (Int32.toInt64 (0)) h) (mT z 0 0 (oS z (Int32.toInt64 (0)) h)) ?_ (MG_oS G (Int32.toInt64 (0))) ?_ ((MG_mT (MG_oS G (Int32.toInt64 (0))) 0 0)) (fun _ => rfl)
      · simp +decide only [f_L_common_L0, f_L_common, f_X7_common_L0, f_X7_common, xo0 F, x_found0 F, sS_X7_common_L16, xo3 F, x_isWithinS F, xr3_4_0 F, o_st G, Option.bind_some, Sum.elim_inl, Sum.elim_inr, reduceIte, reduceCtorEq, if_true, if_false, true_or, or_true, ite_self]
      · simp +decide only [f_X8_common_L21, f_X8_common_L0, f_X8_common, mo15 (MG_oS G (Int32.toInt64 (0))).1, m_put0 (MG_oS G (Int32.toInt64 (0))), mo15 (MG_mT (MG_oS G (Int32.toInt64 (0))) 0 0).1, m_isNode0 (MG_mT (MG_oS G (Int32.toInt64 (0))) 0 0), s0_X8_common_L29, m_isWithin (MG_mT (MG_oS G (Int32.toInt64 (0))) 0 0), Option.bind_some, Sum.elim_inl, Sum.elim_inr, reduceIte, reduceCtorEq, if_true, if_false, true_or, or_true, ite_self]
    · refine Pr.mk (k := 1) (v := 0) (tH h) (mT z 1 0 (mT z 0 0 (tH h))) ?_ (MG_tH G) ?_ (MG_mT (MG_mT (MG_tH G) 0 0) 1 0) (fun q => absurd q (by decide))
      · simp +decide only [f_L_common_L0, f_L_common, f_X7_common_L0, f_X7_common, xo0 F, x_found0 F, x_foundn R F q, Option.bind_some, Sum.elim_inl, Sum.elim_inr, reduceIte, reduceCtorEq, if_true, if_false, true_or, or_true, ite_self]
      · simp +decide only [f_X8_common_L21, f_X8_common_L0, f_X8_common, mo15 (MG_tH G).1, m_put0 (MG_tH G), mo15 (MG_mT (MG_tH G) 0 0).1, m_isNode0 (MG_mT (MG_tH G) 0 0), m_isNoden (MG_mT (MG_tH G) 0 0) q, m_no (MG_mT (MG_tH G) 0 0), Option.bind_some, Sum.elim_inl, Sum.elim_inr, reduceIte, reduceCtorEq, if_true, if_false, true_or, or_true, ite_self]
  · refine Pr.mk (k := 1) (v := 0) (tH h) (mT z 1 0 (mT z 0 0 (tH h))) ?_ (MG_tH G) ?_ (MG_mT (MG_mT (MG_tH G) 0 0) 1 0) (fun q => absurd q (by decide))
    · simp +decide only [f_L_common_L0, f_L_common, f_X7_common_L0, f_X7_common, xo0 F, x_foundn R F q, x_fbwn R F q, Option.bind_some, Sum.elim_inl, Sum.elim_inr, reduceIte, reduceCtorEq, if_true, if_false, true_or, or_true, ite_self]
    · simp +decide only [f_X8_common_L21, f_X8_common_L0, f_X8_common, mo15 (MG_tH G).1, m_put0 (MG_tH G), mo15 (MG_mT (MG_tH G) 0 0).1, m_isNoden (MG_mT (MG_tH G) 0 0) q, m_no (MG_mT (MG_tH G) 0 0), m_isNot (MG_mT (MG_tH G) 0 0), Option.bind_some, Sum.elim_inl, Sum.elim_inr, reduceIte, reduceCtorEq, if_true, if_false, true_or, or_true, ite_self]
set_option maxRecDepth 100000 in
theorem pr_track (F : XF z h) (G : MG z 0 0 0 ov od h) (R : RM (999 + 1) h) (a b c d : Int32) : Pr z Int32.toInt64 (f_L_track (some z) a b c d (some (z + 37))) (f_X8_track (z + 15) a b c d) h := by
  by_cases q : a = 0
  · subst q
    by_cases q1 : rng b 0 3 = 0
    · refine Pr.mk (k := 2) (v := 0) (tH h) (mT z 2 0 (mT z 0 0 (tH h))) ?_ (MG_tH G) ?_ (MG_mT (MG_mT (MG_tH G) 0 0) 2 0) (fun q => absurd q (by decide))
      · simp +decide only [f_L_track_L0, f_L_track, f_X7_track_L39, f_X7_track_L85, f_X7_track_L0, f_X7_track, xo0 F, x_found0 F, xo3 F, x_propb F q1, th_eq R, Option.bind_some, Sum.elim_inl, Sum.elim_inr, reduceIte, reduceCtorEq, if_true, if_false, true_or, or_true, ite_self]
      · simp +decide only [f_X8_track_L47, f_X8_track_L76, f_X8_track_L0, f_X8_track, mo15 (MG_tH G).1, m_put0 (MG_tH G), mo15 (MG_mT (MG_tH G) 0 0).1, m_isNode0 (MG_mT (MG_tH G) 0 0), m_no (MG_mT (MG_tH G) 0 0), m_isIn, if_pos q1, Option.bind_some, Sum.elim_inl, Sum.elim_inr, reduceIte, reduceCtorEq, if_true, if_false, true_or, or_true, ite_self]
    · obtain ⟨o, p1, p2, p3⟩ := x_propg F q1
      by_cases q2 : rng c 0 2 = 0
      · refine Pr.mk (k := 2) (v := 0) (tH h) (mT z 2 0 (mT z 0 0 (tH h))) ?_ (MG_tH G) ?_ (MG_mT (MG_mT (MG_tH G) 0 0) 2 0) (fun q => absurd q (by decide))
        · simp +decide only [f_L_track_L0, f_L_track, f_X7_track_L39, f_X7_track_L85, f_X7_track_L0, f_X7_track, xo0 F, x_found0 F, xo3 F, p1, x_isFrom, if_pos q2, th_eq R, Option.bind_some, Sum.elim_inl, Sum.elim_inr, reduceIte, reduceCtorEq, if_true, if_false, true_or, or_true, ite_self]
        · simp +decide only [f_X8_track_L47, f_X8_track_L76, f_X8_track_L0, f_X8_track, mo15 (MG_tH G).1, m_put0 (MG_tH G), mo15 (MG_mT (MG_tH G) 0 0).1, m_isNode0 (MG_mT (MG_tH G) 0 0), m_no (MG_mT (MG_tH G) 0 0), m_isIn, if_neg q1, if_pos q2, Option.bind_some, Sum.elim_inl, Sum.elim_inr, reduceIte, reduceCtorEq, if_true, if_false, true_or, or_true, ite_self]
      · by_cases q3 : rng d 0 2 = 0
        · refine Pr.mk (k := 2) (v := 0) (tH h) (mT z 2 0 (mT z 0 0 (tH h))) ?_ (MG_tH G) ?_ (MG_mT (MG_mT (MG_tH G) 0 0) 2 0) (fun q => absurd q (by decide))
          · simp +decide only [f_L_track_L0, f_L_track, f_X7_track_L39, f_X7_track_L85, f_X7_track_L0, f_X7_track, xo0 F, x_found0 F, xo3 F, p1, x_isFrom, if_neg q2, if_pos q3, th_eq R, Option.bind_some, Sum.elim_inl, Sum.elim_inr, reduceIte, reduceCtorEq, if_true, if_false, true_or, or_true, ite_self]
          · simp +decide only [f_X8_track_L47, f_X8_track_L76, f_X8_track_L0, f_X8_track, mo15 (MG_tH G).1, m_put0 (MG_tH G), mo15 (MG_mT (MG_tH G) 0 0).1, m_isNode0 (MG_mT (MG_tH G) 0 0), m_no (MG_mT (MG_tH G) 0 0), m_isIn, if_neg q1, if_neg q2, if_pos q3, Option.bind_some, Sum.elim_inl, Sum.elim_inr, reduceIte, reduceCtorEq, if_true, if_false, true_or, or_true, ite_self]
        · refine Pr.mk (k := 3) (v := 0) (tH h) (mT z 3 0 (mT z 0 0 (tH h))) ?_ (MG_tH G) ?_ (MG_mT (MG_mT (MG_tH G) 0 0) 3 0) (fun q => absurd q (by decide))
          · simp +decide only [f_L_track_L0, f_L_track, f_X7_track_L39, f_X7_track_L85, f_X7_track_L0, f_X7_track, xo0 F, x_found0 F, xo3 F, p1, x_isFrom, if_neg q2, if_neg q3, xr0_7_2 F, th_eq R, Option.bind_some, Sum.elim_inl, Sum.elim_inr, reduceIte, reduceCtorEq, if_true, if_false, true_or, or_true, ite_self]
          · simp +decide only [f_X8_track_L47, f_X8_track_L76, f_X8_track_L0, f_X8_track, mo15 (MG_tH G).1, m_put0 (MG_tH G), mo15 (MG_mT (MG_tH G) 0 0).1, m_isNode0 (MG_mT (MG_tH G) 0 0), m_no (MG_mT (MG_tH G) 0 0), m_isIn, if_neg q1, if_neg q2, if_neg q3, Option.bind_some, Sum.elim_inl, Sum.elim_inr, reduceIte, reduceCtorEq, if_true, if_false, true_or, or_true, ite_self]
  · refine Pr.mk (k := 1) (v := 0) (tH h) (mT z 1 0 (mT z 0 0 (tH h))) ?_ (MG_tH G) ?_ (MG_mT (MG_mT (MG_tH G) 0 0) 1 0) (fun q => absurd q (by decide))
    · simp +decide only [f_L_track_L0, f_L_track, f_X7_track_L39, f_X7_track_L85, f_X7_track_L0, f_X7_track, xo0 F, x_foundn R F q, x_fbwn R F q, Option.bind_some, Sum.elim_inl, Sum.elim_inr, reduceIte, reduceCtorEq, if_true, if_false, true_or, or_true, ite_self]
    · simp +decide only [f_X8_track_L47, f_X8_track_L76, f_X8_track_L0, f_X8_track, mo15 (MG_tH G).1, m_put0 (MG_tH G), mo15 (MG_mT (MG_tH G) 0 0).1, m_isNoden (MG_mT (MG_tH G) 0 0) q, m_no (MG_mT (MG_tH G) 0 0), m_isNot (MG_mT (MG_tH G) 0 0), Option.bind_some, Sum.elim_inl, Sum.elim_inr, reduceIte, reduceCtorEq, if_true, if_false, true_or, or_true, ite_self]
set_option maxRecDepth 100000 in
theorem pr_key (F : XF z h) (G : MG z 0 0 0 ov od h) (R : RM (999 + 1) h) (a b c : Int32) : Pr z Int32.toInt64 (f_L_key (some z) a b c (some (z + 37))) (f_X8_key (z + 15) a b c) h := by
  refine Pr.mk (k := 1) (v := 0) (tH h) (mT z 1 0 (mT z 0 0 (tH h))) ?_ (MG_tH G) ?_ (MG_mT (MG_mT (MG_tH G) 0 0) 1 0) (fun q => absurd q (by decide))
  · simp +decide only [f_L_key_L0, f_L_key, f_X7_key, f_X7_key_L0, xo0 F, x_foundTrack R F, Option.bind_some, Sum.elim_inl, Sum.elim_inr, reduceIte, reduceCtorEq, if_true, if_false, true_or, or_true, ite_self]
  · simp +decide only [f_X8_key, f_X8_key_L0, mo15 (MG_tH G).1, m_put0 (MG_tH G), mo15 (MG_mT (MG_tH G) 0 0).1, m_isTrack (MG_mT (MG_tH G) 0 0), m_no (MG_mT (MG_tH G) 0 0), Option.bind_some, Sum.elim_inl, Sum.elim_inr, reduceIte, reduceCtorEq, if_true, if_false, true_or, or_true, ite_self]
set_option maxRecDepth 100000 in
theorem pr_unkey (F : XF z h) (G : MG z 0 0 0 ov od h) (R : RM (999 + 1) h) (a b : Int32) : Pr z Int32.toInt64 (f_L_unkey (some z) a b (some (z + 37))) (f_X8_unkey (z + 15) a b) h := by
  refine Pr.mk (k := 1) (v := 0) (tH h) (mT z 1 0 (mT z 0 0 (tH h))) ?_ (MG_tH G) ?_ (MG_mT (MG_mT (MG_tH G) 0 0) 1 0) (fun q => absurd q (by decide))
  · simp +decide only [f_L_unkey_L0, f_L_unkey, f_X7_unkey, f_X7_unkey_L0, xo0 F, x_foundTrack R F, Option.bind_some, Sum.elim_inl, Sum.elim_inr, reduceIte, reduceCtorEq, if_true, if_false, true_or, or_true, ite_self]
  · simp +decide only [f_X8_unkey, f_X8_unkey_L0, mo15 (MG_tH G).1, m_put0 (MG_tH G), mo15 (MG_mT (MG_tH G) 0 0).1, m_isTrack (MG_mT (MG_tH G) 0 0), m_no (MG_mT (MG_tH G) 0 0), Option.bind_some, Sum.elim_inl, Sum.elim_inr, reduceIte, reduceCtorEq, if_true, if_false, true_or, or_true, ite_self]
theorem x_put7 (F : XF z h) (a : Int32) : fput h (some z) 7 7 (.int a) = some (fSet h z (.inl (7, [.ref (z + 1), .ref (z + 2), .ref (z + 3), .ref (z + 9), .ref (z + 10), .int 1, .int 0, .int a, .ref (z + 3), .int 1]))) := fput_C F.1 (Nat.le_of_ble_eq_true rfl)
set_option maxRecDepth 100000 in
theorem pr_setTime (F : XF z h) (G : MG z 0 0 0 ov od h) (R : RM (999 + 1) h) (a : Int32) : Pr z Int32.toInt64 (f_L_setTime (some z) a (some (z + 37))) (f_X8_setTime (z + 15) a) h := by
  by_cases q : rng a 0 9999 = 0
  · refine Pr.mk (k := 1) (v := 0) (tH h) (mT z 1 0 (mT z 0 0 (tH h))) ?_ (MG_tH G) ?_ (MG_mT (MG_mT (MG_tH G) 0 0) 1 0) (fun q => absurd q (by decide))
    · simp +decide only [f_L_setTime_L0, f_L_setTime, f_X7_setTime_L0, f_X7_setTime, xo0 F, x_checkTime R, if_pos q, Option.bind_some, Sum.elim_inl, Sum.elim_inr, reduceIte, reduceCtorEq, if_true, if_false, true_or, or_true, ite_self]
    · simp +decide only [f_X8_setTime_L0, f_X8_setTime, mo15 (MG_tH G).1, m_put0 (MG_tH G), mo15 (MG_mT (MG_tH G) 0 0).1, m_isIn, if_pos q, m_no (MG_mT (MG_tH G) 0 0), Option.bind_some, Sum.elim_inl, Sum.elim_inr, reduceIte, reduceCtorEq, if_true, if_false, true_or, or_true, ite_self]
  · have G3 : MG z 0 0 0 ov od (fSet h z (.inl (7, [.ref (z + 1), .ref (z + 2), .ref (z + 3), .ref (z + 9), .ref (z + 10), .int 1, .int 0, .int a, .ref (z + 3), .int 1]))) := MG.set G (Or.inl (by omega))
    have G4 := MG_mT (MG_oS G3 (Int32.toInt64 0)) 0 0
    refine Pr.mk (k := 0) (v := 0) (oS z (Int32.toInt64 0) (fSet h z (.inl (7, [.ref (z + 1), .ref (z + 2), .ref (z + 3), .ref (z + 9), .ref (z + 10), .int 1, .int 0, .int a, .ref (z + 3), .int 1])))) (mT z 0 a (mT z 0 0 (oS z (Int32.toInt64 0) (fSet h z (.inl (7, [.ref (z + 1), .ref (z + 2), .ref (z + 3), .ref (z + 9), .ref (z + 10), .int 1, .int 0, .int a, .ref (z + 3), .int 1])))))) ?_ (MG_oS G3 (Int32.toInt64 0)) ?_ (MG_mT G4 0 a) (fun _ => rfl)
    · simp +decide only [f_L_setTime_L0, f_L_setTime, f_X7_setTime_L0, f_X7_setTime, xo0 F, x_checkTime R, if_neg q, xr0_7_7 F, x_put7 F, o_st G3, Option.bind_some, Sum.elim_inl, Sum.elim_inr, reduceIte, reduceCtorEq, if_true, if_false, true_or, or_true, ite_self]
    · simp +decide only [f_X8_setTime_L0, f_X8_setTime, mo15 (MG_oS G3 (Int32.toInt64 0)).1, m_put0 (MG_oS G3 (Int32.toInt64 0)), m_isIn, if_neg q, mr25 G4.1, m_put25 G4, Option.bind_some, Sum.elim_inl, Sum.elim_inr, reduceIte, reduceCtorEq, if_true, if_false, true_or, or_true, ite_self]
set_option maxRecDepth 100000 in
theorem pr_now (F : XF z h) (G : MG z 0 0 0 ov od h) (R : RM (999 + 1) h) (a b : Int32) : Pr z Int32.toInt64 (f_L_now (some z) a b (some (z + 37))) (f_X8_now (z + 15) a b) h := by
  by_cases q : a = 0
  · subst q
    by_cases q1 : rng b 0 3 = 0
    · refine Pr.mk (k := 2) (v := 0) (tH h) (mT z 2 0 (mT z 0 0 (tH h))) ?_ (MG_tH G) ?_ (MG_mT (MG_mT (MG_tH G) 0 0) 2 0) (fun q => absurd q (by decide))
      · simp +decide only [f_L_now_L0, f_L_now, f_X7_now_L0, f_X7_now, xo0 F, x_found0 F, xo3 F, x_propb F q1, th_eq R, Option.bind_some, Sum.elim_inl, Sum.elim_inr, reduceIte, reduceCtorEq, if_true, if_false, true_or, or_true, ite_self]
      · simp +decide only [f_X8_now_L42, f_X8_now_L0, f_X8_now, mo15 (MG_tH G).1, m_put0 (MG_tH G), mo15 (MG_mT (MG_tH G) 0 0).1, m_isNode0 (MG_mT (MG_tH G) 0 0), m_no (MG_mT (MG_tH G) 0 0), m_isIn, if_pos q1, Option.bind_some, Sum.elim_inl, Sum.elim_inr, reduceIte, reduceCtorEq, if_true, if_false, true_or, or_true, ite_self]
    · obtain ⟨o, p1, p2, p3⟩ := x_propg F q1
      refine Pr.mk (k := 0) (v := (own b)) (oS z (Int32.toInt64 (own b)) h) (mT z 0 0 (oS z (Int32.toInt64 (own b)) h)) ?_ (MG_oS G (Int32.toInt64 (own b))) ?_ ((MG_mT (MG_oS G (Int32.toInt64 (own b))) 0 0)) (fun _ => rfl)
      · simp +decide only [f_L_now_L0, f_L_now, f_X7_now_L0, f_X7_now, xo0 F, x_found0 F, xo3 F, p1, xr0_7_7 F, p2, p3, o_st G, Option.bind_some, Sum.elim_inl, Sum.elim_inr, reduceIte, reduceCtorEq, if_true, if_false, true_or, or_true, ite_self]
      · simp +decide only [f_X8_now_L42, f_X8_now_L0, f_X8_now, mo15 (MG_oS G (Int32.toInt64 (own b))).1, m_put0 (MG_oS G (Int32.toInt64 (own b))), mo15 (MG_mT (MG_oS G (Int32.toInt64 (own b))) 0 0).1, m_isNode0 (MG_mT (MG_oS G (Int32.toInt64 (own b))) 0 0), m_isIn, if_neg q1, m_hasP (MG_mT (MG_oS G (Int32.toInt64 (own b))) 0 0) q1, Option.bind_some, Sum.elim_inl, Sum.elim_inr, reduceIte, reduceCtorEq, if_true, if_false, true_or, or_true, ite_self]
  · refine Pr.mk (k := 1) (v := 0) (tH h) (mT z 1 0 (mT z 0 0 (tH h))) ?_ (MG_tH G) ?_ (MG_mT (MG_mT (MG_tH G) 0 0) 1 0) (fun q => absurd q (by decide))
    · simp +decide only [f_L_now_L0, f_L_now, f_X7_now_L0, f_X7_now, xo0 F, x_foundn R F q, x_fbwn R F q, Option.bind_some, Sum.elim_inl, Sum.elim_inr, reduceIte, reduceCtorEq, if_true, if_false, true_or, or_true, ite_self]
    · simp +decide only [f_X8_now_L42, f_X8_now_L0, f_X8_now, mo15 (MG_tH G).1, m_put0 (MG_tH G), mo15 (MG_mT (MG_tH G) 0 0).1, m_isNoden (MG_mT (MG_tH G) 0 0) q, m_no (MG_mT (MG_tH G) 0 0), m_isNot (MG_mT (MG_tH G) 0 0), Option.bind_some, Sum.elim_inl, Sum.elim_inr, reduceIte, reduceCtorEq, if_true, if_false, true_or, or_true, ite_self]
end PAIR
