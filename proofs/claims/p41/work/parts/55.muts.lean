/-! What changes a node's looks, its tracks and keys: what each method leaves. -/
section MUT
variable {G : qS} {F : Nat → Option fCe} {X : Nat × Nat × (Nat → Int32)} {k : Nat} {h : fSt} {a : Nat}
theorem x_fbw (R : qR G F X k h) {i : Int32} (q : qIs G i a) (hw : a ≠ G.wh) : f_X7_foundBelowWhole G.z i h = some (.inl (some a), h) := by
  unfold f_X7_foundBelowWhole f_X7_foundBelowWhole_L0
  rw [oS R, Option.bind_some, x_found R q, Option.bind_some]
  dsimp only [Sum.elim_inl]
  rw [gS_wh R, Option.bind_some, if_neg (fun z => hw (Option.some.inj z))]
theorem x_allows (R : qR G F X k h) {p : Nat} (hp : G.P p) {v : Int32} (hv : (G.pp p).least.toInt ≤ v.toInt ∧ v.toInt ≤ (G.pp p).most.toInt) : f_X6_allows p v h = some (1, h) := by
  unfold f_X6_allows f_X6_allows_L0
  rw [gP_least R hp, Option.bind_some, gP_most R hp, Option.bind_some, x_from1 hv, Option.bind_some, if_pos (Or.inr rfl)]
def qOwn (G : qS) (p : Nat) (v : Int32) : qS := G.setP p ((G.pp p).s_own (v))
def qMove (G : qS) (a : Nat) (x y : Int32) : qS := qOwn (qOwn G (G.pr a 0) x) (G.pr a 1) y
theorem m_move (R : qR G F X k h) (V : qV G) {i x y : Int32} (q : qIs G i a) (hw : a ≠ G.wh) (hx : (G.pp (G.pr a 0)).least.toInt ≤ x.toInt ∧ x.toInt ≤ (G.pp (G.pr a 0)).most.toInt) (hy : (G.pp (G.pr a 1)).least.toInt ≤ y.toInt ∧ y.toInt ≤ (G.pp (G.pr a 1)).most.toInt) : ∃ h2, f_X7_move G.z i x y h = some (.inl (G.pp (G.pr a 0)).own, h2) ∧ qR (qMove G a x y) F X k h2 := by
  have ha := q.2.2.2.1
  obtain ⟨e0, e1, e2, e3⟩ := V.px a ha
  have p0 := V.pP a 0 ha (by decide)
  have p1 := V.pP a 1 ha (by decide)
  obtain ⟨h1, w1, R1⟩ := wP_own R p0 rfl x
  obtain ⟨h2, w2, R2⟩ := wP_own R1 (a := G.pr a 1) p1 rfl y
  refine ⟨h2, ?_, R2⟩
  unfold f_X7_move f_X7_move_L0
  rw [oS R, Option.bind_some, x_fbw R q hw, Option.bind_some]
  dsimp only [Sum.elim_inl]
  rw [gN_x R ha, e0, Option.bind_some, oP R p0, Option.bind_some, x_allows R p0 hx, Option.bind_some, if_neg (show ¬ (1 : Int32) = 0 by decide)]
  dsimp only
  rw [gN_y R ha, e1, Option.bind_some, oP R p1, Option.bind_some, x_allows R p1 hy, Option.bind_some, if_neg (show ¬ (1 : Int32) = 0 by decide)]
  dsimp only
  rw [gN_x R ha, e0, Option.bind_some, gP_own R p0, Option.bind_some, Option.bind_some, w1, Option.bind_some, gN_y R1 ha]
  rw [show ((G.setP (G.pr a 0) ((G.pp (G.pr a 0)).s_own (x))).nd a).y = some (G.pr a 1) from e1, Option.bind_some, w2, Option.bind_some]
def qScale (G : qS) (a : Nat) (o u : Int32) : qS := G.setN a (((G.nd a).s_over (o)).s_under (u))
theorem m_scale (R : qR G F X k h) {i o u : Int32} (q : qIs G i a) (hw : a ≠ G.wh) (ho : 1 ≤ o.toInt ∧ o.toInt ≤ 4) (hu : 1 ≤ u.toInt ∧ u.toInt ≤ 4) : ∃ h2, f_X7_scale G.z i o u h = some (.inl ((G.nd a).over * 10 + (G.nd a).under), h2) ∧ qR (qScale G a o u) F X k h2 := by
  have ha := q.2.2.2.1
  obtain ⟨h1, w1, R1⟩ := wN_over R ha rfl o
  obtain ⟨h2, w2, R2⟩ := wN_under R1 (a := a) ha at_setN u
  rw [setN_setN] at R2
  refine ⟨h2, ?_, R2⟩
  unfold f_X7_scale f_X7_scale_L0
  rw [oS R, Option.bind_some, x_fbw R q hw, Option.bind_some]
  dsimp only [Sum.elim_inl]
  rw [x_from1 (l := 1) (u := 4) ho, Option.bind_some, if_neg (show ¬ (1 : Int32) = 0 by decide)]
  dsimp only
  rw [x_from1 (l := 1) (u := 4) hu, Option.bind_some, if_neg (show ¬ (1 : Int32) = 0 by decide)]
  dsimp only
  rw [gN_over R ha, Option.bind_some, gN_under R ha, Option.bind_some, w1, Option.bind_some, w2, Option.bind_some]
def qTurn (G : qS) (a : Nat) (t m : Int32) : qS := (qOwn G (G.pr a 2) t).setN a ((G.nd a).s_mir (m))
theorem m_turn (R : qR G F X k h) (V : qV G) {i t m : Int32} (q : qIs G i a) (hw : a ≠ G.wh) (ht : (G.pp (G.pr a 2)).least.toInt ≤ t.toInt ∧ t.toInt ≤ (G.pp (G.pr a 2)).most.toInt) (hm : m = 0 ∨ m = 1) : ∃ h2, f_X7_turn G.z i t m h = some (.inl (G.pp (G.pr a 2)).own, h2) ∧ qR (qTurn G a t m) F X k h2 := by
  have ha := q.2.2.2.1
  obtain ⟨e0, e1, e2, e3⟩ := V.px a ha
  have p2 := V.pP a 2 ha (by decide)
  obtain ⟨h1, w1, R1⟩ := wP_own R p2 rfl t
  obtain ⟨h2, w2, R2⟩ := wN_mir R1 (a := a) ha rfl hm
  refine ⟨h2, ?_, R2⟩
  unfold f_X7_turn f_X7_turn_L0
  rw [oS R, Option.bind_some, x_fbw R q hw, Option.bind_some]
  dsimp only [Sum.elim_inl]
  rw [gN_turns R ha, e2, Option.bind_some, oP R p2, Option.bind_some, x_allows R p2 ht, Option.bind_some, if_neg (show ¬ (1 : Int32) = 0 by decide)]
  dsimp only
  rw [gN_turns R ha, e2, Option.bind_some, gP_own R p2, Option.bind_some, Option.bind_some, w1, Option.bind_some, w2, Option.bind_some]
def qCutN (G : qS) (a : Nat) (m : Option Nat) : qS := G.setN a ((G.nd a).s_cut (m))
theorem m_uncut (R : qR G F X k h) {i : Int32} (q : qIs G i a) : ∃ h2, f_X7_uncut G.z i h = some (.inl (if (G.nd a).cut = none then 0 else 1), h2) ∧ qR (qCutN G a none) F X k h2 := by
  have ha := q.2.2.2.1
  obtain ⟨h2, w2, R2⟩ := wN_cut R ha rfl none
  refine ⟨h2, ?_, R2⟩
  unfold f_X7_uncut f_X7_uncut_L0 f_X7_uncut_L18
  rw [oS R, Option.bind_some, x_found R q, Option.bind_some]
  dsimp only [Sum.elim_inl]
  rw [gN_cut R ha, Option.bind_some]
  by_cases q2 : (G.nd a).cut = none
  · rw [if_pos q2, if_pos q2, w2, Option.bind_some, if_pos (Or.inl rfl)]
  · rw [if_neg q2, if_neg q2, w2, Option.bind_some, if_pos (Or.inr rfl)]
/-- a new frame -/
theorem x_frame (R : qR G F X (k + 1) h) (l t r b : Int32) : ∃ m h1 h2, fnew h (.inl (2, [.int 0, .int 0, .int 0, .int 0])) 4 = some (m, h1) ∧ f_X2_init m l t r b h1 = some ((), h2) ∧ qR (G.addM m (qM.mk l t r b)) F X k h2 ∧ ¬ G.M m := by
  have Rn := R.newM (qM.mk 0 0 0 0) (n := 4) (by decide)
  have hm : (G.addM (fZ h) (qM.mk 0 0 0 0)).M (fZ h) := Or.inl rfl
  obtain ⟨h2, w2, R2⟩ := wM_left Rn hm at_addM l
  obtain ⟨h3, w3, R3⟩ := wM_top R2 (a := fZ h) hm at_setM t
  obtain ⟨h4, w4, R4⟩ := wM_right R3 (a := fZ h) hm at_setM r
  obtain ⟨h5, w5, R5⟩ := wM_bot R4 (a := fZ h) hm at_setM b
  rw [setM_setM, setM_setM, setM_setM, addM_setM] at R5
  refine ⟨fZ h, _, h5, fnew_C (by have := R.rm.1; omega) (by have := R.rm.2; omega), ?_, R5, R.fresh.2.2.2.1⟩
  unfold f_X2_init f_X2_init_L0
  rw [show fobj (fPush h (.inl (2, [.int 0, .int 0, .int 0, .int 0])) 4) (some (fZ h)) 2 = some (fZ h) from oM Rn hm, Option.bind_some]
  rw [show fput (fPush h (.inl (2, [.int 0, .int 0, .int 0, .int 0])) 4) (some (fZ h)) 2 0 (.int l) = some h2 from w2, Option.bind_some, w3, Option.bind_some, w4, Option.bind_some, w5, Option.bind_some]
theorem m_cut (R : qR G F X (k + 1) h) {i l t r b : Int32} (q : qIs G i a) (hw : a ≠ G.wh) (hl : -200 ≤ l.toInt ∧ l.toInt ≤ r.toInt ∧ r.toInt ≤ 200) (ht : -200 ≤ t.toInt ∧ t.toInt ≤ b.toInt ∧ b.toInt ≤ 200) : ∃ m h2, f_X7_cut G.z i l t r b h = some (.inl (if (G.nd a).cut = none then 0 else 1), h2) ∧ qR (qCutN (G.addM m (qM.mk l t r b)) a (some m)) F X k h2 ∧ ¬ G.M m := by
  have ha := q.2.2.2.1
  have e1 : (-200 : Int32).toInt = -200 := by decide
  have e2 : (200 : Int32).toInt = 200 := by decide
  obtain ⟨m, h1, h2, f1, f2, R2, hm⟩ := x_frame R l t r b
  have hN : (G.addM m (qM.mk l t r b)).N a := ha
  obtain ⟨h3, w3, R3⟩ := wN_cut R2 hN rfl (some m)
  refine ⟨m, h3, ?_, R3, hm⟩
  unfold f_X7_cut f_X7_cut_L0 f_X7_cut_L82
  rw [oS R, Option.bind_some, x_fbw R q hw, Option.bind_some]
  dsimp only [Sum.elim_inl]
  rw [if_neg (i32_nlt (by omega)), if_neg (i32_nlt (by omega)), if_pos (i32_le (by omega)), if_neg (i32_nlt (by omega)), if_neg (i32_nlt (by omega)), if_pos (i32_le (by omega)), gN_cut R ha, Option.bind_some]
  by_cases q2 : (G.nd a).cut = none
  · rw [if_pos q2, if_pos q2, f1, Option.bind_some]
    dsimp only
    rw [f2, Option.bind_some]
    dsimp only
    rw [w3, Option.bind_some, if_pos (Or.inl rfl)]
  · rw [if_neg q2, if_neg q2, f1, Option.bind_some]
    dsimp only
    rw [f2, Option.bind_some]
    dsimp only
    rw [w3, Option.bind_some, if_pos (Or.inr rfl)]
/-- a track -/
def qTrk (G : qS) (p : Nat) (ease end_ : Int32) : qS :=
  ((((G.setP p ((((G.pp p).s_trk (1)).s_ease (ease)).s_end_ (end_)))).s_tr (va_up G.tr G.tracked.toNatClampNeg (some p))).s_tracked (G.tracked + 1))
theorem x_property (R : qR G F X k h) (V : qV G) (ha : G.N a) {w : Int32} (hw : 0 ≤ w.toInt ∧ w.toInt ≤ 3) : f_X4_property a w h = some (some (G.pr a w.toNatClampNeg), h) := by
  obtain ⟨e0, e1, e2, e3⟩ := V.px a ha
  have nx := i32_nat hw.1
  unfold f_X4_property f_X4_property_L0
  by_cases q0 : w = 0
  · rw [if_pos q0, gN_x R ha, e0, Option.bind_some, q0]; rfl
  by_cases q1 : w = 1
  · rw [if_neg q0, if_pos q1, gN_y R ha, e1, Option.bind_some, q1]; rfl
  by_cases q2 : w = 2
  · rw [if_neg q0, if_neg q1, if_pos q2, gN_turns R ha, e2, Option.bind_some, q2]; rfl
  have q3 : w = 3 := by
    have n0 : w.toInt ≠ 0 := fun e => q0 (Int32.toInt_inj.mp (e.trans (by decide)))
    have n1 : w.toInt ≠ 1 := fun e => q1 (Int32.toInt_inj.mp (e.trans (by decide)))
    have n2 : w.toInt ≠ 2 := fun e => q2 (Int32.toInt_inj.mp (e.trans (by decide)))
    have n3 : w.toInt = 3 := by omega
    exact Int32.toInt_inj.mp (n3.trans (by decide))
  rw [if_neg q0, if_neg q1, if_neg q2, if_pos q3, gN_opac R ha, e3, Option.bind_some, q3]; rfl
theorem m_track (R : qR G F X k h) (V : qV G) {i w ease end_ : Int32} (q : qIs G i a) (hw : a ≠ G.wh) (hj : 0 ≤ w.toInt ∧ w.toInt ≤ 3) (he : 0 ≤ ease.toInt ∧ ease.toInt ≤ 2) (hn : 0 ≤ end_.toInt ∧ end_.toInt ≤ 2) (hf : (G.pp (G.pr a w.toNatClampNeg)).trk = 0) (hk : G.tracked.toInt < 12) : ∃ h2, f_X7_track G.z i w ease end_ h = some (.inl G.tracked, h2) ∧ qR (qTrk G (G.pr a w.toNatClampNeg) ease end_) F X k h2 := by
  have ha := q.2.2.2.1
  have nx := i32_nat hj.1
  have hp := V.pP a w.toNatClampNeg ha (by omega)
  obtain ⟨t0, t1, -⟩ := V.tk
  have e12 : (12 : Int32).toInt = 12 := by decide
  have e0 : (0 : Int32).toInt = 0 := by decide
  generalize ep : G.pr a w.toNatClampNeg = p at hp hf ⊢
  obtain ⟨h1, w1, R1⟩ := wP_trk R hp rfl (v := 1) (Or.inr rfl)
  obtain ⟨h2, w2, R2⟩ := wP_ease R1 (a := p) hp at_setP ease
  obtain ⟨h3, w3, R3⟩ := wP_end_ R2 (a := p) hp at_setP end_
  rw [setP_setP, setP_setP] at R3
  obtain ⟨h4, w4, R4⟩ := sta R3 (i := G.tracked) (i32_cl t0 (by omega)) (v := p) hp
  obtain ⟨h5, w5, R5⟩ := wS_tracked R4 (G.tracked + 1)
  have g3 := gS_ta R3
  have g4 := gS_tracked R3
  have g5 := gS_tracked R4
  have g6 := gS_tracked R5
  refine ⟨h5, ?_, R5⟩
  unfold f_X7_track f_X7_track_L0
  rw [oS R, Option.bind_some, x_found R q, Option.bind_some]
  dsimp only [Sum.elim_inl]
  rw [oN R ha, Option.bind_some, x_property R V ha hj, ep, Option.bind_some, if_neg (fun z => nomatch z)]
  dsimp only
  rw [x_from1 (l := 0) (u := 2) he, Option.bind_some, if_neg (show ¬ (1 : Int32) = 0 by decide)]
  dsimp only
  rw [x_from1 (l := 0) (u := 2) hn, Option.bind_some, if_neg (show ¬ (1 : Int32) = 0 by decide), gS_wh R, Option.bind_some, if_neg (fun z => hw (Option.some.inj z)), gP_trk R hp, Option.bind_some, if_pos hf, gS_tracked R, Option.bind_some, if_neg (i32_nlt (by omega)), Option.bind_some, gS_ta R, Option.bind_some, lta R, Option.bind_some, if_pos (i32_lt2 (by omega)), w1, Option.bind_some, w2, Option.bind_some, w3, Option.bind_some, show fgR h3 (some G.z) 7 1 = some (some G.ta) from g3, Option.bind_some, show fgI h3 (some G.z) 7 6 = some G.tracked from g4, Option.bind_some]
  exact (congrArg (fun o : Option fSt => o.bind fun h50 => (fgI h50 (some G.z) 7 6).bind fun x52 => (fput h50 (some G.z) 7 6 (.int (x52 + (1 : Int32)))).bind fun h54 => (fgI h54 (some G.z) 7 6).bind fun x56 => some (Sum.inl (x56 - (1 : Int32)), h54)) w4).trans (by
    rw [Option.bind_some, show fgI h4 (some G.z) 7 6 = some G.tracked from g5, Option.bind_some, show fput h4 (some G.z) 7 6 (.int (G.tracked + 1)) = some h5 from w5, Option.bind_some, show fgI h5 (some G.z) 7 6 = some (G.tracked + 1) from g6, Option.bind_some, Int32.add_sub_cancel])
end MUT
