/-! The law puts keys, and makes tracks. -/
section LTRACK
variable {G : qS} {F : Nat → Option fCe} {X : Nat × Nat × (Nat → Int32)} {k : Nat} {h : fSt} {a c z : Nat} {S : lS}
/-- what is linked after a key -/
theorem lG.key {H : qS} {S2 : lS} {p m : Nat} {at_ : Int32} {t j : Nat} (I : qI G) (g : lG G S) (P : qPu G p m at_ H) (ha : G.N a) (hj : j < 4) (ep : p = G.pr a j) (ht : (t : Int) < G.tracked.toInt) (et : G.tr t = some p) {L2 : List Int32} (eL : L2 = qTm H p) (Q : lKp S S2 t L2) : lG H S2 := by
  obtain ⟨s1, s2, s3, s4, s5, s6, s7, s8, s9, s10, s11, s12, s13⟩ := Q.s
  obtain ⟨t1, t2, t3, t4, t5, t6, t7, t8, t9, t10⟩ := P.s2
  have nd := P.s1
  have tk := I.T.tk
  have Lv : ∀ b, H.Lv b ↔ G.Lv b := fun b => by
    show H.N b ∧ (H.nd b).gone = 0 ↔ _
    rw [t6, nd]; exact Iff.rfl
  refine ⟨by rw [s2, t2]; exact g.ad, by rw [s3, t4]; exact g.tk, by rw [s4, t8]; exact g.tm, fun b lb => ?_, fun b hb gb => ?_, fun u hu => ?_, fun u h1 h2 => ?_, fun i hi => ?_, fun u w h1 h2 e => g.td u w (by rw [← t4]; exact h1) (by rw [← t4]; exact h2) (by rw [← t3]; exact e)⟩
  · have q : lNd G S b := g.lv b ((Lv b).mp lb)
    show lNd H S2 b
    exact q.cg (by rw [nd]) (qPn_cg (by rw [nd]) (fun x => by rw [nd])) (by rw [nd]) (by rw [nd]) (by rw [nd]) (by rw [nd]) (fun j _ => by rw [t5]; exact (P.pp _).1) (by rw [s9]) (by rw [s7]) (by rw [s10])
  · rw [t6] at hb
    rw [nd] at gb
    have e : H.nm b = G.nm b := by unfold qS.nm; rw [nd]
    rw [e, s9]; exact g.go b hb gb
  · rw [t4] at hu
    obtain ⟨b, i, hb, hi, e1, e2, e3, e4, e5⟩ := g.tt u hu
    refine ⟨b, i, by rw [t6]; exact hb, hi, by rw [t3, t5]; exact e1, by rw [t5, (P.pp _).2]; exact e2, by rw [s8, nd]; exact e3, by rw [s8]; exact e4, fun lb => ?_⟩
    rw [t5]
    by_cases z : u = t
    · subst z
      rw [et] at e1
      rw [← Option.some.inj e1, ← eL]
      exact Q.n
    · have q := e5 ((Lv b).mp lb)
      have np : G.pr b i ≠ p := by
        intro w
        rw [w] at e1
        exact z (g.td u t hu ht (e1.trans et.symm))
      unfold lKr at q ⊢
      rw [P.ot _ (I.Y.pP b i hb hi) np, (Q.o u z).1, (Q.o u z).2]
      exact q
  · rw [t4] at h2
    have z : u ≠ t := by omega
    rw [(Q.o u z).1]
    exact g.kf u h1 h2
  · rw [t2] at hi
    rw [s7]; exact g.cf i hi
theorem h_key (H : lH X G S F (k + 5) h) {i : Int32} (h0 : 0 ≤ i.toInt) (h1 : i.toInt < G.tracked.toInt) : ∃ G2 S2 F2 h2, f_X8_key S.lm i h = some (1, h2) ∧ lH X G2 S2 F2 k h2 ∧ S2.lm = S.lm ∧ G2.z = G.z ∧ G2.tracked = G.tracked := by
  have nx := i32_nat h0
  have tk := H.I.T.tk
  have e20 : (20 : Int32).toInt = 20 := by decide
  have e81 : (81 : Int32).toInt = 81 := by decide
  have e4 : (4 : Int32).toInt = 4 := by decide
  have e101 : (101 : Int32).toInt = 101 := by decide
  have e40 : (40 : Int32).toInt = 40 := by decide
  have e2 : (2 : Int32).toInt = 2 := by decide
  obtain ⟨at_, g1, f1, r1, H1⟩ := h_draw (k := k + 4) H (n := 20) (by decide)
  rw [e20] at r1
  obtain ⟨a, j, ha, hj, et, tr, tv0, tv1, kr⟩ := H.g.tt i.toNatClampNeg (by omega)
  have v6 := H.v.2.2
  rw [H.g.tk] at v6
  have c1 : fgR g1 (some S.lm) 8 11 = some (some S.a6) := by have g := gL_a6 H1.R H1.L; exact g
  have c2 : faR g1 (some S.a6) 4 i = some (some (S.tR i.toNatClampNeg)) := by have g := rT H1.R H1.L (i := i) h0 (by show i.toInt < (S.v6 : Nat); omega); exact g
  have c3 : faI g1 (some (S.tR i.toNatClampNeg)) 0 1 = some (S.tV i.toNatClampNeg 1) := by have g := vT H1.R H1.L (i := i.toNatClampNeg) (by show _ < S.v6; omega) (j := 1) (by decide) (by decide); exact g
  have c4 : fobj g1 (some S.lm) 8 = some S.lm := by have g := oL H1.R H1.L; exact g
  obtain ⟨d1, d2, d3, d4⟩ := H.I.D a j ha hj
  -- the rest, once the value is drawn
  have rest : ∀ (v : Int32) (S2 : lS) (F2 : Nat → Option fCe) (h2 : fSt), lH X G S2 F2 (k + 3) h2 → S2.lm = S.lm → S2.tR = S.tR → S2.tV = S.tV → S2.v6 = S.v6 → S2.a6 = S.a6 → S2.a7 = S.a7 → S2.kN = S.kN → S2.kV = S.kV → S2.kR = S.kR → (qRg j).1 ≤ v.toInt ∧ v.toInt ≤ (qRg j).2 → ∃ G2 S2 F2 h3, f_X8_key_L57 (some S.lm) i at_ v h2 = some (1, h3) ∧ lH X G2 S2 F2 k h3 ∧ S2.lm = S.lm ∧ G2.z = G.z ∧ G2.tracked = G.tracked := by
    intro v S2 F2 h2 H2 q1 q2 q3 q4 q5 q6 q7 q8 q9 hv
    have b1 : fgR h2 (some S.lm) 8 11 = some (some S.a6) := by have g := gL_a6 H2.R H2.L; rw [q1, q5] at g; exact g
    have b2 : faR h2 (some S.a6) 4 i = some (some (S.tR i.toNatClampNeg)) := by have g := rT H2.R H2.L (i := i) h0 (by rw [q4]; omega); rw [q5, q2] at g; exact g
    have b3 : faI h2 (some (S.tR i.toNatClampNeg)) 0 0 = some (G.nd a).number := by have g := vT H2.R H2.L (i := i.toNatClampNeg) (by rw [q4]; omega) (j := 0) (by decide) (by decide); rw [q2, q3] at g; rw [show (0 : Int32).toNatClampNeg = 0 by decide, tv0] at g; exact g
    have b4 : fobj h2 (some S.lm) 8 = some S.lm := by have g := oL H2.R H2.L; rw [q1] at g; exact g
    obtain ⟨y1, y2⟩ := h_isThere H2 ha rfl
    rw [q1] at y1 y2
    unfold f_X8_key_L57 f_X8_key_L85
    rw [b1, Option.bind_some, b2, Option.bind_some, b3, Option.bind_some, b4, Option.bind_some]
    by_cases la : G.Lv a
    · rw [y1 la, Option.bind_some]
      dsimp only
      have b5 : fgR h2 (some S.lm) 8 12 = some (some S.a7) := by have g := gL_a7 H2.R H2.L; rw [q1, q6] at g; exact g
      have b6 : faR h2 (some S.a7) 4 i = some (some (S.kR i.toNatClampNeg)) := by have g := rK H2.R H2.L (i := i) h0 (by omega); rw [q6, q9] at g; exact g
      have b7 : flen h2 (some (S.kR i.toNatClampNeg)) 0 = some (nI (S.kN i.toNatClampNeg)) := by have g := lK H2.R H2.L (i := i.toNatClampNeg) (by omega); rw [q9, q7] at g; exact g
      obtain ⟨kr1, kr2⟩ := kr la
      have hp := H.I.Y.pP a j ha hj
      have kk := H.I.K.on _ hp
      have lq : (qTm G (G.pr a j)).length = (G.kl (G.pr a j)).length := by unfold qTm; rw [List.length_map]
      have le8 := kk.le
      rw [if_neg (show ¬ (1 : Int32) = 0 by decide), b5, Option.bind_some, b6, Option.bind_some, b7, Option.bind_some, kr1]
      by_cases w : nI (2 * (qTm G (G.pr a j)).length) = 16
      · rw [if_pos w]
        exact ⟨G, S2, F2, h2, rfl, H2.le (by omega), q1, rfl, rfl⟩
      · rw [if_neg w]
        have lt8 : (qTm G (G.pr a j)).length ≤ 7 := by
          have : (qTm G (G.pr a j)).length ≠ 8 := fun y => w (by rw [y]; rfl)
          omega
        have cnt8 : (G.pp (G.pr a j)).cnt.toInt < 8 := by
          rw [kk.ct]; omega
        have done := H.I.O a j la hj
        have r999 : 0 ≤ at_.toInt ∧ at_.toInt ≤ 999 := by omega
        have rv : (G.pp (G.pr a j)).least.toInt ≤ v.toInt ∧ v.toInt ≤ (G.pp (G.pr a j)).most.toInt := by rw [d1, d2]; exact hv
        -- where the time lies
        have tm0 := (H.I.put hp H2.R.fresh.2.2.1 r999 rv cnt8 tr).tm
        have tm1 := tm0
        obtain ⟨A, B, eAB, hA, hB⟩ := tm0
        have hB1 : ∀ x l, B = x :: l → at_.toInt ≤ x.toInt := by
          intro x l ex
          rcases hB with ⟨C, y, -⟩ | ⟨y, -⟩
          · rw [y] at ex
            rw [(List.cons.inj ex).1]
            exact Int.le_refl _
          · exact Int.le_of_lt (y x (by rw [ex]; exact List.mem_cons_self))
        have hB2 : (∃ C, B = at_ :: C) ∨ ∀ x, x ∈ B → at_.toInt < x.toInt := hB.imp (fun ⟨C, y, _⟩ => ⟨C, y⟩) (fun y => y.1)
        have k1 : S2.kN i.toNatClampNeg = 2 * (A ++ B).length := by rw [q7, kr1, eAB]
        have k2 : ∀ (j : Nat) (x : Int32), (A ++ B)[j]? = some x → S2.kV i.toNatClampNeg (2 * j) = x := fun j x hx => by rw [q8]; exact kr2 j x (by rw [eAB]; exact hx)
        have len7 : (A ++ B).length ≤ 7 := by rw [← eAB]; exact lt8
        have s90 := x_srch H2.R H2.L h0 (by omega) k1 (by omega) k2 hA hB1 (v := v) A.length 4096 0 (by omega) (by rw [List.length_append] at len7; omega)
        rw [q1] at s90
        rw [show f_X8_key_L90 4096 (some S.lm) i at_ v 0 h2 = _ from s90]
        obtain ⟨L2, S3, F3, h3, f3, R3, L3, eL2, Q3⟩ := x_key121 (k := k + 2) H2.R H2.L (at_ := at_) (v := v) h0 (by omega) k1 len7 k2 hB2
        rw [q1] at f3
        rw [f3]
        obtain ⟨m, h4, f4, R4, hm⟩ := m_key (k := k + 1) R3 H.I.V (i := i) (t := at_) (v := v) ⟨h0, h1⟩ et r999 rv done cnt8
        have P := H.I.put hp hm r999 rv cnt8 tr
        have eT : L2 = qTm (qPut G (G.pr a j) m at_ v) (G.pr a j) := by
          refine tm_uq (L := A ++ B) (t := at_) ⟨A, B, rfl, hA, ?_⟩ (by rw [← eAB]; exact P.tm)
          exact eL2
        have cnt := P.ct
        have lg := lG.key (S2 := S3) H.I H2.g P ha hj rfl (t := i.toNatClampNeg) (by omega) et eT Q3
        obtain ⟨s1, s2, s3, s4, s5, s6, s7, s8, s9, s10, s11, s12, s13⟩ := Q3.s
        obtain ⟨t1, t2, t3, t4, t5, t6, t7, t8, t9, t10⟩ := P.s2
        have IP := P.I
        generalize qPut G (G.pr a j) m at_ v = G4 at *
        have L4 : lF S3 F3 G4.z := by rw [t10]; exact L3
        have x1 : fgR h3 (some S.lm) 8 0 = some (some G.z) := by have g := gL_sc_ R3 L3; rw [s1, q1] at g; exact g
        have x2 := gL_a7 R4 L4
        have x3 := rK R4 L4 (i := i) h0 (by omega)
        have x4 := lK R4 L4 (i := i.toNatClampNeg) (by omega)
        rw [s1, q1] at x2
        have lk2 := Q3.n.1
        have l8 : L2.length ≤ 8 := by
          rcases eL2 with ⟨C, -, y⟩ | ⟨-, y⟩
          · rw [y]; omega
          · rw [y]
            rw [List.length_append] at len7
            simp only [List.length_append, List.length_cons]
            omega
        refine ⟨G4, S3, F3, h4, ?_, lH.of (R4.le (by omega)) L4 IP lg (by rw [s6]; exact H2.sx) ⟨by rw [s5]; exact H2.dr.1, by rw [s5]; have := H2.dr.2; omega⟩ (by rw [s11, s12, s13, s2, s3]; exact H2.v), by rw [s1, q1], t10, t4⟩
        unfold f_X8_key_L238 f_X8_key_L265
        rw [x1, Option.bind_some, oS R3, Option.bind_some, f4, Option.bind_some]
        dsimp only [Sum.elim_inl]
        rw [x2, Option.bind_some, x3, Option.bind_some, x4, Option.bind_some, lk2]
        have e6 : (G4.pp (G.pr a j)).cnt = nI (2 * L2.length) / 2 := by
          apply Int32.toInt_inj.mp
          have t1' : (nI (2 * L2.length)).toInt = (2 * L2.length : Nat) := nI_toInt (by omega)
          have dv : ((2 * L2.length : Nat) : Int).tdiv 2 = L2.length := by
            rw [Int.tdiv_eq_ediv_of_nonneg (by omega)]
            omega
          rw [i32_div (by rw [t1', e2, dv]; omega) (by rw [t1', e2, dv]; omega), t1', e2, dv, cnt, eT]
        rw [if_pos e6, if_pos (Or.inr rfl)]
    · rw [y2 la, Option.bind_some]
      dsimp only
      rw [if_pos rfl]
      exact ⟨G, S2, F2, h2, rfl, H2.le (by omega), q1, rfl, rfl⟩
  unfold f_X8_key f_X8_key_L0
  rw [oL H.R H.L, Option.bind_some, f1, Option.bind_some]
  dsimp only
  rw [c1, Option.bind_some, c2, Option.bind_some, c3, Option.bind_some]
  by_cases j2 : 2 ≤ S.tV i.toNatClampNeg 1
  · have w := Int32.le_iff_toInt_le.mp j2
    rw [if_pos j2, Option.bind_some, c2, Option.bind_some, c3, Option.bind_some]
    by_cases j3 : S.tV i.toNatClampNeg 1 = 2
    · obtain ⟨v, g2, f2, r2, H2⟩ := h_draw (k := k + 3) H1 (n := 4) (by decide)
      have f2 : f_X8_draw S.lm 4 g1 = some (v, g2) := f2
      rw [e4] at r2
      rw [if_pos j3, c4, Option.bind_some, f2, Option.bind_some]
      have ej : j = 2 := by rw [j3, e2] at tv1; omega
      exact rest v _ _ g2 H2 rfl rfl rfl rfl rfl rfl rfl rfl rfl (by rw [ej]; exact ⟨by show (0 : Int) ≤ _; omega, by show _ ≤ (3 : Int); omega⟩)
    · obtain ⟨v, g2, f2, r2, H2⟩ := h_draw (k := k + 3) H1 (n := 101) (by decide)
      have f2 : f_X8_draw S.lm 101 g1 = some (v, g2) := f2
      rw [e101] at r2
      rw [if_neg j3, c4, Option.bind_some, f2, Option.bind_some]
      have ej : j = 3 := by
        have : (S.tV i.toNatClampNeg 1).toInt ≠ 2 := fun y => j3 (Int32.toInt_inj.mp (y.trans e2.symm))
        omega
      exact rest v _ _ g2 H2 rfl rfl rfl rfl rfl rfl rfl rfl rfl (by rw [ej]; exact ⟨by show (0 : Int) ≤ _; omega, by show _ ≤ (100 : Int); omega⟩)
  · obtain ⟨v, g2, f2, r2, H2⟩ := h_draw (k := k + 3) H1 (n := 81) (by decide)
    have f2 : f_X8_draw S.lm 81 g1 = some (v, g2) := f2
    rw [e81] at r2
    rw [if_neg j2, c4, Option.bind_some, f2, Option.bind_some]
    have w : (S.tV i.toNatClampNeg 1).toInt < 2 := by
      apply Int.not_le.mp
      intro y
      exact j2 (i32_le (by rw [e2]; exact y))
    have sv : (v - 40).toInt = v.toInt - 40 := by rw [i32_sub (by omega) (by omega), e40]
    have ej : j < 2 := by omega
    exact rest (v - 40) _ _ g2 H2 rfl rfl rfl rfl rfl rfl rfl rfl rfl (by unfold qRg; rw [if_pos ej]; exact ⟨by show (-200 : Int) ≤ _; omega, by show _ ≤ (200 : Int); omega⟩)
end LTRACK
