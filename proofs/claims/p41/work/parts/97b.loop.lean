/-! The law, of all nodes, and of a point. -/
section LAWL
variable {G : qS} {F : Nat → Option fCe} {X : Nat × Nat × (Nat → Int32)} {k : Nat} {h : fSt} {a : Nat} {S : lS}
variable {k2 : Option Nat → Int32 → fSt → Option (Int32 × fSt)} {k69 : Option Nat → Int32 → Option Nat → Option Nat → Int32 → fSt → Option (Int32 × fSt)}
variable {a0 : Option Nat} {a1 : Int32} {a4 : Int32}
theorem lH.hh {h2 : fSt} (H : lH X G S F k h) (R : qR G F X k h2) : lH X G S F k h2 := ⟨R, H.L, H.I, H.g, H.sx, H.dr, H.v⟩
def lKk (X : Nat × Nat × (Nat → Int32)) (K lm z : Nat) (k69 : fSt → Option (Int32 × fSt)) : Prop := ∀ h, lNx X lm z K h → ∃ h3, k69 h = some (1, h3)
theorem law_1039 (H : lH X G S F k h) (hk : lKk X k S.lm G.z (k69 a0 a1 (some S.lm) (some G.z) (a4 + 1))) : ∃ h3, f_L_law_L1039 k2 k69 a0 a1 (some S.lm) (some G.z) a4 (qDig G) h = some (1, h3) := by
  obtain ⟨h2, e2, R2⟩ := q_digest H.R H.I.V H.I.fd
  unfold f_L_law_L1039
  rw [oS H.R, Option.bind_some, e2, Option.bind_some]
  dsimp only
  rw [if_pos rfl]
  exact hk _ ⟨G, S, F, H.hh R2, rfl, rfl⟩
theorem law_939 (H : lH X G S F k h) {x y u : Int32} (uo : uOk x y u) (hk : lKk X k S.lm G.z (k69 a0 a1 (some S.lm) (some G.z) (a4 + 1))) : ∃ h3, f_L_law_L939 k2 k69 a0 a1 (some S.lm) (some G.z) a4 (qDig G) u x y (qTop G x y u G.time none G.od) h = some (1, h3) := by
  have I := H.I
  have bx : -10000 ≤ x.toInt ∧ x.toInt ≤ 10000 := by have := uo.1; omega
  have b_y : -10000 ≤ y.toInt ∧ y.toInt ≤ 10000 := by have := uo.2.1; omega
  have bu : 1 ≤ u.toInt ∧ u.toInt ≤ 60 := by have := uo.2.2; omega
  have tm := H.g.tm
  have em : (-1 : Int32).toInt = -1 := by decide
  have e0 : (0 : Int32).toInt = 0 := by decide
  have e20 : (20 : Int32).toInt = 20 := by decide
  have q0 : qIs G 0 G.wh := I.is' ⟨I.B.wl, I.wh0⟩
  obtain ⟨h2, e2, R2⟩ := q_pickWithout H.R I.V q0 bx b_y bu
  rw [top_wh I _ (fun b hb => I.odL.mp hb)] at e2
  obtain ⟨r, h3, e3, R3, hr⟩ := q_nextPick R2 I.V bx b_y bu (by omega)
  unfold f_L_law_L939
  rw [oS H.R, Option.bind_some, e2, Option.bind_some]
  dsimp only [Sum.elim_inl]
  rw [if_pos rfl, oS R2, Option.bind_some, e3, Option.bind_some]
  dsimp only [Sum.elim_inl]
  rcases hr with z | ⟨r1, r2, r3⟩
  · rw [if_pos (by rw [z]; decide)]
    exact law_1039 (H.hh R3) hk
  · have H3 := H.hh R3
    have t20 : (G.time + 20).toInt = G.time.toInt + 20 := by rw [i32_add (by omega) (by omega), e20]
    obtain ⟨h4, e4, R4⟩ := q_setTime (t := r) R3 (by omega)
    have I4 : qI (G.s_time r) := I.time r
    have z4 : (G.s_time r).z = G.z := rfl
    obtain ⟨h5, e5, R5⟩ := q_pick R4 I4.V bx b_y bu
    have tt : qTop (G.s_time r) x y u (G.s_time r).time none (G.s_time r).od = qTop G x y u r none G.od := top_time r x y u r none G.od
    rw [tt, z4] at e5
    obtain ⟨h6, e6, R6⟩ := q_setTime (t := G.time) R5 (by omega)
    have e6 : f_X7_setTime G.z G.time h5 = some (.inl r, h6) := e6
    have R6 : qR G F X k h6 := R6
    have o4 : fobj h4 (some G.z) 7 = some G.z := oS (G := G.s_time r) R4
    have o5 : fobj h5 (some G.z) 7 = some G.z := oS (G := G.s_time r) R5
    have g4 := gL_time R4 H.L
    have g5 := gL_time R5 H.L
    rw [if_neg (i32_nlt (by omega)), gL_time R3 H.L, Option.bind_some, tm.1, if_neg (i32_nle (by omega)), Option.bind_some, if_neg (i32_nlt (by omega)), oS R3, Option.bind_some, e4, Option.bind_some]
    dsimp only [Sum.elim_inl]
    rw [g4, Option.bind_some, tm.1, if_pos rfl, o4, Option.bind_some, e5, Option.bind_some]
    dsimp only [Sum.elim_inl]
    rw [if_neg r3, g5, Option.bind_some, tm.1, o5, Option.bind_some, e6, Option.bind_some]
    dsimp only [Sum.elim_inl]
    rw [if_pos rfl]
    exact law_1039 (H.hh R6) hk
theorem law_tail (H : lH X G S F (k + 1) h) {n : Nat} {i x y u c12 c13 c14 : Int32} (hi : i.toInt = G.added.toInt) (uo : uOk x y u) (C : lC G x y u G.added.toInt.toNat c12 c13 c14) (hk : lKk X k S.lm G.z (k69 a0 a1 (some S.lm) (some G.z) (a4 + 1))) : ∃ h3, f_L_law_L310 k2 k69 (n + 1) a0 a1 (some S.lm) (some G.z) a4 (qDig G) u x y c12 c13 c14 i h = some (1, h3) := by
  have I := H.I
  have bx : -10000 ≤ x.toInt ∧ x.toInt ≤ 10000 := by have := uo.1; omega
  have b_y : -10000 ≤ y.toInt ∧ y.toInt ≤ 10000 := by have := uo.2.1; omega
  have bu : 1 ≤ u.toInt ∧ u.toInt ≤ 60 := by have := uo.2.2; omega
  have tm := H.g.tm
  have em : (-1 : Int32).toInt = -1 := by decide
  have e0 : (0 : Int32).toInt = 0 := by decide
  obtain ⟨C1, C2, C3⟩ := C
  have lt : ∀ b, G.Lv b → G.nm b < G.added.toInt.toNat := fun b lb => by have := (I.nm lb.1).2.1; omega
  have ex1 : qMany G x y u 0 G.od = c12 := by
    rw [many_z, Int32.zero_add, C1, cn_end I]
  have ex2 : qTop G x y u G.time none G.od = c13 := by
    rcases C2 with ⟨e, n⟩ | ⟨b, lb, cb, e, n⟩
    · rw [e]
      exact top_no _ (fun b hb => n b (I.odL.mp hb) (lt b (I.odL.mp hb)))
    · rw [e]
      exact top_is cb _ I.plO (I.odL.mpr lb) (fun c hc cc => n c (I.odL.mp hc) (lt c (I.odL.mp hc)) cc)
  obtain ⟨h2, e2, R2⟩ := q_many H.R I.V bx b_y bu
  obtain ⟨h3, e3, R3⟩ := q_pick R2 I.V bx b_y bu
  obtain ⟨h4, e4, R4⟩ := q_through R3 I.V bx b_y bu
  have e5 := q_changes R4 I.V (t := G.time) (u := G.time) (by omega) (by omega)
  rw [chg_same] at e5
  obtain ⟨h6, e6, R6⟩ := q_digest R4 I.V I.fd
  obtain ⟨b, h7, e7, lb, H7⟩ := h_one (H.hh R6)
  have H7 : lH X G (dS S) (dF F S G.z) k h7 := H7
  have R7 := H7.R
  have qb : qIs G (G.nd b).number b := I.is' ⟨lb, rfl⟩
  obtain ⟨h8, e8, R8⟩ := q_pickWithout R7 I.V qb bx b_y bu
  rw [ex1] at e2
  have hk7 : lKk X k (dS S).lm G.z (k69 a0 a1 (some (dS S).lm) (some G.z) (a4 + 1)) := hk
  rw [st_L_law_L310, gL_added H.R H.L, Option.bind_some, H.g.ad, if_pos (i32_le (by omega)), oS H.R, Option.bind_some, e2, Option.bind_some]
  dsimp only [Sum.elim_inl]
  rw [if_pos rfl, oS R2, Option.bind_some, e3, Option.bind_some]
  dsimp only [Sum.elim_inl]
  rw [if_pos ex2, oS R3, Option.bind_some, e4, Option.bind_some]
  dsimp only [Sum.elim_inl]
  rw [if_neg (i32_nlt C3), gL_time R4 H.L, Option.bind_some, Option.bind_some, tm.1, oS R4, Option.bind_some, e5, Option.bind_some]
  dsimp only [Sum.elim_inl]
  rw [if_pos rfl, oS R4, Option.bind_some, e6, Option.bind_some]
  dsimp only
  rw [if_pos rfl, oL R6 H.L, Option.bind_some, e7, Option.bind_some]
  dsimp only
  rw [oS R7, Option.bind_some, e8, Option.bind_some]
  dsimp only [Sum.elim_inl]
  rcases top_ex (G := G) (x := x) (y := y) (u := u) (t := G.time) (w := some b) G.od with z | ⟨c, hc, nc, cc, z⟩
  · rw [if_pos (by rw [z]; decide), ← ex2]
    exact law_939 (H7.hh R8) uo hk7
  · have lc := I.odL.mp hc
    have qc : qIs G (G.nd c).number c := I.is' ⟨lc, rfl⟩
    obtain ⟨h9, e9, R9⟩ := q_covers (x := x) (y := y) (u := u) R8 I.V qc bx b_y bu
    rw [if_pos cc] at e9
    rw [z, if_neg (i32_nlt (by have := qc.1; omega)), oS R8, Option.bind_some, e9, Option.bind_some]
    dsimp only [Sum.elim_inl]
    rw [if_neg n10, oS R9, Option.bind_some, q_common R9 I.V qc qb, Option.bind_some]
    dsimp only [Sum.elim_inl]
    rw [if_neg (com_ne I lb lc nc), ← ex2]
    exact law_939 (H7.hh R9) uo hk7
theorem sm_of {x0 u x : Int} (hu : 0 < u) (e : x = x0 * u) (hx : -30000000 ≤ x ∧ x ≤ 30000000) : -30000000 ≤ x0 ∧ x0 ≤ 30000000 := by
  have u1 : 1 ≤ u := hu
  rcases Int.le_total 0 x0 with z | z
  · have := Int.mul_le_mul_of_nonneg_left u1 z
    omega
  · have := Int.mul_le_mul_of_nonneg_left u1 (show 0 ≤ -x0 by omega)
    rw [Int.mul_one, Int.neg_mul] at this
    omega
theorem abs_z {v : Int32} (hv : -30000000 ≤ v.toInt ∧ v.toInt ≤ 30000000) (h : ¬ (1000 : Int32) < (if 0 ≤ v then v else 0 - v)) : -1000 ≤ v.toInt ∧ v.toInt ≤ 1000 := by
  have e0 : (0 : Int32).toInt = 0 := by decide
  have e1 : (1000 : Int32).toInt = 1000 := by decide
  by_cases q : (0 : Int32) ≤ v
  · rw [if_pos q] at h
    have q := Int32.le_iff_toInt_le.mp q
    have h : ¬ (1000 : Int32).toInt < v.toInt := fun z => h (Int32.lt_iff_toInt_lt.mpr z)
    omega
  · rw [if_neg q] at h
    have q : ¬ (0 : Int32).toInt ≤ v.toInt := fun z => q (Int32.le_iff_toInt_le.mpr z)
    have e2 : (0 - v).toInt = - v.toInt := by rw [i32_sub (by omega) (by omega)]; omega
    have h : ¬ (1000 : Int32).toInt < (0 - v).toInt := fun z => h (Int32.lt_iff_toInt_lt.mpr z)
    omega
theorem pt_sm (I : qI G) (la : G.Lv a) (w1 : Int64.toInt32 (qPa (qRs G a 4 (-7)) 1) = 1) (w3 : Int64.toInt32 (qPa (qRs G a 4 (-7)) 3) = 1) : (-30000000 ≤ (Int64.toInt32 (qPa (qRs G a 4 (-7)) 0)).toInt ∧ (Int64.toInt32 (qPa (qRs G a 4 (-7)) 0)).toInt ≤ 30000000) ∧ -30000000 ≤ (Int64.toInt32 (qPa (qRs G a 4 (-7)) 2)).toInt ∧ (Int64.toInt32 (qPa (qRs G a 4 (-7)) 2)).toInt ≤ 30000000 := by
  obtain ⟨-, u2⟩ := rs_z I la (x := 4) (y := -7) (by decide) (by decide)
  generalize eP : qRs G a 4 (-7) = P at *
  obtain ⟨v0, bx, by_⟩ := u2
  have v0 : 0 < P.2.2.1.toInt := v0
  have bx : -(21849100 - 300 * P.2.2.1.toInt) ≤ P.1.toInt ∧ P.1.toInt ≤ 21849100 - 300 * P.2.2.1.toInt := bx
  have by_ : -(21849100 - 300 * P.2.2.1.toInt) ≤ P.2.1.toInt ∧ P.2.1.toInt ≤ 21849100 - 300 * P.2.2.1.toInt := by_
  rw [qPa1] at w1
  rw [qPa3] at w3
  obtain ⟨x0, x1, x2⟩ := part_1 (x := P.1) (u := P.2.2.1) ⟨v0, by omega⟩ (by omega) w1
  obtain ⟨y0, y1, y2⟩ := part_1 (x := P.2.1) (u := P.2.2.1) ⟨v0, by omega⟩ (by omega) w3
  rw [qPa0, qPa2, x2, y2]
  exact ⟨sm_of v0 x1 (by omega), sm_of v0 y1 (by omega)⟩
/-- of one number: the node's checks -/
theorem law_one (R : qR G F X k h) (I : qI G) (la : G.Lv a) {k310 : Option Nat → Int32 → Option Nat → Option Nat → Int32 → Int64 → Int32 → Int32 → Int32 → Int32 → Int32 → Int32 → Int32 → fSt → Option (Int32 × fSt)} {c : Nat} (lc : G.Lv c) {a2 : Option Nat} {a5 : Int64} {i j x y u c12 c13 c14 : Int32} (ei : (G.nd a).number = i) (ej : (G.nd c).number = j) (uo : uOk x y u) (C : lC G x y u (G.nm a) c12 c13 c14) : ∃ d12 d13 d14 h2, f_L_law_L463 k2 k69 k310 a0 a1 a2 (some G.z) a4 a5 u x y c12 c13 c14 i j h = k310 a0 a1 a2 (some G.z) a4 a5 u x y d12 d13 d14 (i + 1) h2 ∧ qR G F X k h2 ∧ lC G x y u (G.nm a + 1) d12 d13 d14 :=
  law_466 I la lc ei ej uo C 4 4096 0 h (by decide) (by decide) (by decide) R
theorem law_310 {x y u : Int32} (uo : uOk x y u) (I : qI G) : ∀ (m n : Nat) (i c12 c13 c14 : Int32) (S : lS) (F : Nat → Option fCe) (h : fSt), lH X G S F (k + m + 1) h → m < n → 0 ≤ i.toInt → i.toInt + m = G.added.toInt → lC G x y u i.toInt.toNat c12 c13 c14 → lKk X k S.lm G.z (k69 a0 a1 (some S.lm) (some G.z) (a4 + 1)) → ∃ h3, f_L_law_L310 k2 k69 n a0 a1 (some S.lm) (some G.z) a4 (qDig G) u x y c12 c13 c14 i h = some (1, h3)
  | 0, n + 1, i, c12, c13, c14, S, F, h, H, hn, h0, e, C, hk => law_tail H (by omega) uo (by rw [show G.added.toInt.toNat = i.toInt.toNat by omega]; exact C) hk
  | m + 1, n + 1, i, c12, c13, c14, S, F, h, H, hn, h0, e, C, hk => by
    obtain ⟨a1', a2'⟩ := I.A.ad
    have s1 := i32_s (i := i) (by omega) (by omega)
    obtain ⟨b, hb, eb⟩ := I.idx (i := i) (by omega) (by omega)
    obtain ⟨t1, t2⟩ := h_isThere H hb eb
    obtain ⟨r1, r2, r3, r4, r5⟩ := I.rg hb eb
    have nb : i.toInt.toNat = G.nm b := by omega
    rw [nb] at C
    have nx : (i + 1).toInt.toNat = G.nm b + 1 := by omega
    rw [st_L_law_L310, gL_added H.R H.L, Option.bind_some, H.g.ad, if_neg (i32_nle (by omega)), oL H.R H.L, Option.bind_some]
    by_cases lb : G.Lv b
    · rw [t1 lb, Option.bind_some]
      dsimp only
      have H : lH X G S F ((k + m + 1) + 1) h := H
      obtain ⟨c, h2, e2, lc, H2⟩ := h_any H
      have R2 := H2.R
      have q : qIs G i b := I.is' ⟨lb, eb⟩
      have hk2 : lKk X k (dS S).lm G.z (k69 a0 a1 (some (dS S).lm) (some G.z) (a4 + 1)) := hk
      have go : ∀ h3, qR G (dF F S G.z) X (k + m + 1) h3 → ∃ h4, f_L_law_L463 k2 k69 (f_L_law_L310 k2 k69 n) a0 a1 (some S.lm) (some G.z) a4 (qDig G) u x y c12 c13 c14 i (G.nd c).number h3 = some (1, h4) := by
        intro h3 R3
        obtain ⟨d12, d13, d14, h4, f4, R4, C4⟩ := law_one (k2 := k2) (k69 := k69) (k310 := f_L_law_L310 k2 k69 n) (a0 := a0) (a1 := a1) (a2 := some S.lm) (a4 := a4) (a5 := qDig G) R3 I lb lc eb rfl uo C
        obtain ⟨h5, f5⟩ := law_310 uo I m n (i + 1) d12 d13 d14 (dS S) (dF F S G.z) h4 (H2.hh R4) (by omega) (by omega) (by omega) (by rw [nx]; exact C4) hk2
        exact ⟨h5, f4.trans f5⟩
      obtain ⟨g3, f3, Q3⟩ := q_toWhole (x := 4) (y := -7) (w := 1) R2 I.V q (by decide) (by decide) (by decide)
      obtain ⟨g4, f4, Q4⟩ := q_toWhole (x := 4) (y := -7) (w := 3) Q3 I.V q (by decide) (by decide) (by decide)
      obtain ⟨g5, f5, Q5⟩ := q_toWhole (x := 4) (y := -7) (w := 0) Q4 I.V q (by decide) (by decide) (by decide)
      obtain ⟨g6, f6, Q6⟩ := q_toWhole (x := 4) (y := -7) (w := 2) Q5 I.V q (by decide) (by decide) (by decide)
      rw [if_neg n10, oL H.R H.L, Option.bind_some, e2, Option.bind_some]
      dsimp only
      rw [oS R2, Option.bind_some, f3, Option.bind_some]
      dsimp only [Sum.elim_inl]
      by_cases w1 : Int64.toInt32 (qPa (qRs G b 4 (-7)) 1) = 1
      · rw [if_pos w1, oS Q3, Option.bind_some, f4, Option.bind_some]
        dsimp only [Sum.elim_inl]
        by_cases w3 : Int64.toInt32 (qPa (qRs G b 4 (-7)) 3) = 1
        · rw [if_pos w3, oS Q4, Option.bind_some, f5, Option.bind_some]
          dsimp only [Sum.elim_inl]
          rw [oS Q5, Option.bind_some, f6, Option.bind_some]
          dsimp only [Sum.elim_inl]
          obtain ⟨m0, m2⟩ := pt_sm I lb w1 w3
          have bk := fun {vx vy : Int32} (ex : vx = Int64.toInt32 (qPa (qRs G b 4 (-7)) 0)) (ey : vy = Int64.toInt32 (qPa (qRs G b 4 (-7)) 2)) hx hy => chk_back I lb w1 w3 ex ey hx hy
          generalize e_x : Int64.toInt32 (qPa (qRs G b 4 (-7)) 0) = vx at *
          generalize e_y : Int64.toInt32 (qPa (qRs G b 4 (-7)) 2) = vy at *
          by_cases z0 : (1000 : Int32) < (if 0 ≤ vx then vx else 0 - vx)
          · rw [if_pos z0]
            exact go _ Q6
          · rw [if_neg z0]
            by_cases z2 : (1000 : Int32) < (if 0 ≤ vy then vy else 0 - vy)
            · rw [if_pos z2]
              exact go _ Q6
            · rw [if_neg z2]
              have x1 := abs_z m0 z0
              have y1 := abs_z m2 z2
              obtain ⟨k0, k1, k3⟩ := bk rfl rfl x1 y1
              obtain ⟨p3, j3, P3⟩ := q_fromWhole (x := vx) (y := vy) (w := 0) Q6 I.V q x1 y1 (by decide)
              obtain ⟨p4, j4, P4⟩ := q_fromWhole (x := vx) (y := vy) (w := 1) P3 I.V q x1 y1 (by decide)
              obtain ⟨p5, j5, P5⟩ := q_fromWhole (x := vx) (y := vy) (w := 2) P4 I.V q x1 y1 (by decide)
              rw [oS Q6, Option.bind_some, j3, Option.bind_some]
              dsimp only [Sum.elim_inl]
              rw [if_pos k0, oS P3, Option.bind_some, j4, Option.bind_some]
              dsimp only [Sum.elim_inl]
              rw [if_pos k1, oS P4, Option.bind_some, j5, Option.bind_some]
              dsimp only [Sum.elim_inl]
              rw [if_pos k3]
              exact go _ P5
        · rw [if_neg w3]
          exact go _ Q4
      · rw [if_neg w1]
        exact go _ Q3
    · rw [t2 lb, Option.bind_some]
      dsimp only
      rw [if_pos rfl]
      have H2 : lH X G S F (k + m + 1) h := ⟨H.R.le (by omega), H.L, H.I, H.g, H.sx, ⟨H.dr.1, by have := H.dr.2; omega⟩, H.v⟩
      obtain ⟨h5, f5⟩ := law_310 uo I m n (i + 1) c12 c13 c14 S F h H2 (by omega) (by omega) (by omega) (by rw [nx]; exact lC_no I hb (fun l => absurd l lb) C) hk
      exact ⟨h5, f5⟩
end LAWL
