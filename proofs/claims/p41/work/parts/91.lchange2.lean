/-! The law cuts a node, or changes anything. -/
section LCHG2
variable {G : qS} {F : Nat → Option fCe} {X : Nat × Nat × (Nat → Int32)} {k : Nat} {h : fSt} {a c z : Nat} {S : lS}
theorem x_479 (H : lG G S) (I : qI G) {Sb : lS} {Fb : Nat → Option fCe} {g : fSt} (la : G.Lv a) (hw : a ≠ G.wh) (R : qR G Fb X (k + 1) g) (L : lF Sb Fb G.z) {r : Nat} {gB : Nat → Int32} (hg : Fb r = some (ri 4 gB)) (hr : Sb.tg r = (13, 0)) (hb : -200 ≤ (gB 0).toInt ∧ (gB 0).toInt ≤ (gB 2).toInt ∧ (gB 2).toInt ≤ 200) (hc : -200 ≤ (gB 1).toInt ∧ (gB 1).toInt ≤ (gB 3).toInt ∧ (gB 3).toInt ≤ 200) (q : Sb.lm = S.lm ∧ Sb.a5 = S.a5) (q2 : Sb.nV = S.nV ∧ Sb.oV = S.oV ∧ Sb.cR = S.cR) (q3 : Sb.added = S.added ∧ Sb.tracks = S.tracks ∧ Sb.time = S.time ∧ Sb.sc = S.sc ∧ Sb.tV = S.tV ∧ Sb.kN = S.kN ∧ Sb.kV = S.kV ∧ Sb.v1 = S.v1 ∧ Sb.v2 = S.v2 ∧ Sb.v6 = S.v6) (dr : 0 ≤ Sb.draws.toInt ∧ Sb.draws.toInt + k ≤ 900000) (sx : S.sc = X.1 ∧ X.2.1 ≤ 260) (vv : (S.v1 : Int) = S.added.toInt ∧ (S.v2 : Int) = S.added.toInt ∧ (S.v6 : Int) = S.tracks.toInt) {b : Int32} (hbb : b = if (G.nd a).cut = none then 0 else 1) (o : Option Nat) (ho : o = none ∨ o = some r) : ∃ h2, f_X8_change_L479 (some S.lm) (G.nd a).number b (some r) o (G.nd a).number (some S.a5) g = some (1, h2) ∧ lNx X S.lm G.z k h2 := by
  obtain ⟨tc0, tc1, tc2, tc3, -⟩ := tc
  obtain ⟨y1, y2, y3, y4, y5, y6, y7, y8, y9, y10⟩ := q3
  obtain ⟨q0, q1, q2', q4, q5⟩ := I.rg la.1 rfl
  have lv := H.lv a la
  -- what stays, whatever the cut is
  have fin : ∀ (m : Option Nat) (G1 : qS) (cR2 : Nat → Option Nat) (F2 : Nat → Option fCe) (g2 : fSt), qR (qCutN G1 a m) F2 X k g2 → lF (Sb.s_cR cR2) F2 G1.z → qI (qCutN G1 a m) → cR2 = va_up Sb.cR (G.nd a).number.toNatClampNeg o → (G1.nd = G.nd ∧ G1.N = G.N ∧ G1.added = G.added ∧ G1.tracked = G.tracked ∧ G1.tr = G.tr ∧ G1.pr = G.pr ∧ G1.time = G.time ∧ G1.z = G.z ∧ G1.pp = G.pp ∧ G1.kl = G.kl ∧ G1.ky = G.ky) → (o = none ↔ m = none) → lNx X S.lm G.z k g2 := by
    intro m G1 cR2 F2 g2 R2 L2 I2 eC eG om
    obtain ⟨u1, u2, u3, u4, u5, u6, u7, u8, u9, u10, u11⟩ := eG
    have ne_ : ∀ b, b ≠ a → (qCutN G1 a m).nd b = G.nd b := fun b w => (qu_ne w).trans (congrFun u1 b)
    have eq_ : (qCutN G1 a m).nd a = (G.nd a).s_cut m := (show (qCutN G1 a m).nd a = (G1.nd a).s_cut m from qu_eq).trans (by rw [u1])
    have A : lA1 G (qCutN G1 a m) a := by
      refine ⟨⟨u2, u3, u4, u5, u6, u7, u8⟩, fun b => ?_, fun b w => ?_, fun b j hb hj ba => ?_, fun p => ?_, fun p => ?_⟩
      · by_cases w : b = a
        · rw [w, eq_]; exact ⟨rfl, rfl, rfl⟩
        · rw [ne_ b w]; exact ⟨rfl, rfl, rfl⟩
      · rw [ne_ b w]; exact ⟨rfl, rfl, rfl, rfl⟩
      · show (G1.pp (G.pr b j)).own = _
        rw [u9]
      · show (G1.pp p).trk = _
        rw [u9]
      · show (G1.kl p).map (fun a => (G1.ky a).time) = _
        rw [u10, u11]; rfl
    have B : lB1 S (Sb.s_cR cR2) (G.nm a) := by
      refine ⟨fun u hu => ⟨?_, ?_, ?_⟩, q.1, y1, y2, y3, y4, y5, y6, y7, y8, y9, y10⟩
      · show Sb.nV u = _
        rw [q2.1]
      · show Sb.oV u = _
        rw [q2.2.1]
      · show cR2 u = _
        rw [eC, q2.2.2]
        exact if_neg (show ¬ u = (G.nd a).number.toNatClampNeg by omega)
    have g5 := lG.at1 (S2 := Sb.s_cR cR2) I H la A B ⟨by show Sb.nV _ 0 = _; rw [q2.1], by show Sb.nV _ 4 = _; rw [q2.1, eq_]; exact lv.2.1, by show Sb.nV _ 5 = _; rw [q2.1, eq_]; exact lv.2.2.1, by show Sb.nV _ 6 = _; rw [q2.1, eq_]; exact lv.2.2.2.1, by
      show cR2 _ = none ↔ _
      rw [eC, eq_]
      rw [show va_up Sb.cR (G.nd a).number.toNatClampNeg o (G.nm a) = o from if_pos q4.symm]
      exact om, by show Sb.oV _ 0 = (G1.pp _).own; rw [q2.2.1, u9]; exact lv.2.2.2.2.2.1, by show Sb.oV _ 2 = (G1.pp _).own; rw [q2.2.1, u9]; exact lv.2.2.2.2.2.2.1, by show Sb.oV _ 3 = (G1.pp _).own; rw [q2.2.1, u9]; exact lv.2.2.2.2.2.2.2⟩
    exact ⟨qCutN G1 a m, Sb.s_cR cR2, F2, lH.of R2 L2 I2 g5 (by show Sb.sc = _ ∧ _; rw [y4]; exact sx) dr ⟨by show (Sb.v1 : Int) = Sb.added.toInt; rw [y8, y1]; exact vv.1, by show (Sb.v2 : Int) = Sb.added.toInt; rw [y9, y1]; exact vv.2.1, by show (Sb.v6 : Int) = Sb.tracks.toInt; rw [y10, y2]; exact vv.2.2⟩, q.1, u8⟩
  have ra : r ≠ Sb.a5 := fun w => by
    have := L.tl.2.2.2.2.2.1
    rw [← w, hr] at this
    exact absurd (congrArg Prod.fst this) (show (13 : Nat) ≠ 10 by decide)
  unfold f_X8_change_L479 f_X8_change_L544
  rcases ho with rfl | rfl
  · obtain ⟨g2, c2, w2, R2, L2⟩ := stC0 R L (i := (G.nd a).number) q0 (by omega)
    rw [q.2] at w2
    have x1 := gL_a5 R2 L2
    have x2 := rC R2 L2 (i := (G.nd a).number) q0 (by omega)
    have x3 := gL_sc_ R2 L2
    have x1 : fgR g2 (some Sb.lm) 8 8 = some (some Sb.a5) := x1
    have x2 : faR g2 (some Sb.a5) 4 (G.nd a).number = some (va_up Sb.cR (G.nd a).number.toNatClampNeg none (G.nd a).number.toNatClampNeg) := x2
    have x3 : fgR g2 (some Sb.lm) 8 0 = some (some G.z) := x3
    rw [show va_up Sb.cR (G.nd a).number.toNatClampNeg none (G.nd a).number.toNatClampNeg = none from if_pos rfl] at x2
    rw [q.1, q.2] at x1
    rw [q.2] at x2
    rw [q.1] at x3
    obtain ⟨g3, f3, R3⟩ := m_uncut R2 (I.is la)
    have I3 := I.cutN (m := none) la.1 hw (fun c w => nomatch w)
    refine ⟨g3, ?_, fin none G _ _ g3 (R3.le (by omega)) L2 I3 rfl ⟨rfl, rfl, rfl, rfl, rfl, rfl, rfl, rfl, rfl, rfl, rfl⟩ ⟨fun _ => rfl, fun _ => rfl⟩⟩
    rw [w2, Option.bind_some, x1, Option.bind_some, x2, Option.bind_some, if_pos rfl, x3, Option.bind_some, oS R2, Option.bind_some, f3, Option.bind_some]
    dsimp only [Sum.elim_inl]
    rw [hbb, if_pos rfl, if_pos (Or.inr rfl)]
  · obtain ⟨g2, c2, w2, R2, L2⟩ := stC R L (i := (G.nd a).number) hg q0 (by omega)
    rw [q.2] at w2
    have x1 := gL_a5 R2 L2
    have x2 := rC R2 L2 (i := (G.nd a).number) q0 (by omega)
    have x3 := gL_sc_ R2 L2
    have x1 : fgR g2 (some Sb.lm) 8 8 = some (some Sb.a5) := x1
    have x2 : faR g2 (some Sb.a5) 4 (G.nd a).number = some (va_up Sb.cR (G.nd a).number.toNatClampNeg (some r) (G.nd a).number.toNatClampNeg) := x2
    have x3 : fgR g2 (some Sb.lm) 8 0 = some (some G.z) := x3
    rw [show va_up Sb.cR (G.nd a).number.toNatClampNeg (some r) (G.nd a).number.toNatClampNeg = some r from if_pos rfl] at x2
    rw [q.1, q.2] at x1
    rw [q.2] at x2
    rw [q.1] at x3
    have hg2 : qu Fb Sb.a5 (some c2) r = some (ri 4 gB) := (qu_ne ra).trans hg
    have rd : ∀ j : Int32, 0 ≤ j.toInt → j.toInt < 4 → faI g2 (some r) 0 j = some (gB j.toNatClampNeg) := fun j h0 h1 => faI_C (R2.lo _ _ hg2).2 (cl_of (m := 4) h0 h1 (Nat.le_refl _))
    have r0 := rd 0 (by decide) (by decide)
    have r1 := rd 1 (by decide) (by decide)
    have r2 := rd 2 (by decide) (by decide)
    have r3 := rd 3 (by decide) (by decide)
    rw [tc0] at r0
    rw [tc1] at r1
    rw [tc2] at r2
    rw [tc3] at r3
    obtain ⟨m, g3, f3, R3, hm⟩ := m_cut (k := k) R2 (I.is la) hw hb hc
    have I3 := (I.addM hm (qM.mk (gB 0) (gB 1) (gB 2) (gB 3))).cutN (a := a) (m := some m) la.1 hw (fun c w => by cases w; exact Or.inl rfl)
    refine ⟨g3, ?_, fin (some m) (G.addM m (qM.mk (gB 0) (gB 1) (gB 2) (gB 3))) _ _ g3 R3 L2 I3 rfl ⟨rfl, rfl, rfl, rfl, rfl, rfl, rfl, rfl, rfl, rfl, rfl⟩ ⟨fun w => (nomatch w), fun w => (nomatch w)⟩⟩
    rw [w2, Option.bind_some, x1, Option.bind_some, x2, Option.bind_some, if_neg (fun w => nomatch w), x3, Option.bind_some, r0, Option.bind_some, r1, Option.bind_some, r2, Option.bind_some, r3, Option.bind_some, oS R2, Option.bind_some, f3, Option.bind_some]
    dsimp only [Sum.elim_inl]
    rw [hbb, if_pos rfl, if_pos (Or.inr rfl)]
theorem h_c4 (H : lH X G S F (k + 7) h) (la : G.Lv a) (hw : a ≠ G.wh) : ∃ h2, ((fgR h (some S.lm) 8 8).bind fun x282 => (faR h x282 4 (G.nd a).number).bind fun x284 => (if x284 = none then f_X8_change_L391 (some S.lm) (G.nd a).number (0 : Int32) h else f_X8_change_L391 (some S.lm) (G.nd a).number (1 : Int32) h)) = some (1, h2) ∧ lNx X S.lm G.z k h2 := by
  obtain ⟨tc0, tc1, tc2, tc3, tc4, -⟩ := tc
  obtain ⟨q0, q1, q2, q3, q4⟩ := H.I.rg la.1 rfl
  have e20 : (20 : Int32).toInt = 20 := by decide
  have e30 : (30 : Int32).toInt = 30 := by decide
  have e60 : (60 : Int32).toInt = 60 := by decide
  have lv := (H.g.lv a la).2.2.2.2.1
  have x2 := rC H.R H.L (i := (G.nd a).number) q0 (by omega)
  rw [q3] at x2
  have key : ∀ b : Int32, b = (if (G.nd a).cut = none then 0 else 1) → ∃ h2, f_X8_change_L391 (some S.lm) (G.nd a).number b h = some (1, h2) ∧ lNx X S.lm G.z k h2 := by
    intro b hb
    obtain ⟨r, g0, F0, n0, R0, L0, e0, fr, -⟩ := x_ln (k := k + 6) H.R H.L 4 0 (by decide)
    have tr : qu S.tg r (13, 0) r = (13, 0) := qu_eq
    have H0 := lH.of R0 L0 H.I H.g H.sx ⟨H.dr.1, by have := H.dr.2; show S.draws.toInt + (k + 6 : Nat) ≤ 900000; omega⟩ H.v
    have o0 := oL H0.R H0.L
    obtain ⟨d1, g1, F1, f1, r1, H1, e1⟩ := h_drawL (k := k + 5) H0 (n := 30) (by decide) tr e0
    rw [e30] at r1
    obtain ⟨g2, F2, w2, R2, L2, e2, -⟩ := x_ls H1.R H1.L tr e1 (j := 0) (by decide) (by decide) (d1 - 20)
    have H2 := lH.of R2 L2 H.I H.g H.sx H1.dr H.v
    have o2 := oL H2.R H2.L
    obtain ⟨d3, g3, F3, f3, r3, H3, e3⟩ := h_drawL (k := k + 4) H2 (n := 30) (by decide) tr e2
    rw [e30] at r3
    obtain ⟨g4, F4, w4, R4, L4, e4, -⟩ := x_ls H3.R H3.L tr e3 (j := 1) (by decide) (by decide) (d3 - 20)
    obtain ⟨g5, F5, w5, R5, L5, e5, -⟩ := x_ls R4 L4 tr e4 (j := 2) (by decide) (by decide) 0
    obtain ⟨g6, F6, w6, R6, L6, e6, -⟩ := x_ls R5 L5 tr e5 (j := 3) (by decide) (by decide) 0
    have H6 := lH.of R6 L6 H.I H.g H.sx H3.dr H.v
    have o6 := oL H6.R H6.L
    have p6 := faI_C (i := 0) (R6.lo _ _ e6).2 (cl_of (m := 4) (by decide) (by decide) (Nat.le_refl _))
    obtain ⟨d7, g7, F7, f7, r7, H7, e7⟩ := h_drawL (k := k + 3) H6 (n := 60) (by decide) tr e6
    rw [e60] at r7
    obtain ⟨g8, F8, w8, R8, L8, e8, -⟩ := x_ls H7.R H7.L tr e7 (j := 2) (by decide) (by decide) (d1 - 20 + d7)
    have H8 := lH.of R8 L8 H.I H.g H.sx H7.dr H.v
    have o8 := oL H8.R H8.L
    have p8 := faI_C (i := 1) (R8.lo _ _ e8).2 (cl_of (m := 4) (by decide) (by decide) (Nat.le_refl _))
    obtain ⟨d9, g9, F9, f9, r9, H9, e9⟩ := h_drawL (k := k + 2) H8 (n := 60) (by decide) tr e8
    rw [e60] at r9
    obtain ⟨g10, F10, w10, R10, L10, e10, -⟩ := x_ls H9.R H9.L tr e9 (j := 3) (by decide) (by decide) (d3 - 20 + d9)
    have H10 := lH.of R10 L10 H.I H.g H.sx H9.dr H.v
    have o10 := oL H10.R H10.L
    have x10 := gL_a5 H10.R H10.L
    obtain ⟨d11, g11, F11, f11, r11, H11, e11⟩ := h_drawL (k := k + 1) H10 (n := 4) (by decide) tr e10
    obtain ⟨gB, eB, b0, b1, b2, b3⟩ : ∃ g, F11 r = some (ri 4 g) ∧ g 0 = d1 - 20 ∧ g 1 = d3 - 20 ∧ g 2 = d1 - 20 + d7 ∧ g 3 = d3 - 20 + d9 := ⟨_, e11, rfl, rfl, rfl, rfl⟩
    have s1 : (d1 - 20).toInt = d1.toInt - 20 := by rw [i32_sub (by omega) (by omega), e20]
    have s3 : (d3 - 20).toInt = d3.toInt - 20 := by rw [i32_sub (by omega) (by omega), e20]
    have s7 : (d1 - 20 + d7).toInt = d1.toInt - 20 + d7.toInt := by rw [i32_add (by omega) (by omega), s1]
    have s9 : (d3 - 20 + d9).toInt = d3.toInt - 20 + d9.toInt := by rw [i32_add (by omega) (by omega), s3]
    have fin := fun o ho => x_479 (o := o) (b := b) (k := k) H.g H.I la hw H11.R H11.L eB tr ⟨by rw [b0]; omega, by rw [b0, b2]; omega, by rw [b2]; omega⟩ ⟨by rw [b1]; omega, by rw [b1, b3]; omega, by rw [b3]; omega⟩ ⟨rfl, rfl⟩ ⟨rfl, rfl, rfl⟩ ⟨rfl, rfl, rfl, rfl, rfl, rfl, rfl, rfl, rfl, rfl⟩ ⟨H11.dr.1, by have := H11.dr.2; omega⟩ H.sx H.v hb ho
    have p6 : faI g6 (some r) 0 0 = some (d1 - 20) := p6.trans rfl
    have p8 : faI g8 (some r) 0 1 = some (d3 - 20) := p8.trans rfl
    have o0 : fobj g0 (some S.lm) 8 = some S.lm := o0
    have o2 : fobj g2 (some S.lm) 8 = some S.lm := o2
    have o6 : fobj g6 (some S.lm) 8 = some S.lm := o6
    have o8 : fobj g8 (some S.lm) 8 = some S.lm := o8
    have o10 : fobj g10 (some S.lm) 8 = some S.lm := o10
    have x10 : fgR g10 (some S.lm) 8 8 = some (some S.a5) := x10
    have f1 : f_X8_draw S.lm 30 g0 = some (d1, g1) := f1
    have f3 : f_X8_draw S.lm 30 g2 = some (d3, g3) := f3
    have f7 : f_X8_draw S.lm 60 g6 = some (d7, g7) := f7
    have f9 : f_X8_draw S.lm 60 g8 = some (d9, g9) := f9
    have f11 : f_X8_draw S.lm 4 g10 = some (d11, g11) := f11
    unfold f_X8_change_L391
    rw [tc4, if_neg (by decide), n0, Option.bind_some]
    dsimp only
    rw [o0, Option.bind_some, f1, Option.bind_some]
    dsimp only
    rw [w2, Option.bind_some, o2, Option.bind_some, f3, Option.bind_some]
    dsimp only
    rw [w4, Option.bind_some, w5, Option.bind_some, w6, Option.bind_some, p6, Option.bind_some, o6, Option.bind_some, f7, Option.bind_some]
    dsimp only
    rw [w8, Option.bind_some, p8, Option.bind_some, o8, Option.bind_some, f9, Option.bind_some]
    dsimp only
    rw [w10, Option.bind_some, x10, Option.bind_some, o10, Option.bind_some, f11, Option.bind_some]
    dsimp only
    by_cases y : d11 = 0
    · rw [if_pos y]; exact fin none (Or.inl rfl)
    · rw [if_neg y]; exact fin (some r) (Or.inr rfl)
  rw [gL_a5 H.R H.L, Option.bind_some, x2, Option.bind_some]
  by_cases y : S.cR (G.nm a) = none
  · rw [if_pos y]
    exact key 0 (by rw [if_pos (lv.mp y)])
  · rw [if_neg y]
    exact key 1 (by rw [if_neg (fun w => y (lv.mpr w))])
theorem h_c5 (H : lH X G S F (k + 2) h) (lc : G.Lv a) (hw : a ≠ G.wh) : ∃ h2, ((fobj h (some S.lm) 8).bind fun b289 => (f_X8_any b289 h).bind fun r287 => (fobj r287.2 (some S.lm) 8).bind fun b293 => (f_X8_hang b293 (G.nd a).number r287.1 r287.2).bind fun r291 => Sum.elim (fun v295 => if v295 = 0 ∨ v295 = 1 then some (v295, r291.2) else none) (fun _ => none) r291.1) = some (1, h2) ∧ lNx X S.lm G.z k h2 := by
  obtain ⟨b, h1, f1, lb, H1⟩ := h_any (k := k + 1) H
  obtain ⟨h2, f2, N2⟩ := h_hang (k := k) H1 lb lc hw
  have o1 := oL H1.R H1.L
  have o1 : fobj h1 (some S.lm) 8 = some S.lm := o1
  have f2 : f_X8_hang S.lm (G.nd a).number (G.nd b).number h1 = some (.inl 1, h2) := f2
  refine ⟨h2, ?_, N2⟩
  rw [oL H.R H.L, Option.bind_some, f1, Option.bind_some]
  dsimp only
  rw [o1, Option.bind_some, f2, Option.bind_some]
  dsimp only [Sum.elim_inl]
  rw [if_pos (Or.inr rfl)]
theorem h_change (H : lH X G S F (k + 16) h) : ∃ h2, f_X8_change S.lm h = some (1, h2) ∧ lNx X S.lm G.z k h2 := by
  obtain ⟨a, h1, f1, la, H1⟩ := h_one (k := k + 15) H
  have o1 := oL H1.R H1.L
  have o1 : fobj h1 (some S.lm) 8 = some S.lm := o1
  unfold f_X8_change f_X8_change_L0
  rw [oL H.R H.L, Option.bind_some, f1, Option.bind_some]
  dsimp only
  by_cases z : (G.nd a).number = 0
  · rw [if_pos z]
    obtain ⟨h2, f2, N2⟩ := h_add (k := k) (H1.le (show k + 13 ≤ k + 15 by omega))
    have f2 : f_X8_add S.lm h1 = some (1, h2) := f2
    refine ⟨h2, ?_, N2⟩
    rw [o1, Option.bind_some, f2, Option.bind_some]
    dsimp only
    rw [if_pos (Or.inr rfl)]
  · rw [if_neg z]
    have hw : a ≠ G.wh := fun w => z ((H.I.n0 la.1).mpr w)
    obtain ⟨n1, n2⟩ := h_node H1 la.1 rfl
    have n1 : faR h1 (some S.a1) 4 (G.nd a).number = some (some (S.nR (G.nm a))) := n1
    have a1 := gL_a1 H1.R H1.L
    have a1 : fgR h1 (some S.lm) 8 4 = some (some S.a1) := a1
    obtain ⟨r, h2, f2, r2, H2⟩ := h_draw (k := k + 14) H1 (n := 6) (by decide)
    have f2 : f_X8_draw S.lm 6 h1 = some (r, h2) := f2
    rw [a1, Option.bind_some, n1, Option.bind_some, o1, Option.bind_some, f2, Option.bind_some]
    dsimp only
    by_cases r0 : r = 0
    · rw [if_pos r0]
      have fin := h_c0 (S := dS (dS S)) (k := k) (H2.le (show k + 2 ≤ k + 14 by omega)) la hw
      exact fin
    rw [if_neg r0]
    by_cases r1 : r = 1
    · rw [if_pos r1]
      have fin := h_c1 (S := dS (dS S)) (k := k) (H2.le (show k + 2 ≤ k + 14 by omega)) la hw
      exact fin
    rw [if_neg r1]
    by_cases r2 : r = 2
    · rw [if_pos r2]
      have fin := h_c2 (S := dS (dS S)) (k := k) (H2.le (show k + 2 ≤ k + 14 by omega)) la hw
      exact fin
    rw [if_neg r2]
    by_cases r3 : r = 3
    · rw [if_pos r3]
      have fin := h_c3 (S := dS (dS S)) (k := k) (H2.le (show k + 4 ≤ k + 14 by omega)) la hw
      exact fin
    rw [if_neg r3]
    by_cases r4 : r = 4
    · rw [if_pos r4]
      have fin := h_c4 (S := dS (dS S)) (k := k) (H2.le (show k + 7 ≤ k + 14 by omega)) la hw
      exact fin
    rw [if_neg r4]
    have fin := h_c5 (S := dS (dS S)) (k := k) (H2.le (show k + 2 ≤ k + 14 by omega)) la hw
    exact fin
end LCHG2
