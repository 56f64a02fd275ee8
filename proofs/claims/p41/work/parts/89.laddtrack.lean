/-! The law makes a track. -/
section LADDT
variable {G : qS} {F : Nat → Option fCe} {X : Nat × Nat × (Nat → Int32)} {k : Nat} {h : fSt} {a c z : Nat} {S : lS}
theorem h_drawL (H : lH X G S F (k + 1) h) {n : Int32} (hn : 0 < n.toInt) {r e : Nat} {d : fCe} (hr : S.tg r = (13, e)) (hg : F r = some d) : ∃ v h2 F2, f_X8_draw S.lm n h = some (v, h2) ∧ (0 ≤ v.toInt ∧ v.toInt < n.toInt) ∧ lH X G (dS S) F2 k h2 ∧ F2 r = some d := by
  obtain ⟨v, h2, f, r1, H2⟩ := h_draw H hn
  refine ⟨v, h2, _, f, r1, H2, ?_⟩
  have tl := H.L.tl.1
  have rl : r ≠ S.lm := fun w => by rw [← w, hr] at tl; exact absurd (congrArg Prod.fst tl) (show (13 : Nat) ≠ 5 by decide)
  rw [dF_ne S rl]
  exact hg
/-- what is linked after a new track -/
theorem lG.track {S2 : lS} {j : Nat} {ease end_ : Int32} (I : qI G) (g : lG G S) (ha : G.N a) (hj : j < 4) (hf : (G.pp (G.pr a j)).trk = 0) (hk : G.tracked.toInt < 12) (s : S2.added = S.added ∧ S2.tracks = G.tracked + 1 ∧ S2.time = S.time ∧ S2.nV = S.nV ∧ S2.oV = S.oV ∧ S2.cR = S.cR ∧ S2.kN = S.kN ∧ S2.kV = S.kV) (t1 : ∀ t : Nat, (t : Int) < G.tracked.toInt → S2.tV t = S.tV t) (t2 : S2.tV G.tracked.toNatClampNeg 0 = (G.nd a).number ∧ (S2.tV G.tracked.toNatClampNeg 1).toInt = (j : Nat)) : lG (qTrk G (G.pr a j) ease end_) S2 := by
  obtain ⟨s1, s2, s3, s4, s5, s6, s7, s8⟩ := s
  obtain ⟨k1, k2⟩ := I.T.tk
  have sA := i32_s (i := G.tracked) (by omega) (by omega)
  have nx := i32_nat k1
  have hp := I.Y.pP a j ha hj
  have eq : (qTrk G (G.pr a j) ease end_).pp (G.pr a j) = ((((G.pp (G.pr a j)).s_trk (1)).s_ease (ease)).s_end_ (end_)) := qu_eq
  have ne : ∀ p, p ≠ G.pr a j → (qTrk G (G.pr a j) ease end_).pp p = G.pp p := fun p n => qu_ne n
  have ow : ∀ p, ((qTrk G (G.pr a j) ease end_).pp p).own = (G.pp p).own := fun p => by
    by_cases z : p = G.pr a j
    · rw [z, eq]; rfl
    · rw [ne p z]
  have tr0 : ∀ t : Nat, (t : Int) < G.tracked.toInt → (qTrk G (G.pr a j) ease end_).tr t = G.tr t := fun t ht => if_neg (show t ≠ G.tracked.toNatClampNeg by omega)
  have tr1 : (qTrk G (G.pr a j) ease end_).tr G.tracked.toNatClampNeg = some (G.pr a j) := if_pos rfl
  have old : ∀ t : Nat, (t : Int) < G.tracked.toInt → G.tr t ≠ some (G.pr a j) := by
    intro t ht w
    obtain ⟨b, i, hb, hi, e1, e2, -⟩ := g.tt t ht
    rw [w] at e1
    rw [← Option.some.inj e1] at e2
    exact e2 hf
  refine ⟨s1.trans g.ad, s2, ⟨s3.trans g.tm.1, g.tm.2⟩, fun b lb => ?_, fun b hb gb => ?_, fun t ht => ?_, fun t h1 h2 => ?_, fun i hi => ?_, fun t u h1 h2 e => ?_⟩
  · have q : lNd G S b := g.lv b lb
    show lNd (qTrk G (G.pr a j) ease end_) S2 b
    exact q.cg rfl rfl rfl rfl rfl rfl (fun i _ => ow _) (by rw [s4]) (by rw [s6]) (by rw [s5])
  · show S2.nV (G.nm b) 0 = -2
    rw [s4]; exact g.go b hb gb
  · have ht : (t : Int) < (G.tracked + 1).toInt := ht
    by_cases z : (t : Int) < G.tracked.toInt
    · obtain ⟨b, i, hb, hi, e1, e2, e3, e4, e5⟩ := g.tt t z
      refine ⟨b, i, hb, hi, (tr0 t z).trans e1, ?_, by rw [t1 t z]; exact e3, by rw [t1 t z]; exact e4, fun lb => ?_⟩
      · show ((qTrk G (G.pr a j) ease end_).pp (G.pr b i)).trk ≠ 0
        rw [ne _ (fun w => old t z (by rw [e1, w]))]
        exact e2
      · have q := e5 lb
        unfold lKr at q ⊢
        rw [s7, s8]
        exact q
    · have et : t = G.tracked.toNatClampNeg := by omega
      subst et
      refine ⟨a, j, ha, hj, tr1, ?_, t2.1, t2.2, fun _ => ?_⟩
      · show ((qTrk G (G.pr a j) ease end_).pp (G.pr a j)).trk ≠ 0
        rw [eq]
        exact (show ¬ (1 : Int32) = 0 by decide)
      · have e : qTm (qTrk G (G.pr a j) ease end_) (G.pr a j) = [] := by
          show (G.kl (G.pr a j)).map _ = []
          rw [(I.K.on _ hp).un hf]
          rfl
        unfold lKr
        rw [show (qTrk G (G.pr a j) ease end_).pr a j = G.pr a j from rfl, e, s7]
        exact ⟨g.kf _ (by omega) (by omega), fun i x hx => nomatch hx⟩
  · have h2 : (G.tracked + 1).toInt ≤ t := h2
    rw [s7]
    exact g.kf t h1 (by omega)
  · rw [s6]; exact g.cf i hi
  · have h1 : (t : Int) < (G.tracked + 1).toInt := h1
    have h2 : (u : Int) < (G.tracked + 1).toInt := h2
    by_cases z1 : (t : Int) < G.tracked.toInt
    · by_cases z2 : (u : Int) < G.tracked.toInt
      · rw [tr0 t z1, tr0 u z2] at e
        exact g.td t u z1 z2 e
      · have et : u = G.tracked.toNatClampNeg := by omega
        rw [et, tr0 t z1, tr1] at e
        exact absurd e (old t z1)
    · have et : t = G.tracked.toNatClampNeg := by omega
      by_cases z2 : (u : Int) < G.tracked.toInt
      · rw [et, tr0 u z2, tr1] at e
        exact absurd e.symm (old u z2)
      · omega
theorem h_key3 (H : lH X G S F (k + 15) h) {i : Int32} (h0 : 0 ≤ i.toInt) (h1 : i.toInt + 1 = G.tracked.toInt) : ∃ h2, ((fgI h (some S.lm) 8 10).bind fun x48 => (fobj h (some S.lm) 8).bind fun b52 => (f_X8_key b52 (x48 - (1 : Int32)) h).bind fun r50 => (if r50.1 = 0 then f_X8_addTrack_L182 r50.2 else (fgI r50.2 (some S.lm) 8 10).bind fun x55 => (fobj r50.2 (some S.lm) 8).bind fun b59 => (f_X8_key b59 (x55 - (1 : Int32)) r50.2).bind fun r57 => (if r57.1 = 0 then f_X8_addTrack_L182 r57.2 else (fgI r57.2 (some S.lm) 8 10).bind fun x62 => (fobj r57.2 (some S.lm) 8).bind fun b66 => (f_X8_key b66 (x62 - (1 : Int32)) r57.2).bind fun r64 => (if r64.1 = 0 then f_X8_addTrack_L182 r64.2 else f_X8_addTrack_L183 (1 : Int32) r64.2)))) = some (1, h2) ∧ lNx X S.lm G.z k h2 := by
  have tk := H.I.T.tk
  have e1 : (1 : Int32).toInt = 1 := by decide
  have ei : G.tracked - 1 = i := Int32.toInt_inj.mp (by rw [i32_sub (by omega) (by omega)]; omega)
  obtain ⟨G1, S1, F1, g1, f1, H1, q1, q2, q3⟩ := h_key (k := k + 10) H h0 (by omega)
  obtain ⟨G2, S2, F2, g2, f2, H2, p1, p2, p3⟩ := h_key (k := k + 5) H1 (i := i) h0 (by rw [q3]; omega)
  obtain ⟨G3, S3, F3, g3, f3, H3, o1, o2, o3⟩ := h_key (k := k) H2 (i := i) h0 (by rw [p3, q3]; omega)
  rw [q1] at f2 p1
  rw [p1] at f3 o1
  have a1 : fgI g1 (some S.lm) 8 10 = some G.tracked := by have g := gL_tracks H1.R H1.L; rw [q1, H1.g.tk, q3] at g; exact g
  have a2 : fobj g1 (some S.lm) 8 = some S.lm := by have g := oL H1.R H1.L; rw [q1] at g; exact g
  have b1 : fgI g2 (some S.lm) 8 10 = some G.tracked := by have g := gL_tracks H2.R H2.L; rw [p1, H2.g.tk, p3, q3] at g; exact g
  have b2 : fobj g2 (some S.lm) 8 = some S.lm := by have g := oL H2.R H2.L; rw [p1] at g; exact g
  have n1 : ¬ (1 : Int32) = 0 := by decide
  refine ⟨g3, ?_, G3, S3, F3, H3, o1, by rw [o2, p2, q2]⟩
  unfold f_X8_addTrack_L183
  rw [gL_tracks H.R H.L, Option.bind_some, oL H.R H.L, Option.bind_some, H.g.tk, ei, f1, Option.bind_some]
  dsimp only
  rw [if_neg n1, a1, Option.bind_some, a2, Option.bind_some, ei, f2, Option.bind_some]
  dsimp only
  rw [if_neg n1, b1, Option.bind_some, b2, Option.bind_some, ei, f3, Option.bind_some]
  dsimp only
  rw [if_neg n1, if_pos (Or.inr rfl)]
theorem h_addTrackL (H : lH X G S F (k + 18) h) (la : G.Lv a) (hw : a ≠ G.wh) {w : Int32} (hj : 0 ≤ w.toInt ∧ w.toInt ≤ 3) (h12 : G.tracked.toInt < 12) : ∀ (m n : Nat) (i : Int32), m < n → 0 ≤ i.toInt → i.toInt + m = G.tracked.toInt → (∀ t : Nat, (t : Int) < i.toInt → ¬ (S.tV t 0 = (G.nd a).number ∧ S.tV t 1 = w)) → ∃ h2, f_X8_addTrack_L28 n (some S.lm) (G.nd a).number w i h = some (1, h2) ∧ lNx X S.lm G.z k h2
  | 0, n + 1, i, hn, h0, e, hv => by
    obtain ⟨tc0, tc1, tc2, tc3, tc4, -, -, -, -, -, -⟩ := tc
    have nw := i32_nat hj.1
    have v6 := H.v.2.2
    rw [H.g.tk] at v6
    have e3 : (3 : Int32).toInt = 3 := by decide
    -- not tracked yet
    have hf : (G.pp (G.pr a w.toNatClampNeg)).trk = 0 := by
      apply Classical.byContradiction
      intro z
      obtain ⟨t, ht, et⟩ := H.I.T.un _ (H.I.Y.pP a w.toNatClampNeg la.1 (by omega)) z
      obtain ⟨b, j, hb, hj2, e1, -, e3', e4', -⟩ := H.g.tt t ht
      rw [et] at e1
      obtain ⟨x1, x2⟩ := H.I.Y.inj a b w.toNatClampNeg j la.1 hb (by omega) hj2 (Option.some.inj e1)
      refine hv t (by omega) ⟨by rw [e3', x1], Int32.toInt_inj.mp ?_⟩
      rw [e4']; omega
    obtain ⟨r, g0, F0, n0, R0, L0, e0, fr, o0⟩ := x_ln (k := k + 17) H.R H.L 4 0 (by decide)
    have tr : qu S.tg r (13, 0) r = (13, 0) := qu_eq
    have H0 := lH.of R0 L0 H.I H.g H.sx ⟨H.dr.1, by have := H.dr.2; show S.draws.toInt + (k + 17 : Nat) ≤ 900000; omega⟩ H.v
    obtain ⟨g1, F1, w1, R1, L1, x1, -⟩ := x_ls H0.R H0.L tr e0 (j := 0) (by decide) (by decide) (G.nd a).number
    obtain ⟨g2, F2, w2, R2, L2, x2, -⟩ := x_ls R1 L1 tr x1 (j := 1) (by decide) (by decide) w
    have H2 := lH.of R2 L2 H.I H.g H.sx H0.dr H.v
    obtain ⟨d1, g3, F3, f3, r3, H3, x3⟩ := h_drawL (k := k + 16) H2 (n := 3) (by decide) tr x2
    obtain ⟨g4, F4, w4, R4, L4, x4, -⟩ := x_ls H3.R H3.L tr x3 (j := 2) (by decide) (by decide) d1
    have H4 := lH.of R4 L4 H.I H.g H.sx H3.dr H.v
    obtain ⟨d2, g5, F5, f5, r5, H5, x5⟩ := h_drawL (k := k + 15) H4 (n := 3) (by decide) tr x4
    obtain ⟨g6, F6, w6, R6, L6, x6, -⟩ := x_ls H5.R H5.L tr x5 (j := 3) (by decide) (by decide) d2
    rw [e3] at r3 r5
    obtain ⟨gT, eT, y0, y1, y2, y3⟩ : ∃ g, F6 r = some (ri 4 g) ∧ g 0 = (G.nd a).number ∧ g 1 = w ∧ g 2 = d1 ∧ g 3 = d2 := ⟨_, x6, rfl, rfl, rfl, rfl⟩
    obtain ⟨S6, eS6⟩ : ∃ S6, S6 = dS (dS (S.s_tg (qu S.tg r (13, 0)))) := ⟨_, rfl⟩
    rw [← eS6] at L6 H5
    have tr6 : S6.tg r = (13, 0) := by rw [eS6]; exact tr
    have q6 : S6.lm = S.lm ∧ S6.a6 = S.a6 ∧ S6.tracks = S.tracks ∧ S6.v6 = S.v6 ∧ S6.tV = S.tV := by rw [eS6]; exact ⟨rfl, rfl, rfl, rfl, rfl⟩
    have p6 : S6.added = S.added ∧ S6.time = S.time ∧ S6.nV = S.nV ∧ S6.oV = S.oV ∧ S6.cR = S.cR ∧ S6.kN = S.kN ∧ S6.kV = S.kV ∧ S6.sc = S.sc ∧ S6.v1 = S.v1 ∧ S6.v2 = S.v2 := by rw [eS6]; exact ⟨rfl, rfl, rfl, rfl, rfl, rfl, rfl, rfl, rfl, rfl⟩
    have dr6 := H5.dr
    obtain ⟨g7, c7, w7, R7, L7⟩ := stT R6 L6 (i := G.tracked) tr6 eT (by rw [q6.2.2.2.1]; omega) (by rw [q6.2.2.2.1]; omega)
    obtain ⟨S7, eS7⟩ : ∃ S7, S7 = (((S6.s_tg (qu S6.tg r (2, S6.v6))).s_tR (qu S6.tR S6.v6 r)).s_tV (qu S6.tV S6.v6 gT)).s_v6 (S6.v6 + 1) := ⟨_, rfl⟩
    rw [← eS7] at L7
    have q7 : S7.lm = S.lm ∧ S7.tracks = S.tracks ∧ S7.v6 = S.v6 + 1 ∧ S7.tV = qu S.tV S.v6 gT ∧ S7.tR S.v6 = r := by
      rw [eS7]
      refine ⟨q6.1, q6.2.2.1, ?_, ?_, ?_⟩
      · show S6.v6 + 1 = _
        rw [q6.2.2.2.1]
      · show qu S6.tV S6.v6 gT = _
        rw [q6.2.2.2.1, q6.2.2.2.2]
      · show qu S6.tR S6.v6 r S.v6 = r
        rw [q6.2.2.2.1, qu_eq]
    have p7 : S7.added = S.added ∧ S7.time = S.time ∧ S7.nV = S.nV ∧ S7.oV = S.oV ∧ S7.cR = S.cR ∧ S7.kN = S.kN ∧ S7.kV = S.kV ∧ S7.sc = S.sc ∧ S7.v1 = S.v1 ∧ S7.v2 = S.v2 := by rw [eS7]; exact p6
    have d7 : S7.draws = S6.draws := by rw [eS7]; rfl
    clear eS7
    have a7 := gL_sc_ R7 L7
    rw [q7.1] at a7
    have b7 := vT R7 L7 (i := S.v6) (by rw [q7.2.2.1]; omega) (j := 2) (by decide) (by decide)
    have c7' := vT R7 L7 (i := S.v6) (by rw [q7.2.2.1]; omega) (j := 3) (by decide) (by decide)
    rw [q7.2.2.2.2, q7.2.2.2.1, qu_eq, tc2, y2] at b7
    rw [q7.2.2.2.2, q7.2.2.2.1, qu_eq, tc3, y3] at c7'
    have e2 : (2 : Int32).toInt = 2 := by decide
    obtain ⟨g8, f8, R8⟩ := m_track R7 H.I.V (i := (G.nd a).number) (w := w) (ease := d1) (end_ := d2) (H.I.is la) hw hj (by omega) (by omega) hf h12
    have I8 := H.I.trk (a := a) (j := w.toNatClampNeg) la.1 (by omega) hw d1 d2 h12
    have lg := fun S8 s t1 t2 => lG.track (S2 := S8) (ease := d1) (end_ := d2) H.I H.g la.1 (show w.toNatClampNeg < 4 by omega) hf h12 s t1 t2
    have z8 : (qTrk G (G.pr a w.toNatClampNeg) d1 d2).z = G.z := rfl
    have k8 : (qTrk G (G.pr a w.toNatClampNeg) d1 d2).tracked = G.tracked + 1 := rfl
    generalize qTrk G (G.pr a w.toNatClampNeg) d1 d2 = G8 at *
    have L8 : lF S7 (qu F6 S6.a6 (some c7)) G8.z := by rw [z8]; exact L7
    have sA := i32_s (i := G.tracked) (by omega) (by omega)
    obtain ⟨g9, w9, R9, L9⟩ := wL_tracks R8 L8 (v := G.tracked + 1) ⟨by omega, by rw [q7.2.2.1]; omega⟩
    have nt := i32_nat (i := G.tracked) (by omega)
    have H9 := lH.of R9 L9 I8 (lg _ ⟨p7.1, rfl, p7.2.1, p7.2.2.1, p7.2.2.2.1, p7.2.2.2.2.1, p7.2.2.2.2.2.1, p7.2.2.2.2.2.2.1⟩ (fun t ht => by
      show S7.tV t = S.tV t
      rw [q7.2.2.2.1, qu_ne (show t ≠ S.v6 by omega)]) (by
      show S7.tV G.tracked.toNatClampNeg 0 = _ ∧ (S7.tV G.tracked.toNatClampNeg 1).toInt = _
      rw [q7.2.2.2.1, show G.tracked.toNatClampNeg = S.v6 by omega, qu_eq, y0, y1]
      exact ⟨rfl, by omega⟩)) (by show S7.sc = _ ∧ _; rw [p7.2.2.2.2.2.2.2.1]; exact H.sx) ⟨by show 0 ≤ S7.draws.toInt; rw [d7]; exact dr6.1, by show S7.draws.toInt + (k + 15 : Nat) ≤ 900000; rw [d7]; exact dr6.2⟩ ⟨by show (S7.v1 : Int) = S7.added.toInt; rw [p7.2.2.2.2.2.2.2.2.1, p7.1]; exact H.v.1, by show (S7.v2 : Int) = S7.added.toInt; rw [p7.2.2.2.2.2.2.2.2.2, p7.1]; exact H.v.2.1, by show (S7.v6 : Int) = (G.tracked + 1).toInt; rw [q7.2.2.1]; omega⟩
    obtain ⟨h2, f9, N9⟩ := h_key3 (k := k) H9 (i := G.tracked) (by omega) (by rw [k8]; omega)
    have lm9 : (S7.s_tracks (G.tracked + 1)).lm = S.lm := q7.1
    rw [lm9] at f9 N9
    rw [z8] at N9
    refine ⟨h2, ?_, N9⟩
    have o2 : fobj g2 (some S.lm) 8 = some S.lm := by have g := oL H2.R H2.L; exact g
    have o4 : fobj g4 (some S.lm) 8 = some S.lm := by have g := oL H4.R H4.L; exact g
    have f3 : f_X8_draw S.lm 3 g2 = some (d1, g3) := f3
    have f5 : f_X8_draw S.lm 3 g4 = some (d2, g5) := f5
    have a6 : fgR g6 (some S.lm) 8 11 = some (some S.a6) := by have g := gL_a6 R6 L6; rw [q6.1, q6.2.1] at g; exact g
    have t6 : fgI g6 (some S.lm) 8 10 = some G.tracked := by have g := gL_tracks R6 L6; rw [q6.1, q6.2.2.1, H.g.tk] at g; exact g
    have t8 : fgI g8 (some S.lm) 8 10 = some G.tracked := by have g := gL_tracks R8 L8; rw [q7.1, q7.2.1, H.g.tk] at g; exact g
    rw [q6.2.1] at w7
    rw [q7.1] at w9
    rw [st_X8_addTrack_L28, gL_tracks H.R H.L, Option.bind_some, H.g.tk, if_pos (i32_le (by omega)), tc4, if_neg (by decide), n0, Option.bind_some]
    dsimp only
    rw [w1, Option.bind_some, w2, Option.bind_some, o2, Option.bind_some, f3, Option.bind_some]
    dsimp only
    rw [w4, Option.bind_some, o4, Option.bind_some, f5, Option.bind_some]
    dsimp only
    rw [w6, Option.bind_some, a6, Option.bind_some, t6, Option.bind_some, w7, Option.bind_some, a7, Option.bind_some, b7, Option.bind_some, c7', Option.bind_some, oS R7, Option.bind_some, f8, Option.bind_some]
    dsimp only [Sum.elim_inl]
    rw [t8, Option.bind_some, w9, Option.bind_some, if_pos rfl]
    exact f9
  | m + 1, n + 1, i, hn, h0, e, hv => by
    have nx := i32_nat h0
    have v6 := H.v.2.2
    rw [H.g.tk] at v6
    have s1 := i32_s (i := i) (by omega) (by omega)
    have b3 := vT H.R H.L (i := i.toNatClampNeg) (by omega) (j := 0) (by decide) (by decide)
    have b4 := vT H.R H.L (i := i.toNatClampNeg) (by omega) (j := 1) (by decide) (by decide)
    rw [show (0 : Int32).toNatClampNeg = 0 by decide] at b3
    rw [show (1 : Int32).toNatClampNeg = 1 by decide] at b4
    rw [st_X8_addTrack_L28, gL_tracks H.R H.L, Option.bind_some, H.g.tk, if_neg (i32_nle (by omega)), gL_a6 H.R H.L, Option.bind_some, rT H.R H.L h0 (by omega), Option.bind_some, b3, Option.bind_some]
    have nxt : ¬ (S.tV i.toNatClampNeg 0 = (G.nd a).number ∧ S.tV i.toNatClampNeg 1 = w) → ∃ h2, f_X8_addTrack_L66 (f_X8_addTrack_L28 n) (some S.lm) (G.nd a).number w i h = some (1, h2) ∧ lNx X S.lm G.z k h2 := by
      intro y
      unfold f_X8_addTrack_L66
      refine h_addTrackL H la hw hj h12 m n (i + 1) (by omega) (by omega) (by omega) (fun t ht => ?_)
      by_cases q : t = i.toNatClampNeg
      · rw [q]; exact y
      · exact hv t (by omega)
    by_cases q1 : S.tV i.toNatClampNeg 0 = (G.nd a).number
    · rw [if_pos q1, Option.bind_some, rT H.R H.L h0 (by omega), Option.bind_some, b4, Option.bind_some]
      by_cases q2 : S.tV i.toNatClampNeg 1 = w
      · obtain ⟨G2, S2, F2, h2, f2, H2, y1, y2, y3⟩ := h_key (k := k + 13) H h0 (by omega)
        rw [if_pos q2, oL H.R H.L, Option.bind_some, f2, Option.bind_some]
        dsimp only
        rw [if_pos (Or.inr rfl)]
        exact ⟨h2, rfl, G2, S2, F2, H2.le (by omega), y1, y2⟩
      · rw [if_neg q2]
        exact nxt (fun y => q2 y.2)
    · rw [if_neg q1]
      exact nxt (fun y => q1 y.1)
theorem h_addTrack (H : lH X G S F (k + 20) h) : ∃ h2, f_X8_addTrack S.lm h = some (1, h2) ∧ lNx X S.lm G.z k h2 := by
  have e4 : (4 : Int32).toInt = 4 := by decide
  obtain ⟨a, h1, f1, la, H1⟩ := h_one (k := k + 19) H
  obtain ⟨w, h2, f2, r2, H2⟩ := h_draw (k := k + 18) H1 (n := 4) (by decide)
  rw [e4] at r2
  have f2 : f_X8_draw S.lm 4 h1 = some (w, h2) := f2
  have o1 : fobj h1 (some S.lm) 8 = some S.lm := by have g := oL H1.R H1.L; exact g
  have t2 : fgI h2 (some S.lm) 8 10 = some G.tracked := by have g := gL_tracks H2.R H2.L; rw [H2.g.tk] at g; exact g
  unfold f_X8_addTrack f_X8_addTrack_L0 f_X8_addTrack_L24
  rw [oL H.R H.L, Option.bind_some, f1, Option.bind_some]
  dsimp only
  rw [o1, Option.bind_some, f2, Option.bind_some]
  dsimp only
  by_cases q : (G.nd a).number = 0
  · rw [if_pos q]
    exact ⟨h2, rfl, G, _, _, H2.le (by omega), rfl, rfl⟩
  · rw [if_neg q, t2, Option.bind_some]
    by_cases q2 : G.tracked = 12
    · rw [if_pos q2]
      exact ⟨h2, rfl, G, _, _, H2.le (by omega), rfl, rfl⟩
    · rw [if_neg q2]
      have tk := H.I.T.tk
      have h12 : G.tracked.toInt < 12 := by
        have : G.tracked.toInt ≠ 12 := fun y => q2 (Int32.toInt_inj.mp (y.trans (by decide)))
        omega
      have e0 : (0 : Int32).toInt = 0 := by decide
      exact h_addTrackL H2 la (fun y => q ((H.I.n0 la.1).mpr y)) ⟨r2.1, by omega⟩ h12 G.tracked.toInt.toNat 4096 0 (by omega) (by decide) (by omega) (fun t ht => by omega)
end LADDT
