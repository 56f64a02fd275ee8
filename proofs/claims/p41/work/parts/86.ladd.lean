/-! The law adds a node. -/
section LADD
variable {G : qS} {F : Nat → Option fCe} {X : Nat × Nat × (Nat → Int32)} {k : Nat} {h : fSt} {a c z : Nat} {S : lS}
/-- a loose row written -/
theorem x_ls (R : qR G F X k h) (L : lF S F z) {r e n : Nat} {g : Nat → Int32} (hr : S.tg r = (13, e)) (hg : F r = some (ri n g)) {j : Int32} (h0 : 0 ≤ j.toInt) (h1 : j.toInt < n) (x : Int32) : ∃ h2 F2, fsI h (some r) 0 j x = some h2 ∧ qR G F2 X k h2 ∧ lF S F2 z ∧ F2 r = some (ri n (upd g j.toNatClampNeg x)) ∧ ∀ y, y ≠ r → F2 y = F y :=
  ⟨_, qu F r (some (ri n (upd g j.toNatClampNeg x))), fsI_C (R.lo _ _ hg).2 (cl_of h0 h1 (Nat.le_refl _)), R.setF hg (Or.inr (Or.inl rfl)), L.loose hr _, qu_eq, fun y q => qu_ne q⟩
/-- a loose row made -/
theorem x_ln (R : qR G F X (k + 1) h) (L : lF S F z) (n e : Nat) (hn : n ≤ 20) : ∃ r h2 F2, fnew h (.inr (0, n, .inl (fun _ => 0))) n = some (r, h2) ∧ qR G F2 X k h2 ∧ lF (S.s_tg (qu S.tg r (13, e))) F2 z ∧ F2 r = some (ri n (fun _ => 0)) ∧ F r = none ∧ ∀ y, y ≠ r → F2 y = F y := by
  have rm := R.rm
  have fr := R.fresh.2.2.2.2
  exact ⟨fZ h, _, qu F (fZ h) (some (ri n (fun _ => 0))), fnew_C (by omega) (by omega), R.newF (Or.inr (Or.inl rfl)) hn, L.fresh fr _ _, qu_eq, fr, fun y q => qu_ne q⟩
def lPt (S : lS) (S2 : lS) (p : Int32) : Prop :=
  (∃ g, S2.nV = qu S.nV S.v1 g ∧ g 0 = p ∧ g 4 = 1 ∧ g 5 = 1 ∧ g 6 = 0) ∧
  (∃ g, S2.oV = qu S.oV S.v2 g ∧ g 0 = 0 ∧ g 2 = 0 ∧ g 3 = 100) ∧
  (S2.v1 = S.v1 + 1 ∧ S2.v2 = S.v2 + 1 ∧ S2.v6 = S.v6) ∧
  (S2.lm = S.lm ∧ S2.added = S.added ∧ S2.tracks = S.tracks ∧ S2.time = S.time ∧ S2.draws = S.draws ∧ S2.sc = S.sc ∧ S2.cR = S.cR ∧ S2.tV = S.tV ∧ S2.kN = S.kN ∧ S2.kV = S.kV)
theorem lPt.n {S : lS}{S2 : lS}{p : Int32} (hq0 : lPt S S2 p) : ∃ g, S2.nV = qu S.nV S.v1 g ∧ g 0 = p ∧ g 4 = 1 ∧ g 5 = 1 ∧ g 6 = 0 := hq0.1
theorem lPt.o {S : lS}{S2 : lS}{p : Int32} (hq0 : lPt S S2 p) : ∃ g, S2.oV = qu S.oV S.v2 g ∧ g 0 = 0 ∧ g 2 = 0 ∧ g 3 = 100 := hq0.2.1
theorem lPt.v {S : lS}{S2 : lS}{p : Int32} (hq0 : lPt S S2 p) : S2.v1 = S.v1 + 1 ∧ S2.v2 = S.v2 + 1 ∧ S2.v6 = S.v6 := hq0.2.2.1
theorem lPt.s {S : lS}{S2 : lS}{p : Int32} (hq0 : lPt S S2 p) : S2.lm = S.lm ∧ S2.added = S.added ∧ S2.tracks = S.tracks ∧ S2.time = S.time ∧ S2.draws = S.draws ∧ S2.sc = S.sc ∧ S2.cR = S.cR ∧ S2.tV = S.tV ∧ S2.kN = S.kN ∧ S2.kV = S.kV := hq0.2.2.2
theorem x_put8 (R : qR G F X (k + 2) h) (L : lF S F z) {i p kd w hh : Int32} (h1 : i.toInt = S.v1) (h2 : i.toInt = S.v2) (h3 : S.v1 < 30) : ∃ S2 F2 h2, f_X8_put S.lm i p kd w hh h = some ((), h2) ∧ qR G F2 X k h2 ∧ lF S2 F2 z ∧ lPt S S2 p := by
  obtain ⟨tc0, tc1, tc2, tc3, tc4, tc5, tc6, tc7, tc8, -, -⟩ := tc
  obtain ⟨r, g0, F0, n0, R0, L0, e0, fr, o0⟩ := x_ln (k := k + 1) R L 8 0 (by decide)
  have tr : (S.s_tg (qu S.tg r (13, 0))).tg r = (13, 0) := by
    show qu S.tg r (13, 0) r = (13, 0)
    exact qu_eq
  have tl : (S.s_tg (qu S.tg r (13, 0))).tg S.lm = (5, 0) := L0.tl.1
  have rl : r ≠ S.lm := fun w => by rw [← w, tr] at tl; exact absurd (congrArg Prod.fst tl) (show (13 : Nat) ≠ 5 by decide)
  obtain ⟨S0, eS0⟩ : ∃ S0, S0 = S.s_tg (qu S.tg r (13, 0)) := ⟨_, rfl⟩
  rw [← eS0] at L0 tr tl
  have q0 : S0.lm = S.lm ∧ S0.a1 = S.a1 ∧ S0.a2 = S.a2 ∧ S0.hangs = S.hangs ∧ S0.v1 = S.v1 ∧ S0.v2 = S.v2 ∧ S0.nV = S.nV ∧ S0.oV = S.oV := by rw [eS0]; exact ⟨rfl, rfl, rfl, rfl, rfl, rfl, rfl, rfl⟩
  have q1 : S0.v6 = S.v6 ∧ S0.added = S.added ∧ S0.tracks = S.tracks ∧ S0.time = S.time ∧ S0.draws = S.draws ∧ S0.sc = S.sc ∧ S0.cR = S.cR ∧ S0.tV = S.tV ∧ S0.kN = S.kN ∧ S0.kV = S.kV := by rw [eS0]; exact ⟨rfl, rfl, rfl, rfl, rfl, rfl, rfl, rfl, rfl, rfl⟩
  clear eS0
  obtain ⟨b1, F1, w1, R1, L1, e1, o1⟩ := x_ls R0 L0 tr e0 (j := 0) (by decide) (by decide) p
  obtain ⟨b2, F2, w2, R2, L2, e2, o2⟩ := x_ls R1 L1 tr e1 (j := 1) (by decide) (by decide) kd
  obtain ⟨b3, F3, w3, R3, L3, e3, o3⟩ := x_ls R2 L2 tr e2 (j := 2) (by decide) (by decide) w
  obtain ⟨b4, F4, w4, R4, L4, e4, o4⟩ := x_ls R3 L3 tr e3 (j := 3) (by decide) (by decide) hh
  obtain ⟨b5, F5, w5, R5, L5, e5, o5⟩ := x_ls R4 L4 tr e4 (j := 4) (by decide) (by decide) 1
  obtain ⟨b6, F6, w6, R6, L6, e6, o6⟩ := x_ls R5 L5 tr e5 (j := 5) (by decide) (by decide) 1
  obtain ⟨b7, F7, w7, R7, L7, e7, o7⟩ := x_ls R6 L6 tr e6 (j := 6) (by decide) (by decide) 0
  have gh := gL_hangs R7 L7
  obtain ⟨b8, w8, R8, L8⟩ := wL_hangs R7 L7 (S0.hangs + 1)
  have e8 := (qu_ne (f := F7) (v := some ((S0.s_hangs (S0.hangs + 1)).c z)) (show r ≠ S0.lm by rw [q0.1]; exact rl)).trans e7
  obtain ⟨b9, F9, w9, R9, L9, e9, o9⟩ := x_ls R8 L8 (show (S0.s_hangs (S0.hangs + 1)).tg r = (13, 0) from tr) e8 (j := 7) (by decide) (by decide) S0.hangs
  obtain ⟨r2, c0, F10, n10, R10, L10, e10, fr10, o10⟩ := x_ln (k := k) R9 L9 4 1 (by decide)
  have rr : r ≠ r2 := fun w => by rw [w, fr10] at e9; cases e9
  obtain ⟨S1, eS1⟩ : ∃ S1, S1 = (S0.s_hangs (S0.hangs + 1)).s_tg (qu (S0.s_hangs (S0.hangs + 1)).tg r2 (13, 1)) := ⟨_, rfl⟩
  rw [← eS1] at L10
  have tr1 : S1.tg r = (13, 0) := by
    rw [eS1]
    show qu S0.tg r2 (13, 1) r = _
    rw [qu_ne rr]; exact tr
  have tr2 : S1.tg r2 = (13, 1) := by
    rw [eS1]
    show qu S0.tg r2 (13, 1) r2 = _
    exact qu_eq
  have q2 : S1.lm = S.lm ∧ S1.a1 = S.a1 ∧ S1.a2 = S.a2 ∧ S1.v1 = S.v1 ∧ S1.v2 = S.v2 ∧ S1.nV = S.nV ∧ S1.oV = S.oV := by rw [eS1]; exact ⟨q0.1, q0.2.1, q0.2.2.1, q0.2.2.2.2.1, q0.2.2.2.2.2.1, q0.2.2.2.2.2.2.1, q0.2.2.2.2.2.2.2⟩
  have q3 : S1.v6 = S.v6 ∧ S1.added = S.added ∧ S1.tracks = S.tracks ∧ S1.time = S.time ∧ S1.draws = S.draws ∧ S1.sc = S.sc ∧ S1.cR = S.cR ∧ S1.tV = S.tV ∧ S1.kN = S.kN ∧ S1.kV = S.kV := by rw [eS1]; exact q1
  clear eS1
  have e11 := (o10 r rr).trans e9
  obtain ⟨d1, F11, y1, Q1, M1, x1, u1⟩ := x_ls R10 L10 tr2 e10 (j := 0) (by decide) (by decide) 0
  obtain ⟨d2, F12, y2, Q2, M2, x2, u2⟩ := x_ls Q1 M1 tr2 x1 (j := 1) (by decide) (by decide) 0
  obtain ⟨d3, F13, y3, Q3, M3, x3, u3⟩ := x_ls Q2 M2 tr2 x2 (j := 2) (by decide) (by decide) 0
  obtain ⟨d4, F14, y4, Q4, M4, x4, u4⟩ := x_ls Q3 M3 tr2 x3 (j := 3) (by decide) (by decide) 100
  have e12 := ((u4 r rr).trans ((u3 r rr).trans ((u2 r rr).trans (u1 r rr)))).trans e11
  obtain ⟨gA, eA, vA⟩ : ∃ g, F14 r = some (ri 8 g) ∧ g 0 = p ∧ g 4 = 1 ∧ g 5 = 1 ∧ g 6 = 0 := ⟨_, e12, rfl, rfl, rfl, rfl⟩
  obtain ⟨gB, eB, vB⟩ : ∃ g, F14 r2 = some (ri 4 g) ∧ g 0 = 0 ∧ g 2 = 0 ∧ g 3 = 100 := ⟨_, x4, rfl, rfl, rfl⟩
  have ga1 := gL_a1 Q4 M4
  obtain ⟨d5, c5, y5, Q5, M5⟩ := stN Q4 M4 (i := i) tr1 eA (by rw [q2.2.2.2.1]; exact h1) (by rw [q2.2.2.2.1]; exact h3)
  have ga2 := gL_a2 Q5 M5
  have a1t := M4.tl.2.1
  have ra : r2 ≠ S1.a1 := fun w => by rw [← w, tr2] at a1t; exact absurd (congrArg Prod.fst a1t) (show (13 : Nat) ≠ 6 by decide)
  have x5 := (qu_ne (f := F14) (v := some c5) ra).trans eB
  have t5 : qu S1.tg r (0, S1.v1) r2 = (13, 1) := (qu_ne rr.symm).trans tr2
  obtain ⟨d6, c6, y6, Q6, M6⟩ := stO Q5 M5 (i := i) t5 x5 (by show i.toInt = S1.v2; rw [q2.2.2.2.2.1]; exact h2) (by show S1.v2 < 30; rw [q2.2.2.2.2.1]; omega)
  refine ⟨_, _, d6, ?_, Q6, M6, ⟨gA, ?_, vA⟩, ⟨gB, ?_, vB⟩, ⟨?_, ?_, ?_⟩, ⟨?_, ?_, ?_, ?_, ?_, ?_, ?_, ?_, ?_, ?_⟩⟩
  · unfold f_X8_put f_X8_put_L0
    rw [tc8, if_neg (by decide), n0, Option.bind_some]
    dsimp only
    rw [w1, Option.bind_some, w2, Option.bind_some, w3, Option.bind_some, w4, Option.bind_some, w5, Option.bind_some, w6, Option.bind_some, w7, Option.bind_some]
    rw [q0.1] at gh w8
    rw [gh, Option.bind_some, w8, Option.bind_some, w9, Option.bind_some, tc4, if_neg (by decide), n10, Option.bind_some]
    dsimp only
    rw [y1, Option.bind_some, y2, Option.bind_some, y3, Option.bind_some, y4, Option.bind_some]
    rw [q2.1] at ga1
    rw [ga1, Option.bind_some, y5, Option.bind_some]
    have ga2 : fgR d5 (some S1.lm) 8 5 = some (some S1.a2) := ga2
    rw [q2.1] at ga2
    have y6 : fsA d5 (some S1.a2) 4 0 i (some r2) = some d6 := y6
    rw [ga2, Option.bind_some, y6, Option.bind_some]
  · show qu S1.nV S1.v1 _ = _
    rw [q2.2.2.2.1, q2.2.2.2.2.2.1]
  · show qu S1.oV S1.v2 _ = _
    rw [q2.2.2.2.2.1, q2.2.2.2.2.2.2]
  · show S1.v1 + 1 = _
    rw [q2.2.2.2.1]
  · show S1.v2 + 1 = _
    rw [q2.2.2.2.2.1]
  · exact q3.1
  · exact q2.1
  · exact q3.2.1
  · exact q3.2.2.1
  · exact q3.2.2.2.1
  · exact q3.2.2.2.2.1
  · exact q3.2.2.2.2.2.1
  · exact q3.2.2.2.2.2.2.1
  · exact q3.2.2.2.2.2.2.2.1
  · exact q3.2.2.2.2.2.2.2.2.1
  · exact q3.2.2.2.2.2.2.2.2.2
/-- what is linked after a node more -/
theorem lG.add {H1 : qS} {S2 : lS} {m p0 p1 p2 p3 f : Nat} {kind w hh : Int32} (I : qI G) (g : lG G S) (n : qNw G m p0 p1 p2 p3 f) (A : qAf G H1 m p0 p1 p2 p3 f kind w hh) (la : G.Lv a) (had : G.added.toInt < 30) (vv : (S.v1 : Int) = G.added.toInt ∧ (S.v2 : Int) = G.added.toInt) (Q : lPt S S2 (G.nd a).number) {S3 : lS} (e3 : S3 = S2.s_added (G.added + 1)) : lG (qLO (qTake H1 a m)) S3 := by
  obtain ⟨a1, a2⟩ := I.A.ad
  obtain ⟨t1, t2, t3, t4, t5, t6⟩ := A.st
  obtain ⟨g1, n1, n2, n3, n4, n5⟩ := Q.n
  obtain ⟨g2, o1, o2, o3, o4⟩ := Q.o
  obtain ⟨s1, s2, s3, s4, s5, s6, s7, s8, s9, s10⟩ := Q.s
  have am : a ≠ m := fun z => n.m (by rw [← z]; exact la.1)
  have ne : ∀ {b}, G.N b → b ≠ m := fun hb z => n.m (by rw [← z]; exact hb)
  have f_ : ∀ {α : Type} (f : qN → α), (∀ q v, f (qN.s_fst q v) = f q) → (∀ q v, f (qN.s_nxt q v) = f q) → (∀ q v, f (qN.s_par q v) = f q) → ∀ b, f ((qTake H1 a m).nd b) = f (H1.nd b) := fun f h1 h2 h3 b => take_f f h1 h2 h3 b
  have s_ : ∀ {β : Type} (f : qS → β), (∀ q b n, f (qS.setN q b n) = f q) → (∀ q v, f (qS.s_kd q v) = f q) → f (qTake H1 a m) = f H1 := fun f h1 h2 => take_st f h1 h2
  have N_ : (qLO (qTake H1 a m)).N = H1.N := by rw [lo_N]; exact s_ qS.N (fun _ _ _ => rfl) (fun _ _ => rfl)
  have pr_ : (qLO (qTake H1 a m)).pr = H1.pr := by rw [lo_pr]; exact s_ qS.pr (fun _ _ _ => rfl) (fun _ _ => rfl)
  have pp_ : (qLO (qTake H1 a m)).pp = H1.pp := by rw [lo_pp]; exact s_ qS.pp (fun _ _ _ => rfl) (fun _ _ => rfl)
  have nu_ : ∀ b, ((qLO (qTake H1 a m)).nd b).number = (H1.nd b).number := fun b => by rw [lon_number]; exact f_ qN.number (fun _ _ => rfl) (fun _ _ => rfl) (fun _ _ => rfl) b
  have go_ : ∀ b, ((qLO (qTake H1 a m)).nd b).gone = (H1.nd b).gone := fun b => by rw [lon_gone]; exact f_ qN.gone (fun _ _ => rfl) (fun _ _ => rfl) (fun _ _ => rfl) b
  have ov_ : ∀ b, ((qLO (qTake H1 a m)).nd b).over = (H1.nd b).over := fun b => by rw [lon_over]; exact f_ qN.over (fun _ _ => rfl) (fun _ _ => rfl) (fun _ _ => rfl) b
  have un_ : ∀ b, ((qLO (qTake H1 a m)).nd b).under = (H1.nd b).under := fun b => by rw [lon_under]; exact f_ qN.under (fun _ _ => rfl) (fun _ _ => rfl) (fun _ _ => rfl) b
  have ly_ : ∀ b, ((qLO (qTake H1 a m)).nd b).layer = (H1.nd b).layer := fun b => by rw [lon_layer]; exact f_ qN.layer (fun _ _ => rfl) (fun _ _ => rfl) (fun _ _ => rfl) b
  have cu_ : ∀ b, ((qLO (qTake H1 a m)).nd b).cut = (H1.nd b).cut := fun b => by rw [lon_cut]; exact f_ qN.cut (fun _ _ => rfl) (fun _ _ => rfl) (fun _ _ => rfl) b
  have pa_ : ∀ b, ((qLO (qTake H1 a m)).nd b).par = if b = m then some a else (H1.nd b).par := fun b => by rw [lon_par, take_par]
  have tm_ : ∀ p, qTm (qLO (qTake H1 a m)) p = qTm H1 p := fun p => by
    unfold qTm
    rw [lo_kl, lo_ky, s_ qS.kl (fun _ _ _ => rfl) (fun _ _ => rfl), s_ qS.ky (fun _ _ _ => rfl) (fun _ _ => rfl)]
  have ad_ : (qLO (qTake H1 a m)).added = G.added + 1 := by rw [lo_added]; exact (s_ qS.added (fun _ _ _ => rfl) (fun _ _ => rfl)).trans t1
  have tk_ : (qLO (qTake H1 a m)).tracked = G.tracked := by rw [lo_tracked]; exact (s_ qS.tracked (fun _ _ _ => rfl) (fun _ _ => rfl)).trans t3
  have tr_ : (qLO (qTake H1 a m)).tr = G.tr := by rw [lo_tr]; exact (s_ qS.tr (fun _ _ _ => rfl) (fun _ _ => rfl)).trans t4
  have ti_ : (qLO (qTake H1 a m)).time = G.time := by rw [lo_time]; exact (s_ qS.time (fun _ _ _ => rfl) (fun _ _ => rfl)).trans t6
  generalize qLO (qTake H1 a m) = H at *
  have nmO : ∀ {b}, G.N b → H.nm b = G.nm b := fun hb => by unfold qS.nm; rw [nu_, A.nd _ hb]
  have lt : ∀ {b}, G.N b → G.nm b ≠ S.v1 ∧ G.nm b ≠ S.v2 := fun hb => by
    have := (I.nm hb).2.1
    omega
  have s1' := i32_s (i := G.added) (by omega) (by omega)
  subst e3
  refine ⟨ad_.symm, ?_, ?_, fun b lb => ?_, fun b hb gb => ?_, fun t ht => ?_, fun t h1 h2 => ?_, fun i hi => ?_, fun t u h1 h2 e => g.td t u (by rw [← tk_]; exact h1) (by rw [← tk_]; exact h2) (by rw [← tr_]; exact e)⟩
  · rw [tk_]; exact s3.trans g.tk
  · rw [ti_]
    exact ⟨s4.trans g.tm.1, g.tm.2⟩
  · obtain ⟨lb1, lb2⟩ := lb
    rw [N_] at lb1
    rw [go_] at lb2
    rcases (A.N b).mp lb1 with z | z
    · subst z
      have nm : H.nm b = S.v1 := by
        unfold qS.nm
        rw [nu_, A.nm]
        show G.added.toInt.toNat = S.v1
        omega
      have nm2 : H.nm b = S.v2 := by omega
      obtain ⟨q0, q1, q2, q3⟩ := A.pm
      obtain ⟨r0, r1, r2, r3⟩ := A.pn
      refine ⟨?_, ?_, ?_, ?_, ?_, ?_, ?_, ?_⟩
      · show S2.nV (H.nm b) 0 = _
        rw [nm, n1, qu_eq, n2]
        unfold qPn
        rw [pa_, if_pos rfl]
        show (G.nd a).number = (H.nd a).number
        rw [nu_, A.nd a la.1]
      · show S2.nV (H.nm b) 4 = _
        rw [nm, n1, qu_eq, n3, ov_, A.nm]; rfl
      · show S2.nV (H.nm b) 5 = _
        rw [nm, n1, qu_eq, n4, un_, A.nm]; rfl
      · show S2.nV (H.nm b) 6 = _
        rw [nm, n1, qu_eq, n5, ly_, A.nm]; rfl
      · show S2.cR (H.nm b) = none ↔ _
        rw [s7, nm, g.cf S.v1 (by omega), cu_, A.nm]
        exact ⟨fun _ => rfl, fun _ => rfl⟩
      · show S2.oV (H.nm b) 0 = _
        rw [nm2, o1, qu_eq, o2, pp_, pr_, q0, r0]; rfl
      · show S2.oV (H.nm b) 2 = _
        rw [nm2, o1, qu_eq, o3, pp_, pr_, q2, r2]; rfl
      · show S2.oV (H.nm b) 3 = _
        rw [nm2, o1, qu_eq, o4, pp_, pr_, q3, r3]; rfl
    · rw [A.nd b z] at lb2
      have q : lNd G S b := g.lv b ⟨z, lb2⟩
      show lNd H _ b
      have pe : (H.nd b).par = (G.nd b).par := by rw [pa_, if_neg (ne z), A.nd b z]
      refine q.cg (by rw [nu_, A.nd b z]) ?_ (by rw [ov_, A.nd b z]) (by rw [un_, A.nd b z]) (by rw [ly_, A.nd b z]) (by rw [cu_, A.nd b z]) (fun j hj => by rw [pp_, pr_, A.pp _ (by rw [A.pr b j z]; exact I.Y.pP b j z hj), A.pr b j z]) ?_ ?_ ?_
      · rcases I.pn ⟨z, lb2⟩ with ⟨e1, e2⟩ | ⟨e1, p, ep, lp, e2, -⟩
        · rw [e2]
          unfold qPn
          rw [pe, e1, show (G.nd G.wh).par = none from I.B.wp]
        · rw [e2]
          unfold qPn
          rw [pe, ep]
          show (H.nd p).number = _
          rw [nu_, A.nd p lp.1]
      · show S2.nV (G.nm b) = _
        rw [n1, qu_ne (lt z).1]
      · show S2.cR (G.nm b) = _
        rw [s7]
      · show S2.oV (G.nm b) = _
        rw [o1, qu_ne (lt z).2]
  · rw [N_] at hb
    rw [go_] at gb
    rcases (A.N b).mp hb with z | z
    · rw [z, A.nm] at gb
      exact absurd rfl gb
    · rw [A.nd b z] at gb
      show S2.nV (H.nm b) 0 = -2
      rw [nmO z, n1, qu_ne (lt z).1]
      exact g.go b z gb
  · rw [tk_] at ht
    obtain ⟨b, j, hb, hj, e1, e2, e3, e4, e5⟩ := g.tt t ht
    have hP := I.Y.pP b j hb hj
    refine ⟨b, j, by rw [N_]; exact (A.N b).mpr (Or.inr hb), hj, by rw [tr_, pr_, A.pr b j hb]; exact e1, by rw [pp_, pr_, A.pr b j hb, A.pp _ hP]; exact e2, ?_, ?_, fun lb => ?_⟩
    · show S2.tV t 0 = _
      rw [s8, nu_, A.nd b hb]; exact e3
    · show (S2.tV t 1).toInt = _
      rw [s8]; exact e4
    · have lb2 : G.Lv b := ⟨hb, by
        have := lb.2
        rw [go_, A.nd b hb] at this
        exact this⟩
      have q := e5 lb2
      unfold lKr at q ⊢
      rw [tm_, pr_, A.pr b j hb, show qTm H1 (G.pr b j) = qTm G (G.pr b j) by unfold qTm; rw [A.kl _ hP, A.K.2]]
      show S2.kN t = _ ∧ ∀ i x, _ → S2.kV t (2 * i) = x
      rw [s9, s10]
      exact q
  · rw [tk_] at h2
    show S2.kN t = 0
    rw [s9]
    exact g.kf t h1 h2
  · rw [ad_] at hi
    show S2.cR i = none
    rw [s7]
    exact g.cf i (by omega)
theorem h_addL45 (H : lH X G S F (k + 10) h) (la : G.Lv a) (hd : (G.up a).length ≤ 4) {kind : Int32} (hk : 0 ≤ kind.toInt ∧ kind.toInt ≤ 2) : ∃ h2, f_X8_add_L45 (some S.lm) (G.nd a).number kind h = some (1, h2) ∧ lNx X S.lm G.z k h2 := by
  have e1 : (1 : Int32).toInt = 1 := by decide
  have e40 : (40 : Int32).toInt = 40 := by decide
  obtain ⟨w, h1, f1, w1, H1⟩ := h_draw (k := k + 9) H (n := 40) (by decide)
  obtain ⟨hh, h2, f2, w2, H2⟩ := h_draw (k := k + 8) H1 (n := 40) (by decide)
  rw [e40] at w1 w2
  have sw : ((1 : Int32) + w).toInt = 1 + w.toInt := by rw [i32_add (by omega) (by omega), e1]
  have sh : ((1 : Int32) + hh).toInt = 1 + hh.toInt := by rw [i32_add (by omega) (by omega), e1]
  obtain ⟨S2, eS2⟩ : ∃ S2, S2 = dS (dS S) := ⟨_, rfl⟩
  have lm2 : S2.lm = S.lm := by rw [eS2]; rfl
  rw [← eS2] at H2
  have f2 : f_X8_draw S.lm 40 h1 = some (hh, h2) := f2
  unfold f_X8_add_L45 f_X8_add_L120
  have o1 := oL H1.R H1.L
  have o1 : fobj h1 (some S.lm) 8 = some S.lm := o1
  have g2 : fgI h2 (some S.lm) 8 3 = some S2.added := by have g := gL_added H2.R H2.L; rw [lm2] at g; exact g
  have o2 : fobj h2 (some S.lm) 8 = some S.lm := by have g := oL H2.R H2.L; rw [lm2] at g; exact g
  rw [oL H.R H.L, Option.bind_some, f1, Option.bind_some]
  dsimp only
  rw [o1, Option.bind_some, f2, Option.bind_some]
  dsimp only
  rw [g2, Option.bind_some]
  by_cases q : S2.added = 30
  · rw [if_pos q]
    exact ⟨h2, rfl, G, S2, _, H2.le (by omega), lm2, rfl⟩
  · rw [if_neg q]
    obtain ⟨a1, a2⟩ := H.I.A.ad
    have ad := H2.g.ad
    have v := H2.v
    rw [ad] at v q
    have had : G.added.toInt < 30 := by
      have : G.added.toInt ≠ 30 := fun w => q (Int32.toInt_inj.mp (w.trans (by decide)))
      omega
    obtain ⟨S3, F3, h3, f3, R3, L3, Q3⟩ := x_put8 (k := k + 6) H2.R H2.L (i := G.added) (p := (G.nd a).number) (kd := kind) (w := 1 + w) (hh := 1 + hh) v.1.symm v.2.1.symm (by omega)
    obtain ⟨s1, s2, s3, s4, s5, s6, s7, s8, s9, s10⟩ := Q3.s
    have lm3 : S3.lm = S.lm := s1.trans lm2
    obtain ⟨m, p0, p1, p2, p3, f, H1', h4, nw, A, f4, R4, I4⟩ := m_add (k := k) R3 H.I (H.I.is la) (kind := kind) (w := 1 + w) (hh := 1 + hh) hk (by omega) (by omega) had hd
    have lg := fun S4 e => lG.add (S3 := S4) H.I H2.g nw A la had ⟨v.1, v.2.1⟩ Q3 e
    have z4 : (qLO (qTake H1' a m)).z = G.z := by
      rw [lo_z]
      exact (take_st qS.z (fun _ _ _ => rfl) (fun _ _ => rfl)).trans A.z
    have ad4 : (qLO (qTake H1' a m)).added = G.added + 1 := by
      rw [lo_added]
      exact (take_st qS.added (fun _ _ _ => rfl) (fun _ _ => rfl)).trans A.st.1
    have tk4 : (qLO (qTake H1' a m)).tracked = G.tracked := by
      rw [lo_tracked]
      exact (take_st qS.tracked (fun _ _ _ => rfl) (fun _ _ => rfl)).trans A.st.2.2.1
    generalize qLO (qTake H1' a m) = G4 at R4 I4 lg z4 ad4 tk4
    have L4 : lF S3 F3 G4.z := by rw [z4]; exact L3
    have sA := i32_s (i := G.added) (by omega) (by omega)
    obtain ⟨h5, w5, R5, L5⟩ := wL_added R4 L4 (v := G.added + 1) ⟨by omega, by rw [Q3.v.1]; omega, by rw [Q3.v.2.1]; omega⟩
    have g3 : fgR h3 (some S.lm) 8 0 = some (some G.z) := by have g := gL_sc_ R3 L3; rw [lm3] at g; exact g
    have g4 : fgI h4 (some S.lm) 8 3 = some G.added := by have g := gL_added R4 L4; rw [lm3, s2, ad] at g; exact g
    refine ⟨h5, ?_, G4, _, _, lH.of R5 L5 I4 (lg _ rfl) (by show S3.sc = _ ∧ _; rw [s6]; exact H2.sx) ⟨?_, ?_⟩ ⟨?_, ?_, ?_⟩, lm3, z4⟩
    · have f3 : f_X8_put S.lm G.added (G.nd a).number kind (1 + w) (1 + hh) h2 = some ((), h3) := by rw [← lm2]; exact f3
      rw [Option.bind_some, o2, Option.bind_some, ad, f3, Option.bind_some]
      dsimp only
      rw [g3, Option.bind_some, oS R3, Option.bind_some, f4, Option.bind_some]
      dsimp only [Sum.elim_inl]
      rw [lm3] at w5
      rw [g4, Option.bind_some, w5, Option.bind_some, if_pos rfl, if_pos (Or.inr rfl)]
    · show 0 ≤ S3.draws.toInt
      rw [s5]; exact H2.dr.1
    · show S3.draws.toInt + k ≤ 900000
      rw [s5]
      have := H2.dr.2
      omega
    · show (S3.v1 : Int) = (G.added + 1).toInt
      rw [Q3.v.1]; omega
    · show (S3.v2 : Int) = (G.added + 1).toInt
      rw [Q3.v.2.1]; omega
    · show (S3.v6 : Int) = S3.tracks.toInt
      rw [Q3.v.2.2, s3]; exact v.2.2
theorem h_addL5 (H : lH X G S F (k + 12) h) : ∀ (d n a : Nat), G.Lv a → (G.up a).length ≤ d → d < n → ∃ h2, f_X8_add_L5 n (some S.lm) (G.nd a).number h = some (1, h2) ∧ lNx X S.lm G.z k h2
  | d, n + 1, a, la, hl, hd => by
    obtain ⟨u1, u2⟩ := up_len H.I la
    have e4 : (4 : Int32).toInt = 4 := by decide
    have t1 : (nI ((G.up a).length - 1)).toInt = ((G.up a).length - 1 : Nat) := nI_toInt (by omega)
    rw [st_X8_add_L5, oL H.R H.L, Option.bind_some, h_lev H la, Option.bind_some]
    dsimp only
    by_cases q : nI ((G.up a).length - 1) = 4
    · rw [if_pos q]
      have q2 : (G.up a).length = 5 := by
        have := congrArg Int32.toInt q
        rw [t1, e4] at this
        omega
      rcases H.I.pn la with ⟨z, -⟩ | ⟨z, p, ep, lp, e, eu⟩
      · rw [z, H.I.up_wh] at q2
        simp at q2
      · obtain ⟨n1, n2⟩ := h_node H la.1 rfl
        have v0 := vN H.R H.L n2 (j := 0) (by decide) (by decide)
        rw [show (0 : Int32).toNatClampNeg = 0 by decide, (H.g.lv a la).1, e] at v0
        rw [gL_a1 H.R H.L, Option.bind_some, n1, Option.bind_some, v0, Option.bind_some]
        have := congrArg List.length eu
        rw [List.length_cons] at this
        obtain ⟨d, rfl⟩ : ∃ d2, d = d2 + 1 := ⟨d - 1, by omega⟩
        exact h_addL5 H d n p lp (by omega) (by omega)
    · rw [if_neg q]
      have q2 : (G.up a).length ≤ 4 := by
        have : (G.up a).length ≠ 5 := fun w => q (Int32.toInt_inj.mp (by rw [t1, e4, w]; rfl))
        omega
      obtain ⟨r, h1, f1, r1, H1⟩ := h_draw (k := k + 11) H (n := 4) (by decide)
      have o1 := oL H1.R H1.L
      have o1 : fobj h1 (some S.lm) 8 = some S.lm := o1
      rw [oL H.R H.L, Option.bind_some, f1, Option.bind_some]
      dsimp only
      by_cases q3 : r = 0
      · rw [if_pos q3]
        exact h_addL45 (k := k) (H1.le (by omega)) la q2 (kind := 0) (by decide)
      · rw [if_neg q3]
        obtain ⟨r2, h2, f2, r3, H2⟩ := h_draw (k := k + 10) H1 (n := 2) (by decide)
        have f2 : f_X8_draw S.lm 2 h1 = some (r2, h2) := f2
        have e1 : (1 : Int32).toInt = 1 := by decide
        have e2 : (2 : Int32).toInt = 2 := by decide
        rw [e2] at r3
        have s2 : ((1 : Int32) + r2).toInt = 1 + r2.toInt := by rw [i32_add (by omega) (by omega), e1]
        rw [o1, Option.bind_some, f2, Option.bind_some]
        dsimp only
        exact h_addL45 (k := k) H2 la q2 (kind := 1 + r2) ⟨by omega, by omega⟩
theorem h_add (H : lH X G S F (k + 13) h) : ∃ h2, f_X8_add S.lm h = some (1, h2) ∧ lNx X S.lm G.z k h2 := by
  obtain ⟨a, h1, f1, la, H1⟩ := h_any (k := k + 12) H
  obtain ⟨h2, f2, H2⟩ := h_addL5 (k := k) H1 5 4096 a la (up_len H.I la).2 (by omega)
  refine ⟨h2, ?_, H2⟩
  unfold f_X8_add f_X8_add_L0
  rw [oL H.R H.L, Option.bind_some, f1, Option.bind_some]
  exact f2
end LADD
