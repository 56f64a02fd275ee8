/-! The law changes something of a node. -/
section LCHG
variable {G : qS} {F : Nat → Option fCe} {X : Nat × Nat × (Nat → Int32)} {k : Nat} {h : fSt} {a c z : Nat} {S : lS}
def lA1 (G : qS) (H : qS) (a : Nat) : Prop :=
  (H.N = G.N ∧ H.added = G.added ∧ H.tracked = G.tracked ∧ H.tr = G.tr ∧ H.pr = G.pr ∧ H.time = G.time ∧ H.z = G.z) ∧
  (∀ b, (H.nd b).number = (G.nd b).number ∧ (H.nd b).par = (G.nd b).par ∧ (H.nd b).gone = (G.nd b).gone) ∧
  (∀ b, b ≠ a → (H.nd b).over = (G.nd b).over ∧ (H.nd b).under = (G.nd b).under ∧ (H.nd b).layer = (G.nd b).layer ∧ (H.nd b).cut = (G.nd b).cut) ∧
  (∀ b j, G.N b → j < 4 → b ≠ a → (H.pp (G.pr b j)).own = (G.pp (G.pr b j)).own) ∧
  (∀ p, (H.pp p).trk = (G.pp p).trk) ∧
  (∀ p, qTm H p = qTm G p)
theorem lA1.st {G : qS}{H : qS}{a : Nat} (hq0 : lA1 G H a) : H.N = G.N ∧ H.added = G.added ∧ H.tracked = G.tracked ∧ H.tr = G.tr ∧ H.pr = G.pr ∧ H.time = G.time ∧ H.z = G.z := hq0.1
theorem lA1.nu {G : qS}{H : qS}{a : Nat} (hq0 : lA1 G H a) : ∀ b, (H.nd b).number = (G.nd b).number ∧ (H.nd b).par = (G.nd b).par ∧ (H.nd b).gone = (G.nd b).gone := hq0.2.1
theorem lA1.nd {G : qS}{H : qS}{a : Nat} (hq0 : lA1 G H a) : ∀ b, b ≠ a → (H.nd b).over = (G.nd b).over ∧ (H.nd b).under = (G.nd b).under ∧ (H.nd b).layer = (G.nd b).layer ∧ (H.nd b).cut = (G.nd b).cut := hq0.2.2.1
theorem lA1.ow {G : qS}{H : qS}{a : Nat} (hq0 : lA1 G H a) : ∀ b j, G.N b → j < 4 → b ≠ a → (H.pp (G.pr b j)).own = (G.pp (G.pr b j)).own := hq0.2.2.2.1
theorem lA1.tk {G : qS}{H : qS}{a : Nat} (hq0 : lA1 G H a) : ∀ p, (H.pp p).trk = (G.pp p).trk := hq0.2.2.2.2.1
theorem lA1.tm {G : qS}{H : qS}{a : Nat} (hq0 : lA1 G H a) : ∀ p, qTm H p = qTm G p := hq0.2.2.2.2.2
def lB1 (S : lS) (S2 : lS) (i : Nat) : Prop :=
  (∀ u, u ≠ i → S2.nV u = S.nV u ∧ S2.oV u = S.oV u ∧ S2.cR u = S.cR u) ∧
  (S2.lm = S.lm ∧ S2.added = S.added ∧ S2.tracks = S.tracks ∧ S2.time = S.time ∧ S2.sc = S.sc ∧ S2.tV = S.tV ∧ S2.kN = S.kN ∧ S2.kV = S.kV ∧ S2.v1 = S.v1 ∧ S2.v2 = S.v2 ∧ S2.v6 = S.v6)
theorem lB1.r {S : lS}{S2 : lS}{i : Nat} (hq0 : lB1 S S2 i) : ∀ u, u ≠ i → S2.nV u = S.nV u ∧ S2.oV u = S.oV u ∧ S2.cR u = S.cR u := hq0.1
theorem lB1.s {S : lS}{S2 : lS}{i : Nat} (hq0 : lB1 S S2 i) : S2.lm = S.lm ∧ S2.added = S.added ∧ S2.tracks = S.tracks ∧ S2.time = S.time ∧ S2.sc = S.sc ∧ S2.tV = S.tV ∧ S2.kN = S.kN ∧ S2.kV = S.kV ∧ S2.v1 = S.v1 ∧ S2.v2 = S.v2 ∧ S2.v6 = S.v6 := hq0.2
theorem lG.at1 {H : qS} {S2 : lS} (I : qI G) (g : lG G S) (la : G.Lv a) (A : lA1 G H a) (B : lB1 S S2 (G.nm a)) (new : S2.nV (G.nm a) 0 = S.nV (G.nm a) 0 ∧ S2.nV (G.nm a) 4 = (H.nd a).over ∧ S2.nV (G.nm a) 5 = (H.nd a).under ∧ S2.nV (G.nm a) 6 = (H.nd a).layer ∧ (S2.cR (G.nm a) = none ↔ (H.nd a).cut = none) ∧ S2.oV (G.nm a) 0 = (H.pp (G.pr a 0)).own ∧ S2.oV (G.nm a) 2 = (H.pp (G.pr a 2)).own ∧ S2.oV (G.nm a) 3 = (H.pp (G.pr a 3)).own) : lG H S2 := by
  obtain ⟨t1, t2, t3, t4, t5, t6, t7⟩ := A.st
  obtain ⟨s1, s2, s3, s4, s5, s6, s7, s8, s9, s10, s11⟩ := B.s
  have nm : ∀ b, H.nm b = G.nm b := fun b => by unfold qS.nm; rw [(A.nu b).1]
  have pn : ∀ b, qPn H b = qPn G b := fun b => qPn_cg (A.nu b).2.1 (fun x => (A.nu x).1)
  have Lv : ∀ b, H.Lv b ↔ G.Lv b := fun b => by
    show H.N b ∧ (H.nd b).gone = 0 ↔ _
    rw [t1, (A.nu b).2.2]; exact Iff.rfl
  refine ⟨by rw [s2, t2]; exact g.ad, by rw [s3, t3]; exact g.tk, by rw [s4, t6]; exact g.tm, fun b lb => ?_, fun b hb gb => ?_, fun t ht => ?_, fun t h1 h2 => ?_, fun i hi => ?_, fun t u h1 h2 e => g.td t u (by rw [← t3]; exact h1) (by rw [← t3]; exact h2) (by rw [← t4]; exact e)⟩
  · have lb2 := (Lv b).mp lb
    have q : lNd G S b := g.lv b lb2
    show lNd H S2 b
    by_cases e : b = a
    · subst e
      obtain ⟨n1, n2, n3, n4, n5, n6, n7, n8⟩ := new
      unfold lNd
      rw [nm, pn, t5]
      exact ⟨n1.trans q.1, n2, n3, n4, n5, n6, n7, n8⟩
    · obtain ⟨e1, e2, e3, e4⟩ := A.nd b e
      obtain ⟨r1, r2, r3⟩ := B.r (G.nm b) (fun w => e (nm_inj I lb2.1 la.1 w))
      exact q.cg (A.nu b).1 (pn b) e1 e2 e3 e4 (fun j hj => by rw [t5]; exact A.ow b j lb2.1 hj e) r1 r3 r2
  · rw [t1] at hb
    rw [(A.nu b).2.2] at gb
    have e : b ≠ a := fun w => gb (by rw [w]; exact la.2)
    rw [nm, (B.r (G.nm b) (fun w => e (nm_inj I hb la.1 w))).1]
    exact g.go b hb gb
  · rw [t3] at ht
    obtain ⟨b, j, hb, hj, e1, e2, e3, e4, e5⟩ := g.tt t ht
    refine ⟨b, j, by rw [t1]; exact hb, hj, by rw [t4, t5]; exact e1, by rw [t5, A.tk]; exact e2, by rw [s6, (A.nu b).1]; exact e3, by rw [s6]; exact e4, fun lb => ?_⟩
    have q := e5 ((Lv b).mp lb)
    unfold lKr at q ⊢
    rw [t5, A.tm, s7, s8]
    exact q
  · rw [t3] at h2
    rw [s7]
    exact g.kf t h1 h2
  · rw [t2] at hi
    have := (I.nm la.1).2.1
    rw [(B.r i (by omega)).2.2]
    exact g.cf i hi
theorem x_draw (R : qR G F X k h) (L : lF S F G.z) (sx : S.sc = X.1 ∧ X.2.1 ≤ 260) (d : 0 ≤ S.draws.toInt ∧ S.draws.toInt ≤ 900000) {n : Int32} (hn : 0 < n.toInt) : ∃ r h2 F2, f_X8_draw S.lm n h = some (r, h2) ∧ (0 ≤ r.toInt ∧ r.toInt < n.toInt) ∧ qR G F2 X k h2 ∧ lF (dS S) F2 G.z ∧ (dS S).draws.toInt = S.draws.toInt + 1 ∧ ∀ y, y ≠ S.lm → F2 y = F y := by
  obtain ⟨r, h2, e, r1, R2, L2⟩ := l_draw R L sx.1 sx.2 ⟨d.1, by omega⟩ hn
  have e1 : (1 : Int32).toInt = 1 := by decide
  exact ⟨r, h2, _, e, r1, R2, L2, by show (S.draws + 1).toInt = _; rw [i32_add (by omega) (by omega), e1], fun y q => qu_ne q⟩
/-- reads of a node's rows, in any state of the law's object with the same rows' places -/
theorem x_rows (R : qR G F X k h) (L : lF S F G.z) (I : qI G) (ha : G.N a) (v1 : G.added.toInt ≤ S.v1) (v2 : G.added.toInt ≤ S.v2) : fgR h (some S.lm) 8 4 = some (some S.a1) ∧ faR h (some S.a1) 4 (G.nd a).number = some (some (S.nR (G.nm a))) ∧ fgR h (some S.lm) 8 5 = some (some S.a2) ∧ faR h (some S.a2) 4 (G.nd a).number = some (some (S.oR (G.nm a))) ∧ G.nm a < S.v1 ∧ G.nm a < S.v2 := by
  obtain ⟨r1, r2, r3, r4, r5⟩ := I.rg ha rfl
  have n1 := rN R L (i := (G.nd a).number) r1 (by omega)
  have n2 := rO R L (i := (G.nd a).number) r1 (by omega)
  rw [r4] at n1 n2
  exact ⟨gL_a1 R L, n1, gL_a2 R L, n2, by omega, by omega⟩
theorem h_c0 (H : lH X G S F (k + 2) h) (la : G.Lv a) (hw : a ≠ G.wh) : ∃ h2, ((fgR h (some S.lm) 8 5).bind fun x152 => (faR h x152 4 (G.nd a).number).bind fun x154 => (faI h x154 0 (0 : Int32)).bind fun x156 => (fgR h (some S.lm) 8 5).bind fun x158 => (faR h x158 4 (G.nd a).number).bind fun x160 => (fobj h (some S.lm) 8).bind fun b164 => (f_X8_draw b164 (61 : Int32) h).bind fun r162 => (fsI r162.2 x160 0 (0 : Int32) (r162.1 - (30 : Int32))).bind fun h166 => (fgR h166 (some S.lm) 8 5).bind fun x168 => (faR h166 x168 4 (G.nd a).number).bind fun x170 => (fobj h166 (some S.lm) 8).bind fun b174 => (f_X8_draw b174 (61 : Int32) h166).bind fun r172 => (fsI r172.2 x170 0 (1 : Int32) (r172.1 - (30 : Int32))).bind fun h176 => (fgR h176 (some S.lm) 8 0).bind fun x178 => (fgR h176 (some S.lm) 8 5).bind fun x180 => (faR h176 x180 4 (G.nd a).number).bind fun x182 => (faI h176 x182 0 (0 : Int32)).bind fun x184 => (fgR h176 (some S.lm) 8 5).bind fun x186 => (faR h176 x186 4 (G.nd a).number).bind fun x188 => (faI h176 x188 0 (1 : Int32)).bind fun x190 => (fobj h176 x178 7).bind fun b194 => (f_X7_move b194 (G.nd a).number x184 x190 h176).bind fun r192 => Sum.elim (fun v196 => (if v196 = x156 then f_X8_change_L136 (1 : Int32) r192.2 else f_X8_change_L136 (0 : Int32) r192.2)) (fun _ => none) r192.1) = some (1, h2) ∧ lNx X S.lm G.z k h2 := by
  obtain ⟨tc0, tc1, tc2, tc3, tc4, -⟩ := tc
  have e61 : (61 : Int32).toInt = 61 := by decide
  have e30 : (30 : Int32).toInt = 30 := by decide
  have ad := H.g.ad
  have v1 : G.added.toInt ≤ S.v1 := by have := H.v.1; rw [ad] at this; omega
  have v2 : G.added.toInt ≤ S.v2 := by have := H.v.2.1; rw [ad] at this; omega
  have dr := H.dr
  obtain ⟨-, -, a3, a4, a5, a6⟩ := x_rows H.R H.L H.I la.1 v1 v2
  have o0 := vO H.R H.L a6 (j := 0) (by decide) (by decide)
  rw [tc0] at o0
  obtain ⟨d1, g1, F1, f1, r1, R1, L1, n1, -⟩ := x_draw H.R H.L H.sx ⟨dr.1, by omega⟩ (n := 61) (by decide)
  rw [e61] at r1
  obtain ⟨g2, w2, R2, L2⟩ := wO R1 L1 (i := G.nm a) a6 (j := 0) (by decide) (by decide) (d1 - 30)
  obtain ⟨-, -, b3, b4, b5, b6⟩ := x_rows R2 L2 H.I la.1 v1 v2
  obtain ⟨d2, g3, F3, f3, r3, R3, L3, n3, -⟩ := x_draw R2 L2 H.sx (show 0 ≤ (dS S).draws.toInt ∧ (dS S).draws.toInt ≤ 900000 by omega) (n := 61) (by decide)
  rw [e61] at r3
  obtain ⟨g4, w4, R4, L4⟩ := wO R3 L3 (i := G.nm a) a6 (j := 1) (by decide) (by decide) (d2 - 30)
  obtain ⟨-, -, c3, c4, c5, c6⟩ := x_rows R4 L4 H.I la.1 v1 v2
  have p0 := vO R4 L4 (i := G.nm a) a6 (j := 0) (by decide) (by decide)
  have p1 := vO R4 L4 (i := G.nm a) a6 (j := 1) (by decide) (by decide)
  have sc := gL_sc_ R4 L4
  have o2 := oL R2 L2
  obtain ⟨S4, eS4⟩ : ∃ S4, S4 = ((dS ((dS S).s_oV (qu S.oV (G.nm a) (upd (S.oV (G.nm a)) (0 : Int32).toNatClampNeg (d1 - 30))))).s_oV (qu (qu S.oV (G.nm a) (upd (S.oV (G.nm a)) (0 : Int32).toNatClampNeg (d1 - 30))) (G.nm a) (upd (qu S.oV (G.nm a) (upd (S.oV (G.nm a)) (0 : Int32).toNatClampNeg (d1 - 30)) (G.nm a)) (1 : Int32).toNatClampNeg (d2 - 30)))) := ⟨_, rfl⟩
  obtain ⟨F4, R4, L4⟩ : ∃ F4, qR G F4 X (k + 2) g4 ∧ lF S4 F4 G.z := ⟨_, R4, by rw [eS4]; exact L4⟩
  have oe : S4.oV (G.nm a) = upd (upd (S.oV (G.nm a)) 0 (d1 - 30)) 1 (d2 - 30) := by
    rw [eS4]
    show qu (qu S.oV (G.nm a) _) (G.nm a) _ (G.nm a) = _
    rw [qu_eq, qu_eq, tc0, tc1]
  have p0 : faI g4 (some (S.oR (G.nm a))) 0 0 = some (d1 - 30) := by
    refine Eq.trans (show faI g4 (some (S.oR (G.nm a))) 0 0 = some (S4.oV (G.nm a) (0 : Int32).toNatClampNeg) by rw [eS4]; exact p0) ?_
    rw [oe, tc0]; rfl
  have p1 : faI g4 (some (S.oR (G.nm a))) 0 1 = some (d2 - 30) := by
    refine Eq.trans (show faI g4 (some (S.oR (G.nm a))) 0 1 = some (S4.oV (G.nm a) (1 : Int32).toNatClampNeg) by rw [eS4]; exact p1) ?_
    rw [oe, tc1]; rfl
  have B : lB1 S S4 (G.nm a) := by
    rw [eS4]
    refine ⟨fun u hu => ⟨rfl, ?_, rfl⟩, rfl, rfl, rfl, rfl, rfl, rfl, rfl, rfl, rfl, rfl, rfl⟩
    show qu (qu S.oV (G.nm a) _) (G.nm a) _ u = _
    rw [qu_ne hu, qu_ne hu]
  have nv4 : S4.nV = S.nV ∧ S4.cR = S.cR ∧ S4.draws.toInt = S.draws.toInt + 2 := by
    rw [eS4]
    refine ⟨rfl, rfl, ?_⟩
    refine Eq.trans n3 ?_
    show (dS S).draws.toInt + 1 = _
    omega
  clear eS4
  have s1 : (d1 - 30).toInt = d1.toInt - 30 := by rw [i32_sub (by omega) (by omega), e30]
  have s2 : (d2 - 30).toInt = d2.toInt - 30 := by rw [i32_sub (by omega) (by omega), e30]
  have D0 := H.I.D a 0 la.1 (by decide)
  have D1 := H.I.D a 1 la.1 (by decide)
  obtain ⟨g5, f5, R5⟩ := m_move R4 H.I.V (i := (G.nd a).number) (x := d1 - 30) (y := d2 - 30) (H.I.is la) hw (by rw [D0.1, D0.2.1]; exact ⟨by show (-200 : Int) ≤ _; omega, by show _ ≤ (200 : Int); omega⟩) (by rw [D1.1, D1.2.1]; exact ⟨by show (-200 : Int) ≤ _; omega, by show _ ≤ (200 : Int); omega⟩)
  have I5 := H.I.move (x := d1 - 30) (y := d2 - 30) la.1 hw ⟨by omega, by omega⟩ ⟨by omega, by omega⟩
  have ij := H.I.Y.inj
  have lv := H.g.lv a la
  have ne01 : G.pr a 0 ≠ G.pr a 1 := fun w => absurd (ij a a 0 1 la.1 la.1 (by decide) (by decide) w).2 (by decide)
  have ne21 : G.pr a 2 ≠ G.pr a 1 := fun w => absurd (ij a a 2 1 la.1 la.1 (by decide) (by decide) w).2 (by decide)
  have ne20 : G.pr a 2 ≠ G.pr a 0 := fun w => absurd (ij a a 2 0 la.1 la.1 (by decide) (by decide) w).2 (by decide)
  have ne31 : G.pr a 3 ≠ G.pr a 1 := fun w => absurd (ij a a 3 1 la.1 la.1 (by decide) (by decide) w).2 (by decide)
  have ne30 : G.pr a 3 ≠ G.pr a 0 := fun w => absurd (ij a a 3 0 la.1 la.1 (by decide) (by decide) w).2 (by decide)
  have pe : (qMove G a (d1 - 30) (d2 - 30)).pp = qu (qu G.pp (G.pr a 0) ((G.pp (G.pr a 0)).s_own (d1 - 30))) (G.pr a 1) ((qu G.pp (G.pr a 0) ((G.pp (G.pr a 0)).s_own (d1 - 30)) (G.pr a 1)).s_own (d2 - 30)) := rfl
  have A : lA1 G (qMove G a (d1 - 30) (d2 - 30)) a := by
    refine ⟨⟨rfl, rfl, rfl, rfl, rfl, rfl, rfl⟩, fun b => ⟨rfl, rfl, rfl⟩, fun b _ => ⟨rfl, rfl, rfl, rfl⟩, fun b j hb hj ba => ?_, fun p => ?_, fun p => rfl⟩
    · rw [pe, qu_ne (fun w => ba (ij b a j 1 hb la.1 hj (by decide) w).1), qu_ne (fun w => ba (ij b a j 0 hb la.1 hj (by decide) w).1)]
    · rw [pe]
      by_cases q1 : p = G.pr a 1
      · rw [q1, qu_eq]
        by_cases q0 : G.pr a 1 = G.pr a 0
        · exact absurd q0.symm ne01
        · rw [qu_ne q0]; rfl
      · rw [qu_ne q1]
        by_cases q0 : p = G.pr a 0
        · rw [q0, qu_eq]; rfl
        · rw [qu_ne q0]
  have g5' := lG.at1 (S2 := S4) H.I H.g la A B ⟨by rw [nv4.1], by rw [nv4.1]; exact lv.2.1, by rw [nv4.1]; exact lv.2.2.1, by rw [nv4.1]; exact lv.2.2.2.1, by rw [nv4.2.1]; exact lv.2.2.2.2.1, by rw [oe, pe, qu_ne ne01, qu_eq]; rfl, by rw [oe, pe, qu_ne ne21, qu_ne ne20]; exact lv.2.2.2.2.2.2.1, by rw [oe, pe, qu_ne ne31, qu_ne ne30]; exact lv.2.2.2.2.2.2.2⟩
  have z5 : (qMove G a (d1 - 30) (d2 - 30)).z = G.z := rfl
  generalize qMove G a (d1 - 30) (d2 - 30) = G5 at *
  have L5 : lF S4 F4 G5.z := by rw [z5]; exact L4
  obtain ⟨b1, b2, b3', b4', b5', b6', b7', b8', b9', b10', b11'⟩ := B.s
  refine ⟨g5, ?_, G5, S4, F4, lH.of (R5.le (by omega)) L5 I5 g5' (by rw [b5']; exact H.sx) ⟨by omega, by omega⟩ (by rw [b9', b10', b11', b2, b3']; exact H.v), b1, z5⟩
  have b3 : fgR g2 (some S.lm) 8 5 = some (some S.a2) := b3
  have b4 : faR g2 (some S.a2) 4 (G.nd a).number = some (some (S.oR (G.nm a))) := b4
  have c3 : fgR g4 (some S.lm) 8 5 = some (some S.a2) := c3
  have c4 : faR g4 (some S.a2) 4 (G.nd a).number = some (some (S.oR (G.nm a))) := c4
  have w2 : fsI g1 (some (S.oR (G.nm a))) 0 0 (d1 - 30) = some g2 := w2
  have w4 : fsI g3 (some (S.oR (G.nm a))) 0 1 (d2 - 30) = some g4 := w4
  have f3 : f_X8_draw S.lm 61 g2 = some (d2, g3) := f3
  have o2 : fobj g2 (some S.lm) 8 = some S.lm := o2
  have sc : fgR g4 (some S.lm) 8 0 = some (some G.z) := sc
  unfold f_X8_change_L136
  rw [a3, Option.bind_some, a4, Option.bind_some, o0, Option.bind_some, Option.bind_some, a4, Option.bind_some, oL H.R H.L, Option.bind_some, f1, Option.bind_some]
  dsimp only
  rw [w2, Option.bind_some, b3, Option.bind_some, b4, Option.bind_some, o2, Option.bind_some, f3, Option.bind_some]
  dsimp only
  rw [w4, Option.bind_some, sc, Option.bind_some, c3, Option.bind_some, c4, Option.bind_some, p0, Option.bind_some, Option.bind_some, c4, Option.bind_some, p1, Option.bind_some, oS R4, Option.bind_some, f5, Option.bind_some]
  dsimp only [Sum.elim_inl]
  rw [lv.2.2.2.2.2.1, if_pos rfl, if_pos (Or.inr rfl)]
theorem h_c1 (H : lH X G S F (k + 2) h) (la : G.Lv a) (hw : a ≠ G.wh) : ∃ h2, ((faI h (some (S.nR (G.nm a))) 0 (4 : Int32)).bind fun x201 => (faI h (some (S.nR (G.nm a))) 0 (5 : Int32)).bind fun x203 => (fobj h (some S.lm) 8).bind fun b207 => (f_X8_draw b207 (4 : Int32) h).bind fun r205 => (fsI r205.2 (some (S.nR (G.nm a))) 0 (4 : Int32) ((1 : Int32) + r205.1)).bind fun h209 => (fobj h209 (some S.lm) 8).bind fun b213 => (f_X8_draw b213 (4 : Int32) h209).bind fun r211 => (fsI r211.2 (some (S.nR (G.nm a))) 0 (5 : Int32) ((1 : Int32) + r211.1)).bind fun h215 => (fgR h215 (some S.lm) 8 0).bind fun x217 => (faI h215 (some (S.nR (G.nm a))) 0 (4 : Int32)).bind fun x219 => (faI h215 (some (S.nR (G.nm a))) 0 (5 : Int32)).bind fun x221 => (fobj h215 x217 7).bind fun b225 => (f_X7_scale b225 (G.nd a).number x219 x221 h215).bind fun r223 => Sum.elim (fun v227 => (if v227 = ((x201 * (10 : Int32)) + x203) then f_X8_change_L193 (1 : Int32) r223.2 else f_X8_change_L193 (0 : Int32) r223.2)) (fun _ => none) r223.1) = some (1, h2) ∧ lNx X S.lm G.z k h2 := by
  obtain ⟨tc0, tc1, tc2, tc3, tc4, tc5, -⟩ := tc
  have e4 : (4 : Int32).toInt = 4 := by decide
  have e1 : (1 : Int32).toInt = 1 := by decide
  have ad := H.g.ad
  have v1 : G.added.toInt ≤ S.v1 := by have := H.v.1; rw [ad] at this; omega
  have v2 : G.added.toInt ≤ S.v2 := by have := H.v.2.1; rw [ad] at this; omega
  have dr := H.dr
  obtain ⟨-, -, -, -, a5, -⟩ := x_rows H.R H.L H.I la.1 v1 v2
  have i4 := vN H.R H.L a5 (j := 4) (by decide) (by decide)
  have i5 := vN H.R H.L a5 (j := 5) (by decide) (by decide)
  rw [tc4] at i4
  rw [tc5] at i5
  obtain ⟨d1, g1, F1, f1, r1, R1, L1, n1, -⟩ := x_draw H.R H.L H.sx ⟨dr.1, by omega⟩ (n := 4) (by decide)
  rw [e4] at r1
  obtain ⟨g2, w2, R2, L2⟩ := wN R1 L1 (i := G.nm a) a5 (j := 4) (by decide) (by decide) (1 + d1)
  obtain ⟨d2, g3, F3, f3, r3, R3, L3, n3, -⟩ := x_draw R2 L2 H.sx (show 0 ≤ (dS S).draws.toInt ∧ (dS S).draws.toInt ≤ 900000 by omega) (n := 4) (by decide)
  rw [e4] at r3
  obtain ⟨g4, w4, R4, L4⟩ := wN R3 L3 (i := G.nm a) a5 (j := 5) (by decide) (by decide) (1 + d2)
  have p0 := vN R4 L4 (i := G.nm a) a5 (j := 4) (by decide) (by decide)
  have p1 := vN R4 L4 (i := G.nm a) a5 (j := 5) (by decide) (by decide)
  have sc := gL_sc_ R4 L4
  have o2 := oL R2 L2
  obtain ⟨S4, eS4⟩ : ∃ S4, S4 = ((dS ((dS S).s_nV (qu S.nV (G.nm a) (upd (S.nV (G.nm a)) (4 : Int32).toNatClampNeg (1 + d1))))).s_nV (qu (qu S.nV (G.nm a) (upd (S.nV (G.nm a)) (4 : Int32).toNatClampNeg (1 + d1))) (G.nm a) (upd (qu S.nV (G.nm a) (upd (S.nV (G.nm a)) (4 : Int32).toNatClampNeg (1 + d1)) (G.nm a)) (5 : Int32).toNatClampNeg (1 + d2)))) := ⟨_, rfl⟩
  obtain ⟨F4, R4, L4⟩ : ∃ F4, qR G F4 X (k + 2) g4 ∧ lF S4 F4 G.z := ⟨_, R4, by rw [eS4]; exact L4⟩
  have oe : S4.nV (G.nm a) = upd (upd (S.nV (G.nm a)) 4 (1 + d1)) 5 (1 + d2) := by
    rw [eS4]
    show qu (qu S.nV (G.nm a) _) (G.nm a) _ (G.nm a) = _
    rw [qu_eq, qu_eq, tc4, tc5]
  have p0 : faI g4 (some (S.nR (G.nm a))) 0 4 = some (1 + d1) := by
    refine Eq.trans (show faI g4 (some (S.nR (G.nm a))) 0 4 = some (S4.nV (G.nm a) (4 : Int32).toNatClampNeg) by rw [eS4]; exact p0) ?_
    rw [oe, tc4]; rfl
  have p1 : faI g4 (some (S.nR (G.nm a))) 0 5 = some (1 + d2) := by
    refine Eq.trans (show faI g4 (some (S.nR (G.nm a))) 0 5 = some (S4.nV (G.nm a) (5 : Int32).toNatClampNeg) by rw [eS4]; exact p1) ?_
    rw [oe, tc5]; rfl
  have B : lB1 S S4 (G.nm a) := by
    rw [eS4]
    refine ⟨fun u hu => ⟨?_, rfl, rfl⟩, rfl, rfl, rfl, rfl, rfl, rfl, rfl, rfl, rfl, rfl, rfl⟩
    show qu (qu S.nV (G.nm a) _) (G.nm a) _ u = _
    rw [qu_ne hu, qu_ne hu]
  have nv4 : S4.oV = S.oV ∧ S4.cR = S.cR ∧ S4.draws.toInt = S.draws.toInt + 2 := by
    rw [eS4]
    refine ⟨rfl, rfl, ?_⟩
    refine Eq.trans n3 ?_
    show (dS S).draws.toInt + 1 = _
    omega
  clear eS4
  have s1 : (1 + d1).toInt = 1 + d1.toInt := by rw [i32_add (by omega) (by omega), e1]
  have s2 : (1 + d2).toInt = 1 + d2.toInt := by rw [i32_add (by omega) (by omega), e1]
  obtain ⟨g5, f5, R5⟩ := m_scale R4 (i := (G.nd a).number) (o := 1 + d1) (u := 1 + d2) (H.I.is la) hw ⟨by omega, by omega⟩ ⟨by omega, by omega⟩
  have I5 := H.I.scale (o := 1 + d1) (u := 1 + d2) la.1 hw ⟨by omega, by omega⟩ ⟨by omega, by omega⟩
  have lv := H.g.lv a la
  have ne_ : ∀ b, b ≠ a → (qScale G a (1 + d1) (1 + d2)).nd b = G.nd b := fun b q => qu_ne q
  have eq_ : (qScale G a (1 + d1) (1 + d2)).nd a = ((G.nd a).s_over (1 + d1)).s_under (1 + d2) := qu_eq
  have A : lA1 G (qScale G a (1 + d1) (1 + d2)) a := by
    refine ⟨⟨rfl, rfl, rfl, rfl, rfl, rfl, rfl⟩, fun b => ?_, fun b q => ?_, fun b j hb hj ba => rfl, fun p => rfl, fun p => rfl⟩
    · by_cases q : b = a
      · rw [q, eq_]; exact ⟨rfl, rfl, rfl⟩
      · rw [ne_ b q]; exact ⟨rfl, rfl, rfl⟩
    · rw [ne_ b q]; exact ⟨rfl, rfl, rfl, rfl⟩
  have g5' := lG.at1 (S2 := S4) H.I H.g la A B ⟨by rw [oe]; rfl, by rw [oe, eq_]; rfl, by rw [oe, eq_]; rfl, by rw [oe, eq_]; exact lv.2.2.2.1, by rw [nv4.2.1, eq_]; exact lv.2.2.2.2.1, by rw [nv4.1]; exact lv.2.2.2.2.2.1, by rw [nv4.1]; exact lv.2.2.2.2.2.2.1, by rw [nv4.1]; exact lv.2.2.2.2.2.2.2⟩
  have z5 : (qScale G a (1 + d1) (1 + d2)).z = G.z := rfl
  generalize qScale G a (1 + d1) (1 + d2) = G5 at *
  have L5 : lF S4 F4 G5.z := by rw [z5]; exact L4
  obtain ⟨b1, b2, b3', b4', b5', b6', b7', b8', b9', b10', b11'⟩ := B.s
  refine ⟨g5, ?_, G5, S4, F4, lH.of (R5.le (by omega)) L5 I5 g5' (by rw [b5']; exact H.sx) ⟨by omega, by omega⟩ (by rw [b9', b10', b11', b2, b3']; exact H.v), b1, z5⟩
  have w2 : fsI g1 (some (S.nR (G.nm a))) 0 4 (1 + d1) = some g2 := w2
  have w4 : fsI g3 (some (S.nR (G.nm a))) 0 5 (1 + d2) = some g4 := w4
  have f3 : f_X8_draw S.lm 4 g2 = some (d2, g3) := f3
  have o2 : fobj g2 (some S.lm) 8 = some S.lm := o2
  have sc : fgR g4 (some S.lm) 8 0 = some (some G.z) := sc
  unfold f_X8_change_L193
  rw [i4, Option.bind_some, i5, Option.bind_some, oL H.R H.L, Option.bind_some, f1, Option.bind_some]
  dsimp only
  rw [w2, Option.bind_some, o2, Option.bind_some, f3, Option.bind_some]
  dsimp only
  rw [w4, Option.bind_some, sc, Option.bind_some, p0, Option.bind_some, p1, Option.bind_some, oS R4, Option.bind_some, f5, Option.bind_some]
  dsimp only [Sum.elim_inl]
  rw [lv.2.1, lv.2.2.1, if_pos rfl, if_pos (Or.inr rfl)]
theorem h_c2 (H : lH X G S F (k + 2) h) (la : G.Lv a) (hw : a ≠ G.wh) : ∃ h2, ((fgR h (some S.lm) 8 5).bind fun x232 => (faR h x232 4 (G.nd a).number).bind fun x234 => (faI h x234 0 (2 : Int32)).bind fun x236 => (fgR h (some S.lm) 8 5).bind fun x238 => (faR h x238 4 (G.nd a).number).bind fun x240 => (fobj h (some S.lm) 8).bind fun b244 => (f_X8_draw b244 (4 : Int32) h).bind fun r242 => (fsI r242.2 x240 0 (2 : Int32) r242.1).bind fun h246 => (fgR h246 (some S.lm) 8 6).bind fun x248 => (fobj h246 (some S.lm) 8).bind fun b252 => (f_X8_draw b252 (2 : Int32) h246).bind fun r250 => (if r250.1 = 0 then f_X8_change_L235 (some S.lm) (G.nd a).number x236 (1 : Int32) (G.nd a).number x248 r250.2 else f_X8_change_L235 (some S.lm) (G.nd a).number x236 (0 : Int32) (G.nd a).number x248 r250.2)) = some (1, h2) ∧ lNx X S.lm G.z k h2 := by
  obtain ⟨tc0, tc1, tc2, tc3, tc4, -⟩ := tc
  have e4 : (4 : Int32).toInt = 4 := by decide
  have e2 : (2 : Int32).toInt = 2 := by decide
  have ad := H.g.ad
  have v1 : G.added.toInt ≤ S.v1 := by have := H.v.1; rw [ad] at this; omega
  have v2 : G.added.toInt ≤ S.v2 := by have := H.v.2.1; rw [ad] at this; omega
  have dr := H.dr
  obtain ⟨q1, q2, q3, q4, q5⟩ := H.I.rg la.1 rfl
  obtain ⟨-, -, a3, a4, a5, a6⟩ := x_rows H.R H.L H.I la.1 v1 v2
  have o0 := vO H.R H.L a6 (j := 2) (by decide) (by decide)
  rw [tc2] at o0
  obtain ⟨d1, g1, F1, f1, r1, R1, L1, n1, -⟩ := x_draw H.R H.L H.sx ⟨dr.1, by omega⟩ (n := 4) (by decide)
  rw [e4] at r1
  obtain ⟨g2, w2, R2, L2⟩ := wO R1 L1 (i := G.nm a) a6 (j := 2) (by decide) (by decide) d1
  have x2 := gL_a3 R2 L2
  have o2 := oL R2 L2
  obtain ⟨d2, g3, F3, f3, r3, R3, L3, n3, -⟩ := x_draw R2 L2 H.sx (show 0 ≤ (dS S).draws.toInt ∧ (dS S).draws.toInt ≤ 900000 by omega) (n := 2) (by decide)
  -- either way of the mirror
  have fin : ∀ m : Int32, m = 0 ∨ m = 1 → ∃ h2, f_X8_change_L235 (some S.lm) (G.nd a).number (S.oV (G.nm a) 2) m (G.nd a).number (some S.a3) g3 = some (1, h2) ∧ lNx X S.lm G.z k h2 := by
    intro m hm
    obtain ⟨g4, w4, R4, L4⟩ := w3 R3 L3 (j := (G.nd a).number) q1 (by omega) m
    obtain ⟨-, -, c3, c4, c5, c6⟩ := x_rows R4 L4 H.I la.1 v1 v2
    have p0 := vO R4 L4 (i := G.nm a) a6 (j := 2) (by decide) (by decide)
    have p1 := v3 R4 L4 (i := (G.nd a).number) q1 (by omega)
    have y3 := gL_a3 R4 L4
    have sc := gL_sc_ R4 L4
    obtain ⟨S4, eS4⟩ : ∃ S4, S4 = ((dS ((dS S).s_oV (qu S.oV (G.nm a) (upd (S.oV (G.nm a)) (2 : Int32).toNatClampNeg d1)))).s_g3 (upd S.g3 (G.nd a).number.toNatClampNeg m)) := ⟨_, rfl⟩
    obtain ⟨F4, R4, L4⟩ : ∃ F4, qR G F4 X (k + 2) g4 ∧ lF S4 F4 G.z := ⟨_, R4, by rw [eS4]; exact L4⟩
    have oe : S4.oV (G.nm a) = upd (S.oV (G.nm a)) 2 d1 := by
      rw [eS4]
      show qu S.oV (G.nm a) _ (G.nm a) = _
      rw [qu_eq, tc2]
    have p0 : faI g4 (some (S.oR (G.nm a))) 0 2 = some d1 := by
      refine Eq.trans (show faI g4 (some (S.oR (G.nm a))) 0 2 = some (S4.oV (G.nm a) (2 : Int32).toNatClampNeg) by rw [eS4]; exact p0) ?_
      rw [oe, tc2]; rfl
    have p1 : faI g4 (some S.a3) 1 (G.nd a).number = some m := p1.trans (congrArg some (if_pos rfl))
    have B : lB1 S S4 (G.nm a) := by
      rw [eS4]
      refine ⟨fun u hu => ⟨rfl, ?_, rfl⟩, rfl, rfl, rfl, rfl, rfl, rfl, rfl, rfl, rfl, rfl, rfl⟩
      show qu S.oV (G.nm a) _ u = _
      rw [qu_ne hu]
    have nv4 : S4.nV = S.nV ∧ S4.cR = S.cR ∧ S4.draws.toInt = S.draws.toInt + 2 := by
      rw [eS4]
      refine ⟨rfl, rfl, ?_⟩
      refine Eq.trans n3 ?_
      show (dS S).draws.toInt + 1 = _
      omega
    clear eS4
    have D2 := H.I.D a 2 la.1 (by decide)
    obtain ⟨g5, f5, R5⟩ := m_turn R4 H.I.V (i := (G.nd a).number) (t := d1) (m := m) (H.I.is la) hw (by rw [D2.1, D2.2.1]; exact ⟨by show (0 : Int) ≤ _; omega, by show _ ≤ (3 : Int); omega⟩) hm
    have I5 := H.I.turn (t := d1) (m := m) la.1 hw ⟨by omega, by omega⟩
    have ij := H.I.Y.inj
    have lv := H.g.lv a la
    have ne02 : G.pr a 0 ≠ G.pr a 2 := fun w => absurd (ij a a 0 2 la.1 la.1 (by decide) (by decide) w).2 (by decide)
    have ne32 : G.pr a 3 ≠ G.pr a 2 := fun w => absurd (ij a a 3 2 la.1 la.1 (by decide) (by decide) w).2 (by decide)
    have pe : (qTurn G a d1 m).pp = qu G.pp (G.pr a 2) ((G.pp (G.pr a 2)).s_own d1) := rfl
    have ne_ : ∀ b, b ≠ a → (qTurn G a d1 m).nd b = G.nd b := fun b q => qu_ne q
    have eq_ : (qTurn G a d1 m).nd a = (G.nd a).s_mir m := qu_eq
    have A : lA1 G (qTurn G a d1 m) a := by
      refine ⟨⟨rfl, rfl, rfl, rfl, rfl, rfl, rfl⟩, fun b => ?_, fun b q => ?_, fun b j hb hj ba => ?_, fun p => ?_, fun p => rfl⟩
      · by_cases q : b = a
        · rw [q, eq_]; exact ⟨rfl, rfl, rfl⟩
        · rw [ne_ b q]; exact ⟨rfl, rfl, rfl⟩
      · rw [ne_ b q]; exact ⟨rfl, rfl, rfl, rfl⟩
      · rw [pe, qu_ne (fun w => ba (ij b a j 2 hb la.1 hj (by decide) w).1)]
      · rw [pe]
        by_cases q0 : p = G.pr a 2
        · rw [q0, qu_eq]; rfl
        · rw [qu_ne q0]
    have g5' := lG.at1 (S2 := S4) H.I H.g la A B ⟨by rw [nv4.1], by rw [nv4.1, eq_]; exact lv.2.1, by rw [nv4.1, eq_]; exact lv.2.2.1, by rw [nv4.1, eq_]; exact lv.2.2.2.1, by rw [nv4.2.1, eq_]; exact lv.2.2.2.2.1, by rw [oe, pe, qu_ne ne02]; exact lv.2.2.2.2.2.1, by rw [oe, pe, qu_eq]; rfl, by rw [oe, pe, qu_ne ne32]; exact lv.2.2.2.2.2.2.2⟩
    have z5 : (qTurn G a d1 m).z = G.z := rfl
    generalize qTurn G a d1 m = G5 at *
    have L5 : lF S4 F4 G5.z := by rw [z5]; exact L4
    obtain ⟨b1, b2, b3', b4', b5', b6', b7', b8', b9', b10', b11'⟩ := B.s
    refine ⟨g5, ?_, G5, S4, F4, lH.of (R5.le (by omega)) L5 I5 g5' (by rw [b5']; exact H.sx) ⟨by omega, by omega⟩ (by rw [b9', b10', b11', b2, b3']; exact H.v), b1, z5⟩
    have c3 : fgR g4 (some S.lm) 8 5 = some (some S.a2) := c3
    have c4 : faR g4 (some S.a2) 4 (G.nd a).number = some (some (S.oR (G.nm a))) := c4
    have y3 : fgR g4 (some S.lm) 8 6 = some (some S.a3) := y3
    have w4 : fsI g3 (some S.a3) 1 (G.nd a).number m = some g4 := w4
    have sc : fgR g4 (some S.lm) 8 0 = some (some G.z) := sc
    have nv : vp_nar .boolean m = m := by
      rcases hm with z | z
      · rw [z]; exact nar0
      · rw [z]; exact nar1
    unfold f_X8_change_L235 f_X8_change_L268
    rw [nv, w4, Option.bind_some, sc, Option.bind_some, c3, Option.bind_some, c4, Option.bind_some, p0, Option.bind_some, y3, Option.bind_some, p1, Option.bind_some, oS R4, Option.bind_some, f5, Option.bind_some]
    dsimp only [Sum.elim_inl]
    rw [lv.2.2.2.2.2.2.1, if_pos rfl, if_pos (Or.inr rfl)]
  have w2 : fsI g1 (some (S.oR (G.nm a))) 0 2 d1 = some g2 := w2
  have x2 : fgR g2 (some S.lm) 8 6 = some (some S.a3) := x2
  have o2 : fobj g2 (some S.lm) 8 = some S.lm := o2
  have f3 : f_X8_draw S.lm 2 g2 = some (d2, g3) := f3
  rw [a3, Option.bind_some, a4, Option.bind_some, o0, Option.bind_some, Option.bind_some, a4, Option.bind_some, oL H.R H.L, Option.bind_some, f1, Option.bind_some]
  dsimp only
  rw [w2, Option.bind_some, x2, Option.bind_some, o2, Option.bind_some, f3, Option.bind_some]
  dsimp only
  by_cases q : d2 = 0
  · rw [if_pos q]; exact fin 1 (Or.inr rfl)
  · rw [if_neg q]; exact fin 0 (Or.inl rfl)
theorem h_c3 (H : lH X G S F (k + 4) h) (la : G.Lv a) (hw : a ≠ G.wh) : ∃ h2, ((fgR h (some S.lm) 8 5).bind fun x256 => (faR h x256 4 (G.nd a).number).bind fun x258 => (faI h x258 0 (3 : Int32)).bind fun x260 => (fobj h (some S.lm) 8).bind fun b264 => (f_X8_draw b264 (7 : Int32) h).bind fun r262 => (fsI r262.2 (some (S.nR (G.nm a))) 0 (6 : Int32) (r262.1 - (3 : Int32))).bind fun h266 => (fgR h266 (some S.lm) 8 5).bind fun x268 => (faR h266 x268 4 (G.nd a).number).bind fun x270 => (fobj h266 (some S.lm) 8).bind fun b274 => (f_X8_draw b274 (6 : Int32) h266).bind fun r272 => (if r272.1 = 0 then f_X8_change_L319 (some S.lm) (G.nd a).number (some (S.nR (G.nm a))) x260 (0 : Int32) (3 : Int32) x270 r272.2 else (fobj r272.2 (some S.lm) 8).bind fun b279 => (f_X8_draw b279 (100 : Int32) r272.2).bind fun r277 => f_X8_change_L319 (some S.lm) (G.nd a).number (some (S.nR (G.nm a))) x260 ((1 : Int32) + r277.1) (3 : Int32) x270 r277.2)) = some (1, h2) ∧ lNx X S.lm G.z k h2 := by
  obtain ⟨tc0, tc1, tc2, tc3, tc4, tc5, tc6, -⟩ := tc
  have e7 : (7 : Int32).toInt = 7 := by decide
  have e3 : (3 : Int32).toInt = 3 := by decide
  have e1 : (1 : Int32).toInt = 1 := by decide
  have e100 : (100 : Int32).toInt = 100 := by decide
  have ad := H.g.ad
  have v1 : G.added.toInt ≤ S.v1 := by have := H.v.1; rw [ad] at this; omega
  have v2 : G.added.toInt ≤ S.v2 := by have := H.v.2.1; rw [ad] at this; omega
  have dr := H.dr
  obtain ⟨q1, q2, q3, q4, q5⟩ := H.I.rg la.1 rfl
  obtain ⟨-, -, a3, a4, a5, a6⟩ := x_rows H.R H.L H.I la.1 v1 v2
  have o0 := vO H.R H.L a6 (j := 3) (by decide) (by decide)
  rw [tc3] at o0
  obtain ⟨d1, g1, F1, f1, r1, R1, L1, n1, -⟩ := x_draw H.R H.L H.sx ⟨dr.1, by omega⟩ (n := 7) (by decide)
  rw [e7] at r1
  obtain ⟨g2, w2, R2, L2⟩ := wN R1 L1 (i := G.nm a) a5 (j := 6) (by decide) (by decide) (d1 - 3)
  obtain ⟨-, -, b3, b4, b5, b6⟩ := x_rows R2 L2 H.I la.1 v1 v2
  have o2 := oL R2 L2
  obtain ⟨d2, g3, F3, f3, r3, R3, L3, n3, -⟩ := x_draw R2 L2 H.sx (show 0 ≤ (dS S).draws.toInt ∧ (dS S).draws.toInt ≤ 900000 by omega) (n := 6) (by decide)
  obtain ⟨S3, L3, m1, m2, m3, m4, m5, m6, m7, m8, m9, m10, m11, m12, n3'⟩ : ∃ S3, lF S3 F3 G.z ∧ S3.lm = S.lm ∧ S3.a1 = S.a1 ∧ S3.a2 = S.a2 ∧ S3.a4 = S.a4 ∧ S3.nR = S.nR ∧ S3.oR = S.oR ∧ S3.v1 = S.v1 ∧ S3.v2 = S.v2 ∧ S3.v6 = S.v6 ∧ S3.nV = qu S.nV (G.nm a) (upd (S.nV (G.nm a)) 6 (d1 - 3)) ∧ S3.oV = S.oV ∧ (S3.added = S.added ∧ S3.tracks = S.tracks ∧ S3.time = S.time ∧ S3.sc = S.sc ∧ S3.tV = S.tV ∧ S3.kN = S.kN ∧ S3.kV = S.kV ∧ S3.cR = S.cR) ∧ S3.draws.toInt = S.draws.toInt + 2 := by
    refine ⟨_, L3, rfl, rfl, rfl, rfl, rfl, rfl, rfl, rfl, rfl, ?_, rfl, ⟨rfl, rfl, rfl, rfl, rfl, rfl, rfl, rfl⟩, ?_⟩
    · show qu S.nV (G.nm a) (upd (S.nV (G.nm a)) (6 : Int32).toNatClampNeg (d1 - 3)) = _
      rw [tc6]
    · refine Eq.trans n3 ?_
      show (dS S).draws.toInt + 1 = _
      omega
  have sl : (d1 - 3).toInt = d1.toInt - 3 := by rw [i32_sub (by omega) (by omega), e3]
  have w2 : fsI g1 (some (S.nR (G.nm a))) 0 6 (d1 - 3) = some g2 := w2
  have b3 : fgR g2 (some S.lm) 8 5 = some (some S.a2) := b3
  have b4 : faR g2 (some S.a2) 4 (G.nd a).number = some (some (S.oR (G.nm a))) := b4
  have o2 : fobj g2 (some S.lm) 8 = some S.lm := o2
  have f3 : f_X8_draw S.lm 6 g2 = some (d2, g3) := f3
  -- with the opacity, hidden or not
  have fin : ∀ (op hd : Int32) (Sb : lS) (Fb : Nat → Option fCe) (g : fSt), qR G Fb X (k + 4) g → lF Sb Fb G.z → Sb.lm = S.lm → Sb.a1 = S.a1 → Sb.a2 = S.a2 → Sb.a4 = S.a4 → Sb.nR = S.nR → Sb.oR = S.oR → Sb.v1 = S.v1 → Sb.v2 = S.v2 → Sb.v6 = S.v6 → Sb.nV = qu S.nV (G.nm a) (upd (S.nV (G.nm a)) 6 (d1 - 3)) → Sb.oV = qu S.oV (G.nm a) (upd (S.oV (G.nm a)) 3 op) → (Sb.added = S.added ∧ Sb.tracks = S.tracks ∧ Sb.time = S.time ∧ Sb.sc = S.sc ∧ Sb.tV = S.tV ∧ Sb.kN = S.kN ∧ Sb.kV = S.kV ∧ Sb.cR = S.cR) → (Sb.draws.toInt ≤ S.draws.toInt + 4 ∧ 0 ≤ Sb.draws.toInt) → (0 ≤ op.toInt ∧ op.toInt ≤ 100) → (hd = 0 ∨ hd = 1) → ∃ h2, f_X8_change_L339 (some S.lm) (G.nd a).number (some (S.nR (G.nm a))) (S.oV (G.nm a) 3) hd (G.nd a).number (some S.a4) g = some (1, h2) ∧ lNx X S.lm G.z k h2 := by
    intro op hd Sb Fb g Rb Lb x1 x2 x3 x4 x5 x6 x7 x8 x9 x10 x11 x12 x13 hop hh
    obtain ⟨y1, y2, y3, y4, y5, y6, y7, y8⟩ := x12
    obtain ⟨g4, w4, R4, L4⟩ := w4 Rb Lb (j := (G.nd a).number) q1 (by omega) hd
    obtain ⟨-, -, c3, c4, c5, c6⟩ := x_rows R4 L4 H.I la.1 (by show _ ≤ (Sb.v1 : Int); rw [x7]; exact v1) (by show _ ≤ (Sb.v2 : Int); rw [x8]; exact v2)
    have p0 := vO R4 L4 (i := G.nm a) (by show _ < Sb.v2; rw [x8]; exact a6) (j := 3) (by decide) (by decide)
    have p2 := vN R4 L4 (i := G.nm a) (by show _ < Sb.v1; rw [x7]; exact a5) (j := 6) (by decide) (by decide)
    have p1 := v4 R4 L4 (i := (G.nd a).number) q1 (by omega)
    have z3 := gL_a4 R4 L4
    have sc := gL_sc_ R4 L4
    have c3 : fgR g4 (some Sb.lm) 8 5 = some (some Sb.a2) := c3
    have c4 : faR g4 (some Sb.a2) 4 (G.nd a).number = some (some (Sb.oR (G.nm a))) := c4
    have z3 : fgR g4 (some Sb.lm) 8 7 = some (some Sb.a4) := z3
    have sc : fgR g4 (some Sb.lm) 8 0 = some (some G.z) := sc
    have p0 : faI g4 (some (Sb.oR (G.nm a))) 0 3 = some (Sb.oV (G.nm a) (3 : Int32).toNatClampNeg) := p0
    have p2 : faI g4 (some (Sb.nR (G.nm a))) 0 6 = some (Sb.nV (G.nm a) (6 : Int32).toNatClampNeg) := p2
    have p1 : faI g4 (some Sb.a4) 1 (G.nd a).number = some hd := p1.trans (congrArg some (if_pos rfl))
    rw [x1, x3] at c3
    rw [x3, x6] at c4
    rw [x1, x4] at z3
    rw [x1] at sc
    rw [x6, x11, qu_eq, tc3] at p0
    rw [x5, x10, qu_eq, tc6] at p2
    rw [x4] at p1 w4
    have p0 : faI g4 (some (S.oR (G.nm a))) 0 3 = some op := p0.trans (congrArg some (if_pos rfl))
    have p2 : faI g4 (some (S.nR (G.nm a))) 0 6 = some (d1 - 3) := p2.trans (congrArg some (if_pos rfl))
    have D3 := H.I.D a 3 la.1 (by decide)
    have K3 := (H.I.lookJ (y := d1 - 3) (o := op) (hd := hd) la.1 hw ⟨by omega, by omega⟩ hop).kc
    obtain ⟨g5, f5, R5⟩ := m_look R4 H.I.V (i := (G.nd a).number) (y := d1 - 3) (o := op) (hd := hd) (H.I.is la) hw ⟨by omega, by omega⟩ (by rw [D3.1, D3.2.1]; exact ⟨by show (0 : Int) ≤ _; omega, by show _ ≤ (100 : Int); omega⟩) hh K3
    have I5 := H.I.look (y := d1 - 3) (o := op) (hd := hd) la.1 hw ⟨by omega, by omega⟩ hop
    have ij := H.I.Y.inj
    have lv := H.g.lv a la
    have ne03 : G.pr a 0 ≠ G.pr a 3 := fun w => absurd (ij a a 0 3 la.1 la.1 (by decide) (by decide) w).2 (by decide)
    have ne23 : G.pr a 2 ≠ G.pr a 3 := fun w => absurd (ij a a 2 3 la.1 la.1 (by decide) (by decide) w).2 (by decide)
    have pe : (qLook G a (d1 - 3) op hd).pp = qu G.pp (G.pr a 3) ((G.pp (G.pr a 3)).s_own op) := by
      unfold qLook
      rw [lo_pp]; rfl
    have nb_ : ∀ b, ((qOwn (G.setN a ((G.nd a).s_layer (d1 - 3))) (G.pr a 3) op).setN a (((G.nd a).s_layer (d1 - 3)).s_hid hd)).nd b = if b = a then ((G.nd a).s_layer (d1 - 3)).s_hid hd else G.nd b := fun b => by
      show qu (qu G.nd a _) a _ b = _
      by_cases q : b = a
      · rw [q, qu_eq, if_pos rfl]
      · rw [qu_ne q, qu_ne q, if_neg q]
    have nf : ∀ {α : Type} (f : qN → α), (∀ q v, f (qN.s_layer q v) = f q) → (∀ q v, f (qN.s_hid q v) = f q) → ∀ b, f (((qOwn (G.setN a ((G.nd a).s_layer (d1 - 3))) (G.pr a 3) op).setN a (((G.nd a).s_layer (d1 - 3)).s_hid hd)).nd b) = f (G.nd b) := fun f h1 h2 b => by
      rw [nb_]
      by_cases q : b = a
      · rw [if_pos q, h2, h1, q]
      · rw [if_neg q]
    have lay : ∀ b, ((qLook G a (d1 - 3) op hd).nd b).layer = if b = a then d1 - 3 else (G.nd b).layer := fun b => by
      unfold qLook
      rw [lon_layer, nb_]
      by_cases q : b = a
      · rw [if_pos q, if_pos q]; rfl
      · rw [if_neg q, if_neg q]
    have A : lA1 G (qLook G a (d1 - 3) op hd) a := by
      refine ⟨⟨?_, ?_, ?_, ?_, ?_, ?_, ?_⟩, fun b => ⟨?_, ?_, ?_⟩, fun b q => ⟨?_, ?_, ?_, ?_⟩, fun b j hb hj ba => ?_, fun p => ?_, fun p => ?_⟩
      · unfold qLook; rw [lo_N]; rfl
      · unfold qLook; rw [lo_added]; rfl
      · unfold qLook; rw [lo_tracked]; rfl
      · unfold qLook; rw [lo_tr]; rfl
      · unfold qLook; rw [lo_pr]; rfl
      · unfold qLook; rw [lo_time]; rfl
      · unfold qLook; rw [lo_z]; rfl
      · unfold qLook; rw [lon_number]; exact nf qN.number (fun _ _ => rfl) (fun _ _ => rfl) b
      · unfold qLook; rw [lon_par]; exact nf qN.par (fun _ _ => rfl) (fun _ _ => rfl) b
      · unfold qLook; rw [lon_gone]; exact nf qN.gone (fun _ _ => rfl) (fun _ _ => rfl) b
      · unfold qLook; rw [lon_over]; exact nf qN.over (fun _ _ => rfl) (fun _ _ => rfl) b
      · unfold qLook; rw [lon_under]; exact nf qN.under (fun _ _ => rfl) (fun _ _ => rfl) b
      · rw [lay, if_neg q]
      · unfold qLook; rw [lon_cut]; exact nf qN.cut (fun _ _ => rfl) (fun _ _ => rfl) b
      · rw [pe, qu_ne (fun w => ba (ij b a j 3 hb la.1 hj (by decide) w).1)]
      · rw [pe]
        by_cases q0 : p = G.pr a 3
        · rw [q0, qu_eq]; rfl
        · rw [qu_ne q0]
      · unfold qTm qLook
        rw [lo_kl, lo_ky]; rfl
    have B : lB1 S (Sb.s_g4 (upd Sb.g4 (G.nd a).number.toNatClampNeg hd)) (G.nm a) := by
      refine ⟨fun u hu => ⟨?_, ?_, ?_⟩, x1, y1, y2, y3, y4, y5, y6, y7, x7, x8, x9⟩
      · show Sb.nV u = _
        rw [x10, qu_ne hu]
      · show Sb.oV u = _
        rw [x11, qu_ne hu]
      · show Sb.cR u = _
        rw [y8]
    have ov : ((qLook G a (d1 - 3) op hd).nd a).over = (G.nd a).over := by unfold qLook; rw [lon_over]; exact nf qN.over (fun _ _ => rfl) (fun _ _ => rfl) a
    have un : ((qLook G a (d1 - 3) op hd).nd a).under = (G.nd a).under := by unfold qLook; rw [lon_under]; exact nf qN.under (fun _ _ => rfl) (fun _ _ => rfl) a
    have ct : ((qLook G a (d1 - 3) op hd).nd a).cut = (G.nd a).cut := by unfold qLook; rw [lon_cut]; exact nf qN.cut (fun _ _ => rfl) (fun _ _ => rfl) a
    have g5' := lG.at1 (S2 := Sb.s_g4 (upd Sb.g4 (G.nd a).number.toNatClampNeg hd)) H.I H.g la A B ⟨by show Sb.nV _ 0 = _; rw [x10, qu_eq]; rfl, by show Sb.nV _ 4 = _; rw [x10, qu_eq, ov]; exact lv.2.1, by show Sb.nV _ 5 = _; rw [x10, qu_eq, un]; exact lv.2.2.1, by show Sb.nV _ 6 = _; rw [x10, qu_eq, lay, if_pos rfl]; rfl, by show Sb.cR _ = none ↔ _; rw [y8, ct]; exact lv.2.2.2.2.1, by show Sb.oV _ 0 = _; rw [x11, qu_eq, pe, qu_ne ne03]; exact lv.2.2.2.2.2.1, by show Sb.oV _ 2 = _; rw [x11, qu_eq, pe, qu_ne ne23]; exact lv.2.2.2.2.2.2.1, by show Sb.oV _ 3 = _; rw [x11, qu_eq, pe, qu_eq]; rfl⟩
    have z5 := A.st.2.2.2.2.2.2
    generalize qLook G a (d1 - 3) op hd = G5 at *
    have L5 := L4
    rw [← z5] at L5
    refine ⟨g5, ?_, G5, _, _, lH.of (R5.le (by omega)) L5 I5 g5' (by show Sb.sc = _ ∧ _; rw [y4]; exact H.sx) ⟨x13.2, by show Sb.draws.toInt + k ≤ _; omega⟩ ⟨by show (Sb.v1 : Int) = Sb.added.toInt; rw [x7, y1]; exact H.v.1, by show (Sb.v2 : Int) = Sb.added.toInt; rw [x8, y1]; exact H.v.2.1, by show (Sb.v6 : Int) = Sb.tracks.toInt; rw [x9, y2]; exact H.v.2.2⟩, x1, z5⟩
    have nv : vp_nar .boolean hd = hd := by
      rcases hh with z | z
      · rw [z]; exact nar0
      · rw [z]; exact nar1
    unfold f_X8_change_L339 f_X8_change_L376
    rw [nv, w4, Option.bind_some, sc, Option.bind_some, p2, Option.bind_some, c3, Option.bind_some, c4, Option.bind_some, p0, Option.bind_some, z3, Option.bind_some, p1, Option.bind_some, oS R4, Option.bind_some, f5, Option.bind_some]
    dsimp only [Sum.elim_inl]
    rw [lv.2.2.2.2.2.2.2, if_pos rfl, if_pos (Or.inr rfl)]
  -- with the opacity
  have mid : ∀ (op : Int32) (Sb : lS) (Fb : Nat → Option fCe) (g : fSt), qR G Fb X (k + 4) g → lF Sb Fb G.z → Sb.lm = S.lm → Sb.a1 = S.a1 → Sb.a2 = S.a2 → Sb.a4 = S.a4 → Sb.nR = S.nR → Sb.oR = S.oR → Sb.v1 = S.v1 → Sb.v2 = S.v2 → Sb.v6 = S.v6 → Sb.nV = qu S.nV (G.nm a) (upd (S.nV (G.nm a)) 6 (d1 - 3)) → Sb.oV = S.oV → (Sb.added = S.added ∧ Sb.tracks = S.tracks ∧ Sb.time = S.time ∧ Sb.sc = S.sc ∧ Sb.tV = S.tV ∧ Sb.kN = S.kN ∧ Sb.kV = S.kV ∧ Sb.cR = S.cR) → (Sb.draws.toInt ≤ S.draws.toInt + 3 ∧ 0 ≤ Sb.draws.toInt) → (0 ≤ op.toInt ∧ op.toInt ≤ 100) → ∃ h2, f_X8_change_L319 (some S.lm) (G.nd a).number (some (S.nR (G.nm a))) (S.oV (G.nm a) 3) op 3 (some (S.oR (G.nm a))) g = some (1, h2) ∧ lNx X S.lm G.z k h2 := by
    intro op Sb Fb g Rb Lb x1 x2 x3 x4 x5 x6 x7 x8 x9 x10 x11 x12 x13 hop
    obtain ⟨g4, w4, R4, L4⟩ := wO Rb Lb (i := G.nm a) (by rw [x8]; exact a6) (j := 3) (by decide) (by decide) op
    have z3 := gL_a4 R4 L4
    have o4 := oL R4 L4
    have z3 : fgR g4 (some Sb.lm) 8 7 = some (some Sb.a4) := z3
    have o4 : fobj g4 (some Sb.lm) 8 = some Sb.lm := o4
    rw [x1, x4] at z3
    rw [x1] at o4
    rw [x6] at w4
    obtain ⟨d5, g5, F5, f5, r5, R5, L5, n5, -⟩ := x_draw R4 L4 (by show Sb.sc = _ ∧ _; rw [x12.2.2.2.1]; exact H.sx) (show 0 ≤ Sb.draws.toInt ∧ Sb.draws.toInt ≤ 900000 by omega) (n := 6) (by decide)
    have f5 : f_X8_draw Sb.lm 6 g4 = some (d5, g5) := f5
    rw [x1] at f5
    have n5 : _ = Sb.draws.toInt + 1 := n5
    unfold f_X8_change_L319
    rw [w4, Option.bind_some, z3, Option.bind_some, o4, Option.bind_some, f5, Option.bind_some]
    dsimp only
    have go : ∀ hd : Int32, hd = 0 ∨ hd = 1 → ∃ h2, f_X8_change_L339 (some S.lm) (G.nd a).number (some (S.nR (G.nm a))) (S.oV (G.nm a) 3) hd (G.nd a).number (some S.a4) g5 = some (1, h2) ∧ lNx X S.lm G.z k h2 := fun hd hh => by
      refine fin op hd _ F5 g5 R5 L5 x1 x2 x3 x4 x5 x6 x7 x8 x9 x10 ?_ x12 ⟨by rw [n5]; omega, by rw [n5]; omega⟩ hop hh
      show qu Sb.oV (G.nm a) (upd (Sb.oV (G.nm a)) (3 : Int32).toNatClampNeg op) = _
      rw [x11, tc3]
    by_cases q : d5 = 0
    · rw [if_pos q]; exact go 1 (Or.inr rfl)
    · rw [if_neg q]; exact go 0 (Or.inl rfl)
  rw [a3, Option.bind_some, a4, Option.bind_some, o0, Option.bind_some, oL H.R H.L, Option.bind_some, f1, Option.bind_some]
  dsimp only
  rw [w2, Option.bind_some, b3, Option.bind_some, b4, Option.bind_some, o2, Option.bind_some, f3, Option.bind_some]
  dsimp only
  by_cases q : d2 = 0
  · rw [if_pos q]
    exact mid 0 S3 F3 g3 R3 L3 m1 m2 m3 m4 m5 m6 m7 m8 m9 m10 m11 m12 ⟨by omega, by omega⟩ (by decide)
  · rw [if_neg q]
    have o3 := oL R3 L3
    rw [m1] at o3
    obtain ⟨d4, g4, F4, f4, r4, R4, L4, n4, -⟩ := x_draw R3 L3 (by rw [m12.2.2.2.1]; exact H.sx) ⟨by omega, by omega⟩ (n := 100) (by decide)
    rw [m1] at f4
    rw [e100] at r4
    have s4 : (1 + d4).toInt = 1 + d4.toInt := by rw [i32_add (by omega) (by omega), e1]
    rw [o3, Option.bind_some, f4, Option.bind_some]
    dsimp only
    exact mid (1 + d4) _ F4 g4 R4 L4 m1 m2 m3 m4 m5 m6 m7 m8 m9 m10 m11 m12 ⟨by rw [n4]; omega, by rw [n4]; omega⟩ ⟨by omega, by omega⟩
end LCHG
