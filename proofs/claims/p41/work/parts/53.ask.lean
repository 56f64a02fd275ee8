/-! Bounds, the checksum, and the class's questions as they are asked. -/
section ASK
variable {G : qS} {F : Nat → Option fCe} {X : Nat × Nat × (Nat → Int32)} {k : Nat} {h : fSt} {a : Nat}
def qFd (G : qS) : Prop := G.f0 ≠ G.f1 ∧ G.f0 ≠ G.f2 ∧ G.f0 ≠ G.f3 ∧ G.f1 ≠ G.f2 ∧ G.f1 ≠ G.f3 ∧ G.f2 ≠ G.f3
abbrev qFr : Type := Int64 × Int64
def qRed (x u : Int64) : qFr := (x / qCd x u, u / qCd x u)
def qLow (b : qFr) (x u : Int64) : qFr := if b.2 = 0 then qRed x u else if b.1 * u ≤ x * b.2 then b else qRed x u
def qRai (b : qFr) (x u : Int64) : qFr := if b.2 = 0 then qRed x u else if x * b.2 ≤ b.1 * u then b else qRed x u
theorem x_fset {p : Nat} {b : qFr} (x y : Int64) : f_X1_set p x y (FR p b.1 b.2 h) = some ((), FR p (qRed x y).1 (qRed x y).2 h) := by
  unfold f_X1_set f_X1_set_L0 qRed
  simp only [x_gcd, Option.bind_some, qCd_0, if_false, wF0, wF1]
theorem oFR {p : Nat} {x y : Int64} : fobj (FR p x y h) (some p) 1 = some p := fobj_C fF_set_eq
theorem x_low {p : Nat} {b : qFr} (x u : Int64) : f_X1_lowerTo p x u (FR p b.1 b.2 h) = some ((), FR p (qLow b x u).1 (qLow b x u).2 h) := by
  unfold f_X1_lowerTo f_X1_lowerTo_L0 f_X1_lowerTo_L25 f_X1_lowerTo_L31 qLow
  simp only [gF0, gF1, oFR, Option.bind_some, x_fset]
  by_cases q1 : b.2 = 0
  · simp only [q1, if_true]
  · by_cases q2 : b.1 * u ≤ x * b.2
    · simp only [q1, q2, if_true, if_false]
    · simp only [q1, q2, if_true, if_false, x_fset, Option.bind_some]
theorem x_rai {p : Nat} {b : qFr} (x u : Int64) : f_X1_raiseTo p x u (FR p b.1 b.2 h) = some ((), FR p (qRai b x u).1 (qRai b x u).2 h) := by
  unfold f_X1_raiseTo f_X1_raiseTo_L0 f_X1_raiseTo_L25 f_X1_raiseTo_L31 qRai
  simp only [gF0, gF1, oFR, Option.bind_some, x_fset]
  by_cases q1 : b.2 = 0
  · simp only [q1, if_true]
  · by_cases q2 : x * b.2 ≤ b.1 * u
    · simp only [q1, q2, if_true, if_false]
    · simp only [q1, q2, if_true, if_false, x_fset, Option.bind_some]
def frc (b : qFr) : fCe := .inl (1, [.long b.1, .long b.2])
def isF (G : qS) (p : Nat) : Prop := p = G.f0 ∨ p = G.f1 ∨ p = G.f2 ∨ p = G.f3
theorem qR.s_f (R : qR G F X k h) {p : Nat} (hp : isF G p) (x y : Int64) : qR G F X k (FR p x y h) := by
  rcases hp with rfl | rfl | rfl | rfl
  · exact R.s_f0 x y
  · exact R.s_f1 x y
  · exact R.s_f2 x y
  · exact R.s_f3 x y
theorem FR_at {p : Nat} {b : qFr} (e : fF h p = some (frc b)) : FR p b.1 b.2 h = h := FR_self e
theorem x_setAt (R : qR G F X k h) {p : Nat} {b : qFr} (hp : isF G p) (e : fF h p = some (frc b)) (x u : Int64) : ∃ h2, f_X1_set p x u h = some ((), h2) ∧ qR G F X k h2 ∧ fF h2 p = some (frc (qRed x u)) ∧ ∀ q, q ≠ p → fF h2 q = fF h q := by
  refine ⟨FR p (qRed x u).1 (qRed x u).2 h, ?_, R.s_f hp _ _, fF_set_eq, fun q n => fF_set_ne n⟩
  conv => lhs; rw [← FR_at e]
  exact x_fset x u
theorem x_lowAt (R : qR G F X k h) {p : Nat} {b : qFr} (hp : isF G p) (e : fF h p = some (frc b)) (x u : Int64) : ∃ h2, f_X1_lowerTo p x u h = some ((), h2) ∧ qR G F X k h2 ∧ fF h2 p = some (frc (qLow b x u)) ∧ ∀ q, q ≠ p → fF h2 q = fF h q := by
  refine ⟨FR p (qLow b x u).1 (qLow b x u).2 h, ?_, R.s_f hp _ _, fF_set_eq, fun q n => fF_set_ne n⟩
  conv => lhs; rw [← FR_at e]
  exact x_low x u
theorem x_raiAt (R : qR G F X k h) {p : Nat} {b : qFr} (hp : isF G p) (e : fF h p = some (frc b)) (x u : Int64) : ∃ h2, f_X1_raiseTo p x u h = some ((), h2) ∧ qR G F X k h2 ∧ fF h2 p = some (frc (qRai b x u)) ∧ ∀ q, q ≠ p → fF h2 q = fF h q := by
  refine ⟨FR p (qRai b x u).1 (qRai b x u).2 h, ?_, R.s_f hp _ _, fF_set_eq, fun q n => fF_set_ne n⟩
  conv => lhs; rw [← FR_at e]
  exact x_rai x u
abbrev qBo : Type := qFr × qFr × qFr × qFr
def qB (G : qS) (B : qBo) (h : fSt) : Prop := fF h G.f0 = some (frc B.1) ∧ fF h G.f1 = some (frc B.2.1) ∧ fF h G.f2 = some (frc B.2.2.1) ∧ fF h G.f3 = some (frc B.2.2.2)
def qPtI (G : qS) (P : qPt) (h : fSt) : Prop := fF h G.pt = some (.inl (5, [.long P.1, .long P.2.1, .long P.2.2.1, .int P.2.2.2]))
def qInc (B : qBo) (P : qPt) : qBo := (qLow B.1 P.1 P.2.2.1, qLow B.2.1 P.2.1 P.2.2.1, qRai B.2.2.1 P.1 P.2.2.1, qRai B.2.2.2 P.2.1 P.2.2.1)
theorem pt_f (R : qR G F X k h) {p : Nat} (hp : isF G p) : G.pt ≠ p := by
  intro z
  obtain ⟨x, y, u, c, e⟩ := R.pt
  have f : ∃ b, fF h p = some (frc b) := by
    rcases hp with rfl | rfl | rfl | rfl
    · obtain ⟨x, y, e⟩ := R.f0; exact ⟨(x, y), e⟩
    · obtain ⟨x, y, e⟩ := R.f1; exact ⟨(x, y), e⟩
    · obtain ⟨x, y, e⟩ := R.f2; exact ⟨(x, y), e⟩
    · obtain ⟨x, y, e⟩ := R.f3; exact ⟨(x, y), e⟩
  obtain ⟨b, f⟩ := f
  rw [← z, e] at f
  have := congrArg qT (Option.some.inj f)
  exact absurd this (show (5 : Nat) ≠ 1 by decide)
theorem x_inc (R : qR G F X k h) (fd : qFd G) {B : qBo} {P : qPt} (hB : qB G B h) (hP : qPtI G P h) : ∃ h2, f_X0_include G.bo (some G.pt) h = some ((), h2) ∧ qR G F X k h2 ∧ qB G (qInc B P) h2 ∧ qPtI G P h2 := by
  obtain ⟨d01, d02, d03, d12, d13, d23⟩ := fd
  obtain ⟨b0, b1, b2, b3⟩ := hB
  have i0 : isF G G.f0 := Or.inl rfl
  have i1 : isF G G.f1 := Or.inr (Or.inl rfl)
  have i2 : isF G G.f2 := Or.inr (Or.inr (Or.inl rfl))
  have i3 : isF G G.f3 := Or.inr (Or.inr (Or.inr rfl))
  have px := fun {h : fSt} (e : qPtI G P h) => fgJ_C (k := 0) e rfl
  have py := fun {h : fSt} (e : qPtI G P h) => fgJ_C (k := 1) e rfl
  have pu := fun {h : fSt} (e : qPtI G P h) => fgJ_C (k := 2) e rfl
  obtain ⟨h1, e1, R1, w1, n1⟩ := x_lowAt R i0 b0 P.1 P.2.2.1
  have hP1 : qPtI G P h1 := (n1 _ (pt_f R i0)).trans hP
  obtain ⟨h2, e2, R2, w2, n2⟩ := x_lowAt R1 i1 ((n1 _ d01.symm).trans b1) P.2.1 P.2.2.1
  have hP2 : qPtI G P h2 := (n2 _ (pt_f R1 i1)).trans hP1
  obtain ⟨h3, e3, R3, w3, n3⟩ := x_raiAt R2 i2 ((n2 _ d12.symm).trans ((n1 _ d02.symm).trans b2)) P.1 P.2.2.1
  have hP3 : qPtI G P h3 := (n3 _ (pt_f R2 i2)).trans hP2
  obtain ⟨h4, e4, R4, w4, n4⟩ := x_raiAt R3 i3 ((n3 _ d23.symm).trans ((n2 _ d13.symm).trans ((n1 _ d03.symm).trans b3))) P.2.1 P.2.2.1
  have hP4 : qPtI G P h4 := (n4 _ (pt_f R3 i3)).trans hP3
  refine ⟨h4, ?_, R4, ⟨?_, ?_, ?_, w4⟩, hP4⟩
  · unfold f_X0_include f_X0_include_L0
    rw [gB_0 R, Option.bind_some, px hP, Option.bind_some, pu hP, Option.bind_some, oF_0 R, Option.bind_some, e1, Option.bind_some]
    dsimp only
    rw [gB_1 R1, Option.bind_some, py hP1, Option.bind_some, pu hP1, Option.bind_some, oF_1 R1, Option.bind_some, e2, Option.bind_some]
    dsimp only
    rw [gB_2 R2, Option.bind_some, px hP2, Option.bind_some, pu hP2, Option.bind_some, oF_2 R2, Option.bind_some, e3, Option.bind_some]
    dsimp only
    rw [gB_3 R3, Option.bind_some, py hP3, Option.bind_some, pu hP3, Option.bind_some, oF_3 R3, Option.bind_some, e4, Option.bind_some]
  · rw [n4 _ d03, n3 _ d02, n2 _ d01]; exact w1
  · rw [n4 _ d13, n3 _ d12]; exact w2
  · rw [n4 _ d23]; exact w3
def qB0 : qBo := (qRed 0 0, qRed 0 0, qRed 0 0, qRed 0 0)
theorem x_clear (R : qR G F X k h) (fd : qFd G) : ∃ h2, f_X0_clear G.bo h = some ((), h2) ∧ qR G F X k h2 ∧ qB G qB0 h2 := by
  obtain ⟨d01, d02, d03, d12, d13, d23⟩ := fd
  obtain ⟨x0, y0, b0⟩ := R.f0
  obtain ⟨x1, y1, b1⟩ := R.f1
  obtain ⟨x2, y2, b2⟩ := R.f2
  obtain ⟨x3, y3, b3⟩ := R.f3
  have i0 : isF G G.f0 := Or.inl rfl
  have i1 : isF G G.f1 := Or.inr (Or.inl rfl)
  have i2 : isF G G.f2 := Or.inr (Or.inr (Or.inl rfl))
  have i3 : isF G G.f3 := Or.inr (Or.inr (Or.inr rfl))
  obtain ⟨h1, e1, R1, w1, n1⟩ := x_setAt (b := (x0, y0)) R i0 b0 0 0
  obtain ⟨h2, e2, R2, w2, n2⟩ := x_setAt (b := (x1, y1)) R1 i1 ((n1 _ d01.symm).trans b1) 0 0
  obtain ⟨h3, e3, R3, w3, n3⟩ := x_setAt (b := (x2, y2)) R2 i2 ((n2 _ d12.symm).trans ((n1 _ d02.symm).trans b2)) 0 0
  obtain ⟨h4, e4, R4, w4, n4⟩ := x_setAt (b := (x3, y3)) R3 i3 ((n3 _ d23.symm).trans ((n2 _ d13.symm).trans ((n1 _ d03.symm).trans b3))) 0 0
  refine ⟨h4, ?_, R4, ?_, ?_, ?_, w4⟩
  · unfold f_X0_clear f_X0_clear_L0
    rw [gB_0 R, Option.bind_some, oF_0 R, Option.bind_some, e1, Option.bind_some]
    dsimp only
    rw [gB_1 R1, Option.bind_some, oF_1 R1, Option.bind_some, e2, Option.bind_some]
    dsimp only
    rw [gB_2 R2, Option.bind_some, oF_2 R2, Option.bind_some, e3, Option.bind_some]
    dsimp only
    rw [gB_3 R3, Option.bind_some, oF_3 R3, Option.bind_some, e4, Option.bind_some]
  · rw [n4 _ d03, n3 _ d02, n2 _ d01]; exact w1
  · rw [n4 _ d13, n3 _ d12]; exact w2
  · rw [n4 _ d23]; exact w3
/-- the bounds of what is in a node -/
def qRs (G : qS) (a : Nat) (x y : Int32) : qPt := qUpP G G.time (G.up a) (Int32.toInt64 x, Int32.toInt64 y, 1, 0)
def qGa (G : qS) (top : Nat) : qBo → List Nat → qBo
  | B, [] => B
  | B, a :: l => if (G.nd a).kind = 0 then qGa G top B l else if qIn (some top) (G.up a) then (if qSh G G.time (G.up a) then
      qGa G top (qInc (qInc B (qRs G a (G.fm (G.fr a)).left (G.fm (G.fr a)).top)) (qRs G a (G.fm (G.fr a)).right (G.fm (G.fr a)).bot)) l else qGa G top B l) else qGa G top B l
theorem qB_PT (R : qR G F X k h) {B : qBo} (hB : qB G B h) (P : qPt) : qB G B (PTq G.pt P h) := by
  have i0 : isF G G.f0 := Or.inl rfl
  have i1 : isF G G.f1 := Or.inr (Or.inl rfl)
  have i2 : isF G G.f2 := Or.inr (Or.inr (Or.inl rfl))
  have i3 : isF G G.f3 := Or.inr (Or.inr (Or.inr rfl))
  exact ⟨(fF_set_ne (pt_f R i0).symm).trans hB.1, (fF_set_ne (pt_f R i1).symm).trans hB.2.1, (fF_set_ne (pt_f R i2).symm).trans hB.2.2.1, (fF_set_ne (pt_f R i3).symm).trans hB.2.2.2⟩
theorem x_gaL (V : qV G) (fd : qFd G) (top : Nat) : ∀ (l : List Nat) (o : Option Nat) (n : Nat) (h : fSt) (B : qBo), Ch G.befF G.N l o → (∀ a, a ∈ l → G.Lv a) → l.length < n → qR G F X k h → qB G B h → ∃ h2, f_X7_gatherBounds_L12 n (some G.z) (some top) o h = some ((), h2) ∧ qR G F X k h2 ∧ qB G (qGa G top B l) h2
  | [], o, n + 1, h, B, c, _, _, R, hB => by
    obtain rfl : o = none := c
    rw [sN_X7_gatherBounds_L12]
    exact ⟨h, rfl, R, hB⟩
  | a :: l, o, n + 1, h, B, c, hl, hn, R, hB => by
    obtain ⟨rfl, ha, c2⟩ := c
    have hn2 : l.length + 1 < n + 1 := hn
    have la := hl a List.mem_cons_self
    obtain ⟨cu, lu⟩ := V.up a la
    obtain ⟨ef, hm⟩ := V.fr a ha
    have hl2 : ∀ b, b ∈ l → G.Lv b := fun b hb => hl b (List.mem_cons_of_mem _ hb)
    have nx : ∀ (h : fSt) (B : qBo), qR G F X k h → qB G B h → ∃ h2, f_X7_gatherBounds_L102 (f_X7_gatherBounds_L12 n) (some G.z) (some top) (some a) h = some ((), h2) ∧ qR G F X k h2 ∧ qB G (qGa G top B l) h2 := by
      intro h B R hB
      unfold f_X7_gatherBounds_L102
      rw [gN_bef R ha, Option.bind_some]
      exact x_gaL V fd top l _ n h B c2 hl2 (by omega) R hB
    rw [sS_X7_gatherBounds_L12, gN_kind R ha, Option.bind_some]
    unfold qGa
    by_cases q0 : (G.nd a).kind = 0
    · rw [if_pos q0, if_pos q0]
      exact nx h B R hB
    rw [if_neg q0, if_neg q0, oN R ha, Option.bind_some, x_within R (some top) cu (by omega), Option.bind_some]
    dsimp only
    by_cases q1 : qIn (some top) (G.up a) = true
    · simp +decide only [q1, if_true, if_false]
      rw [gS_time R, Option.bind_some, oN R ha, Option.bind_some, x_shown R V G.time la, Option.bind_some]
      dsimp only
      by_cases q2 : qSh G G.time (G.up a) = true
      · simp +decide only [q2, if_true, if_false]
        have r : ∀ P : qPt, qR G F X k (PTq G.pt P h) := fun P => R.s_pt P.1 P.2.1 P.2.2.1 P.2.2.2
        rw [gN_frame R ha, ef, Option.bind_some, gM_left R hm, Option.bind_some, Option.bind_some, gM_top R hm, Option.bind_some, oS R, Option.bind_some, x_raise R V la, Option.bind_some]
        dsimp only
        have hB1 := qB_PT R hB (qRs G a (G.fm (G.fr a)).left (G.fm (G.fr a)).top)
        have hP1 : qPtI G (qRs G a (G.fm (G.fr a)).left (G.fm (G.fr a)).top) (PTq G.pt (qRs G a (G.fm (G.fr a)).left (G.fm (G.fr a)).top) h) := fF_set_eq
        have R1 := r (qRs G a (G.fm (G.fr a)).left (G.fm (G.fr a)).top)
        obtain ⟨h2, e2, R2, hB2, hP2⟩ := x_inc R1 fd hB1 hP1
        unfold qRs at e2 R1
        rw [gS_bo R1, Option.bind_some, gS_pt R1, Option.bind_some, oB R1, Option.bind_some, e2, Option.bind_some]
        dsimp only
        have hB3 := qB_PT R2 hB2 (qRs G a (G.fm (G.fr a)).right (G.fm (G.fr a)).bot)
        have hP3 : qPtI G (qRs G a (G.fm (G.fr a)).right (G.fm (G.fr a)).bot) (PTq G.pt (qRs G a (G.fm (G.fr a)).right (G.fm (G.fr a)).bot) h2) := fF_set_eq
        have R3 : qR G F X k (PTq G.pt (qRs G a (G.fm (G.fr a)).right (G.fm (G.fr a)).bot) h2) := R2.s_pt _ _ _ _
        obtain ⟨h4, e4, R4, hB4, hP4⟩ := x_inc R3 fd hB3 hP3
        unfold qRs at e4 R3
        rw [gN_frame R2 ha, ef, Option.bind_some, gM_right R2 hm, Option.bind_some, Option.bind_some, gM_bot R2 hm, Option.bind_some, oS R2, Option.bind_some, x_raise R2 V la, Option.bind_some]
        dsimp only
        rw [gS_bo R3, Option.bind_some, gS_pt R3, Option.bind_some, oB R3, Option.bind_some, e4, Option.bind_some]
        exact nx h4 _ R4 hB4
      · simp +decide only [q2, if_true, if_false]
        exact nx h B R hB
    · simp +decide only [q1, if_true, if_false]
      exact nx h B R hB
def qBd (G : qS) (top : Nat) : qBo := qGa G top qB0 G.od
theorem x_gather (R : qR G F X k h) (V : qV G) (fd : qFd G) (top : Nat) : ∃ h2, f_X7_gatherBounds G.z (some top) h = some ((), h2) ∧ qR G F X k h2 ∧ qB G (qBd G top) h2 := by
  obtain ⟨c, hl, hv⟩ := V.od
  obtain ⟨h1, e1, R1, B1⟩ := x_clear R fd
  unfold f_X7_gatherBounds f_X7_gatherBounds_L0
  rw [gS_bo R, Option.bind_some, oB R, Option.bind_some, e1, Option.bind_some]
  dsimp only
  rw [gS_last R1, Option.bind_some]
  exact x_gaL V fd top _ _ 4096 h1 qB0 c hv (by omega) R1 B1
/-! arguments -/
theorem i32_nat {i : Int32} (h0 : 0 ≤ i.toInt) : (i.toNatClampNeg : Int) = i.toInt := by
  show ((i.toInt.toNat : Nat) : Int) = i.toInt
  omega
theorem i32_cl {i : Int32} {n : Nat} (h0 : 0 ≤ i.toInt) (h1 : i.toInt < n) : ¬ (i < 0 ∨ n ≤ i.toNatClampNeg) := by
  have e0 : (0 : Int32).toInt = 0 := by decide
  have e : (i.toNatClampNeg : Int) = i.toInt := by
    show ((i.toInt.toNat : Nat) : Int) = i.toInt
    omega
  rintro (z | z)
  · exact i32_nlt (a := i) (b := 0) (by omega) z
  · omega
def qFnd (G : qS) (i : Int32) : Option Nat := match G.no i.toNatClampNeg with
  | none => none
  | some a => if (G.nd a).gone = 0 then some a else none
theorem x_non (R : qR G F X k h) {i : Int32} (h0 : 0 ≤ i.toInt) (h1 : i.toInt < 30) (hN : ∀ a, G.no i.toNatClampNeg = some a → G.N a) : f_X7_nodeOrNull G.z i h = some (qFnd G i, h) := by
  have e0 : (0 : Int32).toInt = 0 := by decide
  have e3 : (30 : Int32).toInt = 30 := by decide
  unfold f_X7_nodeOrNull f_X7_nodeOrNull_L0 f_X7_nodeOrNull_L13 f_X7_nodeOrNull_L33 f_X7_nodeOrNull_L38 qFnd
  rw [if_neg (i32_nlt (by omega)), gS_na R, Option.bind_some, lna R, Option.bind_some, if_pos (i32_lt2 (by omega)), Option.bind_some, rna R (i32_cl h0 h1), Option.bind_some]
  cases e : G.no i.toNatClampNeg with
  | none => rw [if_pos rfl]
  | some a =>
    rw [if_neg (fun z => nomatch z), gN_gone R (hN a e), Option.bind_some]
    dsimp only
    by_cases q : (G.nd a).gone = 0
    · rw [if_pos q, if_pos q]
    · rw [if_neg q, if_neg q]
/-- the node of a number -/
def qIs (G : qS) (i : Int32) (a : Nat) : Prop := 0 ≤ i.toInt ∧ i.toInt < 30 ∧ G.no i.toNatClampNeg = some a ∧ G.Lv a
theorem x_found (R : qR G F X k h) {i : Int32} (q : qIs G i a) : f_X7_found G.z i h = some (.inl (some a), h) := by
  obtain ⟨h0, h1, e, ha⟩ := q
  unfold f_X7_found f_X7_found_L0
  have f : qFnd G i = some a := by
    unfold qFnd
    rw [e]
    exact if_pos ha.2
  rw [oS R, Option.bind_some, x_non R h0 h1 (fun b hb => by rw [e] at hb; cases hb; exact ha.1), Option.bind_some, f]
  exact if_neg (fun z => nomatch z)
theorem x_isFrom {v l u : Int32} : f_X7_isFrom v l u h = some (if l.toInt ≤ v.toInt ∧ v.toInt ≤ u.toInt then 1 else 0, h) := by
  unfold f_X7_isFrom f_X7_isFrom_L0 f_X7_isFrom_L14 f_X7_isFrom_L15
  by_cases q1 : v < l
  · have := Int32.lt_iff_toInt_lt.mp q1
    rw [if_pos q1, if_neg (show ¬ (l.toInt ≤ v.toInt ∧ v.toInt ≤ u.toInt) by omega), if_pos (Or.inl rfl)]
  · by_cases q2 : u < v
    · have := Int32.lt_iff_toInt_lt.mp q2
      rw [if_neg q1, if_pos q2, if_neg (show ¬ (l.toInt ≤ v.toInt ∧ v.toInt ≤ u.toInt) by omega), if_pos (Or.inl rfl)]
    · have t1 : ¬ v.toInt < l.toInt := fun z => q1 (i32_lt2 z)
      have t2 : ¬ u.toInt < v.toInt := fun z => q2 (i32_lt2 z)
      rw [if_neg q1, if_neg q2, if_pos (show l.toInt ≤ v.toInt ∧ v.toInt ≤ u.toInt by omega), if_pos (Or.inr rfl)]
theorem x_from1 {v l u : Int32} (q : l.toInt ≤ v.toInt ∧ v.toInt ≤ u.toInt) : f_X7_isFrom v l u h = some (1, h) := by
  rw [x_isFrom, if_pos q]
theorem x_spot {x y u : Int32} (hx : -10000 ≤ x.toInt ∧ x.toInt ≤ 10000) (hy : -10000 ≤ y.toInt ∧ y.toInt ≤ 10000) (hu : 1 ≤ u.toInt ∧ u.toInt ≤ 60) : f_X7_checkSpot x y u h = some (.inl (), h) := by
  unfold f_X7_checkSpot f_X7_checkSpot_L0
  rw [x_from1 (l := -10000) (u := 10000) hx, Option.bind_some, if_neg (show ¬ (1 : Int32) = 0 by decide)]
  dsimp only
  rw [x_from1 (l := -10000) (u := 10000) hy, Option.bind_some, if_neg (show ¬ (1 : Int32) = 0 by decide)]
  dsimp only
  rw [x_from1 (l := 1) (u := 60) hu, Option.bind_some, if_neg (show ¬ (1 : Int32) = 0 by decide)]
theorem x_point {x y w : Int32} (hx : -1000 ≤ x.toInt ∧ x.toInt ≤ 1000) (hy : -1000 ≤ y.toInt ∧ y.toInt ≤ 1000) (hw : 0 ≤ w.toInt ∧ w.toInt ≤ 3) : f_X7_checkPoint x y w h = some (.inl (), h) := by
  unfold f_X7_checkPoint f_X7_checkPoint_L0
  rw [x_from1 (l := -1000) (u := 1000) hx, Option.bind_some, if_neg (show ¬ (1 : Int32) = 0 by decide)]
  dsimp only
  rw [x_from1 (l := -1000) (u := 1000) hy, Option.bind_some, if_neg (show ¬ (1 : Int32) = 0 by decide)]
  dsimp only
  rw [x_from1 (l := 0) (u := 3) hw, Option.bind_some, if_neg (show ¬ (1 : Int32) = 0 by decide)]
theorem x_time {t : Int32} (ht : 0 ≤ t.toInt ∧ t.toInt ≤ 9999) : f_X7_checkTime t h = some (.inl (), h) := by
  unfold f_X7_checkTime f_X7_checkTime_L0
  rw [x_from1 (l := 0) (u := 9999) ht, Option.bind_some, if_neg (show ¬ (1 : Int32) = 0 by decide)]
/-! the questions -/
theorem q_nodes (R : qR G F X k h) : f_X7_nodes G.z h = some (G.ord, h) := by
  unfold f_X7_nodes f_X7_nodes_L0
  rw [gS_ord R, Option.bind_some]
def qPn (G : qS) (a : Nat) : Int32 := match (G.nd a).par with
  | none => -1
  | some b => (G.nd b).number
theorem x_pn (R : qR G F X k h) (V : qV G) (ha : G.Lv a) : f_X7_parentNumber (some a) h = some (qPn G a, h) := by
  obtain ⟨c, -⟩ := V.up a ha
  obtain ⟨l, e⟩ := G.up_hd a
  rw [e] at c
  obtain ⟨-, -, c2⟩ := c
  unfold f_X7_parentNumber f_X7_parentNumber_L0 f_X7_parentNumber_L18 qPn
  rw [gN_par R ha.1, Option.bind_some]
  cases e2 : (G.nd a).par with
  | none => rw [if_pos rfl]
  | some b =>
    have hb : G.N b := by
      cases l with
      | nil => rw [show (G.nd a).par = none from c2] at e2; cases e2
      | cons d l =>
        obtain ⟨q, hd, -⟩ := c2
        have q : (G.nd a).par = some d := q
        rw [q] at e2; cases e2; exact hd
    rw [if_neg (fun z => nomatch z), Option.bind_some, gN_number R hb, Option.bind_some]
theorem q_parent (R : qR G F X k h) (V : qV G) {i : Int32} (q : qIs G i a) : f_X7_parent G.z i h = some (.inl (qPn G a), h) := by
  unfold f_X7_parent f_X7_parent_L0
  simp only [oS R, x_found R q, x_pn R V q.2.2.2, Option.bind_some, Sum.elim_inl]
theorem q_level (R : qR G F X k h) (V : qV G) {i : Int32} (q : qIs G i a) : f_X7_level G.z i h = some (.inl (nI ((G.up a).length - 1)), h) := by
  obtain ⟨c, hl⟩ := V.up a q.2.2.2
  obtain ⟨l, e⟩ := G.up_hd a
  rw [e] at c hl ⊢
  have hl2 : l.length + 1 ≤ 5 := hl
  unfold f_X7_level f_X7_level_L0
  simp only [oS R, x_found R q, oN R q.2.2.2.1, x_depth R c (by omega), Option.bind_some, Sum.elim_inl]
  rfl
theorem q_placeOf (R : qR G F X k h) {i : Int32} (q : qIs G i a) : f_X7_placeOf G.z i h = some (.inl (G.nd a).place, h) := by
  unfold f_X7_placeOf f_X7_placeOf_L0
  simp only [oS R, x_found R q, gN_place R q.2.2.2.1, Option.bind_some, Sum.elim_inl]
theorem q_isShown (R : qR G F X k h) (V : qV G) {i : Int32} (q : qIs G i a) : f_X7_isShown G.z i h = some (.inl (if qSh G G.time (G.up a) then 1 else 0), h) := by
  unfold f_X7_isShown f_X7_isShown_L0
  simp only [oS R, x_found R q, gS_time R, oN R q.2.2.2.1, x_shown R V G.time q.2.2.2, Option.bind_some, Sum.elim_inl]
  by_cases q2 : qSh G G.time (G.up a) = true
  · simp +decide only [q2, if_true, if_false]
  · simp +decide only [q2, if_true, if_false]
theorem q_strength (R : qR G F X k h) (V : qV G) {i : Int32} (q : qIs G i a) : f_X7_strength G.z i h = some (.inl (qStr G G.time (G.up a)), h) := by
  unfold f_X7_strength f_X7_strength_L0
  simp only [oS R, x_found R q, gS_time R, x_str R V G.time q.2.2.2, Option.bind_some, Sum.elim_inl]
theorem q_covers (R : qR G F X k h) (V : qV G) {i x y u : Int32} (q : qIs G i a) (hx : -10000 ≤ x.toInt ∧ x.toInt ≤ 10000) (hy : -10000 ≤ y.toInt ∧ y.toInt ≤ 10000) (hu : 1 ≤ u.toInt ∧ u.toInt ≤ 60) : ∃ h2, f_X7_covers G.z i x y u h = some (.inl (if qCov G x y u G.time a then 1 else 0), h2) ∧ qR G F X k h2 := by
  obtain ⟨h2, e2, R2⟩ := x_covers R V x y u G.time q.2.2.2
  refine ⟨h2, ?_, R2⟩
  unfold f_X7_covers f_X7_covers_L0
  simp only [oS R, x_found R q, gS_time R, x_spot hx hy hu, e2, Option.bind_some, Sum.elim_inl]
  by_cases q2 : qCov G x y u G.time a = true
  · simp +decide only [q2, if_true, if_false]
  · simp +decide only [q2, if_true, if_false]
theorem q_toWhole (R : qR G F X k h) (V : qV G) {i x y w : Int32} (q : qIs G i a) (hx : -1000 ≤ x.toInt ∧ x.toInt ≤ 1000) (hy : -1000 ≤ y.toInt ∧ y.toInt ≤ 1000) (hw : 0 ≤ w.toInt ∧ w.toInt ≤ 3) : ∃ h2, f_X7_toWhole G.z i x y w h = some (.inl (Int64.toInt32 (qPa (qRs G a x y) w)), h2) ∧ qR G F X k h2 := by
  have r : ∀ P : qPt, qR G F X k (PTq G.pt P h) := fun P => R.s_pt P.1 P.2.1 P.2.2.1 P.2.2.2
  refine ⟨_, ?_, r (qRs G a x y)⟩
  unfold f_X7_toWhole f_X7_toWhole_L0
  simp only [oS R, x_found R q, x_point hx hy hw, x_raise R V q.2.2.2, gS_pt (r _), oPt (r _), x_part, Option.bind_some, Sum.elim_inl]
  rfl
def qSk (G : qS) (a : Nat) (P : qPt) : qPt := qDnP G G.time (G.up a) P
theorem q_fromWhole (R : qR G F X k h) (V : qV G) {i x y w : Int32} (q : qIs G i a) (hx : -1000 ≤ x.toInt ∧ x.toInt ≤ 1000) (hy : -1000 ≤ y.toInt ∧ y.toInt ≤ 1000) (hw : 0 ≤ w.toInt ∧ w.toInt ≤ 3) : ∃ h2, f_X7_fromWhole G.z i x y w h = some (.inl (Int64.toInt32 (qPa (qSk G a (Int32.toInt64 x, Int32.toInt64 y, 1, 0)) w)), h2) ∧ qR G F X k h2 := by
  have r : ∀ P : qPt, qR G F X k (PTq G.pt P h) := fun P => R.s_pt P.1 P.2.1 P.2.2.1 P.2.2.2
  refine ⟨_, ?_, r (qSk G a (Int32.toInt64 x, Int32.toInt64 y, 1, 0))⟩
  unfold f_X7_fromWhole f_X7_fromWhole_L0
  simp only [oS R, x_found R q, x_point hx hy hw, gS_pt R, oPt R, x_set R, gS_pt (r _), gS_time (r _), oPt (r _), x_sink R V _ q.2.2.2, x_part, Option.bind_some, Sum.elim_inl]
  rfl
theorem q_between (R : qR G F X k h) (V : qV G) {i j x y w : Int32} {b : Nat} (q : qIs G i a) (q2 : qIs G j b) (hx : -1000 ≤ x.toInt ∧ x.toInt ≤ 1000) (hy : -1000 ≤ y.toInt ∧ y.toInt ≤ 1000) (hw : 0 ≤ w.toInt ∧ w.toInt ≤ 3) : ∃ h2, f_X7_between G.z i j x y w h = some (.inl (Int64.toInt32 (qPa (qSk G b (qRs G a x y)) w)), h2) ∧ qR G F X k h2 := by
  have r : ∀ P : qPt, qR G F X k (PTq G.pt P h) := fun P => R.s_pt P.1 P.2.1 P.2.2.1 P.2.2.2
  refine ⟨_, ?_, r (qSk G b (qRs G a x y))⟩
  unfold f_X7_between f_X7_between_L0
  simp only [oS R, x_found R q, x_found R q2, x_point hx hy hw, x_raise R V q.2.2.2, gS_pt (r _), gS_time (r _), oPt (r _), x_sink R V _ q2.2.2.2, x_part, Option.bind_some, Sum.elim_inl]
  rfl
theorem q_pick (R : qR G F X k h) (V : qV G) {x y u : Int32} (hx : -10000 ≤ x.toInt ∧ x.toInt ≤ 10000) (hy : -10000 ≤ y.toInt ∧ y.toInt ≤ 10000) (hu : 1 ≤ u.toInt ∧ u.toInt ≤ 60) : ∃ h2, f_X7_pick G.z x y u h = some (.inl (qTop G x y u G.time none G.od), h2) ∧ qR G F X k h2 := by
  obtain ⟨h2, e2, R2⟩ := x_top R V x y u G.time none
  refine ⟨h2, ?_, R2⟩
  unfold f_X7_pick f_X7_pick_L0
  simp only [oS R, gS_time R, x_spot hx hy hu, e2, Option.bind_some, Sum.elim_inl]
theorem q_pickWithout (R : qR G F X k h) (V : qV G) {i x y u : Int32} (q : qIs G i a) (hx : -10000 ≤ x.toInt ∧ x.toInt ≤ 10000) (hy : -10000 ≤ y.toInt ∧ y.toInt ≤ 10000) (hu : 1 ≤ u.toInt ∧ u.toInt ≤ 60) : ∃ h2, f_X7_pickWithout G.z i x y u h = some (.inl (qTop G x y u G.time (some a) G.od), h2) ∧ qR G F X k h2 := by
  obtain ⟨h2, e2, R2⟩ := x_top R V x y u G.time (some a)
  refine ⟨h2, ?_, R2⟩
  unfold f_X7_pickWithout f_X7_pickWithout_L0
  simp only [oS R, x_found R q, gS_time R, x_spot hx hy hu, e2, Option.bind_some, Sum.elim_inl]
end ASK
