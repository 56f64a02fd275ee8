/-! The law, of one node. -/
section LAWN
variable {G : qS} {F : Nat → Option fCe} {X : Nat × Nat × (Nat → Int32)} {k : Nat} {h : fSt} {a : Nat} {S : lS}
variable {k2 : Option Nat → Int32 → fSt → Option (Int32 × fSt)} {k69 : Option Nat → Int32 → Option Nat → Option Nat → Int32 → fSt → Option (Int32 × fSt)}
variable {k310 : Option Nat → Int32 → Option Nat → Option Nat → Int32 → Int64 → Int32 → Int32 → Int32 → Int32 → Int32 → Int32 → Int32 → fSt → Option (Int32 × fSt)}
variable {k725 : Option Nat → Int32 → Option Nat → Option Nat → Int32 → Int64 → Int32 → Int32 → Int32 → Int32 → Int32 → Int32 → Int32 → Int32 → fSt → Option (Int32 × fSt)}
variable {a0 : Option Nat} {a1 : Int32} {a2 : Option Nat} {a4 : Int32} {a5 : Int64}
theorem n10 : ¬ (1 : Int32) = 0 := by decide
def uOk (x y u : Int32) : Prop := (-1000 ≤ x.toInt ∧ x.toInt ≤ 1000) ∧ (-1000 ≤ y.toInt ∧ y.toInt ≤ 1000) ∧ 1 ≤ u.toInt ∧ u.toInt ≤ 3
theorem law_745 (R : qR G F X k h) (I : qI G) {i s s0 x y u c12 c13 c14 : Int32} (q : qIs G i a) (hs : 0 ≤ s.toInt ∧ s.toInt ≤ 3)
    (h1 : (2 : Int32) ≤ s → Int32.toInt64 s0 * Int32.toInt64 (Int64.toInt32 (qSd (qBd G a) s).2) ≤ Int32.toInt64 (Int64.toInt32 (qSd (qBd G a) s).1) * Int32.toInt64 u)
    (h2 : ¬ (2 : Int32) ≤ s → Int32.toInt64 (Int64.toInt32 (qSd (qBd G a) s).1) * Int32.toInt64 u ≤ Int32.toInt64 s0 * Int32.toInt64 (Int64.toInt32 (qSd (qBd G a) s).2)) :
    ∃ h2, f_L_law_L745 k2 k69 k310 k725 a0 a1 a2 (some G.z) a4 a5 u x y c12 c13 c14 i s s0 h = k725 a0 a1 a2 (some G.z) a4 a5 u x y c12 c13 c14 i (s + 1) h2 ∧ qR G F X k h2 := by
  obtain ⟨g2, e2, R2⟩ := q_bound (b := 1) R I.V I.fd q hs
  obtain ⟨g3, e3, R3⟩ := q_bound (b := 0) R2 I.V I.fd q hs
  rw [if_neg n10] at e2
  rw [if_pos rfl] at e3
  refine ⟨g3, ?_, R3⟩
  unfold f_L_law_L745 f_L_law_L802
  rw [oS R, Option.bind_some, e2, Option.bind_some]
  dsimp only [Sum.elim_inl]
  rw [oS R2, Option.bind_some, e3, Option.bind_some]
  dsimp only [Sum.elim_inl]
  by_cases z : (2 : Int32) ≤ s
  · rw [if_pos z, if_pos (h1 z)]
  · rw [if_neg z, if_pos (h2 z)]
theorem law_sides (I : qI G) (la : G.Lv a) {i x y u c12 c13 c14 : Int32} (q : qIs G i a) (uo : uOk x y u) (c : qCov G x y u G.time a = true) : ∀ (m n : Nat) (s : Int32) (h : fSt), m < n → 0 ≤ s.toInt → s.toInt + m = 4 → qR G F X k h → ∃ h2, f_L_law_L725 k2 k69 k310 n a0 a1 a2 (some G.z) a4 a5 u x y c12 c13 c14 i s h = k310 a0 a1 a2 (some G.z) a4 a5 u x y c12 c13 c14 (i + 1) h2 ∧ qR G F X k h2
  | 0, n + 1, s, h, hn, h0, e, R => by
    have e4 : (4 : Int32).toInt = 4 := by decide
    refine ⟨h, ?_, R⟩
    rw [st_L_law_L725, if_pos (i32_le (by omega))]
    rfl
  | m + 1, n + 1, s, h, hn, h0, e, R => by
    have e4 : (4 : Int32).toInt = 4 := by decide
    obtain ⟨cl, ch⟩ := chk_side I la uo.1 uo.2.1 uo.2.2 c
    have s1 := i32_s (i := s) (by omega) (by omega)
    rw [st_L_law_L725, if_neg (i32_nle (by omega))]
    have cs : s = 0 ∨ s = 1 ∨ s = 2 ∨ s = 3 := by
      have : s.toInt = 0 ∨ s.toInt = 1 ∨ s.toInt = 2 ∨ s.toInt = 3 := by omega
      rcases this with z | z | z | z
      · exact Or.inl (Int32.toInt_inj.mp (z.trans (by decide)))
      · exact Or.inr (Or.inl (Int32.toInt_inj.mp (z.trans (by decide))))
      · exact Or.inr (Or.inr (Or.inl (Int32.toInt_inj.mp (z.trans (by decide)))))
      · exact Or.inr (Or.inr (Or.inr (Int32.toInt_inj.mp (z.trans (by decide)))))
    have go : ∀ s0 : Int32, ((2 : Int32) ≤ s → Int32.toInt64 s0 * Int32.toInt64 (Int64.toInt32 (qSd (qBd G a) s).2) ≤ Int32.toInt64 (Int64.toInt32 (qSd (qBd G a) s).1) * Int32.toInt64 u) → (¬ (2 : Int32) ≤ s → Int32.toInt64 (Int64.toInt32 (qSd (qBd G a) s).1) * Int32.toInt64 u ≤ Int32.toInt64 s0 * Int32.toInt64 (Int64.toInt32 (qSd (qBd G a) s).2)) → ∃ h2, f_L_law_L745 k2 k69 k310 (f_L_law_L725 k2 k69 k310 n) a0 a1 a2 (some G.z) a4 a5 u x y c12 c13 c14 i s s0 h = k310 a0 a1 a2 (some G.z) a4 a5 u x y c12 c13 c14 (i + 1) h2 ∧ qR G F X k h2 := by
      intro s0 g1 g2
      obtain ⟨h2, f2, R2⟩ := law_745 (k2 := k2) (k69 := k69) (k310 := k310) (k725 := f_L_law_L725 k2 k69 k310 n) (a0 := a0) (a1 := a1) (a2 := a2) (a4 := a4) (a5 := a5) (x := x) (y := y) (c12 := c12) (c13 := c13) (c14 := c14) R I q (s := s) (by omega) g1 g2
      obtain ⟨h3, f3, R3⟩ := law_sides I la q uo c m n (s + 1) h2 (by omega) (by omega) (by omega) R2
      exact ⟨h3, f2.trans f3, R3⟩
    rcases cs with rfl | rfl | rfl | rfl
    · rw [if_pos (by decide)]
      exact go x (fun z => absurd z (by decide)) (fun _ => cl 0 (Or.inl rfl))
    · rw [if_neg (by decide)]
      exact go y (fun z => absurd z (by decide)) (fun _ => cl 1 (Or.inr rfl))
    · rw [if_pos (by decide)]
      exact go x (fun _ => ch 2 (Or.inl rfl)) (fun z => absurd (by decide) z)
    · rw [if_neg (by decide)]
      exact go y (fun _ => ch 3 (Or.inr rfl)) (fun z => absurd (by decide) z)
def mn14 (s c14 : Int32) : Int32 := if (((10000 : Int32) * ((100 : Int32) - s)) / (100 : Int32)) < c14 then (((10000 : Int32) * ((100 : Int32) - s)) / (100 : Int32)) else c14
theorem law_697 (R : qR G F X k h) (I : qI G) (la : G.Lv a) {i x y u c12 c14 s0 : Int32} (q : qIs G i a) (uo : uOk x y u) (c : qCov G x y u G.time a = true) : ∃ h2, f_L_law_L697 k2 k69 k310 a0 a1 a2 (some G.z) a4 a5 u x y c12 c14 i s0 h = k310 a0 a1 a2 (some G.z) a4 a5 u x y c12 s0 (mn14 (qStr G G.time (G.up a)) c14) (i + 1) h2 ∧ qR G F X k h2 := by
  obtain ⟨h2, f2, R2⟩ := law_sides (k2 := k2) (k69 := k69) (k310 := k310) (a0 := a0) (a1 := a1) (a2 := a2) (a4 := a4) (a5 := a5) (c12 := c12) (c13 := s0) (c14 := mn14 (qStr G G.time (G.up a)) c14) I la q uo c 4 4096 0 h (by decide) (by decide) (by decide) R
  refine ⟨h2, ?_, R2⟩
  unfold f_L_law_L697
  rw [oS R, Option.bind_some, q_strength R I.V q, Option.bind_some]
  dsimp only [Sum.elim_inl]
  exact f2
def lC (G : qS) (x y u : Int32) (i : Nat) (c12 c13 c14 : Int32) : Prop :=
  c12 = nI (qCn G.nm (fun b => qCov G x y u G.time b) i G.od) ∧
  ((c13 = -1 ∧ ∀ b, G.Lv b → G.nm b < i → ¬ qCov G x y u G.time b = true) ∨ ∃ b, G.Lv b ∧ qCov G x y u G.time b = true ∧ c13 = (G.nd b).number ∧ ∀ c, G.Lv c → G.nm c < i → qCov G x y u G.time c = true → (G.nd c).place.toInt ≤ (G.nd b).place.toInt) ∧
  (qThr G x y u 10000 G.od).toInt ≤ c14.toInt
theorem lC_no {x y u c12 c13 c14 : Int32} (I : qI G) (ha : G.N a) (hn : G.Lv a → ¬ qCov G x y u G.time a = true) (C : lC G x y u (G.nm a) c12 c13 c14) : lC G x y u (G.nm a + 1) c12 c13 c14 := by
  obtain ⟨q1, q2, q3⟩ := C
  have st := cn_step I (fun b => qCov G x y u G.time b) ha
  have z : ¬ (G.gone0 a && qCov G x y u G.time a) = true := by
    intro w
    obtain ⟨w1, w2⟩ := Bool.and_eq_true_iff.mp w
    exact hn ⟨ha, of_decide_eq_true w1⟩ w2
  rw [if_neg z, Nat.add_zero] at st
  have lt : ∀ b, G.Lv b → G.nm b < G.nm a + 1 → qCov G x y u G.time b = true → G.nm b < G.nm a := by
    intro b lb hb cb
    rcases Nat.lt_or_eq_of_le (Nat.le_of_lt_succ hb) with w | w
    · exact w
    · have := nm_inj I lb.1 ha w
      subst this
      exact absurd cb (hn lb)
  refine ⟨by rw [st]; exact q1, ?_, q3⟩
  rcases q2 with ⟨e, n⟩ | ⟨b, lb, cb, e, n⟩
  · exact Or.inl ⟨e, fun b lb hb cb => n b lb (lt b lb hb cb) cb⟩
  · exact Or.inr ⟨b, lb, cb, e, fun d ld hd cd => n d ld (lt d ld hd cd) cd⟩
theorem lC_yes {x y u c12 c13 c14 : Int32} (I : qI G) (la : G.Lv a) (ca : qCov G x y u G.time a = true) (C : lC G x y u (G.nm a) c12 c13 c14) {d : Int32} (hd : (d = (G.nd a).number ∧ (c13 = -1 ∨ ∃ b, c13 = (G.nd b).number ∧ G.N b ∧ (G.nd b).place.toInt ≤ (G.nd a).place.toInt)) ∨ (d = c13 ∧ ∃ b, c13 = (G.nd b).number ∧ G.N b ∧ (G.nd a).place.toInt ≤ (G.nd b).place.toInt)) : lC G x y u (G.nm a + 1) (c12 + 1) d (mn14 (qStr G G.time (G.up a)) c14) := by
  obtain ⟨q1, q2, q3⟩ := C
  have st := cn_step I (fun b => qCov G x y u G.time b) la.1
  have z : (G.gone0 a && qCov G x y u G.time a) = true := by
    rw [ca, Bool.and_true]
    exact decide_eq_true la.2
  rw [if_pos z] at st
  have em : (-1 : Int32).toInt = -1 := by decide
  have nn : ∀ b, G.N b → (G.nd b).number ≠ -1 := by
    intro b hb w
    have := (I.nm hb).1
    rw [w] at this
    omega
  refine ⟨by rw [st, nI_succ, ← q1], ?_, ?_⟩
  · -- the best so far
    have lt : ∀ b, G.Lv b → G.nm b < G.nm a + 1 → b = a ∨ G.nm b < G.nm a := by
      intro b lb hb
      rcases Nat.lt_or_eq_of_le (Nat.le_of_lt_succ hb) with w | w
      · exact Or.inr w
      · exact Or.inl (nm_inj I lb.1 la.1 w)
    rcases hd with ⟨rfl, hp⟩ | ⟨rfl, b1, e1, N1, p1⟩
    · refine Or.inr ⟨a, la, ca, rfl, fun b lb hb cb => ?_⟩
      rcases lt b lb hb with w | w
      · rw [w]; omega
      · rcases q2 with ⟨e, n⟩ | ⟨b2, lb2, cb2, e, n⟩
        · exact absurd cb (n b lb w)
        · rcases hp with z1 | ⟨b1, e1, N1, p1⟩
          · rw [z1] at e
            exact absurd e.symm (nn b2 lb2.1)
          · have : b1 = b2 := I.inj N1 lb2.1 (e1.symm.trans e)
            subst this
            have := n b lb w cb
            omega
    · rcases q2 with ⟨e, n⟩ | ⟨b2, lb2, cb2, e, n⟩
      · rw [e] at e1
        exact absurd e1.symm (nn b1 N1)
      · have : b1 = b2 := I.inj N1 lb2.1 (e1.symm.trans e)
        subst this
        refine Or.inr ⟨b1, lb2, cb2, e, fun b lb hb cb => ?_⟩
        rcases lt b lb hb with w | w
        · rw [w]; exact p1
        · exact n b lb w cb
  · -- the least through
    have t := (thr_z I (x := x) (y := y) (u := u) G.od 10000 (fun b hb => I.odL.mp hb) (by decide)).2 a (I.odL.mpr la) ca
    have e := (thr_st (c := 10000) (by decide) (I.str la G.time)).1
    have ec : (10000 : Int32).toInt = 10000 := by decide
    rw [ec] at e
    unfold mn14
    by_cases w : ((10000 : Int32) * ((100 : Int32) - qStr G G.time (G.up a))) / (100 : Int32) < c14
    · rw [if_pos w, e]
      exact t
    · rw [if_neg w]
      exact q3
theorem law_643 (R : qR G F X k h) (I : qI G) (la : G.Lv a) {i x y u c12 c13 c14 s0 s1 s2 : Int32} (ei : (G.nd a).number = i) (uo : uOk x y u) (es : s0 = s1 + s2) (C : lC G x y u (G.nm a) c12 c13 c14) : ∃ d12 d13 d14 h2, f_L_law_L643 k2 k69 k310 a0 a1 a2 (some G.z) a4 a5 u x y c12 c13 c14 i s2 s1 s0 h = k310 a0 a1 a2 (some G.z) a4 a5 u x y d12 d13 d14 (i + 1) h2 ∧ qR G F X k h2 ∧ lC G x y u (G.nm a + 1) d12 d13 d14 := by
  have q : qIs G i a := I.is' ⟨la, ei⟩
  obtain ⟨h2, e2, R2⟩ := q_covers (x := x) (y := y) (u := u) R I.V q (by have := uo.1; omega) (by have := uo.2.1; omega) (by have := uo.2.2; omega)
  unfold f_L_law_L643
  rw [if_pos es, oS R, Option.bind_some, e2, Option.bind_some]
  dsimp only [Sum.elim_inl]
  by_cases ca : qCov G x y u G.time a = true
  · rw [if_pos ca, if_neg n10]
    have e0 : (0 : Int32).toInt = 0 := by decide
    have em : (-1 : Int32).toInt = -1 := by decide
    have self : ∀ {h : fSt}, qR G F X k h → (c13 = -1 ∨ ∃ b, c13 = (G.nd b).number ∧ G.N b ∧ (G.nd b).place.toInt ≤ (G.nd a).place.toInt) → ∃ d12 d13 d14 h2, f_L_law_L690 k2 k69 k310 a0 a1 a2 (some G.z) a4 a5 u x y (c12 + 1) c14 i h = k310 a0 a1 a2 (some G.z) a4 a5 u x y d12 d13 d14 (i + 1) h2 ∧ qR G F X k h2 ∧ lC G x y u (G.nm a + 1) d12 d13 d14 := by
      intro h R hc
      obtain ⟨h3, f3, R3⟩ := law_697 (k2 := k2) (k69 := k69) (k310 := k310) (a0 := a0) (a1 := a1) (a2 := a2) (a4 := a4) (a5 := a5) (c12 := c12 + 1) (c14 := c14) (s0 := i) R I la q uo ca
      exact ⟨_, _, _, h3, f3, R3, lC_yes I la ca C (Or.inl ⟨ei.symm, hc⟩)⟩
    rcases C.2.1 with ⟨e, -⟩ | ⟨b, lb, cb, e, -⟩
    · rw [if_pos (by rw [e]; decide)]
      exact self R2 (Or.inl e)
    · have qb : qIs G c13 b := I.is' ⟨lb, e.symm⟩
      rw [if_neg (fun w => by have := Int32.lt_iff_toInt_lt.mp w; have := qb.1; omega), oS R2, Option.bind_some, q_placeOf R2 q, Option.bind_some]
      dsimp only [Sum.elim_inl]
      rw [oS R2, Option.bind_some, q_placeOf R2 qb, Option.bind_some]
      dsimp only [Sum.elim_inl]
      by_cases w : (G.nd a).place ≤ (G.nd b).place
      · rw [if_pos w]
        have w := Int32.le_iff_toInt_le.mp w
        obtain ⟨h3, f3, R3⟩ := law_697 (k2 := k2) (k69 := k69) (k310 := k310) (a0 := a0) (a1 := a1) (a2 := a2) (a4 := a4) (a5 := a5) (c12 := c12 + 1) (c14 := c14) (s0 := c13) R2 I la q uo ca
        exact ⟨_, _, _, h3, f3, R3, lC_yes I la ca C (Or.inr ⟨rfl, b, e, lb.1, w⟩)⟩
      · rw [if_neg w]
        have w : ¬ (G.nd a).place.toInt ≤ (G.nd b).place.toInt := fun z => w (Int32.le_iff_toInt_le.mpr z)
        exact self R2 (Or.inr ⟨b, e, lb.1, by omega⟩)
  · rw [if_neg ca, if_pos rfl]
    exact ⟨c12, c13, c14, h2, rfl, R2, lC_no I la.1 (fun _ => ca) C⟩
theorem law_613 (R : qR G F X k h) (I : qI G) (la : G.Lv a) {i x y u c12 c13 c14 : Int32} (ei : (G.nd a).number = i) (uo : uOk x y u) (C : lC G x y u (G.nm a) c12 c13 c14) : ∃ d12 d13 d14 h2, f_L_law_L613 k2 k69 k310 a0 a1 a2 (some G.z) a4 a5 u x y c12 c13 c14 i h = k310 a0 a1 a2 (some G.z) a4 a5 u x y d12 d13 d14 (i + 1) h2 ∧ qR G F X k h2 ∧ lC G x y u (G.nm a + 1) d12 d13 d14 := by
  have q : qIs G i a := I.is' ⟨la, ei⟩
  have go := fun (s0 s1 s2 : Int32) (es : s0 = s1 + s2) => law_643 (k2 := k2) (k69 := k69) (k310 := k310) (a0 := a0) (a1 := a1) (a2 := a2) (a4 := a4) (a5 := a5) (s0 := s0) (s1 := s1) (s2 := s2) R I la ei uo es C
  unfold f_L_law_L613
  rw [oS R, Option.bind_some, q_level R I.V q, Option.bind_some]
  dsimp only [Sum.elim_inl]
  rw [oS R, Option.bind_some, q_parent R I.V q, Option.bind_some]
  dsimp only [Sum.elim_inl]
  rcases I.pn la with ⟨rfl, e⟩ | ⟨hw, p, ep, lp, e, eu⟩
  · have i0 : i = 0 := ei.symm.trans I.wh0
    have q0 : qIs G 0 G.wh := I.is' ⟨la, I.wh0⟩
    rw [e, if_neg (by decide), oS R, Option.bind_some, q_level R I.V q0, Option.bind_some]
    dsimp only [Sum.elim_inl]
    rw [if_pos i0]
    exact go _ _ _ (Int32.add_zero _).symm
  · have i0 : ¬ i = 0 := fun w => hw ((I.n0 la.1).mp (ei.trans w))
    have qp : qIs G (G.nd p).number p := I.is' ⟨lp, rfl⟩
    have ez : (if (0 : Int32) < (G.nd p).number then (G.nd p).number else 0) = (G.nd p).number := by
      by_cases w : (0 : Int32) < (G.nd p).number
      · rw [if_pos w]
      · rw [if_neg w]
        have e0 : (0 : Int32).toInt = 0 := by decide
        have := qp.1
        have w : ¬ (0 : Int32).toInt < (G.nd p).number.toInt := fun z => w (Int32.lt_iff_toInt_lt.mpr z)
        exact Int32.toInt_inj.mp (by omega)
    rw [e, ez, oS R, Option.bind_some, q_level R I.V qp, Option.bind_some]
    dsimp only [Sum.elim_inl]
    rw [if_neg i0]
    refine go _ _ _ ?_
    obtain ⟨d, hd, -, -, el⟩ := I.up lp
    rw [eu, List.length_cons, el, show d + 1 + 1 - 1 = (d + 1 - 1) + 1 by omega, nI_succ]
theorem law_589 (R : qR G F X k h) (I : qI G) (la : G.Lv a) {i x y u c12 c13 c14 : Int32} (ei : (G.nd a).number = i) (uo : uOk x y u) (C : lC G x y u (G.nm a) c12 c13 c14) : ∃ d12 d13 d14 h2, f_L_law_L589 k2 k69 k310 a0 a1 a2 (some G.z) a4 a5 u x y c12 c13 c14 i h = k310 a0 a1 a2 (some G.z) a4 a5 u x y d12 d13 d14 (i + 1) h2 ∧ qR G F X k h2 ∧ lC G x y u (G.nm a + 1) d12 d13 d14 := by
  have q : qIs G i a := I.is' ⟨la, ei⟩
  unfold f_L_law_L589
  rw [oS R, Option.bind_some, q_isShown R I.V q, Option.bind_some]
  dsimp only [Sum.elim_inl]
  by_cases w : qSh G G.time (G.up a) = true
  · rw [if_pos w, if_neg n10]
    exact law_613 R I la ei uo C
  · obtain ⟨h2, e2, R2⟩ := q_covers (x := x) (y := y) (u := u) R I.V q (by have := uo.1; omega) (by have := uo.2.1; omega) (by have := uo.2.2; omega)
    have ca : ¬ qCov G x y u G.time a = true := fun z => w (cov_f z).2.1
    rw [if_neg ca] at e2
    rw [if_neg w, if_pos rfl, oS R, Option.bind_some, e2, Option.bind_some]
    dsimp only [Sum.elim_inl]
    rw [if_pos rfl]
    exact law_613 R2 I la ei uo C
theorem law_4664 (R : qR G F X k h) (I : qI G) (la : G.Lv a) {n : Nat} {i j x y u c12 c13 c14 : Int32} (ei : (G.nd a).number = i) (uo : uOk x y u) (C : lC G x y u (G.nm a) c12 c13 c14) : ∃ d12 d13 d14 h2, f_L_law_L466 k2 k69 k310 (n + 1) a0 a1 a2 (some G.z) a4 a5 u x y c12 c13 c14 i j 4 h = k310 a0 a1 a2 (some G.z) a4 a5 u x y d12 d13 d14 (i + 1) h2 ∧ qR G F X k h2 ∧ lC G x y u (G.nm a + 1) d12 d13 d14 := by
  have q : qIs G i a := I.is' ⟨la, ei⟩
  rw [st_L_law_L466, if_pos (by decide), oS R, Option.bind_some, q_isShown R I.V q, Option.bind_some]
  dsimp only [Sum.elim_inl]
  by_cases w : qSh G G.time (G.up a) = true
  · rw [if_pos w, if_neg n10, oS R, Option.bind_some, q_strength R I.V q, Option.bind_some]
    dsimp only [Sum.elim_inl]
    have s := I.str la G.time
    have e1 := h100
    rw [if_neg (i32_nlt (by omega))]
    exact law_589 R I la ei uo C
  · rw [if_neg w, if_pos rfl]
    exact law_589 R I la ei uo C
/-- the parts of a point, there and back -/
theorem law_506 (R : qR G F X k h) (I : qI G) {c : Nat} (lc : G.Lv c) {k466 : Option Nat → Int32 → Option Nat → Option Nat → Int32 → Int64 → Int32 → Int32 → Int32 → Int32 → Int32 → Int32 → Int32 → Int32 → Int32 → fSt → Option (Int32 × fSt)} {i j w s x y u c12 c13 c14 : Int32} (ej : (G.nd c).number = j) (hw : 0 ≤ w.toInt ∧ w.toInt ≤ 3) : ∃ h2, f_L_law_L506 k2 k69 k310 k466 a0 a1 a2 (some G.z) a4 a5 u x y c12 c13 c14 i j w s s h = k466 a0 a1 a2 (some G.z) a4 a5 u x y c12 c13 c14 i j (w + 1) h2 ∧ qR G F X k h2 := by
  have q : qIs G j c := I.is' ⟨lc, ej⟩
  have q0 : qIs G 0 G.wh := I.is' ⟨I.B.wl, I.wh0⟩
  obtain ⟨h2, e2, R2⟩ := q_between (x := 5) (y := 6) R I.V q0 q (by decide) (by decide) hw
  obtain ⟨h3, e3, R3⟩ := q_fromWhole (x := 5) (y := 6) R2 I.V q (by decide) (by decide) hw
  obtain ⟨h4, e4, R4⟩ := q_between (x := 5) (y := 6) R3 I.V q q0 (by decide) (by decide) hw
  obtain ⟨h5, e5, R5⟩ := q_toWhole (x := 5) (y := 6) R4 I.V q (by decide) (by decide) hw
  rw [rs_wh I] at e2
  rw [sk_wh I] at e4
  refine ⟨h5, ?_, R5⟩
  unfold f_L_law_L506
  rw [if_pos rfl, oS R, Option.bind_some, e2, Option.bind_some]
  dsimp only [Sum.elim_inl]
  rw [oS R2, Option.bind_some, e3, Option.bind_some]
  dsimp only [Sum.elim_inl]
  rw [if_pos rfl, oS R3, Option.bind_some, e4, Option.bind_some]
  dsimp only [Sum.elim_inl]
  rw [oS R4, Option.bind_some, e5, Option.bind_some]
  dsimp only [Sum.elim_inl]
  rw [if_pos rfl]
theorem law_466 (I : qI G) (la : G.Lv a) {c : Nat} (lc : G.Lv c) {i j x y u c12 c13 c14 : Int32} (ei : (G.nd a).number = i) (ej : (G.nd c).number = j) (uo : uOk x y u) (C : lC G x y u (G.nm a) c12 c13 c14) : ∀ (m n : Nat) (w : Int32) (h : fSt), m < n → 0 ≤ w.toInt → w.toInt + m = 4 → qR G F X k h → ∃ d12 d13 d14 h2, f_L_law_L466 k2 k69 k310 n a0 a1 a2 (some G.z) a4 a5 u x y c12 c13 c14 i j w h = k310 a0 a1 a2 (some G.z) a4 a5 u x y d12 d13 d14 (i + 1) h2 ∧ qR G F X k h2 ∧ lC G x y u (G.nm a + 1) d12 d13 d14
  | 0, n + 1, w, h, hn, h0, e, R => by
    have e4 : (4 : Int32).toInt = 4 := by decide
    have : w = 4 := Int32.toInt_inj.mp (by omega)
    subst this
    exact law_4664 R I la ei uo C
  | m + 1, n + 1, w, h, hn, h0, e, R => by
    have e4 : (4 : Int32).toInt = 4 := by decide
    have s1 := i32_s (i := w) (by omega) (by omega)
    have q : qIs G i a := I.is' ⟨la, ei⟩
    have hw : 0 ≤ w.toInt ∧ w.toInt ≤ 3 := by omega
    obtain ⟨g2, e2, R2⟩ := q_between (x := 5) (y := 6) R I.V q q (by decide) (by decide) hw
    obtain ⟨c0, c1, c2, c3⟩ := chk_same I la
    have go : ∀ s : Int32, ∃ d12 d13 d14 h2, f_L_law_L506 k2 k69 k310 (f_L_law_L466 k2 k69 k310 n) a0 a1 a2 (some G.z) a4 a5 u x y c12 c13 c14 i j w s s g2 = k310 a0 a1 a2 (some G.z) a4 a5 u x y d12 d13 d14 (i + 1) h2 ∧ qR G F X k h2 ∧ lC G x y u (G.nm a + 1) d12 d13 d14 := by
      intro s
      obtain ⟨h3, f3, R3⟩ := law_506 (k2 := k2) (k69 := k69) (k310 := k310) (k466 := f_L_law_L466 k2 k69 k310 n) (a0 := a0) (a1 := a1) (a2 := a2) (a4 := a4) (a5 := a5) (s := s) (x := x) (y := y) (u := u) (c12 := c12) (c13 := c13) (c14 := c14) (i := i) R2 I lc ej hw
      obtain ⟨d12, d13, d14, h4, f4, R4, C4⟩ := law_466 I la lc ei ej uo C m n (w + 1) h3 (by omega) (by omega) (by omega) R3
      exact ⟨d12, d13, d14, h4, f3.trans f4, R4, C4⟩
    rw [st_L_law_L466, if_neg (i32_nle (by omega)), oS R, Option.bind_some, e2, Option.bind_some]
    dsimp only [Sum.elim_inl]
    have cs : w = 0 ∨ w = 1 ∨ w = 2 ∨ w = 3 := by
      have : w.toInt = 0 ∨ w.toInt = 1 ∨ w.toInt = 2 ∨ w.toInt = 3 := by omega
      rcases this with z | z | z | z
      · exact Or.inl (Int32.toInt_inj.mp (z.trans (by decide)))
      · exact Or.inr (Or.inl (Int32.toInt_inj.mp (z.trans (by decide))))
      · exact Or.inr (Or.inr (Or.inl (Int32.toInt_inj.mp (z.trans (by decide)))))
      · exact Or.inr (Or.inr (Or.inr (Int32.toInt_inj.mp (z.trans (by decide)))))
    rcases cs with rfl | rfl | rfl | rfl
    · rw [if_pos rfl, c0]
      exact go 5
    · rw [if_neg (by decide), if_neg (by decide), c1]
      exact go 1
    · rw [if_neg (by decide), if_pos rfl, c2]
      exact go 6
    · rw [if_neg (by decide), if_neg (by decide), c3]
      exact go 1
end LAWN
