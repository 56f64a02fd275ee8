/-! The law's object and the class's state: what links them; small questions of the law's object. -/
section LINKS
variable {G : qS} {F : Nat → Option fCe} {X : Nat × Nat × (Nat → Int32)} {k : Nat} {h : fSt} {a c : Nat} {S : lS}
def qS.nm (G : qS) (a : Nat) : Nat := (G.nd a).number.toInt.toNat
/-- a row of keys and the times that it holds -/
def lKr (S : lS) (t : Nat) (L : List Int32) : Prop := S.kN t = 2 * L.length ∧ ∀ (i : Nat) (x : Int32), L[i]? = some x → S.kV t (2 * i) = x
def lG (G : qS) (S : lS) : Prop :=
  (S.added = G.added) ∧
  (S.tracks = G.tracked) ∧
  (S.time = G.time ∧ 0 ≤ G.time.toInt ∧ G.time.toInt < 60) ∧
  (∀ a, G.Lv a → S.nV (G.nm a) 0 = qPn G a ∧ S.nV (G.nm a) 4 = (G.nd a).over ∧ S.nV (G.nm a) 5 = (G.nd a).under ∧ S.nV (G.nm a) 6 = (G.nd a).layer ∧ (S.cR (G.nm a) = none ↔ (G.nd a).cut = none) ∧ S.oV (G.nm a) 0 = (G.pp (G.pr a 0)).own ∧ S.oV (G.nm a) 2 = (G.pp (G.pr a 2)).own ∧ S.oV (G.nm a) 3 = (G.pp (G.pr a 3)).own) ∧
  (∀ a, G.N a → (G.nd a).gone ≠ 0 → S.nV (G.nm a) 0 = -2) ∧
  (∀ t : Nat, (t : Int) < G.tracked.toInt → ∃ a j, G.N a ∧ j < 4 ∧ G.tr t = some (G.pr a j) ∧ (G.pp (G.pr a j)).trk ≠ 0 ∧ S.tV t 0 = (G.nd a).number ∧ (S.tV t 1).toInt = (j : Nat) ∧ (G.Lv a → lKr S t (qTm G (G.pr a j)))) ∧
  (∀ t : Nat, t < 12 → G.tracked.toInt ≤ t → S.kN t = 0) ∧
  (∀ i : Nat, G.added.toInt ≤ i → S.cR i = none) ∧
  (∀ t u : Nat, (t : Int) < G.tracked.toInt → (u : Int) < G.tracked.toInt → G.tr t = G.tr u → t = u)
theorem lG.ad {G : qS}{S : lS} (hq0 : lG G S) : S.added = G.added := hq0.1
theorem lG.tk {G : qS}{S : lS} (hq0 : lG G S) : S.tracks = G.tracked := hq0.2.1
theorem lG.tm {G : qS}{S : lS} (hq0 : lG G S) : S.time = G.time ∧ 0 ≤ G.time.toInt ∧ G.time.toInt < 60 := hq0.2.2.1
theorem lG.lv {G : qS}{S : lS} (hq0 : lG G S) : ∀ a, G.Lv a → S.nV (G.nm a) 0 = qPn G a ∧ S.nV (G.nm a) 4 = (G.nd a).over ∧ S.nV (G.nm a) 5 = (G.nd a).under ∧ S.nV (G.nm a) 6 = (G.nd a).layer ∧ (S.cR (G.nm a) = none ↔ (G.nd a).cut = none) ∧ S.oV (G.nm a) 0 = (G.pp (G.pr a 0)).own ∧ S.oV (G.nm a) 2 = (G.pp (G.pr a 2)).own ∧ S.oV (G.nm a) 3 = (G.pp (G.pr a 3)).own := hq0.2.2.2.1
theorem lG.go {G : qS}{S : lS} (hq0 : lG G S) : ∀ a, G.N a → (G.nd a).gone ≠ 0 → S.nV (G.nm a) 0 = -2 := hq0.2.2.2.2.1
theorem lG.tt {G : qS}{S : lS} (hq0 : lG G S) : ∀ t : Nat, (t : Int) < G.tracked.toInt → ∃ a j, G.N a ∧ j < 4 ∧ G.tr t = some (G.pr a j) ∧ (G.pp (G.pr a j)).trk ≠ 0 ∧ S.tV t 0 = (G.nd a).number ∧ (S.tV t 1).toInt = (j : Nat) ∧ (G.Lv a → lKr S t (qTm G (G.pr a j))) := hq0.2.2.2.2.2.1
theorem lG.kf {G : qS}{S : lS} (hq0 : lG G S) : ∀ t : Nat, t < 12 → G.tracked.toInt ≤ t → S.kN t = 0 := hq0.2.2.2.2.2.2.1
theorem lG.cf {G : qS}{S : lS} (hq0 : lG G S) : ∀ i : Nat, G.added.toInt ≤ i → S.cR i = none := hq0.2.2.2.2.2.2.2.1
theorem lG.td {G : qS}{S : lS} (hq0 : lG G S) : ∀ t u : Nat, (t : Int) < G.tracked.toInt → (u : Int) < G.tracked.toInt → G.tr t = G.tr u → t = u := hq0.2.2.2.2.2.2.2.2
/-- all that holds between the law's steps, with room for k more -/
def lH (X : Nat × Nat × (Nat → Int32)) (G : qS) (S : lS) (F : Nat → Option fCe) (k : Nat) (h : fSt) : Prop :=
  (qR G F X k h) ∧
  (lF S F G.z) ∧
  (qI G) ∧
  (lG G S) ∧
  (S.sc = X.1 ∧ X.2.1 ≤ 260) ∧
  (0 ≤ S.draws.toInt ∧ S.draws.toInt + k ≤ 900000) ∧
  ((S.v1 : Int) = S.added.toInt ∧ (S.v2 : Int) = S.added.toInt ∧ (S.v6 : Int) = S.tracks.toInt)
theorem lH.R {X : Nat × Nat × (Nat → Int32)}{G : qS}{S : lS}{F : Nat → Option fCe}{k : Nat}{h : fSt} (hq0 : lH X G S F k h) : qR G F X k h := hq0.1
theorem lH.L {X : Nat × Nat × (Nat → Int32)}{G : qS}{S : lS}{F : Nat → Option fCe}{k : Nat}{h : fSt} (hq0 : lH X G S F k h) : lF S F G.z := hq0.2.1
theorem lH.I {X : Nat × Nat × (Nat → Int32)}{G : qS}{S : lS}{F : Nat → Option fCe}{k : Nat}{h : fSt} (hq0 : lH X G S F k h) : qI G := hq0.2.2.1
theorem lH.g {X : Nat × Nat × (Nat → Int32)}{G : qS}{S : lS}{F : Nat → Option fCe}{k : Nat}{h : fSt} (hq0 : lH X G S F k h) : lG G S := hq0.2.2.2.1
theorem lH.sx {X : Nat × Nat × (Nat → Int32)}{G : qS}{S : lS}{F : Nat → Option fCe}{k : Nat}{h : fSt} (hq0 : lH X G S F k h) : S.sc = X.1 ∧ X.2.1 ≤ 260 := hq0.2.2.2.2.1
theorem lH.dr {X : Nat × Nat × (Nat → Int32)}{G : qS}{S : lS}{F : Nat → Option fCe}{k : Nat}{h : fSt} (hq0 : lH X G S F k h) : 0 ≤ S.draws.toInt ∧ S.draws.toInt + k ≤ 900000 := hq0.2.2.2.2.2.1
theorem lH.v {X : Nat × Nat × (Nat → Int32)}{G : qS}{S : lS}{F : Nat → Option fCe}{k : Nat}{h : fSt} (hq0 : lH X G S F k h) : (S.v1 : Int) = S.added.toInt ∧ (S.v2 : Int) = S.added.toInt ∧ (S.v6 : Int) = S.tracks.toInt := hq0.2.2.2.2.2.2
theorem lH.le (H : lH X G S F k h) {j : Nat} (e : j ≤ k) : lH X G S F j h := ⟨H.R.le e, H.L, H.I, H.g, H.sx, ⟨H.dr.1, by have := H.dr.2; omega⟩, H.v⟩
def dS (S : lS) : lS := S.s_draws (S.draws + 1)
def dF (F : Nat → Option fCe) (S : lS) (z : Nat) : Nat → Option fCe := qu F S.lm (some ((dS S).c z))
theorem h_draw (H : lH X G S F (k + 1) h) {n : Int32} (hn : 0 < n.toInt) : ∃ r h2, f_X8_draw S.lm n h = some (r, h2) ∧ (0 ≤ r.toInt ∧ r.toInt < n.toInt) ∧ lH X G (dS S) (dF F S G.z) k h2 := by
  have d := H.dr
  obtain ⟨r, h2, e, r1, R2, L2⟩ := l_draw (H.R.le (Nat.le_succ k)) H.L H.sx.1 H.sx.2 ⟨d.1, by omega⟩ hn
  have s1 : (S.draws + 1).toInt = S.draws.toInt + 1 := by
    have e1 : (1 : Int32).toInt = 1 := by decide
    rw [i32_add (by omega) (by omega), e1]
  refine ⟨r, h2, e, r1, R2, L2, H.I, H.g, H.sx, ⟨?_, ?_⟩, H.v⟩
  · show 0 ≤ (S.draws + 1).toInt
    omega
  · show (S.draws + 1).toInt + k ≤ 900000
    omega
theorem dF_ne (S : lS) {z y : Nat} (q : y ≠ S.lm) : dF F S z y = F y := qu_ne q
/-! nodes and their numbers -/
theorem qI.nm (I : qI G) (ha : G.N a) : (G.nm a : Int) = (G.nd a).number.toInt ∧ (G.nm a : Int) < G.added.toInt ∧ G.no (G.nm a) = some a ∧ (G.nd a).number = nI (G.nm a) := by
  obtain ⟨a1, a2⟩ := I.A.ad
  obtain ⟨e1, e2, e3⟩ := I.A.nu a ha
  have e1 : 0 ≤ (G.nd a).number.toInt := e1
  have e2 : (G.nd a).number.toInt < G.added.toInt := e2
  have e4 : (G.nm a : Int) = (G.nd a).number.toInt := by
    unfold qS.nm
    omega
  refine ⟨e4, by omega, e3, Int32.toInt_inj.mp ?_⟩
  rw [nI_toInt (by omega), e4]
theorem qI.is (I : qI G) (la : G.Lv a) : qIs G (G.nd a).number a := by
  obtain ⟨a1, a2⟩ := I.A.ad
  obtain ⟨e1, e2, e3, -⟩ := I.nm la.1
  have nx := i32_nat (i := (G.nd a).number) (by omega)
  exact ⟨by omega, by omega, by rw [show (G.nd a).number.toNatClampNeg = G.nm a by omega]; exact e3, la⟩
/-- a live node by its number -/
def qNi (G : qS) (i : Int32) (a : Nat) : Prop := G.Lv a ∧ (G.nd a).number = i
theorem qI.is' (I : qI G) {i : Int32} (q : qNi G i a) : qIs G i a := by
  have := I.is q.1
  rw [q.2] at this
  exact this
theorem qI.idx (I : qI G) {i : Int32} (h0 : 0 ≤ i.toInt) (h1 : i.toInt < G.added.toInt) : ∃ a, G.N a ∧ (G.nd a).number = i := by
  have nx := i32_nat h0
  obtain ⟨a, -, ha, e⟩ := I.A.no i.toNatClampNeg (by omega)
  have e : (G.nd a).number.toInt = (i.toNatClampNeg : Nat) := e
  exact ⟨a, ha, Int32.toInt_inj.mp (by omega)⟩
theorem qI.rg (I : qI G) (ha : G.N a) {i : Int32} (e : (G.nd a).number = i) : 0 ≤ i.toInt ∧ i.toInt < G.added.toInt ∧ i.toInt < 30 ∧ i.toNatClampNeg = G.nm a ∧ (G.nm a : Int) = i.toInt := by
  obtain ⟨e1, e2, e3, e4⟩ := I.nm ha
  obtain ⟨a1, a2⟩ := I.A.ad
  subst e
  have nx := i32_nat (i := (G.nd a).number) (by omega)
  omega
theorem qI.wh0 (I : qI G) : (G.nd G.wh).number = 0 := by
  obtain ⟨a1, a2⟩ := I.A.ad
  obtain ⟨b, e1, e2, e3⟩ := I.A.no 0 (by omega)
  rw [I.A.n0] at e1
  cases e1
  exact Int32.toInt_inj.mp (by rw [show (G.nd G.wh).number.toInt = _ from e3]; decide)
theorem qI.n0 (I : qI G) (ha : G.N a) : (G.nd a).number = 0 ↔ a = G.wh := ⟨fun e => I.inj ha I.B.wl.1 (e.trans I.wh0.symm), fun e => by rw [e]; exact I.wh0⟩
theorem qI.pn (I : qI G) (la : G.Lv a) : (a = G.wh ∧ qPn G a = -1) ∨ (a ≠ G.wh ∧ ∃ p, (G.nd a).par = some p ∧ G.Lv p ∧ qPn G a = (G.nd p).number ∧ G.up a = a :: G.up p) := by
  unfold qPn
  cases e : (G.nd a).par with
  | none => exact Or.inl ⟨I.par_none la e, rfl⟩
  | some p =>
    obtain ⟨lp, eu⟩ := I.up_par la e
    refine Or.inr ⟨fun z => ?_, p, rfl, lp, rfl, eu⟩
    rw [z, show (G.nd G.wh).par = none from I.B.wp] at e
    cases e
/-! is there -/
theorem h_node (H : lH X G S F k h) (ha : G.N a) {i : Int32} (e : (G.nd a).number = i) : faR h (some S.a1) 4 i = some (some (S.nR (G.nm a))) ∧ G.nm a < S.v1 := by
  obtain ⟨r1, r2, r3, r4, r5⟩ := H.I.rg ha e
  have ad := H.g.ad
  have v := H.v.1
  rw [ad] at v
  have := rN H.R H.L (i := i) r1 (by omega)
  rw [r4] at this
  exact ⟨this, by omega⟩
theorem h_own (H : lH X G S F k h) (ha : G.N a) {i : Int32} (e : (G.nd a).number = i) : faR h (some S.a2) 4 i = some (some (S.oR (G.nm a))) ∧ G.nm a < S.v2 := by
  obtain ⟨r1, r2, r3, r4, r5⟩ := H.I.rg ha e
  have ad := H.g.ad
  have v := H.v.2.1
  rw [ad] at v
  have := rO H.R H.L (i := i) r1 (by omega)
  rw [r4] at this
  exact ⟨this, by omega⟩
theorem h_isThere (H : lH X G S F k h) (ha : G.N a) {i : Int32} (e : (G.nd a).number = i) : (G.Lv a → f_X8_isThere S.lm i h = some (1, h)) ∧ (¬ G.Lv a → f_X8_isThere S.lm i h = some (0, h)) := by
  obtain ⟨r1, r2, r3, r4, r5⟩ := H.I.rg ha e
  obtain ⟨n1, n2⟩ := h_node H ha e
  have e0 : (0 : Int32).toInt = 0 := by decide
  have em : (-2 : Int32).toInt = -2 := by decide
  have ad := H.g.ad
  have v0 := vN H.R H.L n2 (j := 0) (by decide) (by decide)
  have z0 : (0 : Int32).toNatClampNeg = 0 := by decide
  rw [z0] at v0
  unfold f_X8_isThere f_X8_isThere_L0 f_X8_isThere_L29 f_X8_isThere_L30
  rw [if_neg (i32_nlt (by omega)), gL_added H.R H.L, Option.bind_some, if_neg (i32_nle (by rw [ad]; omega)), gL_a1 H.R H.L, Option.bind_some, n1, Option.bind_some, v0, Option.bind_some]
  refine ⟨fun la => ?_, fun la => ?_⟩
  · have e2 := (H.g.lv a la).1
    rw [e2, if_neg, if_pos (Or.inr rfl)]
    have e1 : (-1 : Int32).toInt = -1 := by decide
    rcases H.I.pn la with ⟨-, z⟩ | ⟨-, p, -, lp, z, -⟩
    · rw [z]; decide
    · rw [z]
      have := (H.I.nm lp.1).1
      exact i32_nle (by omega)
  · have e2 := H.g.go a ha (fun z => la ⟨ha, z⟩)
    rw [e2, if_pos (by decide), if_pos (Or.inl rfl)]
/-! any node -/
theorem h_anyL (H : lH X G S F k h) : ∀ (m n : Nat) (i : Int32), m < n → 0 ≤ i.toInt → i.toInt + m = G.added.toInt → 1 ≤ m → ∃ a, G.Lv a ∧ f_X8_any_L9 (n + 1) (some S.lm) i h = some ((G.nd a).number, h)
  | m + 1, n + 1, i, hn, h0, e, _ => by
    obtain ⟨a1, a2⟩ := H.I.A.ad
    obtain ⟨a, ha, ea⟩ := H.I.idx h0 (by omega)
    obtain ⟨t1, t2⟩ := h_isThere H ha ea
    by_cases la : G.Lv a
    · refine ⟨a, la, ?_⟩
      rw [st_X8_any_L9, oL H.R H.L, Option.bind_some, t1 la, Option.bind_some]
      dsimp only
      rw [if_neg (show ¬ (1 : Int32) = 0 by decide), ea]
    · have s1 := i32_s (i := i) (by omega) (by omega)
      have ad := H.g.ad
      have step : f_X8_any_L9 (n + 1 + 1) (some S.lm) i h = f_X8_any_L9 (n + 1) (some S.lm) ((i + 1) - (i + 1) / G.added * G.added) h := by
        rw [st_X8_any_L9, oL H.R H.L, Option.bind_some, t2 la, Option.bind_some]
        dsimp only
        rw [if_pos rfl, gL_added H.R H.L, Option.bind_some, ad, if_neg (i32_0 (by omega))]
      have rm := i32_rem (a := i + 1) (b := G.added) (by omega) (by omega)
      rw [step]
      cases m with
      | zero =>
        have e2 : ((i + 1) - (i + 1) / G.added * G.added) = 0 := by
          apply Int32.toInt_inj.mp
          rw [rm, s1, show i.toInt + 1 = G.added.toInt by omega, Int.emod_self]
          decide
        rw [e2]
        obtain ⟨t1, -⟩ := h_isThere H H.I.B.wl.1 H.I.wh0
        refine ⟨G.wh, H.I.B.wl, ?_⟩
        rw [st_X8_any_L9, oL H.R H.L, Option.bind_some, t1 H.I.B.wl, Option.bind_some]
        dsimp only
        rw [if_neg (show ¬ (1 : Int32) = 0 by decide), H.I.wh0]
      | succ m =>
        have e2 : ((i + 1) - (i + 1) / G.added * G.added) = i + 1 := by
          apply Int32.toInt_inj.mp
          rw [rm, s1, Int.emod_eq_of_lt (by omega) (by omega)]
        rw [e2]
        exact h_anyL H (m + 1) n (i + 1) (by omega) (by omega) (by omega) (by omega)
theorem h_any (H : lH X G S F (k + 1) h) : ∃ a h2, f_X8_any S.lm h = some ((G.nd a).number, h2) ∧ G.Lv a ∧ lH X G (dS S) (dF F S G.z) k h2 := by
  obtain ⟨a1, a2⟩ := H.I.A.ad
  have ad := H.g.ad
  obtain ⟨r, h2, e, r1, H2⟩ := h_draw H (n := S.added) (by rw [ad]; omega)
  rw [ad] at r1
  have nx := i32_nat r1.1
  obtain ⟨a, la, f⟩ := h_anyL H2 (G.added.toInt - r.toInt).toNat 4095 r (by omega) r1.1 (by omega) (by omega)
  refine ⟨a, h2, ?_, la, H2⟩
  unfold f_X8_any f_X8_any_L0
  rw [gL_added H.R H.L, Option.bind_some, oL H.R H.L, Option.bind_some, e, Option.bind_some]
  exact f
theorem h_oneL (H : lH X G S F k h) : ∀ (m n : Nat) (i : Int32) (a : Nat), m < n → 1 ≤ i.toInt → i.toInt + m = G.added.toInt → G.Lv a → ∃ b, G.Lv b ∧ f_X8_one_L7 n (some S.lm) (G.nd a).number i h = some ((G.nd b).number, h)
  | 0, n + 1, i, a, hn, h0, e, la => by
    have ad := H.g.ad
    refine ⟨a, la, ?_⟩
    rw [st_X8_one_L7, gL_added H.R H.L, Option.bind_some, ad, if_pos (i32_le (by omega))]
    rfl
  | m + 1, n + 1, i, a, hn, h0, e, la => by
    obtain ⟨a1, a2⟩ := H.I.A.ad
    have ad := H.g.ad
    have s1 := i32_s (i := i) (by omega) (by omega)
    rw [st_X8_one_L7, gL_added H.R H.L, Option.bind_some, ad, if_neg (i32_nle (by omega))]
    by_cases z : (G.nd a).number = 0
    · rw [if_pos z, oL H.R H.L, Option.bind_some]
      obtain ⟨b, hb, eb⟩ := H.I.idx (i := i) (by omega) (by omega)
      obtain ⟨t1, t2⟩ := h_isThere H hb eb
      unfold f_X8_one_L29
      by_cases lb : G.Lv b
      · rw [t1 lb, Option.bind_some]
        dsimp only
        rw [if_neg (show ¬ (1 : Int32) = 0 by decide)]
        obtain ⟨d, ld, f⟩ := h_oneL H m n (i + 1) b (by omega) (by omega) (by omega) lb
        refine ⟨d, ld, ?_⟩
        rw [← f, eb]
      · rw [t2 lb, Option.bind_some]
        dsimp only
        rw [if_pos rfl]
        exact h_oneL H m n (i + 1) a (by omega) (by omega) (by omega) la
    · rw [if_neg z]
      exact ⟨a, la, rfl⟩
theorem h_one (H : lH X G S F (k + 1) h) : ∃ a h2, f_X8_one S.lm h = some ((G.nd a).number, h2) ∧ G.Lv a ∧ lH X G (dS S) (dF F S G.z) k h2 := by
  obtain ⟨a1, a2⟩ := H.I.A.ad
  obtain ⟨a, h2, e, la, H2⟩ := h_any H
  have e1 : (1 : Int32).toInt = 1 := by decide
  obtain ⟨b, lb, f⟩ := h_oneL H2 (G.added.toInt - 1).toNat 4096 1 a (by omega) (by omega) (by omega) la
  refine ⟨b, h2, ?_, lb, H2⟩
  unfold f_X8_one f_X8_one_L0
  rw [oL H.R H.L, Option.bind_some, e, Option.bind_some]
  exact f
/-! levels, and what is in what -/
theorem h_level (H : lH X G S F k h) : ∀ (n d a : Nat), G.Lv a → (G.up a).length = n + 1 → n < d → f_X8_level d S.lm (G.nd a).number h = some (nI n, h)
  | n, d + 1, a, la, hl, hd => by
    rw [st_X8_level]
    unfold f_X8_level_L0 f_X8_level_L22
    rcases H.I.pn la with ⟨z, e⟩ | ⟨z, p, ep, lp, e, eu⟩
    · rw [z] at hl ⊢
      rw [H.I.up_wh] at hl
      have hl : 1 = n + 1 := hl
      obtain rfl : n = 0 := by omega
      rw [H.I.wh0, if_pos rfl]
      rfl
    · rw [eu, List.length_cons] at hl
      have up := (up_len H.I lp).1
      obtain ⟨n, rfl⟩ : ∃ m, n = m + 1 := ⟨n - 1, by omega⟩
      obtain ⟨n1, n2⟩ := h_node H la.1 rfl
      have v0 := vN H.R H.L n2 (j := 0) (by decide) (by decide)
      rw [show (0 : Int32).toNatClampNeg = 0 by decide, (H.g.lv a la).1, e] at v0
      rw [if_neg (fun w => z ((H.I.n0 la.1).mp w)), gL_a1 H.R H.L, Option.bind_some, n1, Option.bind_some, v0, Option.bind_some, oL H.R H.L, Option.bind_some, h_level H n d p lp (by omega) (by omega), Option.bind_some]
      dsimp only
      rw [Int32.add_comm, nI_succ]
theorem h_isIn (H : lH X G S F k h) (lc : G.Lv c) : ∀ (n d a : Nat), G.Lv a → (G.up a).length = n + 1 → n < d → f_X8_isIn d S.lm (G.nd a).number (G.nd c).number h = some (if c ∈ G.up a then 1 else 0, h)
  | n, d + 1, a, la, hl, hd => by
    rw [st_X8_isIn]
    unfold f_X8_isIn_L0 f_X8_isIn_L25 f_X8_isIn_L29 f_X8_isIn_L30
    by_cases ac : a = c
    · rw [if_pos (by rw [ac]), if_pos (Or.inr rfl), if_pos (by rw [ac]; exact up_self)]
    rw [if_neg (fun w => ac (H.I.inj la.1 lc.1 w))]
    rcases H.I.pn la with ⟨z, e⟩ | ⟨z, p, ep, lp, e, eu⟩
    · have nin : ¬ c ∈ G.up a := by
        rw [z, H.I.up_wh, List.mem_singleton]
        exact fun w => ac (z.trans w.symm)
      rw [if_neg nin, (H.I.n0 la.1).mpr z, if_pos (by decide), if_pos (Or.inl rfl)]
    · rw [eu, List.length_cons] at hl
      have up := (up_len H.I lp).1
      obtain ⟨n, rfl⟩ : ∃ m, n = m + 1 := ⟨n - 1, by omega⟩
      obtain ⟨n1, n2⟩ := h_node H la.1 rfl
      have v0 := vN H.R H.L n2 (j := 0) (by decide) (by decide)
      rw [show (0 : Int32).toNatClampNeg = 0 by decide, (H.g.lv a la).1, e] at v0
      have pos : ¬ (G.nd a).number ≤ 0 := by
        have e1 := (H.I.nm la.1).1
        have e0 : (0 : Int32).toInt = 0 := by decide
        refine i32_nle ?_
        have : (G.nd a).number.toInt ≠ 0 := fun w => z ((H.I.n0 la.1).mp (Int32.toInt_inj.mp (w.trans e0.symm)))
        omega
      rw [if_neg pos, gL_a1 H.R H.L, Option.bind_some, n1, Option.bind_some, v0, Option.bind_some, oL H.R H.L, Option.bind_some, h_isIn H lc n d p lp (by omega) (by omega), Option.bind_some]
      have mem : c ∈ G.up a ↔ c ∈ G.up p := by
        rw [eu, List.mem_cons]
        exact ⟨fun w => w.resolve_left (fun v => ac v.symm), Or.inr⟩
      dsimp only
      by_cases q : c ∈ G.up p
      · rw [if_pos q, if_pos (mem.mpr q), if_neg (show ¬ (1 : Int32) = 0 by decide), if_pos (Or.inr rfl)]
      · rw [if_neg q, if_neg (fun w => q (mem.mp w)), if_pos rfl, if_pos (Or.inl rfl)]
theorem h_lev (H : lH X G S F k h) (la : G.Lv a) : f_X8_level 8 S.lm (G.nd a).number h = some (nI ((G.up a).length - 1), h) := by
  obtain ⟨u1, u2⟩ := up_len H.I la
  exact h_level H ((G.up a).length - 1) 8 a la (by omega) (by omega)
theorem h_in (H : lH X G S F k h) (la : G.Lv a) (lc : G.Lv c) : f_X8_isIn 8 S.lm (G.nd a).number (G.nd c).number h = some (if c ∈ G.up a then 1 else 0, h) := by
  obtain ⟨u1, u2⟩ := up_len H.I la
  exact h_isIn H lc ((G.up a).length - 1) 8 a la (by omega) (by omega)
end LINKS
