/-! The law hangs a node elsewhere. -/
section LHANG
variable {G : qS} {F : Nat → Option fCe} {X : Nat × Nat × (Nat → Int32)} {k : Nat} {h : fSt} {a c : Nat} {S : lS}
def lNx (X : Nat × Nat × (Nat → Int32)) (lm z k : Nat) (h : fSt) : Prop := ∃ G S F, lH X G S F k h ∧ S.lm = lm ∧ G.z = z
def lNd (G : qS) (S : lS) (a : Nat) : Prop := S.nV (G.nm a) 0 = qPn G a ∧ S.nV (G.nm a) 4 = (G.nd a).over ∧ S.nV (G.nm a) 5 = (G.nd a).under ∧ S.nV (G.nm a) 6 = (G.nd a).layer ∧ (S.cR (G.nm a) = none ↔ (G.nd a).cut = none) ∧ S.oV (G.nm a) 0 = (G.pp (G.pr a 0)).own ∧ S.oV (G.nm a) 2 = (G.pp (G.pr a 2)).own ∧ S.oV (G.nm a) 3 = (G.pp (G.pr a 3)).own
theorem lNd.cg {H : qS} {S2 : lS} (q : lNd G S a) (e1 : (H.nd a).number = (G.nd a).number) (e2 : qPn H a = qPn G a) (e3 : (H.nd a).over = (G.nd a).over) (e4 : (H.nd a).under = (G.nd a).under) (e5 : (H.nd a).layer = (G.nd a).layer) (e6 : (H.nd a).cut = (G.nd a).cut) (e7 : ∀ j, j < 4 → (H.pp (H.pr a j)).own = (G.pp (G.pr a j)).own) (s1 : S2.nV (G.nm a) = S.nV (G.nm a)) (s2 : S2.cR (G.nm a) = S.cR (G.nm a)) (s3 : S2.oV (G.nm a) = S.oV (G.nm a)) : lNd H S2 a := by
  have n : H.nm a = G.nm a := by unfold qS.nm; rw [e1]
  unfold lNd at q ⊢
  rw [n, s1, s2, s3, e2, e3, e4, e5, e6, e7 0 (by decide), e7 2 (by decide), e7 3 (by decide)]
  exact q
theorem qPn_cg {H : qS} (e1 : (H.nd a).par = (G.nd a).par) (e2 : ∀ b, (H.nd b).number = (G.nd b).number) : qPn H a = qPn G a := by
  unfold qPn
  rw [e1]
  cases (G.nd a).par with
  | none => rfl
  | some p => exact e2 p
theorem take_st {β : Type} (f : qS → β) (h1 : ∀ q b n, f (qS.setN q b n) = f q) (h2 : ∀ q v, f (qS.s_kd q v) = f q) : f (qTake G a c) = f G := by
  have h3 : f (qTk1 G a c) = f G := by
    unfold qTk1
    cases qLs none (G.kd a) with
    | none => exact h1 _ _ _
    | some b => exact h1 _ _ _
  exact (h2 _ _).trans ((h1 _ _ _).trans h3)
theorem lH.of (R : qR G F X k h) (L : lF S F G.z) (I : qI G) (g : lG G S) (sx : S.sc = X.1 ∧ X.2.1 ≤ 260) (dr : 0 ≤ S.draws.toInt ∧ S.draws.toInt + k ≤ 900000) (v : (S.v1 : Int) = S.added.toInt ∧ (S.v2 : Int) = S.added.toInt ∧ (S.v6 : Int) = S.tracks.toInt) : lH X G S F k h := ⟨R, L, I, g, sx, dr, v⟩
def qHf (G : qS) (H : qS) (c : Nat) (a : Nat) : Prop :=
  (H.N = G.N ∧ H.P = G.P ∧ H.no = G.no ∧ H.added = G.added ∧ H.tracked = G.tracked ∧ H.tr = G.tr ∧ H.pr = G.pr ∧ H.wh = G.wh ∧ H.time = G.time ∧ H.z = G.z) ∧
  (∀ b, H.Lv b ↔ G.Lv b) ∧
  (∀ b, (H.nd b).number = (G.nd b).number ∧ (H.nd b).over = (G.nd b).over ∧ (H.nd b).under = (G.nd b).under ∧ (H.nd b).layer = (G.nd b).layer ∧ (H.nd b).cut = (G.nd b).cut ∧ (H.nd b).gone = (G.nd b).gone) ∧
  (∀ b, (H.nd b).par = if b = c then some a else (G.nd b).par) ∧
  (H.pp = G.pp) ∧
  (∀ p, qTm H p = qTm G p)
theorem qHf.st {G : qS}{H : qS}{c : Nat}{a : Nat} (hq0 : qHf G H c a) : H.N = G.N ∧ H.P = G.P ∧ H.no = G.no ∧ H.added = G.added ∧ H.tracked = G.tracked ∧ H.tr = G.tr ∧ H.pr = G.pr ∧ H.wh = G.wh ∧ H.time = G.time ∧ H.z = G.z := hq0.1
theorem qHf.lv {G : qS}{H : qS}{c : Nat}{a : Nat} (hq0 : qHf G H c a) : ∀ b, H.Lv b ↔ G.Lv b := hq0.2.1
theorem qHf.nd {G : qS}{H : qS}{c : Nat}{a : Nat} (hq0 : qHf G H c a) : ∀ b, (H.nd b).number = (G.nd b).number ∧ (H.nd b).over = (G.nd b).over ∧ (H.nd b).under = (G.nd b).under ∧ (H.nd b).layer = (G.nd b).layer ∧ (H.nd b).cut = (G.nd b).cut ∧ (H.nd b).gone = (G.nd b).gone := hq0.2.2.1
theorem qHf.par {G : qS}{H : qS}{c : Nat}{a : Nat} (hq0 : qHf G H c a) : ∀ b, (H.nd b).par = if b = c then some a else (G.nd b).par := hq0.2.2.2.1
theorem qHf.pp {G : qS}{H : qS}{c : Nat}{a : Nat} (hq0 : qHf G H c a) : H.pp = G.pp := hq0.2.2.2.2.1
theorem qHf.tm {G : qS}{H : qS}{c : Nat}{a : Nat} (hq0 : qHf G H c a) : ∀ p, qTm H p = qTm G p := hq0.2.2.2.2.2
theorem hang_f {p : Nat} {l1 l2 : List Nat} : qHf G (qLO (qTake (qLeave G c p l1 l2) a c)) c a := by
  have f_ : ∀ {α : Type} (f : qN → α), (∀ q v, f (qN.s_fst q v) = f q) → (∀ q v, f (qN.s_nxt q v) = f q) → (∀ q v, f (qN.s_par q v) = f q) → ∀ b, f ((qTake (qLeave G c p l1 l2) a c).nd b) = f (G.nd b) := fun f h1 h2 h3 b => (take_f f h1 h2 h3 b).trans (leave_f f h1 h2 b)
  have s_ : ∀ {β : Type} (f : qS → β), (∀ q b n, f (qS.setN q b n) = f q) → (∀ q v, f (qS.s_kd q v) = f q) → f (qTake (qLeave G c p l1 l2) a c) = f G := fun f h1 h2 => (take_st f h1 h2).trans (leave_st f h1 h2)
  refine ⟨⟨?_, ?_, ?_, ?_, ?_, ?_, ?_, ?_, ?_, ?_⟩, fun b => ?_, fun b => ⟨?_, ?_, ?_, ?_, ?_, ?_⟩, fun b => ?_, ?_, fun q => ?_⟩
  · rw [lo_N]; exact s_ qS.N (fun _ _ _ => rfl) (fun _ _ => rfl)
  · rw [lo_P]; exact s_ qS.P (fun _ _ _ => rfl) (fun _ _ => rfl)
  · rw [lo_no]; exact s_ qS.no (fun _ _ _ => rfl) (fun _ _ => rfl)
  · rw [lo_added]; exact s_ qS.added (fun _ _ _ => rfl) (fun _ _ => rfl)
  · rw [lo_tracked]; exact s_ qS.tracked (fun _ _ _ => rfl) (fun _ _ => rfl)
  · rw [lo_tr]; exact s_ qS.tr (fun _ _ _ => rfl) (fun _ _ => rfl)
  · rw [lo_pr]; exact s_ qS.pr (fun _ _ _ => rfl) (fun _ _ => rfl)
  · rw [lo_wh]; exact s_ qS.wh (fun _ _ _ => rfl) (fun _ _ => rfl)
  · rw [lo_time]; exact s_ qS.time (fun _ _ _ => rfl) (fun _ _ => rfl)
  · rw [lo_z]; exact s_ qS.z (fun _ _ _ => rfl) (fun _ _ => rfl)
  · show (qLO (qTake (qLeave G c p l1 l2) a c)).N b ∧ ((qLO (qTake (qLeave G c p l1 l2) a c)).nd b).gone = 0 ↔ _
    rw [lo_N, lon_gone, s_ qS.N (fun _ _ _ => rfl) (fun _ _ => rfl), f_ qN.gone (fun _ _ => rfl) (fun _ _ => rfl) (fun _ _ => rfl)]
    exact Iff.rfl
  · rw [lon_number]; exact f_ qN.number (fun _ _ => rfl) (fun _ _ => rfl) (fun _ _ => rfl) b
  · rw [lon_over]; exact f_ qN.over (fun _ _ => rfl) (fun _ _ => rfl) (fun _ _ => rfl) b
  · rw [lon_under]; exact f_ qN.under (fun _ _ => rfl) (fun _ _ => rfl) (fun _ _ => rfl) b
  · rw [lon_layer]; exact f_ qN.layer (fun _ _ => rfl) (fun _ _ => rfl) (fun _ _ => rfl) b
  · rw [lon_cut]; exact f_ qN.cut (fun _ _ => rfl) (fun _ _ => rfl) (fun _ _ => rfl) b
  · rw [lon_gone]; exact f_ qN.gone (fun _ _ => rfl) (fun _ _ => rfl) (fun _ _ => rfl) b
  · rw [lon_par, take_par, show ((qLeave G c p l1 l2).nd b).par = (G.nd b).par from leave_f qN.par (fun _ _ => rfl) (fun _ _ => rfl) b]
  · rw [lo_pp]; exact s_ qS.pp (fun _ _ _ => rfl) (fun _ _ => rfl)
  · unfold qTm
    rw [lo_kl, lo_ky, s_ qS.kl (fun _ _ _ => rfl) (fun _ _ => rfl), s_ qS.ky (fun _ _ _ => rfl) (fun _ _ => rfl)]
/-- what is linked after a node was hung elsewhere -/
theorem lG.hang {H : qS} {S2 : lS} (I : qI G) (g : lG G S) (f : qHf G H c a) (lc : G.Lv c) (s1 : ∀ i, i ≠ G.nm c → S2.nV i = S.nV i) (s2 : S2.nV (G.nm c) 0 = (G.nd a).number ∧ ∀ j, j ≠ 0 → j ≠ 7 → S2.nV (G.nm c) j = S.nV (G.nm c) j) (s3 : S2.oV = S.oV ∧ S2.cR = S.cR ∧ S2.tV = S.tV ∧ S2.kN = S.kN ∧ S2.kV = S.kV) (s4 : S2.added = S.added ∧ S2.tracks = S.tracks ∧ S2.time = S.time) : lG H S2 := by
  obtain ⟨t1, t2, t3, t4, t5, t6, t7, t8, t9, t10⟩ := f.st
  obtain ⟨o1, o2, o3, o4, o5⟩ := s3
  have nm : ∀ b, H.nm b = G.nm b := fun b => by unfold qS.nm; rw [(f.nd b).1]
  refine ⟨by rw [s4.1, t4]; exact g.ad, by rw [s4.2.1, t5]; exact g.tk, by rw [s4.2.2, t9]; exact g.tm, fun b lb => ?_, fun b hb gb => ?_, fun t ht => ?_, fun t h1 h2 => ?_, fun i hi => ?_, fun t u h1 h2 e => g.td t u (by rw [← t5]; exact h1) (by rw [← t5]; exact h2) (by rw [← t6]; exact e)⟩
  · have lb2 := (f.lv b).mp lb
    obtain ⟨n1, n2, n3, n4, n5, n6⟩ := f.nd b
    show lNd H S2 b
    have q : lNd G S b := g.lv b lb2
    by_cases e : b = c
    · subst e
      obtain ⟨q1, q2, q3, q4, q5, q6, q7, q8⟩ := q
      refine ⟨?_, ?_, ?_, ?_, ?_, ?_, ?_, ?_⟩
      · rw [nm, s2.1]
        unfold qPn
        rw [f.par b, if_pos rfl]
        exact (f.nd a).1.symm
      · rw [nm, s2.2 4 (by decide) (by decide), n2]; exact q2
      · rw [nm, s2.2 5 (by decide) (by decide), n3]; exact q3
      · rw [nm, s2.2 6 (by decide) (by decide), n4]; exact q4
      · rw [nm, o2, n5]; exact q5
      · rw [nm, o1, f.pp, t7]; exact q6
      · rw [nm, o1, f.pp, t7]; exact q7
      · rw [nm, o1, f.pp, t7]; exact q8
    · refine q.cg n1 (qPn_cg (by rw [f.par b, if_neg e]) (fun x => (f.nd x).1)) n2 n3 n4 n5 (fun j _ => by rw [f.pp, t7]) (s1 _ (fun w => e (nm_inj I lb2.1 lc.1 w))) (by rw [o2]) (by rw [o1])
  · rw [t1] at hb
    rw [(f.nd b).2.2.2.2.2] at gb
    have e : b ≠ c := fun w => gb (by rw [w]; exact lc.2)
    rw [nm, s1 _ (fun w => e (nm_inj I hb lc.1 w))]
    exact g.go b hb gb
  · rw [t5] at ht
    obtain ⟨b, j, hb, hj, e1, e2, e3, e4, e5⟩ := g.tt t ht
    refine ⟨b, j, by rw [t1]; exact hb, hj, by rw [t6, t7]; exact e1, by rw [f.pp, t7]; exact e2, by rw [o3, (f.nd b).1]; exact e3, by rw [o3]; exact e4, fun lb => ?_⟩
    have q := e5 ((f.lv b).mp lb)
    unfold lKr at q ⊢
    rw [t7, f.tm, o4, o5]
    exact q
  · rw [o4]
    rw [t5] at h2
    exact g.kf t h1 h2
  · rw [o2]
    rw [t4] at hi
    exact g.cf i hi
/-! the deepest below a node -/
theorem h_hangL (H : lH X G S F k h) (la : G.Lv a) (lc : G.Lv c) : ∀ (m n : Nat) (i : Int32) (D : Nat), m < n → 1 ≤ i.toInt → i.toInt + m = G.added.toInt → D ≤ 4 → (∀ b, G.Lv b → c ∈ G.up b → (G.nm b : Int) < i.toInt → (G.up b).length ≤ (G.up c).length + D) → (D = 0 ∨ ∃ b, G.Lv b ∧ c ∈ G.up b ∧ (G.up b).length = (G.up c).length + D) → ∃ s, f_X8_hang_L5 n (some S.lm) (G.nd c).number (G.nd a).number (nI D) i h = f_X8_hang_L83 (some S.lm) (G.nd c).number (G.nd a).number s h ∧ (qOkH G c a → s = 1) ∧ (¬ qOkH G c a → s = 0)
  | 0, n + 1, i, D, hn, h0, e, hD, h1, h2 => by
    have e5 : (5 : Int32).toInt = 5 := by decide
    obtain ⟨ua1, ua2⟩ := up_len H.I la
    obtain ⟨uc1, uc2⟩ := up_len H.I lc
    have lt : ∀ b, G.Lv b → (G.nm b : Int) < i.toInt := fun b lb => by
      have := (H.I.nm lb.1).2.1
      omega
    have t1 : (nI ((G.up a).length - 1)).toInt = ((G.up a).length - 1 : Nat) := nI_toInt (by omega)
    have t3 : (nI D).toInt = D := nI_toInt (by omega)
    have t4 : (nI ((G.up a).length - 1) + 1).toInt = (G.up a).length := by
      rw [i32_s (by omega) (by omega)]; omega
    have t5 : (nI ((G.up a).length - 1) + 1 + nI D).toInt = (G.up a).length + D := by
      rw [i32_add (by omega) (by omega), t4, t3]
    rw [st_X8_hang_L5, gL_added H.R H.L, Option.bind_some, H.g.ad, if_pos (i32_le (by omega)), oL H.R H.L, Option.bind_some, h_in H la lc, Option.bind_some]
    dsimp only
    by_cases q : c ∈ G.up a
    · rw [if_pos q, if_neg (show ¬ (1 : Int32) = 0 by decide)]
      exact ⟨0, rfl, fun w => absurd q w.1, fun _ => rfl⟩
    · rw [if_neg q, if_pos rfl, oL H.R H.L, Option.bind_some, h_lev H la, Option.bind_some]
      dsimp only
      by_cases w : (5 : Int32) ≤ nI ((G.up a).length - 1) + 1 + nI D
      · rw [if_pos w]
        refine ⟨0, rfl, fun ok => ?_, fun _ => rfl⟩
        exfalso
        have w2 := Int32.le_iff_toInt_le.mp w
        rcases h2 with z | ⟨b, lb, hb, z⟩
        · have := ok.2 c lc up_self; omega
        · have := ok.2 b lb hb; omega
      · rw [if_neg w]
        refine ⟨1, rfl, fun _ => rfl, fun nok => ?_⟩
        exfalso
        refine nok ⟨q, fun b lb hb => ?_⟩
        have := h1 b lb hb (lt b lb)
        have w2 : ¬ 5 ≤ (G.up a).length + (D : Int) := fun v => w (i32_le (by rw [t5, e5]; exact v))
        omega
  | m + 1, n + 1, i, D, hn, h0, e, hD, h1, h2 => by
    obtain ⟨a1, a2⟩ := H.I.A.ad
    obtain ⟨uc1, uc2⟩ := up_len H.I lc
    have s1 := i32_s (i := i) (by omega) (by omega)
    obtain ⟨b, hb, eb⟩ := H.I.idx (i := i) (by omega) (by omega)
    obtain ⟨t1, t2⟩ := h_isThere H hb eb
    obtain ⟨r1, r2, r3, r4, r5⟩ := H.I.rg hb eb
    rw [st_X8_hang_L5, gL_added H.R H.L, Option.bind_some, H.g.ad, if_neg (i32_nle (by omega)), oL H.R H.L, Option.bind_some]
    unfold f_X8_hang_L50
    have nxt : ∀ (D2 : Nat), D ≤ D2 → D2 ≤ 4 → (G.Lv b → c ∈ G.up b → (G.up b).length ≤ (G.up c).length + D2) → (D2 = 0 ∨ ∃ b, G.Lv b ∧ c ∈ G.up b ∧ (G.up b).length = (G.up c).length + D2) → ∃ s, f_X8_hang_L5 n (some S.lm) (G.nd c).number (G.nd a).number (nI D2) (i + 1) h = f_X8_hang_L83 (some S.lm) (G.nd c).number (G.nd a).number s h ∧ (qOkH G c a → s = 1) ∧ (¬ qOkH G c a → s = 0) := by
      intro D2 d1 d2 d3 d4
      refine h_hangL H la lc m n (i + 1) D2 (by omega) (by omega) (by omega) d2 (fun x lx hx hi => ?_) d4
      by_cases z : x = b
      · rw [z] at lx hx ⊢
        exact d3 lx hx
      · have : G.nm x ≠ G.nm b := fun w => z (nm_inj H.I lx.1 hb w)
        have := h1 x lx hx (by omega)
        omega
    by_cases lb : G.Lv b
    · rw [t1 lb, Option.bind_some]
      dsimp only
      rw [if_neg (show ¬ (1 : Int32) = 0 by decide), oL H.R H.L, Option.bind_some]
      have e1 := h_in H lb lc
      have e2 := h_lev H lb
      rw [eb] at e1 e2
      rw [e1, Option.bind_some]
      dsimp only
      by_cases q : c ∈ G.up b
      · rw [if_pos q, if_neg (show ¬ (1 : Int32) = 0 by decide), oL H.R H.L, Option.bind_some, e2, Option.bind_some]
        dsimp only
        rw [oL H.R H.L, Option.bind_some, h_lev H lc, Option.bind_some]
        dsimp only
        obtain ⟨ub1, ub2⟩ := up_len H.I lb
        have x1 : (nI ((G.up b).length - 1)).toInt = ((G.up b).length - 1 : Nat) := nI_toInt (by omega)
        have x2 : (nI ((G.up c).length - 1)).toInt = ((G.up c).length - 1 : Nat) := nI_toInt (by omega)
        have x3 : (nI D).toInt = D := nI_toInt (by omega)
        have x4 : (nI ((G.up b).length - 1) - nI ((G.up c).length - 1)).toInt = (G.up b).length - (G.up c).length := by
          rw [i32_sub (by omega) (by omega)]; omega
        by_cases w : nI D < nI ((G.up b).length - 1) - nI ((G.up c).length - 1)
        · rw [if_pos w]
          have w2 := Int32.lt_iff_toInt_lt.mp w
          have x5 : nI ((G.up b).length - 1) - nI ((G.up c).length - 1) = nI ((G.up b).length - (G.up c).length) := by
            apply Int32.toInt_inj.mp
            rw [x4, nI_toInt (by omega)]
            omega
          rw [x5]
          exact nxt _ (by omega) (by omega) (fun _ _ => by omega) (Or.inr ⟨b, lb, q, by omega⟩)
        · rw [if_neg w]
          have w2 : ¬ (nI D).toInt < (nI ((G.up b).length - 1) - nI ((G.up c).length - 1)).toInt := fun v => w (i32_lt2 v)
          exact nxt D (Nat.le_refl _) hD (fun _ _ => by omega) h2
      · rw [if_neg q, if_pos rfl]
        exact nxt D (Nat.le_refl _) hD (fun _ z => absurd z q) h2
    · rw [t2 lb, Option.bind_some]
      dsimp only
      rw [if_pos rfl]
      exact nxt D (Nat.le_refl _) hD (fun z _ => absurd z lb) h2
theorem h_hang (H : lH X G S F (k + 1) h) (la : G.Lv a) (lc : G.Lv c) (hw : c ≠ G.wh) : ∃ h2, f_X8_hang S.lm (G.nd c).number (G.nd a).number h = some (.inl 1, h2) ∧ lNx X S.lm G.z k h2 := by
  obtain ⟨a1, a2⟩ := H.I.A.ad
  have e1 : (1 : Int32).toInt = 1 := by decide
  obtain ⟨s, es, ok1, ok2⟩ := h_hangL H la lc (G.added.toInt - 1).toNat 4096 1 0 (by omega) (by omega) (by omega) (by omega) (fun b lb hb hi => by
    have : G.nm b = 0 := by omega
    have wb : b = G.wh := (H.I.n0 lb.1).mp (by rw [(H.I.nm lb.1).2.2.2, this]; rfl)
    rw [wb, H.I.up_wh, List.mem_singleton] at hb
    exact absurd hb hw) (Or.inl rfl)
  obtain ⟨m1, m2⟩ := m_hang H.R H.I (H.I.is lc) (H.I.is la) hw
  have es2 : f_X8_hang S.lm (G.nd c).number (G.nd a).number h = f_X8_hang_L83 (some S.lm) (G.nd c).number (G.nd a).number s h := es
  by_cases ok : qOkH G c a
  · obtain ⟨p, l1, l2, h1, ep, ek, f1, R1, I1⟩ := m1 ok
    have fr := hang_f (G := G) (c := c) (a := a) (p := p) (l1 := l1) (l2 := l2)
    generalize qLO (qTake (qLeave G c p l1 l2) a c) = G1 at f1 R1 I1 fr
    obtain ⟨t1, t2, t3, t4, t5, t6, t7, t8, t9, t10⟩ := fr.st
    have L1 : lF S F G1.z := by rw [t10]; exact H.L
    obtain ⟨n1, n2⟩ := h_node H lc.1 rfl
    -- reads after the call
    have lc1 : G1.N c := by rw [t1]; exact lc.1
    have rn1 : faR h1 (some S.a1) 4 (G.nd c).number = some (some (S.nR (G.nm c))) := by
      obtain ⟨r1, r2, r3, r4, r5⟩ := H.I.rg lc.1 rfl
      have := rN R1 L1 (i := (G.nd c).number) r1 (by omega)
      rw [r4] at this
      exact this
    obtain ⟨h3, w3, R3, L3⟩ := wN R1 L1 (i := G.nm c) n2 (j := 0) (by decide) (by decide) (G.nd a).number
    obtain ⟨h4, w4, R4, L4⟩ := wL_hangs R3 L3 (S.hangs + 1)
    have hh := gL_hangs R3 L3
    have hN3 : faR h3 (some S.a1) 4 (G.nd c).number = some (some (S.nR (G.nm c))) := by
      obtain ⟨r1, r2, r3, r4, r5⟩ := H.I.rg lc.1 rfl
      have := rN R3 L3 (i := (G.nd c).number) r1 (by show (G.nd c).number.toInt < (S.v1 : Nat); omega)
      rw [r4] at this
      exact this
    obtain ⟨h5, w5, R5, L5⟩ := wN R4 L4 (i := G.nm c) n2 (j := 7) (by decide) (by decide) S.hangs
    have ga3 := gL_a1 R3 L3
    have H5 := lH.of R5 L5 I1 (by
      · refine lG.hang H.I H.g fr lc (fun i hi => ?_) ⟨?_, fun j j0 j7 => ?_⟩ ⟨rfl, rfl, rfl, rfl, rfl⟩ ⟨rfl, rfl, rfl⟩
        · show qu (qu S.nV (G.nm c) _) (G.nm c) _ i = _
          rw [qu_ne hi, qu_ne hi]
        · show qu (qu S.nV (G.nm c) (upd (S.nV (G.nm c)) _ _)) (G.nm c) (upd (qu S.nV (G.nm c) (upd (S.nV (G.nm c)) _ _) (G.nm c)) _ _) (G.nm c) 0 = _
          rw [qu_eq, qu_eq]
          exact (if_neg (show ¬ (0 : Nat) = (7 : Int32).toNatClampNeg by decide)).trans (if_pos (show (0 : Nat) = (0 : Int32).toNatClampNeg by decide))
        · show qu (qu S.nV (G.nm c) (upd (S.nV (G.nm c)) _ _)) (G.nm c) (upd (qu S.nV (G.nm c) (upd (S.nV (G.nm c)) _ _) (G.nm c)) _ _) (G.nm c) j = _
          rw [qu_eq, qu_eq]
          exact (if_neg (show ¬ j = (7 : Int32).toNatClampNeg from j7)).trans (if_neg (show ¬ j = (0 : Int32).toNatClampNeg from j0))
      ) H.sx ⟨H.dr.1, by
        show S.draws.toInt + k ≤ 900000
        have := H.dr.2
        omega⟩ H.v
    have la1 : G1.Lv a := (fr.lv a).mpr la
    have hang := h_hanging H5 la1
    rw [(fr.nd a).1] at hang
    refine ⟨h5, ?_, G1, _, _, H5, rfl, t10⟩
    rw [es2, ok1 ok]
    unfold f_X8_hang_L83 f_X8_hang_L145
    have o5 := oL R5 L5
    rw [gL_sc_ H.R H.L, Option.bind_some, oS H.R, Option.bind_some, f1, Option.bind_some]
    dsimp only [Sum.elim_inl]
    rw [gL_a1 R1 L1, Option.bind_some, rn1, Option.bind_some, w3, Option.bind_some]
    rw [show fgR h3 (some S.lm) 8 4 = some (some S.a1) from ga3, Option.bind_some, hN3, Option.bind_some, show fgI h3 (some S.lm) 8 9 = some S.hangs from hh, Option.bind_some, show fput h3 (some S.lm) 8 9 (.int (S.hangs + 1)) = some h4 from w4, Option.bind_some]
    rw [show fsI h4 (some (S.nR (G.nm c))) 0 7 S.hangs = some h5 from w5, Option.bind_some, if_neg (show ¬ (1 : Int32) = 0 by decide), show fobj h5 (some S.lm) 8 = some S.lm from o5, Option.bind_some, show f_X8_hanging S.lm (G.nd a).number h5 = some (nI (G1.kd a).length, h5) from hang, Option.bind_some]
    dsimp only
    rw [if_pos rfl, if_pos (Or.inr rfl)]
  · obtain ⟨h1, f1, R1⟩ := m2 ok
    refine ⟨h1, ?_, G, S, F, ⟨R1, H.L, H.I, H.g, H.sx, ⟨H.dr.1, by have := H.dr.2; omega⟩, H.v⟩, rfl, rfl⟩
    rw [es2, ok2 ok]
    unfold f_X8_hang_L83 f_X8_hang_L158
    rw [gL_sc_ H.R H.L, Option.bind_some, oS H.R, Option.bind_some, f1, Option.bind_some]
    dsimp only [Sum.elim_inr]
    rw [if_pos rfl, if_pos rfl, if_pos (Or.inr rfl)]
end LHANG
