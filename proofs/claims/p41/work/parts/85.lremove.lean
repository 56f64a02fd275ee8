/-! The law takes a part away. -/
section LREM
variable {G : qS} {F : Nat → Option fCe} {X : Nat × Nat × (Nat → Int32)} {k : Nat} {h : fSt} {a c : Nat} {S : lS}
theorem qR.newF2 (R : qR G F X (k + 2) h) {c : fCe} (hc : qL c) {n : Nat} (hn : n ≤ 40) : qR G (qu F (fZ h) (some c)) X k (fPush h c n) := by
  obtain ⟨p1, p2, p3, p4, p5⟩ := R.pt
  obtain ⟨x0, y0, e0⟩ := R.f0
  obtain ⟨x1, y1, e1⟩ := R.f1
  obtain ⟨x2, y2, e2⟩ := R.f2
  obtain ⟨x3, y3, e3⟩ := R.f3
  refine ⟨fp_ne (R.sc) R.bd, fp_ne (R.na) R.bd, fp_ne (R.ta) R.bd, ⟨p1, p2, p3, p4, fp_ne (p5) R.bd⟩, fp_ne (R.bo) R.bd, ⟨x0, y0, fp_ne (e0) R.bd⟩, ⟨x1, y1, fp_ne (e1) R.bd⟩, ⟨x2, y2, fp_ne (e2) R.bd⟩, ⟨x3, y3, fp_ne (e3) R.bd⟩, fun b hb => fp_ne (R.nd b hb) R.bd, fun b hb => fp_ne (R.pp b hb) R.bd, fun b hb => fp_ne (R.ky b hb) R.bd, fun b hb => fp_ne (R.fm b hb) R.bd, fun b c2 hb => ?_, ⟨by have := R.rm.1; show fZ h + 1 + k ≤ fCB h; omega, by have := R.rm.2; show fL h + n + 20 * k ≤ fLB h; omega⟩, R.xx, bd_push R.bd⟩
  by_cases z : b = fZ h
  · subst z
    rw [qu_eq] at hb
    cases hb
    exact ⟨hc, fF_push_eq⟩
  · rw [qu_ne z] at hb
    rw [fF_push_ne z]
    exact R.lo b c2 hb
theorem nar1 : vp_nar .boolean (1 : Int32) = 1 := by decide
theorem nar0 : vp_nar .boolean (0 : Int32) = 0 := by decide
/-- whether it's there, by the row alone -/
theorem x_there (R : qR G F X k h) (L : lF S F G.z) (I : qI G) (ad : S.added = G.added) (v1 : (S.v1 : Int) = S.added.toInt) (hb : G.N a) {i : Int32} (e : (G.nd a).number = i) : f_X8_isThere S.lm i h = some (if S.nV (G.nm a) 0 ≤ -2 then 0 else 1, h) := by
  obtain ⟨r1, r2, r3, r4, r5⟩ := I.rg hb e
  have e0 : (0 : Int32).toInt = 0 := by decide
  rw [ad] at v1
  have n1 := rN R L (i := i) r1 (by omega)
  rw [r4] at n1
  have v0 := vN R L (i := G.nm a) (by omega) (j := 0) (by decide) (by decide)
  rw [show (0 : Int32).toNatClampNeg = 0 by decide] at v0
  unfold f_X8_isThere f_X8_isThere_L0 f_X8_isThere_L29 f_X8_isThere_L30
  rw [if_neg (i32_nlt (by omega)), gL_added R L, Option.bind_some, if_neg (i32_nle (by rw [ad]; omega)), gL_a1 R L, Option.bind_some, n1, Option.bind_some, v0, Option.bind_some]
  by_cases q : S.nV (G.nm a) 0 ≤ -2
  · rw [if_pos q, if_pos q, if_pos (Or.inl rfl)]
  · rw [if_neg q, if_neg q, if_pos (Or.inr rfl)]
def bS (S : lS) (r n : Nat) : lS := (((S.s_tg (qu S.tg r (4, 0))).s_bR r).s_bN n).s_bV (fun _ => 0)
theorem h_newB (H : lH X G S F (k + 2) h) : ∃ r h2 F2, fnew h (.inr (1, S.added.toNatClampNeg, .inl (fun _ => 0))) S.added.toNatClampNeg = some (r, h2) ∧ lH X G (bS S r S.added.toNatClampNeg) F2 k h2 := by
  obtain ⟨a1, a2⟩ := H.I.A.ad
  have ad := H.g.ad
  have nx := i32_nat (i := S.added) (by rw [ad]; omega)
  have rm := H.R.rm
  rw [ad] at nx
  refine ⟨fZ h, _, qu F (fZ h) (some (rb S.added.toNatClampNeg (fun _ => 0))), fnew_C (by omega) (by rw [ad]; omega), ?_⟩
  have fr := H.R.fresh.2.2.2.2
  exact ⟨H.R.newF2 (Or.inr (Or.inr (Or.inl rfl))) (by rw [ad]; omega), H.L.freshB fr _ _, H.I, H.g, H.sx, ⟨H.dr.1, by have := H.dr.2; show S.draws.toInt + k ≤ 900000; omega⟩, H.v⟩
def qPw (G : qS) (c : Nat) (b : Nat) : Bool := decide (c ∈ G.up b)
theorem h_rm23 (lc : G.Lv c) : ∀ (m n : Nat) (i : Int32) (S : lS) (F : Nat → Option fCe) (h : fSt), lH X G S F k h → S.bN = G.added.toNatClampNeg → m < n → 1 ≤ i.toInt → i.toInt + m = G.added.toInt → (∀ b, G.N b → 1 ≤ G.nm b → (G.nm b : Int) < i.toInt → S.bV (G.nm b) = if G.gone0 b && qPw G c b then 1 else 0) → ∃ bv F2 h2, f_X8_remove_L23 n (some S.lm) (G.nd c).number (nI (qCn G.nm (qPw G c) i.toInt.toNat G.od)) (some S.bR) i h = f_X8_remove_L84 4096 (some S.lm) (G.nd c).number (nI (G.od.countP (qPw G c))) (some S.bR) 1 h2 ∧ lH X G (S.s_bV bv) F2 k h2 ∧ ∀ b, G.N b → 1 ≤ G.nm b → bv (G.nm b) = if G.gone0 b && qPw G c b then 1 else 0
  | 0, n + 1, i, S, F, h, H, hB, hn, h0, e, hv => by
    refine ⟨S.bV, F, h, ?_, H, fun b hb h1 => hv b hb h1 (by have := (H.I.nm hb).2.1; omega)⟩
    rw [st_X8_remove_L23, gL_added H.R H.L, Option.bind_some, H.g.ad, if_pos (i32_le (by omega)), show i.toInt.toNat = G.added.toInt.toNat by omega, cn_end H.I]
  | m + 1, n + 1, i, S, F, h, H, hB, hn, h0, e, hv => by
    obtain ⟨a1, a2⟩ := H.I.A.ad
    have s1 := i32_s (i := i) (by omega) (by omega)
    obtain ⟨b, hb, eb⟩ := H.I.idx (i := i) (by omega) (by omega)
    obtain ⟨t1, t2⟩ := h_isThere H hb eb
    obtain ⟨r1, r2, r3, r4, r5⟩ := H.I.rg hb eb
    have nA := i32_nat (i := G.added) (by omega)
    have st := cn_step H.I (qPw G c) hb
    rw [show G.nm b = i.toInt.toNat by omega] at st
    rw [st_X8_remove_L23, gL_added H.R H.L, Option.bind_some, H.g.ad, if_neg (i32_nle (by omega)), oL H.R H.L, Option.bind_some]
    -- a row of goes written, and the next one
    have nxt : ∀ (v : Int32) (cnt : Int32), v = 0 ∨ v = 1 → v = (if G.gone0 b && qPw G c b then 1 else 0) → ∃ bv F2 h2, f_X8_remove_L59 (f_X8_remove_L23 n) (some S.lm) (G.nd c).number (nI (qCn G.nm (qPw G c) i.toInt.toNat G.od)) (some S.bR) i v i (some S.bR) h = f_X8_remove_L84 4096 (some S.lm) (G.nd c).number (nI (G.od.countP (qPw G c))) (some S.bR) 1 h2 ∧ lH X G (S.s_bV bv) F2 k h2 ∧ ∀ b, G.N b → 1 ≤ G.nm b → bv (G.nm b) = if G.gone0 b && qPw G c b then 1 else 0 := by
      intro v cnt hv01 hve
      obtain ⟨h2, w2, R2, L2⟩ := wB H.R H.L (j := i) (by omega) (by rw [hB]; omega) v
      have H2 := lH.of R2 L2 H.I H.g H.sx H.dr H.v
      have rd := vB R2 L2 (j := i) (by omega) (by show i.toInt < (S.bN : Nat); rw [hB]; omega)
      have rd2 : faI h2 (some S.bR) 1 i = some v := rd.trans (congrArg some (show upd S.bV i.toNatClampNeg v i.toNatClampNeg = v from if_pos rfl))
      obtain ⟨bv, F3, h3, f3, H3, v3⟩ := h_rm23 lc m n (i + 1) _ _ h2 H2 hB (by omega) (by omega) (by omega) (fun x hx x1 x2 => by
        show upd S.bV i.toNatClampNeg v (G.nm x) = _
        by_cases z : x = b
        · rw [z, r4, ← hve]; exact if_pos rfl
        · have ne : G.nm x ≠ G.nm b := fun w => z (nm_inj H.I hx hb w)
          rw [show upd S.bV i.toNatClampNeg v (G.nm x) = S.bV (G.nm x) from if_neg (by omega)]
          exact hv x hx x1 (by omega))
      refine ⟨bv, F3, h3, ?_, H3, v3⟩
      unfold f_X8_remove_L59 f_X8_remove_L73
      have nv : vp_nar .boolean v = v := by
        rcases hv01 with z | z
        · rw [z]; exact nar0
        · rw [z]; exact nar1
      rw [nv, w2, Option.bind_some, rd2, Option.bind_some]
      rw [show (i + 1).toInt.toNat = i.toInt.toNat + 1 by omega, st] at f3
      rcases hv01 with z | z
      · rw [if_pos z, Int32.add_zero]
        rw [z] at hve
        have zz : ¬ (G.gone0 b && qPw G c b) = true := fun w => by rw [if_pos w] at hve; exact absurd hve (by decide)
        rw [if_neg zz, Nat.add_zero] at f3
        exact f3
      · rw [if_neg (by rw [z]; decide)]
        rw [z] at hve
        have zz : (G.gone0 b && qPw G c b) = true := Classical.byContradiction fun w => by rw [if_neg w] at hve; exact absurd hve (by decide)
        rw [if_pos zz, nI_succ] at f3
        exact f3
    by_cases lb : G.Lv b
    · have g0 : G.gone0 b = true := decide_eq_true lb.2
      rw [t1 lb, Option.bind_some]
      dsimp only
      have e1 := h_in H lb lc
      rw [eb] at e1
      rw [if_neg (show ¬ (1 : Int32) = 0 by decide), oL H.R H.L, Option.bind_some, e1, Option.bind_some]
      dsimp only
      by_cases q : c ∈ G.up b
      · rw [if_pos q, if_neg (show ¬ (1 : Int32) = 0 by decide)]
        exact nxt 1 0 (Or.inr rfl) (by rw [g0, show qPw G c b = true from decide_eq_true q]; rfl)
      · rw [if_neg q, if_pos rfl]
        exact nxt 0 0 (Or.inl rfl) (by rw [g0, show qPw G c b = false from decide_eq_false q]; rfl)
    · rw [t2 lb, Option.bind_some]
      dsimp only
      rw [if_pos rfl]
      exact nxt 0 0 (Or.inl rfl) (by rw [show G.gone0 b = false from decide_eq_false (fun z => lb ⟨hb, z⟩)]; rfl)
theorem x_rm84 (I : qI G) (ad : S.added = G.added) (vv : (S.v1 : Int) = S.added.toInt) (hB : S.bN = G.added.toNatClampNeg) {cn cnt : Int32} : ∀ (m n : Nat) (i : Int32) (nv : Nat → Nat → Int32) (F : Nat → Option fCe) (h : fSt), qR G F X k h → lF (S.s_nV nv) F G.z → m < n → 1 ≤ i.toInt → i.toInt + m = G.added.toInt → (∀ b j, G.N b → nv (G.nm b) j = if j = 0 ∧ 1 ≤ G.nm b ∧ (G.nm b : Int) < i.toInt ∧ S.bV (G.nm b) ≠ 0 then -2 else S.nV (G.nm b) j) → ∃ nv2 F2 h2, f_X8_remove_L84 n (some S.lm) cn cnt (some S.bR) i h = f_X8_remove_L120 4096 (some S.lm) cn cnt 0 h2 ∧ qR G F2 X k h2 ∧ lF (S.s_nV nv2) F2 G.z ∧ ∀ b j, G.N b → nv2 (G.nm b) j = if j = 0 ∧ 1 ≤ G.nm b ∧ S.bV (G.nm b) ≠ 0 then -2 else S.nV (G.nm b) j
  | 0, n + 1, i, nv, F, h, R, L, hn, h0, e, hv => by
    refine ⟨nv, F, h, ?_, R, L, fun b j hb => ?_⟩
    · have g1 : fgI h (some S.lm) 8 3 = some S.added := by have g := gL_added R L; exact g
      rw [st_X8_remove_L84, g1, Option.bind_some, ad, if_pos (i32_le (by omega))]
    · rw [hv b j hb]
      have := (I.nm hb).2.1
      by_cases q : j = 0 ∧ 1 ≤ G.nm b ∧ S.bV (G.nm b) ≠ 0
      · rw [if_pos q, if_pos ⟨q.1, q.2.1, by omega, q.2.2⟩]
      · rw [if_neg q, if_neg (fun w => q ⟨w.1, w.2.1, w.2.2.2⟩)]
  | m + 1, n + 1, i, nv, F, h, R, L, hn, h0, e, hv => by
    obtain ⟨a1, a2⟩ := I.A.ad
    have s1 := i32_s (i := i) (by omega) (by omega)
    obtain ⟨b, hb, eb⟩ := I.idx (i := i) (by omega) (by omega)
    obtain ⟨r1, r2, r3, r4, r5⟩ := I.rg hb eb
    have nA := i32_nat (i := G.added) (by omega)
    have g1 : fgI h (some S.lm) 8 3 = some S.added := by have g := gL_added R L; exact g
    have g2 : faI h (some S.bR) 1 i = some (S.bV i.toNatClampNeg) := by have g := vB R L (j := i) (by omega) (by show i.toInt < (S.bN : Nat); rw [hB]; omega); exact g
    rw [st_X8_remove_L84, g1, Option.bind_some, ad, if_neg (i32_nle (by omega)), g2, Option.bind_some, r4]
    unfold f_X8_remove_L111
    by_cases q : S.bV (G.nm b) = 0
    · rw [if_pos q]
      refine x_rm84 I ad vv hB m n (i + 1) nv F h R L (by omega) (by omega) (by omega) (fun x j hx => ?_)
      rw [hv x j hx]
      by_cases z : x = b
      · rw [z, if_neg (fun w => w.2.2.2 q), if_neg (fun w => w.2.2.2 q)]
      · have ne : G.nm x ≠ G.nm b := fun w => z (nm_inj I hx hb w)
        by_cases w : j = 0 ∧ 1 ≤ G.nm x ∧ (G.nm x : Int) < i.toInt ∧ S.bV (G.nm x) ≠ 0
        · rw [if_pos w, if_pos ⟨w.1, w.2.1, by omega, w.2.2.2⟩]
        · rw [if_neg w, if_neg (fun v => w ⟨v.1, v.2.1, by omega, v.2.2.2⟩)]
    · rw [if_neg q]
      rw [ad] at vv
      have n1 : faR h (some S.a1) 4 i = some (some (S.nR i.toNatClampNeg)) := by have g := rN R L (i := i) r1 (by show i.toInt < (S.v1 : Nat); omega); exact g
      rw [r4] at n1
      obtain ⟨h2, w2, R2, L2⟩ := wN R L (i := G.nm b) (by show G.nm b < S.v1; omega) (j := 0) (by decide) (by decide) (-2)
      have g3 : fgR h (some S.lm) 8 4 = some (some S.a1) := by have g := gL_a1 R L; exact g
      have w2 : fsI h (some (S.nR (G.nm b))) 0 0 (-2) = some h2 := w2
      rw [g3, Option.bind_some, n1, Option.bind_some, w2, Option.bind_some]
      refine x_rm84 I ad (by rw [ad]; exact vv) hB m n (i + 1) _ _ h2 R2 L2 (by omega) (by omega) (by omega) (fun x j hx => ?_)
      show qu nv (G.nm b) (upd (nv (G.nm b)) (0 : Int32).toNatClampNeg (-2)) (G.nm x) j = _
      by_cases z : x = b
      · rw [z, qu_eq]
        by_cases j0 : j = 0
        · rw [if_pos ⟨j0, by omega, by omega, q⟩]
          exact if_pos (show j = (0 : Int32).toNatClampNeg from j0)
        · rw [if_neg (fun w => j0 w.1)]
          refine (if_neg (show ¬ j = (0 : Int32).toNatClampNeg from j0)).trans ?_
          rw [hv b j hb, if_neg (fun w => j0 w.1)]
      · have ne : G.nm x ≠ G.nm b := fun w => z (nm_inj I hx hb w)
        rw [qu_ne ne, hv x j hx]
        by_cases w : j = 0 ∧ 1 ≤ G.nm x ∧ (G.nm x : Int) < i.toInt ∧ S.bV (G.nm x) ≠ 0
        · rw [if_pos w, if_pos ⟨w.1, w.2.1, by omega, w.2.2.2⟩]
        · rw [if_neg w, if_neg (fun v => w ⟨v.1, v.2.1, by omega, v.2.2.2⟩)]
def kS (S : lS) (tg : Nat → Nat × Nat) (kR kN : Nat → Nat) (kV : Nat → Nat → Int32) : lS := (((S.s_tg tg).s_kR kR).s_kN kN).s_kV kV
theorem kS_st (S : lS) (tg tg1 tg2 : Nat → Nat × Nat) (kR kN kR2 kN2 : Nat → Nat) (kV kV2 : Nat → Nat → Int32) : ((((((kS S tg kR kN kV).s_tg tg1).s_tg tg2).s_kR kR2).s_kN kN2).s_kV kV2) = kS S tg2 kR2 kN2 kV2 := rfl
theorem kS_tg (S : lS) (tg : Nat → Nat × Nat) (kR kN : Nat → Nat) (kV : Nat → Nat → Int32) : (kS S tg kR kN kV).tg = tg := rfl
theorem kS_kR (S : lS) (tg : Nat → Nat × Nat) (kR kN : Nat → Nat) (kV : Nat → Nat → Int32) : (kS S tg kR kN kV).kR = kR := rfl
theorem kS_kN (S : lS) (tg : Nat → Nat × Nat) (kR kN : Nat → Nat) (kV : Nat → Nat → Int32) : (kS S tg kR kN kV).kN = kN := rfl
theorem kS_kV (S : lS) (tg : Nat → Nat × Nat) (kR kN : Nat → Nat) (kV : Nat → Nat → Int32) : (kS S tg kR kN kV).kV = kV := rfl
theorem x_rm120 (I : qI G) (ad : S.added = G.added) (tk : S.tracks = G.tracked) (vv : (S.v1 : Int) = S.added.toInt) (v6 : (S.v6 : Int) = S.tracks.toInt) (tt : ∀ t : Nat, (t : Int) < G.tracked.toInt → ∃ b, G.N b ∧ S.tV t 0 = (G.nd b).number) {cn cnt : Int32} : ∀ (m n : Nat) (i : Int32) (tg : Nat → Nat × Nat) (kR kN : Nat → Nat) (kV : Nat → Nat → Int32) (F : Nat → Option fCe) (h : fSt), qR G F X (k + m) h → lF (kS S tg kR kN kV) F G.z → m < n → 0 ≤ i.toInt → i.toInt + m = G.tracked.toInt → (∀ t : Nat, t < 12 → ((t : Int) < i.toInt ∧ (∃ b, G.N b ∧ S.tV t 0 = (G.nd b).number ∧ S.nV (G.nm b) 0 ≤ -2)) ∨ (kN t = S.kN t ∧ kV t = S.kV t)) → ∃ tg2 kR2 kN2 kV2 F2 h2, f_X8_remove_L120 n (some S.lm) cn cnt i h = f_X8_remove_L120 1 (some S.lm) cn cnt G.tracked h2 ∧ qR G F2 X k h2 ∧ lF (kS S tg2 kR2 kN2 kV2) F2 G.z ∧ ∀ t : Nat, t < 12 → ((t : Int) < G.tracked.toInt ∧ (∃ b, G.N b ∧ S.tV t 0 = (G.nd b).number ∧ S.nV (G.nm b) 0 ≤ -2)) ∨ (kN2 t = S.kN t ∧ kV2 t = S.kV t)
  | 0, n + 1, i, tg, kR, kN, kV, F, h, R, L, hn, h0, e, hv => by
    refine ⟨tg, kR, kN, kV, F, h, ?_, R, L, fun t ht => (hv t ht).imp (fun w => ⟨by omega, w.2⟩) id⟩
    have e2 : i = G.tracked := Int32.toInt_inj.mp (by omega)
    have g1 : fgI h (some S.lm) 8 10 = some S.tracks := by have g := gL_tracks R L; exact g
    rw [e2, st_X8_remove_L120, st_X8_remove_L120, g1, Option.bind_some, Option.bind_some, tk, if_pos (i32_le (Int.le_refl _)), if_pos (i32_le (Int.le_refl _))]
  | m + 1, n + 1, i, tg, kR, kN, kV, F, h, R, L, hn, h0, e, hv => by
    obtain ⟨k1, k2⟩ := I.T.tk
    have s1 := i32_s (i := i) (by omega) (by omega)
    have nx := i32_nat h0
    rw [tk] at v6
    obtain ⟨b, hb, eb⟩ := tt i.toNatClampNeg (by omega)
    have g1 : fgI h (some S.lm) 8 10 = some S.tracks := by have g := gL_tracks R L; exact g
    have g2 : fgR h (some S.lm) 8 11 = some (some S.a6) := by have g := gL_a6 R L; exact g
    have g3 : faR h (some S.a6) 4 i = some (some (S.tR i.toNatClampNeg)) := by have g := rT R L (i := i) h0 (by show i.toInt < (S.v6 : Nat); omega); exact g
    have g4 : faI h (some (S.tR i.toNatClampNeg)) 0 0 = some (S.tV i.toNatClampNeg 0) := by have g := vT R L (i := i.toNatClampNeg) (by show _ < S.v6; omega) (j := 0) (by decide) (by decide); exact g
    have g5 : fobj h (some S.lm) 8 = some S.lm := by have g := oL R L; exact g
    have g6 : f_X8_isThere S.lm (G.nd b).number h = some (if S.nV (G.nm b) 0 ≤ -2 then 0 else 1, h) := by have g := x_there R L I ad vv hb rfl; exact g
    rw [st_X8_remove_L120, g1, Option.bind_some, tk, if_neg (i32_nle (by omega)), g2, Option.bind_some, g3, Option.bind_some, g4, Option.bind_some, g5, Option.bind_some, eb, g6, Option.bind_some]
    unfold f_X8_remove_L155
    dsimp only
    by_cases q : S.nV (G.nm b) 0 ≤ -2
    · rw [if_pos q, if_pos rfl]
      have g7 : fgR h (some S.lm) 8 12 = some (some S.a7) := by have g := gL_a7 R L; exact g
      rw [g7, Option.bind_some, if_neg (by decide)]
      have Rn := (show qR G F X (k + m + 1) h from R).newF (c := ri 0 (fun _ => 0)) (Or.inr (Or.inl rfl)) (n := 0) (by decide)
      have fr := R.fresh.2.2.2.2
      have Ln := L.fresh fr (ri 0 (fun _ => 0)) 0
      have rm := R.rm
      have f1 : fnew h (.inr (0, (0 : Int32).toNatClampNeg, .inl (fun _ => 0))) (0 : Int32).toNatClampNeg = some (fZ h, fPush h (ri 0 (fun _ => 0)) 0) := fnew_C (by omega) (by show fL h + 0 ≤ _; omega)
      have q1 : ((kS S tg kR kN kV).s_tg (qu (kS S tg kR kN kV).tg (fZ h) (13, 0))).tg (fZ h) = (13, 0) := by
        show qu (kS S tg kR kN kV).tg (fZ h) (13, 0) (fZ h) = (13, 0)
        exact qu_eq
      have q2 : qu F (fZ h) (some (ri 0 (fun _ => 0))) (fZ h) = some (ri 0 (fun _ => 0)) := qu_eq
      obtain ⟨h2, c2, w2, R2, L2⟩ := stK Rn Ln q1 q2 h0 (by omega)
      rw [kS_st] at L2
      have w2 : fsA (fPush h (ri 0 (fun _ => 0)) 0) (some S.a7) 4 0 i (some (fZ h)) = some h2 := w2
      rw [f1, Option.bind_some]
      dsimp only
      rw [w2, Option.bind_some]
      refine x_rm120 I ad tk vv (by rw [tk]; exact v6) tt m n (i + 1) _ _ _ _ _ h2 R2 L2 (by omega) (by omega) (by omega) (fun t ht => ?_)
      by_cases z : t = i.toNatClampNeg
      · refine Or.inl ⟨by omega, b, hb, ?_, q⟩
        rw [z]; exact eb
      · rcases hv t ht with w | w
        · exact Or.inl ⟨by omega, w.2⟩
        · refine Or.inr ⟨?_, ?_⟩
          · rw [qu_ne z]; exact w.1
          · rw [qu_ne z]; exact w.2
    · rw [if_neg q, if_neg (show ¬ (1 : Int32) = 0 by decide)]
      exact x_rm120 I ad tk vv (by rw [tk]; exact v6) tt m n (i + 1) tg kR kN kV F h (R.le (by omega)) L (by omega) (by omega) (by omega) (fun t ht => (hv t ht).imp (fun w => ⟨by omega, w.2⟩) id)
theorem h_remove (H : lH X G S F (k + 16) h) : ∃ h2, f_X8_remove S.lm h = some (1, h2) ∧ lNx X S.lm G.z k h2 := by
  obtain ⟨c, h1, e1, lc, H1⟩ := h_one (k := k + 15) H
  unfold f_X8_remove f_X8_remove_L0
  rw [oL H.R H.L, Option.bind_some, e1, Option.bind_some]
  dsimp only
  by_cases z : (G.nd c).number = 0
  · rw [if_pos z]
    exact ⟨h1, rfl, G, _, _, H1.le (by omega), rfl, rfl⟩
  rw [if_neg z]
  have hw : c ≠ G.wh := fun w => z ((H.I.n0 lc.1).mpr w)
  obtain ⟨a1, a2⟩ := H.I.A.ad
  have ad := H.g.ad
  have nA := i32_nat (i := G.added) (by omega)
  have gad : fgI h1 (some S.lm) 8 3 = some S.added := by have g := gL_added H1.R H1.L; exact g
  obtain ⟨r, h2, F2, f2, H2⟩ := h_newB (k := k + 13) H1
  have f2 : fnew h1 (.inr (1, S.added.toNatClampNeg, .inl (fun _ => 0))) S.added.toNatClampNeg = some (r, h2) := f2
  rw [gad, Option.bind_some, if_neg (by
    rintro (w | w)
    · exact i32_nlt (a := S.added) (b := 0) (by rw [ad]; have e0 : (0 : Int32).toInt = 0 := by decide
                                                omega) w
    · rw [ad] at w; omega), f2, Option.bind_some]
  dsimp only
  have e1' : (1 : Int32).toInt = 1 := by decide
  have w0 : G.nm G.wh = 0 := by
    unfold qS.nm
    rw [H.I.wh0]
    decide
  have st := cn_step H.I (qPw G c) H.I.B.wl.1
  have wp : qPw G c G.wh = false := decide_eq_false (by rw [H.I.up_wh, List.mem_singleton]; exact hw)
  rw [w0, qCn_0, wp, Bool.and_false, if_neg (by decide)] at st
  have hB : (bS (dS S) r (dS S).added.toNatClampNeg).bN = G.added.toNatClampNeg := by
    show S.added.toNatClampNeg = _
    rw [ad]
  obtain ⟨bv, F3, h3, f3, H3, v3⟩ := h_rm23 (k := k + 13) lc (G.added.toInt - 1).toNat 4096 1 _ _ h2 H2 hB (by omega) (by omega) (by omega) (fun b hb x1 x2 => by omega)
  rw [show (1 : Int32).toInt.toNat = 0 + 1 by decide, st] at f3
  have f3 : f_X8_remove_L23 4096 (some S.lm) (G.nd c).number (0 : Int32) (some r) (1 : Int32) h2 = f_X8_remove_L84 4096 (some S.lm) (G.nd c).number (nI (G.od.countP (qPw G c))) (some r) 1 h3 := f3
  rw [f3]
  obtain ⟨S3, eS3⟩ : ∃ S3, S3 = (bS (dS S) r (dS S).added.toNatClampNeg).s_bV bv := ⟨_, rfl⟩
  rw [← eS3] at H3
  have lm3 : S3.lm = S.lm := by rw [eS3]; rfl
  have bR3 : S3.bR = r := by rw [eS3]; rfl
  have bV3 : S3.bV = bv := by rw [eS3]; rfl
  have hB3 : S3.bN = G.added.toNatClampNeg := by rw [eS3]; exact hB
  clear eS3 f2 f3 H2 hB
  have L3 : lF (S3.s_nV S3.nV) F3 G.z := H3.L
  obtain ⟨nv, F4, h4, f4, R4, L4, v4⟩ := x_rm84 (k := k + 13) (S := S3) H.I H3.g.ad H3.v.1 hB3 (cn := (G.nd c).number) (cnt := nI (G.od.countP (qPw G c))) (G.added.toInt - 1).toNat 4096 1 S3.nV F3 h3 H3.R L3 (by omega) (by omega) (by omega) (fun b j hb => by
    rw [if_neg (fun w => by omega)])
  rw [lm3, bR3] at f4
  rw [f4]
  obtain ⟨k1, k2⟩ := H.I.T.tk
  obtain ⟨tg5, kR5, kN5, kV5, F5, h5, f5, R5, L5, v5⟩ := x_rm120 (k := k) (S := S3.s_nV nv) H.I H3.g.ad H3.g.tk H3.v.1 H3.v.2.2 (fun t ht => by
    obtain ⟨b, j, hb, -, -, -, e, -⟩ := H3.g.tt t ht
    exact ⟨b, hb, e⟩) (cn := (G.nd c).number) (cnt := nI (G.od.countP (qPw G c))) G.tracked.toInt.toNat 4096 0 S3.tg S3.kR S3.kN S3.kV F4 h4 (R4.le (by omega)) L4 (by omega) (by decide) (by have e0 : (0 : Int32).toInt = 0 := by decide
                                                                                                                                                                                              omega) (fun t ht => Or.inr ⟨rfl, rfl⟩)
  rw [show (S3.s_nV nv).lm = S.lm from lm3] at f5
  rw [f5]
  obtain ⟨G2, h6, f6, R6, Q⟩ := m_remove R5 H.I (H.I.is lc) hw
  obtain ⟨s1, s2, s3, s4, s5, s6, s7, s8, s9, s10⟩ := Q.st
  have L6 : lF (kS (S3.s_nV nv) tg5 kR5 kN5 kV5) F5 G2.z := by rw [s10]; exact L5
  have g1 : fgI h5 (some S.lm) 8 10 = some S3.tracks := by
    have := gL_tracks R5 L5
    rw [show (kS (S3.s_nV nv) tg5 kR5 kN5 kV5).lm = S.lm from lm3] at this
    exact this
  have g2 : fgR h5 (some S.lm) 8 0 = some (some G.z) := by
    have := gL_sc_ R5 L5
    rw [show (kS (S3.s_nV nv) tg5 kR5 kN5 kV5).lm = S.lm from lm3] at this
    exact this
  have ec : qCtW G c G.od = G.od.countP (qPw G c) := by
    unfold qCtW
    refine List.countP_congr (fun b _ => ?_)
    show qIn (some c) (G.up b) = true ↔ decide (c ∈ G.up b) = true
    rw [qIn_mem, decide_eq_true_iff]
  refine ⟨h6, ?_, G2, _, F5, lH.of R6 L6 Q.I ?_ H3.sx ⟨H3.dr.1, ?_⟩ H3.v, lm3, s10⟩
  · rw [st_X8_remove_L120, g1, Option.bind_some, H3.g.tk, if_pos (i32_le (Int.le_refl _)), g2, Option.bind_some, oS R5, Option.bind_some, f6, Option.bind_some]
    dsimp only [Sum.elim_inl]
    unfold f_X8_remove_L178
    rw [ec, if_pos rfl, if_pos (Or.inr rfl)]
  · have nm : ∀ b, G2.nm b = G.nm b := fun b => by unfold qS.nm; rw [(Q.nd b).1]
    have keep : ∀ b j, G.N b → ¬ (G.Lv b ∧ c ∈ G.up b) → nv (G.nm b) j = S3.nV (G.nm b) j := by
      intro b j hb nb
      rw [v4 b j hb]
      refine if_neg (fun w => w.2.2 ?_)
      rw [bV3, v3 b hb w.2.1, if_neg]
      intro y
      have y := Bool.and_eq_true_iff.mp y
      exact nb ⟨⟨hb, of_decide_eq_true y.1⟩, of_decide_eq_true y.2⟩
    refine ⟨by rw [s4]; exact H3.g.ad, by rw [s5]; exact H3.g.tk, by rw [s9]; exact H3.g.tm, fun b lb => ?_, fun b hb gb => ?_, fun t ht => ?_, fun t h1 h2 => ?_, fun i hi => ?_, fun t u h1 h2 e => H3.g.td t u (by rw [← s5]; exact h1) (by rw [← s5]; exact h2) (by rw [← s6]; exact e)⟩
    · obtain ⟨lb1, lb2⟩ := (Q.lv b).mp lb
      obtain ⟨n1, n2, n3, n4, n5, n6⟩ := Q.nd b
      show lNd G2 _ b
      have q : lNd G S3 b := H3.g.lv b lb1
      refine q.cg n1 (qPn_cg n2 (fun x => (Q.nd x).1)) n3 n4 n5 n6 (fun j hj => by rw [s7]; exact (Q.pp b j lb1.1 hj).1) ?_ rfl rfl
      funext j
      exact keep b j lb1.1 (fun w => lb2 w.2)
    · rw [s1] at hb
      rw [nm]
      show nv (G.nm b) 0 = -2
      by_cases q : G.Lv b ∧ c ∈ G.up b
      · have b1 : 1 ≤ G.nm b := by
          have : G.nm b ≠ 0 := fun w => by
            have wb : b = G.wh := nm_inj H.I hb H.I.B.wl.1 (by rw [w, w0])
            have := q.2
            rw [wb, H.I.up_wh, List.mem_singleton] at this
            exact hw this
          omega
        rw [v4 b 0 hb]
        refine if_pos ⟨rfl, b1, ?_⟩
        rw [bV3, v3 b hb b1, show G.gone0 b = true from decide_eq_true q.1.2, show qPw G c b = true from decide_eq_true q.2]
        decide
      · rw [keep b 0 hb q]
        refine H3.g.go b hb (fun w => gb ?_)
        exact ((Q.lv b).mpr ⟨⟨hb, w⟩, fun v => q ⟨⟨hb, w⟩, v⟩⟩).2
    · rw [s5] at ht
      obtain ⟨b, j, hb, hj, e1, e2, e3, e4, e5⟩ := H3.g.tt t ht
      refine ⟨b, j, by rw [s1]; exact hb, hj, by rw [s6, s7]; exact e1, by rw [s7, (Q.pp b j hb hj).2]; exact e2, by rw [(Q.nd b).1]; exact e3, e4, fun lb => ?_⟩
      obtain ⟨lb1, lb2⟩ := (Q.lv b).mp lb
      have q := e5 lb1
      have kk : kN5 t = S3.kN t ∧ kV5 t = S3.kV t := by
        refine (v5 t (by omega)).resolve_left ?_
        rintro ⟨-, d, hd, ed, nd⟩
        have ed : S3.tV t 0 = (G.nd d).number := ed
        rw [e3] at ed
        have db := H.I.inj hb hd ed
        subst db
        have nd : nv (G.nm b) 0 ≤ -2 := nd
        rw [keep b 0 hb (fun w => lb2 w.2), (H3.g.lv b lb1).1] at nd
        rcases H.I.pn lb1 with ⟨-, w⟩ | ⟨-, p, -, lp, w, -⟩
        · rw [w] at nd; exact absurd nd (by decide)
        · rw [w] at nd
          have n3 := (H.I.nm lp.1).1
          have em : (-2 : Int32).toInt = -2 := by decide
          exact i32_nle (by omega) nd
      unfold lKr at q ⊢
      rw [s7, Q.tm b j lb hj]
      exact ⟨kk.1.trans q.1, fun i x hx => (congrFun kk.2 _).trans (q.2 i x hx)⟩
    · rw [s5] at h2
      refine Eq.trans ?_ (H3.g.kf t h1 h2)
      rcases v5 t h1 with w | w
      · omega
      · exact w.1
    · rw [s4] at hi
      exact H3.g.cf i hi
  · show S3.draws.toInt + k ≤ 900000
    have := H3.dr.2
    omega
end LREM
