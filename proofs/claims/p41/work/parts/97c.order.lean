/-! The law, of the order, and of one change. -/
section LAWO
variable {G : qS} {F : Nat → Option fCe} {X : Nat × Nat × (Nat → Int32)} {k : Nat} {h : fSt} {a : Nat} {S : lS}
variable {k2 : Option Nat → Int32 → fSt → Option (Int32 × fSt)} {k69 : Option Nat → Int32 → Option Nat → Option Nat → Int32 → fSt → Option (Int32 × fSt)}
variable {a0 : Option Nat} {a1 : Int32} {a4 : Int32}
theorem lH.dn {j : Nat} (H : lH X G S F k h) (e : j ≤ k) : lH X G S F j h := ⟨H.R.le e, H.L, H.I, H.g, H.sx, ⟨H.dr.1, by have := H.dr.2; omega⟩, H.v⟩
theorem qI.adl (I : qI G) : G.added.toInt.toNat ≤ 30 := by
  have := I.A.ad
  omega
/-- the three draws, and the nodes -/
theorem law_163e (H : lH X G S F (k + 40) h) {n : Nat} {i : Int32} {a8 : Option Nat} (hi : G.ord ≤ i) (hk : lKk X k S.lm G.z (k69 a0 a1 (some S.lm) (some G.z) (a4 + 1))) : ∃ h3, f_L_law_L163 k2 k69 (n + 1) a0 a1 (some S.lm) (some G.z) a4 (qDig G) G.ord a8 i h = some (1, h3) := by
  have e1 : (1 : Int32).toInt = 1 := by decide
  have e3 : (3 : Int32).toInt = 3 := by decide
  have e10 : (10 : Int32).toInt = 10 := by decide
  have e40 : (40 : Int32).toInt = 40 := by decide
  obtain ⟨r, h2, f2, r1, H2⟩ := h_draw (n := 3) H (by decide)
  have s1 : (1 + r).toInt = 1 + r.toInt := by rw [i32_add (by omega) (by omega), e1]
  have s40 : (40 * (1 + r)).toInt = 40 * (1 + r.toInt) := by rw [i32_mul (by rw [e40, s1]; omega) (by rw [e40, s1]; omega), e40, s1]
  obtain ⟨p, h3, f3, p1, H3⟩ := h_draw (n := 40 * (1 + r)) H2 (by omega)
  obtain ⟨q, h4, f4, q1, H4⟩ := h_draw (n := 40 * (1 + r)) H3 (by omega)
  have f3 : f_X8_draw S.lm (40 * (1 + r)) h2 = some (p, h3) := f3
  have f4 : f_X8_draw S.lm (40 * (1 + r)) h3 = some (q, h4) := f4
  have o2 : fobj h2 (some S.lm) 8 = some S.lm := by have g := oL H2.R H2.L; exact g
  have o3 : fobj h3 (some S.lm) 8 = some S.lm := by have g := oL H3.R H3.L; exact g
  have sp : (p - 10).toInt = p.toInt - 10 := by rw [i32_sub (by omega) (by omega), e10]
  have sq : (q - 10).toInt = q.toInt - 10 := by rw [i32_sub (by omega) (by omega), e10]
  have uo : uOk (p - 10) (q - 10) (1 + r) := ⟨by omega, by omega, by omega⟩
  have I := H.I
  have al := I.adl
  have aa := I.A.ad
  have C0 : lC G (p - 10) (q - 10) (1 + r) (0 : Int32).toInt.toNat 0 (-1) 10000 := by
    refine ⟨?_, Or.inl ⟨rfl, fun b _ hb => ?_⟩, (thr_z I G.od 10000 (fun b hb => I.odL.mp hb) (by decide)).1⟩
    · rw [show (0 : Int32).toInt.toNat = 0 by decide, qCn_0]
      rfl
    · rw [show (0 : Int32).toInt.toNat = 0 by decide] at hb
      exact absurd hb (Nat.not_lt_zero _)
  have e0 : (0 : Int32).toInt = 0 := by decide
  rw [st_L_law_L163, if_pos hi, oL H.R H.L, Option.bind_some, f2, Option.bind_some]
  dsimp only
  rw [o2, Option.bind_some, f3, Option.bind_some]
  dsimp only
  rw [o3, Option.bind_some, f4, Option.bind_some]
  dsimp only
  have g := law_310 (k := k) (k2 := k2) (k69 := k69) (a0 := a0) (a1 := a1) (a4 := a4) uo I G.added.toInt.toNat 4096 0 0 (-1) 10000 _ _ h4 (H4.dn (j := k + G.added.toInt.toNat + 1) (by omega)) (by omega) (by omega) (by omega) C0 hk
  exact g
theorem law_163 (I : qI G) : ∀ (m n : Nat) (i : Int32) (S : lS) (F : Nat → Option fCe) (h : fSt), lH X G S F (k + 40) h → S.bN = G.added.toNatClampNeg → m < n → 0 ≤ i.toInt → i.toInt + m = (qVs G).length → (∀ (j b : Nat), (qVs G)[j]? = some b → i.toInt ≤ j → S.bV (G.nm b) = 0) → lKk X k S.lm G.z (k69 a0 a1 (some S.lm) (some G.z) (a4 + 1)) → ∃ h3, f_L_law_L163 k2 k69 n a0 a1 (some S.lm) (some G.z) a4 (qDig G) G.ord (some S.bR) i h = some (1, h3)
  | 0, n + 1, i, S, F, h, H, hB, hn, h0, e, hv, hk => by
    have vl := I.vlen
    refine law_163e H ?_ hk
    refine i32_le ?_
    rw [I.C.or_, nI30 (by omega)]
    omega
  | m + 1, n + 1, i, S, F, h, H, hB, hn, h0, e, hv, hk => by
    have vl := I.vlen
    have aa := I.A.ad
    have s1 := i32_s (i := i) (by omega) (by omega)
    obtain ⟨b, lb, eb, pb, ub⟩ := I.at (i := i.toInt.toNat) (by omega)
    have pi : (G.nd b).place = i := by
      rw [pb]
      apply Int32.toInt_inj.mp
      rw [nI30 (by omega)]
      omega
    have oe := q_orderAt H.R I.V (I.odL.mpr lb) ub
    rw [pi] at oe
    obtain ⟨r1, r2, r3, r4, r5⟩ := I.rg lb.1 rfl
    have nA := i32_nat (i := G.added) (by omega)
    have q : qIs G (G.nd b).number b := I.is' ⟨lb, rfl⟩
    have rd := vB H.R H.L (j := (G.nd b).number) r1 (by rw [hB]; omega)
    rw [r4, hv i.toInt.toNat b eb (by omega)] at rd
    have hor : ¬ G.ord ≤ i := by
      refine i32_nle ?_
      rw [I.C.or_, nI30 (by omega)]
      omega
    rw [st_L_law_L163, if_neg hor, oS H.R, Option.bind_some, oe, Option.bind_some]
    dsimp only [Sum.elim_inl]
    rw [rd, Option.bind_some, if_pos rfl, oS H.R, Option.bind_some, q_placeOf H.R q, Option.bind_some]
    dsimp only [Sum.elim_inl]
    rw [if_pos pi]
    obtain ⟨h2, w2, R2, L2⟩ := wB H.R H.L (j := (G.nd b).number) r1 (by rw [hB]; omega) 1
    have H2 := lH.of R2 L2 H.I H.g H.sx H.dr H.v
    have nx : ∃ h3, f_L_law_L163 k2 k69 n a0 a1 (some S.lm) (some G.z) a4 (qDig G) G.ord (some S.bR) (i + 1) h2 = some (1, h3) := by
      have g := fun iv => law_163 I m n (i + 1) _ _ h2 H2 hB (by omega) (by omega) (by omega) iv hk
      refine g (fun j c hc hj => ?_)
      show upd S.bV (G.nd b).number.toNatClampNeg 1 (G.nm c) = 0
      have lc : G.Lv c := (I.odm.2 c).mp (List.mem_of_getElem? hc)
      have jl : j < (qVs G).length := by
        obtain ⟨w, -⟩ := List.getElem?_eq_some_iff.mp hc
        exact w
      have pc : (G.nd c).place = nI j := I.C.pl j c hc
      have ne : G.nm c ≠ G.nm b := by
        intro w
        have := nm_inj I lc.1 lb.1 w
        rw [this, pb] at pc
        have := nI_inj (by omega) (by omega) pc
        omega
      rw [r4, show upd S.bV (G.nm b) 1 (G.nm c) = S.bV (G.nm c) from if_neg ne]
      exact hv j c hc (by omega)
    rw [nar1, w2, Option.bind_some]
    have e0 : (0 : Int32).toInt = 0 := by decide
    have e6 : (6 : Int32).toNatClampNeg = 6 := by decide
    rcases I.pn lb with ⟨rfl, -⟩ | ⟨hw, p, ep, lp, en, -⟩
    · rw [if_pos (by rw [I.wh0]; decide)]
      exact nx
    · have qp : qIs G (G.nd p).number p := I.is' ⟨lp, rfl⟩
      have nz : (G.nd b).number ≠ 0 := fun w => hw ((I.n0 lb.1).mp w)
      have nz : ¬ (G.nd b).number ≤ 0 := fun w => by
        have w := Int32.le_iff_toInt_le.mp w
        exact nz (Int32.toInt_inj.mp (by omega))
      have rel := I.rel lb ep
      obtain ⟨n1, n2⟩ := h_node H2 lb.1 rfl
      have n1 : faR h2 (some S.a1) 4 (G.nd b).number = some (some (S.nR (G.nm b))) := n1
      have v6 : faI h2 (some (S.nR (G.nm b))) 0 6 = some (S.nV (G.nm b) 6) := by
        have := vN H2.R H2.L n2 (j := 6) (by decide) (by decide)
        rw [e6] at this
        exact this
      rw [(H.g.lv b lb).2.2.2.1] at v6
      have ga : fgR h2 (some S.lm) 8 4 = some (some S.a1) := by have g := gL_a1 H2.R H2.L; exact g
      rw [if_neg nz, oS R2, Option.bind_some, q_parent R2 I.V q, Option.bind_some]
      dsimp only [Sum.elim_inl]
      rw [oS R2, Option.bind_some, en, q_placeOf R2 qp, Option.bind_some]
      dsimp only [Sum.elim_inl]
      have go : ∀ s : Int32, (s = if 0 ≤ (G.nd b).layer then 0 else 1) → ∃ h3, f_L_law_L230 k2 k69 (f_L_law_L163 k2 k69 n) a0 a1 (some S.lm) (some G.z) a4 (qDig G) G.ord (some S.bR) i (G.nd b).number s h2 = some (1, h3) := by
        intro s es
        unfold f_L_law_L230
        rw [ga, Option.bind_some, n1, Option.bind_some, v6, Option.bind_some]
        unfold f_L_law_L248 f_L_law_L253
        by_cases w : 0 ≤ (G.nd b).layer
        · rw [if_pos w] at es
          rw [if_pos w, if_pos es]
          exact nx
        · rw [if_neg w] at es
          rw [if_neg w, if_pos es]
          exact nx
      have pbi : (G.nd b).place.toInt = i.toInt := congrArg Int32.toInt pi
      by_cases w : (G.nd p).place ≤ i
      · rw [if_pos w]
        refine go 0 ?_
        have w := Int32.le_iff_toInt_le.mp w
        by_cases z : (G.nd b).layer.toInt < 0
        · rw [if_pos z] at rel
          omega
        · rw [if_pos (Int32.le_iff_toInt_le.mpr (by omega))]
      · rw [if_neg w]
        refine go 1 ?_
        have w : ¬ (G.nd p).place.toInt ≤ i.toInt := fun z => w (Int32.le_iff_toInt_le.mpr z)
        by_cases z : (G.nd b).layer.toInt < 0
        · rw [if_neg (i32_nle (by omega))]
        · rw [if_neg z] at rel
          omega
theorem law_140 (H : lH X G S F (k + 42) h) (hk : lKk X k S.lm G.z (k69 a0 a1 (some S.lm) (some G.z) (a4 + 1))) : ∃ h3, f_L_law_L140 k2 k69 a0 a1 (some S.lm) (some G.z) a4 h = some (1, h3) := by
  have I := H.I
  have vl := I.vlen
  have aa := I.A.ad
  have e0 : (0 : Int32).toInt = 0 := by decide
  obtain ⟨h2, e2, R2⟩ := q_digest H.R I.V I.fd
  have H2 : lH X G S F ((k + 40) + 2) h2 := H.hh R2
  obtain ⟨r, h3, F3, e3, H3⟩ := h_newB H2
  have nA := i32_nat (i := S.added) (by rw [H.g.ad]; omega)
  have ad := H.g.ad
  rw [ad] at nA
  have go := law_163 (k2 := k2) (k69 := k69) (a0 := a0) (a1 := a1) (a4 := a4) I (qVs G).length 4096 0 _ _ h3 H3 (show S.added.toNatClampNeg = G.added.toNatClampNeg by rw [ad]) (by omega) (by decide) (by rw [e0]; omega) (fun _ _ _ _ => rfl) hk
  have go : ∃ h4, f_L_law_L163 k2 k69 4096 a0 a1 (some S.lm) (some G.z) a4 (qDig G) G.ord (some r) 0 h3 = some (1, h4) := go
  unfold f_L_law_L140
  rw [oS H.R, Option.bind_some, e2, Option.bind_some]
  dsimp only
  rw [oS R2, Option.bind_some, q_nodes R2, Option.bind_some]
  dsimp only
  rw [gL_added R2 H.L, Option.bind_some, if_neg, e3, Option.bind_some]
  · exact go
  · rintro (z | z)
    · have z := Int32.lt_iff_toInt_lt.mp z
      rw [ad] at z
      omega
    · rw [ad] at z
      omega
/-! the changes of time -/
theorem lH.tm {r : Int32} (H : lH X G S F k h) (r1 : 0 ≤ r.toInt ∧ r.toInt < 60) : ∃ h1 h2, fput h (some S.lm) 8 13 (.int r) = some h1 ∧ fgI h1 (some S.lm) 8 13 = some r ∧ fobj h1 (some G.z) 7 = some G.z ∧ f_X7_setTime G.z r h1 = some (.inl G.time, h2) ∧ ∃ F2, lH X (G.s_time r) (S.s_time r) F2 k h2 := by
  obtain ⟨h1, e1, R1, L1⟩ := wL_time H.R H.L r
  obtain ⟨h2, e2, R2⟩ := q_setTime (t := r) R1 (by omega)
  have g := H.g
  exact ⟨h1, h2, e1, gL_time R1 L1, oS R1, e2, _, R2, L1, H.I.time r, ⟨g.ad, g.tk, ⟨rfl, r1⟩, g.lv, g.go, g.tt, g.kf, g.cf, g.td⟩, H.sx, H.dr, H.v⟩
theorem law_69 {K lm z : Nat} (hk2 : lKk X K lm z (k2 a0 (a1 + 1))) : ∀ (m n : Nat) (i : Int32) (h : fSt), m < n → 0 ≤ i.toInt → i.toInt + m = 6 → lNx X lm z (K + 70 * m) h → ∃ h3, f_L_law_L69 k2 n a0 a1 (some lm) (some z) i h = some (1, h3)
  | 0, n + 1, i, h, hn, h0, e, N => by
    have e6 : (6 : Int32).toInt = 6 := by decide
    have st : f_L_law_L69 k2 (n + 1) a0 a1 (some lm) (some z) i h = k2 a0 (a1 + 1) h := by
      rw [st_L_law_L69, if_pos (i32_le (by omega))]
    rw [st]
    exact hk2 h N
  | m + 1, n + 1, i, h, hn, h0, e, N => by
    have e6 : (6 : Int32).toInt = 6 := by decide
    have e60 : (60 : Int32).toInt = 60 := by decide
    have s1 := i32_s (i := i) (by omega) (by omega)
    obtain ⟨G, S, F, H, rfl, rfl⟩ := N
    -- the rest, after the change
    have fin : ∀ h, lNx X S.lm G.z (K + 70 * m + 42) h → ∃ h3, f_L_law_L140 k2 (f_L_law_L69 k2 n) a0 a1 (some S.lm) (some G.z) i h = some (1, h3) := by
      rintro h ⟨G2, S2, F2, H2, eS, eG⟩
      have hk : lKk X (K + 70 * m) S2.lm G2.z (f_L_law_L69 k2 n a0 a1 (some S2.lm) (some G2.z) (i + 1)) := by
        rw [eS, eG]
        exact fun h N => law_69 hk2 m n (i + 1) h (by omega) (by omega) (by omega) N
      have := law_140 (k2 := k2) (k69 := f_L_law_L69 k2 n) (a0 := a0) (a1 := a1) (a4 := i) H2 hk
      rw [eS, eG] at this
      exact this
    have H : lH X G S F ((K + 70 * m + 69) + 1) h := H
    obtain ⟨r, h1, f1, r1, H1⟩ := h_draw (n := 60) H (by decide)
    obtain ⟨h2, h3, f2, f3, o3, f4, F4, H4⟩ := H1.tm (r := r) (by omega)
    have H4 : lH X (G.s_time r) ((dS S).s_time r) F4 ((K + 70 * m + 68) + 1) h3 := H4
    obtain ⟨p, h5, f5, p1, H5⟩ := h_draw (n := 5) H4 (by decide)
    have f5 : f_X8_draw S.lm 5 h3 = some (p, h5) := f5
    have H5 : lH X (G.s_time r) (dS ((dS S).s_time r)) _ ((K + 70 * m + 67) + 1) h5 := H5
    obtain ⟨q, h6, f6, q1, H6⟩ := h_draw (n := 3) H5 (by decide)
    have f6 : f_X8_draw S.lm 3 h5 = some (q, h6) := f6
    have f2 : fput h1 (some S.lm) 8 13 (.int r) = some h2 := f2
    have f3 : fgI h2 (some S.lm) 8 13 = some r := f3
    have o4 : fobj h3 (some S.lm) 8 = some S.lm := by have g := oL H4.R H4.L; exact g
    have o5 : fobj h5 (some S.lm) 8 = some S.lm := by have g := oL H5.R H5.L; exact g
    have o6 : fobj h6 (some S.lm) 8 = some S.lm := by have g := oL H6.R H6.L; exact g
    rw [st_L_law_L69, if_neg (i32_nle (by omega)), oL H.R H.L, Option.bind_some, f1, Option.bind_some]
    dsimp only
    rw [f2, Option.bind_some, f3, Option.bind_some, o3, Option.bind_some, f4, Option.bind_some]
    dsimp only [Sum.elim_inl]
    rw [o4, Option.bind_some, f5, Option.bind_some]
    dsimp only
    by_cases z : p = 0
    · obtain ⟨h7, f7, N7⟩ := h_remove (k := K + 70 * m + 42) (H5.dn (by omega))
      have f7 : f_X8_remove S.lm h5 = some (1, h7) := f7
      rw [if_pos z, o5, Option.bind_some, f7, Option.bind_some]
      dsimp only
      rw [if_neg n10]
      exact fin h7 N7
    · rw [if_neg z, o5, Option.bind_some, f6, Option.bind_some]
      dsimp only
      by_cases w : q = 0
      · obtain ⟨h7, f7, N7⟩ := h_add (k := K + 70 * m + 42) (H6.dn (by omega))
        have f7 : f_X8_add S.lm h6 = some (1, h7) := f7
        rw [if_pos w, o6, Option.bind_some, f7, Option.bind_some]
        dsimp only
        rw [if_neg n10]
        exact fin h7 N7
      · obtain ⟨h7, f7, N7⟩ := h_change (k := K + 70 * m + 42) (H6.dn (by omega))
        have f7 : f_X8_change S.lm h6 = some (1, h7) := f7
        rw [if_neg w, o6, Option.bind_some, f7, Option.bind_some]
        dsimp only
        rw [if_neg n10]
        exact fin h7 N7
theorem lNx.le {lm z j : Nat} (N : lNx X lm z k h) (e : j ≤ k) : lNx X lm z j h := by
  obtain ⟨G, S, F, H, e1, e2⟩ := N
  exact ⟨G, S, F, H.dn e, e1, e2⟩
theorem law_31 {K lm z : Nat} (hk2 : lKk X K lm z (k2 a0 (a1 + 1))) : ∀ (m n : Nat) (i : Int32) (h : fSt), m < n → 0 ≤ i.toInt → i.toInt + m = 5 → lNx X lm z (K + 420 + 60 * m) h → ∃ h3, f_L_law_L31 k2 n a0 a1 (some lm) (some z) i h = some (1, h3)
  | 0, n + 1, i, h, hn, h0, e, N => by
    have e5 : (5 : Int32).toInt = 5 := by decide
    have st : f_L_law_L31 k2 (n + 1) a0 a1 (some lm) (some z) i h = f_L_law_L69 k2 4096 a0 a1 (some lm) (some z) 0 h := by
      rw [st_L_law_L31, if_pos (i32_le (by omega))]
    rw [st]
    exact law_69 hk2 6 4096 0 h (by decide) (by decide) (by decide) (N.le (by omega))
  | m + 1, n + 1, i, h, hn, h0, e, N => by
    have e5 : (5 : Int32).toInt = 5 := by decide
    have s1 := i32_s (i := i) (by omega) (by omega)
    obtain ⟨G, S, F, H, rfl, rfl⟩ := N
    obtain ⟨h2, f2, G2, S2, F2, H2, eS2, eG2⟩ := h_add (k := K + 420 + 60 * m + 47) (H.dn (by omega))
    obtain ⟨h3, f3, G3, S3, F3, H3, eS3, eG3⟩ := h_addTrack (k := K + 420 + 60 * m + 27) (H2.dn (by omega))
    obtain ⟨h4, f4, N4⟩ := h_change (k := K + 420 + 60 * m + 11) (H3.dn (by omega))
    have o2 := oL H2.R H2.L
    have o3 := oL H3.R H3.L
    rw [eS2] at f3 o2
    rw [eS3, eS2] at f4 o3
    rw [eS3, eS2, eG3, eG2] at N4
    obtain ⟨h5, f5⟩ := law_31 hk2 m n (i + 1) h4 (by omega) (by omega) (by omega) (N4.le (by omega))
    refine ⟨h5, ?_⟩
    rw [st_L_law_L31, if_neg (i32_nle (by omega)), oL H.R H.L, Option.bind_some, f2, Option.bind_some]
    dsimp only
    rw [if_neg n10, o2, Option.bind_some, f3, Option.bind_some]
    dsimp only
    rw [if_neg n10, o3, Option.bind_some, f4, Option.bind_some]
    dsimp only
    rw [if_neg n10]
    exact f5
/-- what stands before a run -/
def lBf (X : Nat × Nat × (Nat → Int32)) (k : Nat) (h : fSt) : Prop := (∀ a, fF h a ≠ none → a < fZ h) ∧ fX h = X ∧ fZ h + 100 + k ≤ fCB h ∧ fL h + 1000 + 20 * k ≤ fLB h
theorem lNx.bf {lm z j : Nat} (N : lNx X lm z k h) (e : j + 100 ≤ k) : lBf X j h := by
  obtain ⟨G, S, F, H, -⟩ := N
  have rm := H.R.rm
  exact ⟨H.R.bd, H.R.xx, by omega, by omega⟩
theorem law_run {K n : Nat} (hL : X.2.1 ≤ 260) (B : lBf X (K + 720) h) {i : Int32} (hi : i = 0 ∨ i = 1) (hK : K ≤ 10000) (nx : ∀ h, (∃ lm z, lNx X lm z K h) → ∃ h3, f_L_law_L2 n (some X.1) (i + 1) h = some (1, h3)) : ∃ h3, f_L_law_L2 (n + 1) (some X.1) i h = some (1, h3) := by
  obtain ⟨b1, b2, b3, b4⟩ := B
  have hd : 0 ≤ (31 * i + 7).toInt ∧ (31 * i + 7).toInt ≤ 38 := by
    rcases hi with rfl | rfl
    · decide
    · decide
  obtain ⟨G, S, F, g1, g2, e1, e2, H⟩ := h_begin (k := K + 720) (dr := 31 * i + 7) b1 b2 hL b3 b4 ⟨hd.1, by omega⟩
  have hk2 : lKk X K S.lm G.z (f_L_law_L2 n (some X.1) (i + 1)) := fun h N => nx h ⟨_, _, N⟩
  obtain ⟨h3, f3⟩ := law_31 hk2 5 4096 0 g2 (by decide) (by decide) (by decide) ⟨G, S, F, H, rfl, rfl⟩
  refine ⟨h3, ?_⟩
  rw [st_L_law_L2, if_neg (by rcases hi with rfl | rfl <;> decide), e1, Option.bind_some]
  dsimp only
  rw [e2, Option.bind_some]
  dsimp only
  rw [gL_sc_ H.R H.L, Option.bind_some]
  exact f3
/-- the whole law answers true -/
theorem law_true (hL : X.2.1 ≤ 260) (B : lBf X 1540 h) : ∃ h3, f_L_law_L0 (some X.1) h = some (1, h3) := by
  have e : f_L_law_L0 (some X.1) h = f_L_law_L2 (4095 + 1) (some X.1) 0 h := rfl
  rw [e]
  refine law_run (K := 820) (n := 4095) hL B (Or.inl rfl) (by decide) (fun h2 ⟨lm, z, N⟩ => ?_)
  refine law_run (n := 4094) (K := 0) hL (N.bf (by decide)) (i := 0 + 1) (Or.inr (by decide)) (by decide) (fun h3 _ => ⟨h3, ?_⟩)
  rw [show (4094 : Nat) = 4093 + 1 from rfl, st_L_law_L2, if_pos (by decide)]
end LAWO
