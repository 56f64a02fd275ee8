/-! The box round a node holds each point that the node covers. -/
section BOUND
variable {G : qS} {a : Nat}
theorem fr_trans {c1 c2 b1 b2 v w : Int} (hb : 0 < b2) (hc : 0 < c2) (hw : 0 < w) (h1 : c1 * b2 ≤ b1 * c2) (h2 : b1 * w ≤ v * b2) : c1 * w ≤ v * c2 := by
  have e1 := Int.mul_le_mul_of_nonneg_right h1 (Int.le_of_lt hw)
  have e2 := Int.mul_le_mul_of_nonneg_right h2 (Int.le_of_lt hc)
  refine Int.le_of_mul_le_mul_right (a := b2) ?_ hb
  calc c1 * w * b2 = c1 * b2 * w := Int.mul_right_comm _ _ _
    _ ≤ b1 * c2 * w := e1
    _ = b1 * w * c2 := Int.mul_right_comm _ _ _
    _ ≤ v * b2 * c2 := e2
    _ = v * c2 * b2 := Int.mul_right_comm _ _ _
def bLo (b : qFr) (v w : Int) : Prop := 0 < b.2.toInt ∧ b.1.toInt * w ≤ v * b.2.toInt
def bHi (b : qFr) (v w : Int) : Prop := 0 < b.2.toInt ∧ v * b.2.toInt ≤ b.1.toInt * w
def bSz (b : qFr) : Prop := (0 ≤ b.2.toInt ∧ b.2.toInt ≤ 30000000) ∧ -30000000 ≤ b.1.toInt ∧ b.1.toInt ≤ 30000000
theorem red_z {x u : Int64} (hx : -30000000 ≤ x.toInt ∧ x.toInt ≤ 30000000) (hu : 0 < u.toInt ∧ u.toInt ≤ 30000000) : bSz (qRed x u) ∧ 0 < (qRed x u).2.toInt ∧ (qRed x u).1.toInt * u.toInt = x.toInt * (qRed x u).2.toInt := by
  obtain ⟨g, e1, g0, d1, d2, -⟩ := qCd_z (x := x) (u := u) (by omega) (by omega)
  obtain ⟨q, hq⟩ := Int.ofNat_dvd_left.mpr d1
  obtain ⟨r, hr⟩ := Int.ofNat_dvd_left.mpr d2
  have g1 : (1 : Int) ≤ g := by omega
  have r0 : 0 < r := by
    rcases Int.lt_or_le 0 r with z | z
    · exact z
    · have := Int.mul_nonneg (a := (g : Int)) (b := -r) (by omega) (by omega)
      rw [Int.mul_neg] at this
      omega
  have r1 : r ≤ u.toInt := by
    have := Int.mul_le_mul_of_nonneg_right g1 (Int.le_of_lt r0)
    omega
  have q1 : -30000000 ≤ q ∧ q ≤ 30000000 := by
    rcases Int.le_total 0 q with z | z
    · have := Int.mul_le_mul_of_nonneg_right g1 z
      omega
    · have := Int.mul_le_mul_of_nonneg_right g1 (show 0 ≤ -q by omega)
      rw [Int.one_mul, Int.mul_neg] at this
      omega
  have dx : (x / qCd x u).toInt = q := div_z (by rw [e1, hq, Int.mul_comm]) (by omega) (by omega)
  have du : (u / qCd x u).toInt = r := div_z (by rw [e1, hr, Int.mul_comm]) (by omega) (by omega)
  have dx : (qRed x u).1.toInt = q := dx
  have du : (qRed x u).2.toInt = r := du
  unfold bSz
  rw [dx, du]
  refine ⟨⟨by omega, q1⟩, r0, ?_⟩
  rw [hq, hr, ← Int.mul_assoc, Int.mul_comm q]
theorem i64le {a b : Int64} : a ≤ b ↔ a.toInt ≤ b.toInt := Int64.le_iff_toInt_le
theorem sm_mul {p q : Int} (hp : -30000000 ≤ p ∧ p ≤ 30000000) (hq : -30000000 ≤ q ∧ q ≤ 30000000) : -4000000000000000000 ≤ p * q ∧ p * q ≤ 4000000000000000000 := by
  have := mul_rg hp hq (by decide) (by decide)
  omega
theorem low_z {b : qFr} {x u : Int64} (hb : bSz b) (hx : -30000000 ≤ x.toInt ∧ x.toInt ≤ 30000000) (hu : 0 < u.toInt ∧ u.toInt ≤ 30000000) : bSz (qLow b x u) ∧ bLo (qLow b x u) x.toInt u.toInt ∧ ∀ v w : Int, 0 < w → bLo b v w → bLo (qLow b x u) v w := by
  obtain ⟨s1, s2, s3⟩ := red_z hx hu
  obtain ⟨⟨b1, b2⟩, b3⟩ := id hb
  have m1 := sm_mul b3 (q := u.toInt) ⟨by omega, hu.2⟩
  have m2 := sm_mul hx (q := b.2.toInt) ⟨by omega, b2⟩
  have e1 := i64_mul (a := b.1) (b := u) m1.1 m1.2
  have e2 := i64_mul (a := x) (b := b.2) m2.1 m2.2
  by_cases q0 : b.2 = 0
  · have e : qLow b x u = qRed x u := by
      unfold qLow
      rw [if_pos q0]
    rw [e]
    refine ⟨s1, ⟨s2, Int.le_of_eq s3⟩, fun v w _ hl => ?_⟩
    have := hl.1
    rw [q0] at this
    exact absurd this (by decide)
  · have n0 : 0 < b.2.toInt := by
      rcases Int.lt_or_eq_of_le b1 with z | z
      · exact z
      · exact absurd (Int64.toInt_inj.mp (z.symm.trans (by decide : (0 : Int) = (0 : Int64).toInt))) q0
    by_cases q1 : b.1 * u ≤ x * b.2
    · have e : qLow b x u = b := by
        unfold qLow
        rw [if_neg q0, if_pos q1]
      rw [e]
      rw [i64le, e1, e2] at q1
      exact ⟨hb, ⟨n0, q1⟩, fun _ _ _ z => z⟩
    · have e : qLow b x u = qRed x u := by
        unfold qLow
        rw [if_neg q0, if_neg q1]
      rw [e]
      rw [i64le, e1, e2] at q1
      refine ⟨s1, ⟨s2, Int.le_of_eq s3⟩, fun v w hw hl => ⟨s2, fr_trans (b1 := b.1.toInt) (b2 := b.2.toInt) n0 s2 hw ?_ hl.2⟩⟩
      -- the new one is below the old one
      refine Int.le_of_mul_le_mul_right (a := u.toInt) ?_ hu.1
      calc (qRed x u).1.toInt * b.2.toInt * u.toInt = (qRed x u).1.toInt * u.toInt * b.2.toInt := Int.mul_right_comm _ _ _
        _ = x.toInt * (qRed x u).2.toInt * b.2.toInt := by rw [s3]
        _ = x.toInt * b.2.toInt * (qRed x u).2.toInt := Int.mul_right_comm _ _ _
        _ ≤ b.1.toInt * u.toInt * (qRed x u).2.toInt := Int.mul_le_mul_of_nonneg_right (by omega) (Int.le_of_lt s2)
        _ = b.1.toInt * (qRed x u).2.toInt * u.toInt := Int.mul_right_comm _ _ _
theorem fr_trans2 {c1 c2 b1 b2 v w : Int} (hb : 0 < b2) (hc : 0 < c2) (hw : 0 < w) (h1 : b1 * c2 ≤ c1 * b2) (h2 : v * b2 ≤ b1 * w) : v * c2 ≤ c1 * w := by
  have e1 := Int.mul_le_mul_of_nonneg_right h1 (Int.le_of_lt hw)
  have e2 := Int.mul_le_mul_of_nonneg_right h2 (Int.le_of_lt hc)
  refine Int.le_of_mul_le_mul_right (a := b2) ?_ hb
  calc v * c2 * b2 = v * b2 * c2 := Int.mul_right_comm _ _ _
    _ ≤ b1 * w * c2 := e2
    _ = b1 * c2 * w := Int.mul_right_comm _ _ _
    _ ≤ c1 * b2 * w := e1
    _ = c1 * w * b2 := Int.mul_right_comm _ _ _
theorem rai_z {b : qFr} {x u : Int64} (hb : bSz b) (hx : -30000000 ≤ x.toInt ∧ x.toInt ≤ 30000000) (hu : 0 < u.toInt ∧ u.toInt ≤ 30000000) : bSz (qRai b x u) ∧ bHi (qRai b x u) x.toInt u.toInt ∧ ∀ v w : Int, 0 < w → bHi b v w → bHi (qRai b x u) v w := by
  obtain ⟨s1, s2, s3⟩ := red_z hx hu
  obtain ⟨⟨b1, b2⟩, b3⟩ := id hb
  have m1 := sm_mul b3 (q := u.toInt) ⟨by omega, hu.2⟩
  have m2 := sm_mul hx (q := b.2.toInt) ⟨by omega, b2⟩
  have e1 := i64_mul (a := b.1) (b := u) m1.1 m1.2
  have e2 := i64_mul (a := x) (b := b.2) m2.1 m2.2
  by_cases q0 : b.2 = 0
  · have e : qRai b x u = qRed x u := by
      unfold qRai
      rw [if_pos q0]
    rw [e]
    refine ⟨s1, ⟨s2, Int.le_of_eq s3.symm⟩, fun v w _ hl => ?_⟩
    have := hl.1
    rw [q0] at this
    exact absurd this (by decide)
  · have n0 : 0 < b.2.toInt := by
      rcases Int.lt_or_eq_of_le b1 with z | z
      · exact z
      · exact absurd (Int64.toInt_inj.mp (z.symm.trans (by decide : (0 : Int) = (0 : Int64).toInt))) q0
    by_cases q1 : x * b.2 ≤ b.1 * u
    · have e : qRai b x u = b := by
        unfold qRai
        rw [if_neg q0, if_pos q1]
      rw [e]
      rw [i64le, e1, e2] at q1
      exact ⟨hb, ⟨n0, q1⟩, fun _ _ _ z => z⟩
    · have e : qRai b x u = qRed x u := by
        unfold qRai
        rw [if_neg q0, if_neg q1]
      rw [e]
      rw [i64le, e1, e2] at q1
      refine ⟨s1, ⟨s2, Int.le_of_eq s3.symm⟩, fun v w hw hl => ⟨s2, fr_trans2 (b1 := b.1.toInt) (b2 := b.2.toInt) n0 s2 hw ?_ hl.2⟩⟩
      refine Int.le_of_mul_le_mul_right (a := u.toInt) ?_ hu.1
      calc b.1.toInt * (qRed x u).2.toInt * u.toInt = b.1.toInt * u.toInt * (qRed x u).2.toInt := Int.mul_right_comm _ _ _
        _ ≤ x.toInt * b.2.toInt * (qRed x u).2.toInt := Int.mul_le_mul_of_nonneg_right (by omega) (Int.le_of_lt s2)
        _ = x.toInt * (qRed x u).2.toInt * b.2.toInt := Int.mul_right_comm _ _ _
        _ = (qRed x u).1.toInt * u.toInt * b.2.toInt := by rw [s3]
        _ = (qRed x u).1.toInt * b.2.toInt * u.toInt := Int.mul_right_comm _ _ _
def bIn (B : qBo) (P : zP) : Prop := bLo B.1 P.1 P.2.2 ∧ bLo B.2.1 P.2.1 P.2.2 ∧ bHi B.2.2.1 P.1 P.2.2 ∧ bHi B.2.2.2 P.2.1 P.2.2
def bSS (B : qBo) : Prop := bSz B.1 ∧ bSz B.2.1 ∧ bSz B.2.2.1 ∧ bSz B.2.2.2
def bLe (B C : qBo) : Prop := ∀ Q : zP, 0 < Q.2.2 → bIn B Q → bIn C Q
theorem inc_z {B : qBo} {P : qPt} (hB : bSS B) (h : wZb (tz P) 21849100) : bSS (qInc B P) ∧ bIn (qInc B P) (tz P) ∧ bLe B (qInc B P) := by
  obtain ⟨u0, bx, by_⟩ := h
  have u0 : 0 < P.2.2.1.toInt := u0
  have bx : -(21849100 - 300 * P.2.2.1.toInt) ≤ P.1.toInt ∧ P.1.toInt ≤ 21849100 - 300 * P.2.2.1.toInt := bx
  have by_ : -(21849100 - 300 * P.2.2.1.toInt) ≤ P.2.1.toInt ∧ P.2.1.toInt ≤ 21849100 - 300 * P.2.2.1.toInt := by_
  obtain ⟨h0, h1, h2, h3⟩ := hB
  have hu : 0 < P.2.2.1.toInt ∧ P.2.2.1.toInt ≤ 30000000 := ⟨u0, by omega⟩
  have hx : -30000000 ≤ P.1.toInt ∧ P.1.toInt ≤ 30000000 := by omega
  have hy : -30000000 ≤ P.2.1.toInt ∧ P.2.1.toInt ≤ 30000000 := by omega
  obtain ⟨a1, a2, a3⟩ := low_z h0 hx hu
  obtain ⟨b1, b2, b3⟩ := low_z h1 hy hu
  obtain ⟨c1, c2, c3⟩ := rai_z h2 hx hu
  obtain ⟨d1, d2, d3⟩ := rai_z h3 hy hu
  exact ⟨⟨a1, b1, c1, d1⟩, ⟨a2, b2, c2, d2⟩, fun Q hQ ⟨p1, p2, p3, p4⟩ => ⟨a3 _ _ hQ p1, b3 _ _ hQ p2, c3 _ _ hQ p3, d3 _ _ hQ p4⟩⟩
theorem b0_z : bSS qB0 := by
  have e : qRed 0 0 = (0, 0) := by
    unfold qRed
    rw [Int64.zero_div]
  have h : bSz (qRed 0 0) := by
    rw [e]
    exact ⟨⟨by decide, by decide⟩, by decide, by decide⟩
  exact ⟨h, h, h, h⟩
def qLT (G : qS) (a : Nat) : qPt := qRs G a (G.fm (G.fr a)).left (G.fm (G.fr a)).top
def qRB (G : qS) (a : Nat) : qPt := qRs G a (G.fm (G.fr a)).right (G.fm (G.fr a)).bot
theorem z0 : (0 : Int32).toInt = 0 := by decide
theorem cor_z (I : qI G) (la : G.Lv a) : wZb (tz (qLT G a)) 21849100 ∧ wZb (tz (qRB G a)) 21849100 := by
  obtain ⟨f1, f2, f3, f4⟩ := I.E.fm a la.1
  have h0 := z0
  refine ⟨(rs_z I la ?_ ?_).2, (rs_z I la ?_ ?_).2⟩
  · rw [f1, h0]; decide
  · rw [f2, h0]; decide
  · omega
  · omega
theorem ga_z (I : qI G) (top : Nat) : ∀ (l : List Nat) (B : qBo), (∀ b, b ∈ l → G.Lv b) → bSS B → bSS (qGa G top B l) ∧ bLe B (qGa G top B l) ∧ ∀ b, b ∈ l → (G.nd b).kind ≠ 0 → qIn (some top) (G.up b) = true → qSh G G.time (G.up b) = true → bIn (qGa G top B l) (tz (qLT G b)) ∧ bIn (qGa G top B l) (tz (qRB G b))
  | [], B, _, hB => ⟨hB, fun _ _ z => z, fun b hb => (nomatch hb)⟩
  | c :: l, B, hl, hB => by
    have lc := hl c List.mem_cons_self
    have hl2 : ∀ b, b ∈ l → G.Lv b := fun b hb => hl b (List.mem_cons_of_mem _ hb)
    obtain ⟨w1, w2⟩ := cor_z I lc
    obtain ⟨i1, i2, i3⟩ := inc_z hB w1
    obtain ⟨j1, j2, j3⟩ := inc_z i1 w2
    have skip : qGa G top B (c :: l) = qGa G top B l → ¬ ((G.nd c).kind ≠ 0 ∧ qIn (some top) (G.up c) = true ∧ qSh G G.time (G.up c) = true) → bSS (qGa G top B (c :: l)) ∧ bLe B (qGa G top B (c :: l)) ∧ ∀ b, b ∈ c :: l → (G.nd b).kind ≠ 0 → qIn (some top) (G.up b) = true → qSh G G.time (G.up b) = true → bIn (qGa G top B (c :: l)) (tz (qLT G b)) ∧ bIn (qGa G top B (c :: l)) (tz (qRB G b)) := by
      intro e n
      obtain ⟨r1, r2, r3⟩ := ga_z I top l B hl2 hB
      rw [e]
      refine ⟨r1, r2, fun b hb k1 k2 k3 => ?_⟩
      rcases List.mem_cons.mp hb with z | z
      · subst z
        exact absurd ⟨k1, k2, k3⟩ n
      · exact r3 b z k1 k2 k3
    by_cases q0 : (G.nd c).kind = 0
    · exact skip (by show (if (G.nd c).kind = 0 then _ else _) = _; rw [if_pos q0]) (fun z => z.1 q0)
    · by_cases q1 : qIn (some top) (G.up c) = true
      · by_cases q2 : qSh G G.time (G.up c) = true
        · have e : qGa G top B (c :: l) = qGa G top (qInc (qInc B (qLT G c)) (qRB G c)) l := by
            show (if (G.nd c).kind = 0 then _ else _) = _
            rw [if_neg q0, if_pos q1, if_pos q2]
            rfl
          obtain ⟨r1, r2, r3⟩ := ga_z I top l _ hl2 j1
          rw [e]
          refine ⟨r1, fun Q hQ z => r2 Q hQ (j3 Q hQ (i3 Q hQ z)), fun b hb k1 k2 k3 => ?_⟩
          rcases List.mem_cons.mp hb with z | z
          · subst z
            exact ⟨r2 _ w1.1 (j3 _ w1.1 i2), r2 _ w2.1 j2⟩
          · exact r3 b z k1 k2 k3
        · exact skip (by show (if (G.nd c).kind = 0 then _ else _) = _; rw [if_neg q0, if_pos q1, if_neg q2]) (fun z => q2 z.2.2)
      · exact skip (by show (if (G.nd c).kind = 0 then _ else _) = _; rw [if_neg q0, if_neg q1]) (fun z => q1 z.2.1)
theorem bLo_btw {b : qFr} {V x u U C1 C2 W1 W2 : Int} (hV : 0 < V) (hU : 0 < U) (h : zB (V * x) (U * C1) (U * C2)) (e1 : U * W1 = V * u) (e2 : U * W2 = V * u) (l1 : bLo b C1 W1) (l2 : bLo b C2 W2) : bLo b x u := by
  refine ⟨l1.1, ?_⟩
  have h0 := Int.le_of_lt l1.1
  have k1 := Int.mul_le_mul_of_nonneg_left l1.2 (Int.le_of_lt hU)
  have k2 := Int.mul_le_mul_of_nonneg_left l2.2 (Int.le_of_lt hU)
  rw [Int.mul_left_comm, e1, ← Int.mul_assoc U] at k1
  rw [Int.mul_left_comm, e2, ← Int.mul_assoc U] at k2
  refine Int.le_of_mul_le_mul_left (a := V) ?_ hV
  rw [Int.mul_left_comm, ← Int.mul_assoc V]
  rcases h with ⟨z, -⟩ | ⟨z, -⟩
  · exact Int.le_trans k1 (Int.mul_le_mul_of_nonneg_right z h0)
  · exact Int.le_trans k2 (Int.mul_le_mul_of_nonneg_right z h0)
theorem bHi_btw {b : qFr} {V x u U C1 C2 W1 W2 : Int} (hV : 0 < V) (hU : 0 < U) (h : zB (V * x) (U * C1) (U * C2)) (e1 : U * W1 = V * u) (e2 : U * W2 = V * u) (l1 : bHi b C1 W1) (l2 : bHi b C2 W2) : bHi b x u := by
  refine ⟨l1.1, ?_⟩
  have h0 := Int.le_of_lt l1.1
  have k1 := Int.mul_le_mul_of_nonneg_left l1.2 (Int.le_of_lt hU)
  have k2 := Int.mul_le_mul_of_nonneg_left l2.2 (Int.le_of_lt hU)
  rw [Int.mul_left_comm U b.1.toInt, e1, ← Int.mul_assoc U] at k1
  rw [Int.mul_left_comm U b.1.toInt, e2, ← Int.mul_assoc U] at k2
  refine Int.le_of_mul_le_mul_left (a := V) ?_ hV
  rw [Int.mul_left_comm V b.1.toInt, ← Int.mul_assoc V]
  rcases h with ⟨-, z⟩ | ⟨-, z⟩
  · exact Int.le_trans (Int.mul_le_mul_of_nonneg_right z h0) k2
  · exact Int.le_trans (Int.mul_le_mul_of_nonneg_right z h0) k1
theorem cov_f {x y u t : Int32} (c : qCov G x y u t a = true) : (G.nd a).kind ≠ 0 ∧ qSh G t (G.up a) = true ∧ qHo (G.fm (G.fr a)) (qDnP G t (G.up a) (Int32.toInt64 x, Int32.toInt64 y, Int32.toInt64 u, 0)).1 (qDnP G t (G.up a) (Int32.toInt64 x, Int32.toInt64 y, Int32.toInt64 u, 0)).2.1 (qDnP G t (G.up a) (Int32.toInt64 x, Int32.toInt64 y, Int32.toInt64 u, 0)).2.2.1 = true := by
  unfold qCov at c
  generalize qDnP G t (G.up a) (Int32.toInt64 x, Int32.toInt64 y, Int32.toInt64 u, 0) = P at *
  by_cases q0 : (G.nd a).kind = 0
  · rw [if_pos q0] at c
    exact absurd c (by decide)
  · rw [if_neg q0] at c
    by_cases q1 : qSh G t (G.up a) = true
    · rw [if_pos q1] at c
      by_cases q2 : P.2.2.2 = 0
      · rw [if_pos q2] at c
        refine ⟨q0, q1, ?_⟩
        unfold qOw at c
        by_cases q3 : qHo (G.fm (G.fr a)) P.1 P.2.1 P.2.2.1 = true
        · exact q3
        · rw [Bool.not_eq_true] at q3
          simp [q3] at c
      · rw [if_neg q2] at c
        exact absurd c (by decide)
    · rw [if_neg q1] at c
      exact absurd c (by decide)
theorem cov_in (I : qI G) (la : G.Lv a) {x y u : Int32} (hx : -1000 ≤ x.toInt ∧ x.toInt ≤ 1000) (hy : -1000 ≤ y.toInt ∧ y.toInt ≤ 1000) (hu : 1 ≤ u.toInt ∧ u.toInt ≤ 3) (c : qCov G x y u G.time a = true) : bSS (qBd G a) ∧ bIn (qBd G a) (x.toInt, y.toInt, u.toInt) := by
  obtain ⟨k1, k2, k3⟩ := cov_f c
  have hod : ∀ b, b ∈ G.od → G.Lv b := I.V.od.2.2
  have mod : a ∈ G.od := by
    rw [I.C.od, List.mem_reverse]
    exact (I.odm.2 a).mpr la
  have self : qIn (some a) (G.up a) = true := by
    rw [qIn_mem]
    exact List.mem_cons_self
  obtain ⟨r1, -, r3⟩ := ga_z I a G.od qB0 hod b0_z
  have r1 : bSS (qBd G a) := r1
  obtain ⟨c1, c2⟩ := r3 a mod k1 self k2
  have c1 : bIn (qBd G a) (tz (qLT G a)) := c1
  have c2 : bIn (qBd G a) (tz (qRB G a)) := c2
  refine ⟨r1, ?_⟩
  clear r3
  have h0 : wZb (tz (Int32.toInt64 x, Int32.toInt64 y, Int32.toInt64 u, 0)) 2000 := by
    have e : tz (Int32.toInt64 x, Int32.toInt64 y, Int32.toInt64 u, 0) = (x.toInt, y.toInt, u.toInt) := Prod.ext i32_64 (Prod.ext i32_64 i32_64)
    rw [e]
    refine ⟨by show 0 < u.toInt; omega, ?_, ?_⟩
    · show -(2000 - 300 * u.toInt) ≤ x.toInt ∧ x.toInt ≤ 2000 - 300 * u.toInt
      omega
    · show -(2000 - 300 * u.toInt) ≤ y.toInt ∧ y.toInt ≤ 2000 - 300 * u.toInt
      omega
  obtain ⟨d1, d2⟩ := dn5 I la G.time _ (by decide) h0 (by decide)
  have e0 : tz (Int32.toInt64 x, Int32.toInt64 y, Int32.toInt64 u, 0) = (x.toInt, y.toInt, u.toInt) := Prod.ext i32_64 (Prod.ext i32_64 i32_64)
  rw [e0] at d1
  obtain ⟨t1, t2⟩ := ups_t I la
  obtain ⟨f1, f2, f3, f4⟩ := I.E.fm a la.1
  have hz := z0
  have p1 := (rs_z I la (x := (G.fm (G.fr a)).left) (y := (G.fm (G.fr a)).top) (by rw [f1, hz]; decide) (by rw [f2, hz]; decide)).1
  have p2 := (rs_z I la (x := (G.fm (G.fr a)).right) (y := (G.fm (G.fr a)).bot) (by omega) (by omega)).1
  have p1 : tz (qLT G a) = _ := p1
  have p2 : tz (qRB G a) = _ := p2
  rw [f1, f2, hz] at p1
  have ok : ∀ N, N ∈ (G.up a).map (nZz G G.time) → 0 < N.1 ∧ 0 < N.2.1 := fun N hN => by
    obtain ⟨⟨o1, -⟩, ⟨n1, -⟩, -⟩ := nZ_ok I la G.time N hN
    omega
  generalize qDnP G G.time (G.up a) (Int32.toInt64 x, Int32.toInt64 y, Int32.toInt64 u, 0) = Q at *
  have up := zUpDn ((G.up a).map (nZz G G.time)) (x.toInt, y.toInt, u.toInt) t1
  rw [← d1] at up
  -- the point lies in the frame
  unfold qHo at k3
  have k3 := of_decide_eq_true k3
  rw [f1, f2] at k3
  obtain ⟨w0, wx, wy⟩ := d2
  have w0 : 0 < Q.2.2.1.toInt := w0
  have wx : -(2000 * 16807 - 300 * Q.2.2.1.toInt) ≤ Q.1.toInt ∧ Q.1.toInt ≤ 2000 * 16807 - 300 * Q.2.2.1.toInt := wx
  have wu : Q.2.2.1.toInt ≤ 30000000 := by omega
  have mr := sm_mul (p := (G.fm (G.fr a)).right.toInt) (q := Q.2.2.1.toInt) (by omega) (by omega)
  have mb := sm_mul (p := (G.fm (G.fr a)).bot.toInt) (q := Q.2.2.1.toInt) (by omega) (by omega)
  have er : (Int32.toInt64 (G.fm (G.fr a)).right * Q.2.2.1).toInt = (G.fm (G.fr a)).right.toInt * Q.2.2.1.toInt := by
    rw [i64_mul (by rw [i32_64]; exact mr.1) (by rw [i32_64]; exact mr.2), i32_64]
  have eb : (Int32.toInt64 (G.fm (G.fr a)).bot * Q.2.2.1).toInt = (G.fm (G.fr a)).bot.toInt * Q.2.2.1.toInt := by
    rw [i64_mul (by rw [i32_64]; exact mb.1) (by rw [i32_64]; exact mb.2), i32_64]
  rw [t64_0, Int64.zero_mul] at k3
  obtain ⟨g1, g2, g3, g4⟩ := k3
  rw [Int64.lt_iff_toInt_lt] at g1 g2 g3 g4
  rw [er] at g2
  rw [eb] at g4
  have z64 : (0 : Int64).toInt = 0 := by decide
  rw [z64] at g1 g3
  have bt : zBt (tz Q) (zS Q.2.2.1.toInt (0, 0, 1)) (zS Q.2.2.1.toInt ((G.fm (G.fr a)).right.toInt, (G.fm (G.fr a)).bot.toInt, 1)) := by
    refine ⟨Or.inl ⟨?_, ?_⟩, Or.inl ⟨?_, ?_⟩, ?_, ?_⟩
    · show Q.2.2.1.toInt * 0 ≤ Q.1.toInt
      rw [Int.mul_zero]
      omega
    · show Q.1.toInt ≤ Q.2.2.1.toInt * (G.fm (G.fr a)).right.toInt
      rw [Int.mul_comm]
      omega
    · show Q.2.2.1.toInt * 0 ≤ Q.2.1.toInt
      rw [Int.mul_zero]
      omega
    · show Q.2.1.toInt ≤ Q.2.2.1.toInt * (G.fm (G.fr a)).bot.toInt
      rw [Int.mul_comm]
      omega
    · show Q.2.2.1.toInt * 1 = Q.2.2.1.toInt
      rw [Int.mul_one]
    · show Q.2.2.1.toInt * 1 = Q.2.2.1.toInt
      rw [Int.mul_one]
  have bu := zBt.up _ ok bt
  rw [up, zUp_S, zUp_S, ← p1, ← p2] at bu
  generalize tz (qLT G a) = C1 at *
  generalize tz (qRB G a) = C2 at *
  obtain ⟨bx, by_, e1, e2⟩ := bu
  exact ⟨bLo_btw t2 w0 bx e1 e2 c1.1 c2.1, bLo_btw t2 w0 by_ e1 e2 c1.2.1 c2.2.1, bHi_btw t2 w0 bx e1 e2 c1.2.2.1 c2.2.2.1, bHi_btw t2 w0 by_ e1 e2 c1.2.2.2 c2.2.2.2⟩
/-- as the law reckons it -/
theorem side_z {p q x u : Int64} {v w : Int32} (hp : -30000000 ≤ p.toInt ∧ p.toInt ≤ 30000000) (hq : -30000000 ≤ q.toInt ∧ q.toInt ≤ 30000000) (hv : -1000 ≤ v.toInt ∧ v.toInt ≤ 1000) (hw : -1000 ≤ w.toInt ∧ w.toInt ≤ 1000) : (Int32.toInt64 (Int64.toInt32 p) * Int32.toInt64 w).toInt = p.toInt * w.toInt ∧ (Int32.toInt64 v * Int32.toInt64 (Int64.toInt32 q)).toInt = v.toInt * q.toInt := by
  have e1 : (Int32.toInt64 (Int64.toInt32 p)).toInt = p.toInt := by rw [i32_64, i64_i32 (by omega)]
  have e2 : (Int32.toInt64 (Int64.toInt32 q)).toInt = q.toInt := by rw [i32_64, i64_i32 (by omega)]
  have m1 := sm_mul hp (q := w.toInt) (by omega)
  have m2 := sm_mul (p := v.toInt) (by omega) hq
  constructor
  · rw [i64_mul (by rw [e1, i32_64]; exact m1.1) (by rw [e1, i32_64]; exact m1.2), e1, i32_64]
  · rw [i64_mul (by rw [e2, i32_64]; exact m2.1) (by rw [e2, i32_64]; exact m2.2), e2, i32_64]
/-- the four sides -/
theorem chk_side (I : qI G) (la : G.Lv a) {x y u : Int32} (hx : -1000 ≤ x.toInt ∧ x.toInt ≤ 1000) (hy : -1000 ≤ y.toInt ∧ y.toInt ≤ 1000) (hu : 1 ≤ u.toInt ∧ u.toInt ≤ 3) (c : qCov G x y u G.time a = true) :
    (∀ s : Int32, s = 0 ∨ s = 1 → Int32.toInt64 (Int64.toInt32 (qSd (qBd G a) s).1) * Int32.toInt64 u ≤ Int32.toInt64 (if s = 0 then x else y) * Int32.toInt64 (Int64.toInt32 (qSd (qBd G a) s).2)) ∧
    (∀ s : Int32, s = 2 ∨ s = 3 → Int32.toInt64 (if s = 2 then x else y) * Int32.toInt64 (Int64.toInt32 (qSd (qBd G a) s).2) ≤ Int32.toInt64 (Int64.toInt32 (qSd (qBd G a) s).1) * Int32.toInt64 u) := by
  obtain ⟨⟨s0, s1, s2, s3⟩, b0, b1, b2, b3⟩ := cov_in I la hx hy hu c
  generalize qBd G a = B at *
  have low : ∀ {b : qFr} {v : Int32}, bSz b → (-1000 ≤ v.toInt ∧ v.toInt ≤ 1000) → bLo b v.toInt u.toInt → Int32.toInt64 (Int64.toInt32 b.1) * Int32.toInt64 u ≤ Int32.toInt64 v * Int32.toInt64 (Int64.toInt32 b.2) := by
    intro b v hs hv hl
    obtain ⟨e1, e2⟩ := side_z (p := b.1) (q := b.2) (x := 0) (u := 0) (v := v) (w := u) hs.2 ⟨by have := hs.1.1; omega, hs.1.2⟩ hv (by omega)
    rw [i64le, e1, e2]
    exact hl.2
  have high : ∀ {b : qFr} {v : Int32}, bSz b → (-1000 ≤ v.toInt ∧ v.toInt ≤ 1000) → bHi b v.toInt u.toInt → Int32.toInt64 v * Int32.toInt64 (Int64.toInt32 b.2) ≤ Int32.toInt64 (Int64.toInt32 b.1) * Int32.toInt64 u := by
    intro b v hs hv hl
    obtain ⟨e1, e2⟩ := side_z (p := b.1) (q := b.2) (x := 0) (u := 0) (v := v) (w := u) hs.2 ⟨by have := hs.1.1; omega, hs.1.2⟩ hv (by omega)
    rw [i64le, e1, e2]
    exact hl.2
  constructor
  · rintro s (rfl | rfl)
    · exact low s0 hx b0
    · exact low s1 hy b1
  · rintro s (rfl | rfl)
    · exact high s2 hx b2
    · exact high s3 hy b3
end BOUND
