/-! There and back: what the law asks of points. -/
section BACK
variable {G : qS} {a : Nat}
theorem qPa0 (P : qPt) : qPa P 0 = P.1 / qCd P.1 P.2.2.1 := rfl
theorem qPa1 (P : qPt) : qPa P 1 = P.2.2.1 / qCd P.1 P.2.2.1 := rfl
theorem qPa2 (P : qPt) : qPa P 2 = P.2.1 / qCd P.2.1 P.2.2.1 := rfl
theorem qPa3 (P : qPt) : qPa P 3 = P.2.2.1 / qCd P.2.1 P.2.2.1 := rfl
theorem div_z {x g : Int64} {q : Int} (e : x.toInt = q * g.toInt) (hg : 0 < g.toInt) (hq : -1000000000000000 ≤ q ∧ q ≤ 1000000000000000) : (x / g).toInt = q := by
  have : x.toInt.tdiv g.toInt = q := by
    rw [e]
    exact Int.mul_tdiv_cancel q (Int.ne_of_gt hg)
  rw [i64_div (by rw [this]; omega) (by rw [this]; omega), this]
/-- a whole multiple of the denominator: the denominator itself divides -/
theorem cd_mul {x u : Int64} {x0 : Int} (hu : 0 < u.toInt ∧ u.toInt ≤ 1000000000000000) (hx : -1000000000000000 ≤ x.toInt ∧ x.toInt ≤ 1000000000000000) (e : x.toInt = x0 * u.toInt) : (qCd x u).toInt = u.toInt := by
  obtain ⟨g, e1, g0, d1, d2, d3⟩ := qCd_z hx hu
  have h1 : u.toInt.natAbs ∣ x.toInt.natAbs := by
    rw [e, Int.natAbs_mul]
    exact Nat.dvd_mul_left _ _
  have h2 := d3 _ h1 (Nat.dvd_refl _)
  have h3 := Nat.dvd_antisymm d2 h2
  rw [e1, h3]
  omega
theorem part_of {x u : Int64} {x0 : Int} (hu : 0 < u.toInt ∧ u.toInt ≤ 1000000000000000) (hx : -1000000000000000 ≤ x.toInt ∧ x.toInt ≤ 1000000000000000) (e : x.toInt = x0 * u.toInt) (h0 : -1000000 ≤ x0 ∧ x0 ≤ 1000000) : (Int64.toInt32 (x / qCd x u)).toInt = x0 ∧ (Int64.toInt32 (u / qCd x u)).toInt = 1 := by
  have c := cd_mul hu hx e
  have d1 : (x / qCd x u).toInt = x0 := div_z (by rw [c]; exact e) (by omega) (by omega)
  have d2 : (u / qCd x u).toInt = 1 := div_z (by rw [c, Int.one_mul]) (by omega) (by omega)
  exact ⟨by rw [i64_i32 (by omega), d1], by rw [i64_i32 (by omega), d2]⟩
/-- a denominator of 1: the number is whole -/
theorem part_1 {x u : Int64} (hu : 0 < u.toInt ∧ u.toInt ≤ 1000000000) (hx : -1000000000 ≤ x.toInt ∧ x.toInt ≤ 1000000000) (h : Int64.toInt32 (u / qCd x u) = 1) : ∃ a : Int, x.toInt = a * u.toInt ∧ (Int64.toInt32 (x / qCd x u)).toInt = a := by
  obtain ⟨g, e1, g0, d1, d2, d3⟩ := qCd_z (x := x) (u := u) (by omega) (by omega)
  obtain ⟨q, hq⟩ := d2
  obtain ⟨r, hr⟩ := d1
  have gq : g ≤ u.toInt.natAbs := by
    rw [hq]
    exact Nat.le_mul_of_pos_right g (Nat.pos_of_ne_zero (fun z => by rw [z] at hq; omega))
  have qle : q ≤ u.toInt.natAbs := by
    rw [hq]
    exact Nat.le_mul_of_pos_left q g0
  have eu : u.toInt = (q : Int) * (qCd x u).toInt := by
    rw [e1]
    have : u.toInt = (u.toInt.natAbs : Int) := by omega
    rw [this, hq, Int.natCast_mul, Int.mul_comm]
  have du : (u / qCd x u).toInt = q := div_z eu (by omega) (by omega)
  have q1 : (q : Int) = 1 := by
    rw [← du, ← i64_i32 (x := u / qCd x u) (by omega), h]
    decide
  have eg : (qCd x u).toInt = u.toInt := by
    rw [q1, Int.one_mul] at eu
    exact eu.symm
  rw [eg] at e1
  -- the numerator, too
  have rle : r ≤ x.toInt.natAbs := by
    rw [hr]
    exact Nat.le_mul_of_pos_left r g0
  have ex : ∃ a : Int, x.toInt = a * u.toInt ∧ -1000000000 ≤ a ∧ a ≤ 1000000000 := by
    rcases Int.natAbs_eq x.toInt with z | z
    · refine ⟨r, ?_, by omega, by omega⟩
      rw [z, hr, e1, Int.natCast_mul, Int.mul_comm]
    · refine ⟨-r, ?_, by omega, by omega⟩
      rw [z, hr, e1, Int.natCast_mul, Int.neg_mul, Int.mul_comm (r : Int)]
  obtain ⟨a, ea, a1, a2⟩ := ex
  have dx : (x / qCd x u).toInt = a := div_z (by rw [eg]; exact ea) (by omega) (by omega)
  exact ⟨a, ea, by rw [i64_i32 (by omega), dx]⟩
theorem tzN (x y : Int32) : tz (Int32.toInt64 x, Int32.toInt64 y, 1, 0) = (x.toInt, y.toInt, 1) := Prod.ext i32_64 (Prod.ext i32_64 (by show (1 : Int64).toInt = 1; decide))
theorem wB_1 {x y : Int} {M : Int} (hx : -M ≤ x ∧ x ≤ M) (hy : -M ≤ y ∧ y ≤ M) : wZb (x, y, 1) (M + 300) := by
  refine ⟨(show (0:Int) < 1 by decide), ?_, ?_⟩
  · show -(M + 300 - 300 * 1) ≤ x ∧ x ≤ M + 300 - 300 * 1
    omega
  · show -(M + 300 - 300 * 1) ≤ y ∧ y ≤ M + 300 - 300 * 1
    omega
theorem rs_z (I : qI G) (la : G.Lv a) {x y : Int32} (hx : -1000 ≤ x.toInt ∧ x.toInt ≤ 1000) (hy : -1000 ≤ y.toInt ∧ y.toInt ≤ 1000) : tz (qRs G a x y) = zUp ((G.up a).map (nZz G G.time)) (x.toInt, y.toInt, 1) ∧ wZb (tz (qRs G a x y)) 21849100 := by
  have h0 : wZb (tz (Int32.toInt64 x, Int32.toInt64 y, 1, 0)) 1300 := by
    rw [tzN]
    exact wB_1 (M := 1000) hx hy
  obtain ⟨e, b⟩ := up5 I la G.time _ (by decide) h0 (by decide)
  rw [tzN] at e
  exact ⟨e, b⟩
theorem sk_z (I : qI G) (la : G.Lv a) {P : qPt} {W : Int} (w0 : 0 ≤ W) (h : wZb (tz P) W) (hW : W ≤ 21849100) : tz (qSk G a P) = zDn ((G.up a).map (nZz G G.time)) (tz P) ∧ wZb (tz (qSk G a P)) 1000000000000 := by
  obtain ⟨e, b⟩ := dn5 I la G.time P w0 h (by omega)
  exact ⟨e, b.mono (by omega)⟩
theorem ups_t (I : qI G) (la : G.Lv a) : (∀ N, N ∈ (G.up a).map (nZz G G.time) → N.2.2.2.1 < 4) ∧ 0 < zV ((G.up a).map (nZz G G.time)) := by
  refine ⟨fun N hN => (nZ_ok I la G.time N hN).2.2.1, zV_pos _ (fun N hN => ?_)⟩
  obtain ⟨⟨o1, -⟩, ⟨n1, -⟩, -⟩ := nZ_ok I la G.time N hN
  omega
/-- a sunk point that is a multiple of a whole one -/
theorem sk_parts {P : qPt} {V x0 y0 u0 : Int} (b : wZb (tz P) 1000000000000) (e : tz P = (x0 * u0, y0 * u0, u0)) (hx : -1000 ≤ x0 ∧ x0 ≤ 1000) (hy : -1000 ≤ y0 ∧ y0 ≤ 1000) : (Int64.toInt32 (qPa P 0)).toInt = x0 ∧ Int64.toInt32 (qPa P 1) = 1 ∧ (Int64.toInt32 (qPa P 2)).toInt = y0 ∧ Int64.toInt32 (qPa P 3) = 1 := by
  obtain ⟨u, bx, by_⟩ := b
  have e1 : P.1.toInt = x0 * u0 := congrArg (fun q : zP => q.1) e
  have e2 : P.2.1.toInt = y0 * u0 := congrArg (fun q : zP => q.2.1) e
  have e3 : P.2.2.1.toInt = u0 := congrArg (fun q : zP => q.2.2) e
  have u : 0 < P.2.2.1.toInt := u
  have bx : -(1000000000000 - 300 * P.2.2.1.toInt) ≤ P.1.toInt ∧ P.1.toInt ≤ 1000000000000 - 300 * P.2.2.1.toInt := bx
  have by_ : -(1000000000000 - 300 * P.2.2.1.toInt) ≤ P.2.1.toInt ∧ P.2.1.toInt ≤ 1000000000000 - 300 * P.2.2.1.toInt := by_
  rw [← e3] at e1 e2
  have h1 := part_of (x := P.1) (u := P.2.2.1) ⟨u, by omega⟩ (by omega) e1 (by omega)
  have h2 := part_of (x := P.2.1) (u := P.2.2.1) ⟨u, by omega⟩ (by omega) e2 (by omega)
  have o1 : (1 : Int32).toInt = 1 := by decide
  rw [qPa0, qPa1, qPa2, qPa3]
  exact ⟨h1.1, Int32.toInt_inj.mp (h1.2.trans o1.symm), h2.1, Int32.toInt_inj.mp (h2.2.trans o1.symm)⟩
/-- between a node and itself -/
theorem chk_same (I : qI G) (la : G.Lv a) : Int64.toInt32 (qPa (qSk G a (qRs G a 5 6)) 0) = 5 ∧ Int64.toInt32 (qPa (qSk G a (qRs G a 5 6)) 1) = 1 ∧ Int64.toInt32 (qPa (qSk G a (qRs G a 5 6)) 2) = 6 ∧ Int64.toInt32 (qPa (qSk G a (qRs G a 5 6)) 3) = 1 := by
  have e5 : (5 : Int32).toInt = 5 := by decide
  have e6 : (6 : Int32).toInt = 6 := by decide
  obtain ⟨u1, u2⟩ := rs_z I la (x := 5) (y := 6) (by decide) (by decide)
  obtain ⟨s1, s2⟩ := sk_z I la (by decide) u2 (Int.le_refl _)
  obtain ⟨t1, t2⟩ := ups_t I la
  rw [u1, zDnUp _ _ t1, e5, e6] at s1
  have e : tz (qSk G a (qRs G a 5 6)) = (5 * zV ((G.up a).map (nZz G G.time)), 6 * zV ((G.up a).map (nZz G G.time)), zV ((G.up a).map (nZz G G.time))) := by
    rw [s1]
    unfold zS
    rw [Int.mul_comm _ 5, Int.mul_comm _ 6, Int.mul_one]
  obtain ⟨p0, p1, p2, p3⟩ := sk_parts (V := 0) s2 e (by decide) (by decide)
  exact ⟨Int32.toInt_inj.mp (p0.trans e5.symm), p1, Int32.toInt_inj.mp (p2.trans e6.symm), p3⟩
/-- up, and down again -/
theorem chk_back (I : qI G) (la : G.Lv a) (h1 : Int64.toInt32 (qPa (qRs G a 4 (-7)) 1) = 1) (h3 : Int64.toInt32 (qPa (qRs G a 4 (-7)) 3) = 1) {x y : Int32} (ex : x = Int64.toInt32 (qPa (qRs G a 4 (-7)) 0)) (ey : y = Int64.toInt32 (qPa (qRs G a 4 (-7)) 2)) (hx : -1000 ≤ x.toInt ∧ x.toInt ≤ 1000) (hy : -1000 ≤ y.toInt ∧ y.toInt ≤ 1000) : Int64.toInt32 (qPa (qSk G a (Int32.toInt64 x, Int32.toInt64 y, 1, 0)) 0) = 4 ∧ Int64.toInt32 (qPa (qSk G a (Int32.toInt64 x, Int32.toInt64 y, 1, 0)) 1) = 1 ∧ Int64.toInt32 (qPa (qSk G a (Int32.toInt64 x, Int32.toInt64 y, 1, 0)) 2) = -7 := by
  have e4 : (4 : Int32).toInt = 4 := by decide
  have e7 : (-7 : Int32).toInt = -7 := by decide
  obtain ⟨u1, u2⟩ := rs_z I la (x := 4) (y := -7) (by decide) (by decide)
  obtain ⟨t1, t2⟩ := ups_t I la
  rw [e4, e7] at u1
  generalize eP : qRs G a 4 (-7) = P at *
  obtain ⟨v0, bx, by_⟩ := id u2
  have v0 : 0 < P.2.2.1.toInt := v0
  have bx : -(21849100 - 300 * P.2.2.1.toInt) ≤ P.1.toInt ∧ P.1.toInt ≤ 21849100 - 300 * P.2.2.1.toInt := bx
  have by_ : -(21849100 - 300 * P.2.2.1.toInt) ≤ P.2.1.toInt ∧ P.2.1.toInt ≤ 21849100 - 300 * P.2.2.1.toInt := by_
  rw [qPa1] at h1
  rw [qPa3] at h3
  rw [qPa0] at ex
  rw [qPa2] at ey
  obtain ⟨x0, x1, x2⟩ := part_1 (x := P.1) (u := P.2.2.1) ⟨v0, by omega⟩ (by omega) h1
  obtain ⟨y0, y1, y2⟩ := part_1 (x := P.2.1) (u := P.2.2.1) ⟨v0, by omega⟩ (by omega) h3
  rw [← ex] at x2
  rw [← ey] at y2
  have h0 : wZb (tz (Int32.toInt64 x, Int32.toInt64 y, 1, 0)) 1300 := by
    rw [tzN]
    exact wB_1 (M := 1000) hx hy
  obtain ⟨s1, s2⟩ := sk_z I la (by decide) h0 (by decide)
  rw [tzN] at s1
  -- a multiple of it is the point that came up
  have mul : zS P.2.2.1.toInt (x.toInt, y.toInt, 1) = tz P := by
    unfold zS tz
    rw [Int.mul_comm _ x.toInt, Int.mul_comm _ y.toInt, x2, y2, x1, y1, Int.mul_one]
  have dn : zS P.2.2.1.toInt (tz (qSk G a (Int32.toInt64 x, Int32.toInt64 y, 1, 0))) = zS (zV ((G.up a).map (nZz G G.time))) (4, -7, 1) := by
    rw [s1, ← zDn_S, mul, u1, zDnUp _ _ t1]
  generalize qSk G a (Int32.toInt64 x, Int32.toInt64 y, 1, 0) = Q at *
  generalize zV ((G.up a).map (nZz G G.time)) = V at *
  have q1 : P.2.2.1.toInt * (tz Q).1 = V * 4 := congrArg (fun q : zP => q.1) dn
  have q2 : P.2.2.1.toInt * (tz Q).2.1 = V * (-7) := congrArg (fun q : zP => q.2.1) dn
  have q3 : P.2.2.1.toInt * (tz Q).2.2 = V * 1 := congrArg (fun q : zP => q.2.2) dn
  rw [Int.mul_one] at q3
  have ne : P.2.2.1.toInt ≠ 0 := by omega
  have r1 : (tz Q).1 = 4 * (tz Q).2.2 := Int.eq_of_mul_eq_mul_left ne (by rw [q1, ← q3, Int.mul_left_comm, Int.mul_comm])
  have r2 : (tz Q).2.1 = -7 * (tz Q).2.2 := Int.eq_of_mul_eq_mul_left ne (by rw [q2, ← q3, Int.mul_left_comm, Int.mul_comm])
  have e : tz Q = (4 * (tz Q).2.2, -7 * (tz Q).2.2, (tz Q).2.2) := Prod.ext r1 (Prod.ext r2 rfl)
  obtain ⟨p0, p1, p2, p3⟩ := sk_parts (V := 0) s2 e (by decide) (by decide)
  exact ⟨Int32.toInt_inj.mp (p0.trans e4.symm), p1, Int32.toInt_inj.mp (p2.trans e7.symm)⟩
/-! the whole moves nothing -/
theorem vl_wh (I : qI G) {j : Nat} (hj : j < 3) (t : Int32) : G.vl G.wh j t = 0 := by
  have hp := I.Y.pP G.wh j I.B.wl.1 (by omega)
  have kl : G.kl (G.pr G.wh j) = [] := (I.K.on _ hp).un (I.W.tr j (by omega))
  show qAt G (G.pr G.wh j) (G.kl (G.pr G.wh j)) t = 0
  rw [kl]
  show (G.pp (G.pr G.wh j)).own = 0
  obtain ⟨o0, o1, o2⟩ := I.W.ow
  have : j = 0 ∨ j = 1 ∨ j = 2 := by omega
  rcases this with rfl | rfl | rfl
  · exact o0
  · exact o1
  · exact o2
theorem t64_1 : Int32.toInt64 1 = 1 := by decide
theorem t64_0 : Int32.toInt64 0 = 0 := by decide
theorem lv_wh (I : qI G) (t : Int32) (P : qPt) : qLv G t G.wh P = P := by
  have w0 := vl_wh I (j := 0) (by decide) t
  have w1 := vl_wh I (j := 1) (by decide) t
  have w2 := vl_wh I (j := 2) (by decide) t
  have ov : (G.nd G.wh).over = 1 := I.W.ov
  have un : (G.nd G.wh).under = 1 := I.W.un
  have mi : (G.nd G.wh).mir = 0 := I.W.mi
  obtain ⟨x, y, u, c⟩ := P
  unfold qLv
  rw [w0, w1, w2, ov, un, mi, if_pos rfl, t64_1, t64_0, show (0 : Int32).toNatClampNeg = 0 by decide]
  show (x * 1 + 0 * (u * 1), y * 1 + 0 * (u * 1), u * 1, c) = (x, y, u, c)
  rw [Int64.mul_one, Int64.mul_one, Int64.mul_one, Int64.zero_mul, Int64.add_zero, Int64.add_zero]
theorem en_wh (I : qI G) (t : Int32) (P : qPt) : qEn G t G.wh P = P := by
  have w0 := vl_wh I (j := 0) (by decide) t
  have w1 := vl_wh I (j := 1) (by decide) t
  have w2 := vl_wh I (j := 2) (by decide) t
  have ov : (G.nd G.wh).over = 1 := I.W.ov
  have un : (G.nd G.wh).under = 1 := I.W.un
  have mi : (G.nd G.wh).mir = 0 := I.W.mi
  have ct : (G.nd G.wh).cut = none := I.W.ct
  obtain ⟨x, y, u, c⟩ := P
  have r4 : ∀ x y : Int64, qRot 4 x y = (x, y) := fun x y => by
    show (- -x, - -y) = (x, y)
    rw [Int64.neg_neg, Int64.neg_neg]
  have ex : qEnX G t G.wh (x, y, u, c) = (x, y) := by
    unfold qEnX
    rw [w0, w1, w2, t64_0, show ((4 : Int32) - 0).toNatClampNeg = 4 by decide, r4]
    show (x - 0 * u, y - 0 * u) = (x, y)
    rw [Int64.zero_mul, Int64.sub_zero, Int64.sub_zero]
  have e3 : qEn3 G t G.wh (x, y, u, c) = (x, y, u) := by
    unfold qEn3
    rw [ex, mi, ov, un, if_pos rfl, t64_1]
    show (x * 1, y * 1, u * 1) = (x, y, u)
    rw [Int64.mul_one, Int64.mul_one, Int64.mul_one]
  unfold qEn
  rw [e3, ct]
  rfl
theorem rs_wh (I : qI G) (x y : Int32) : qRs G G.wh x y = (Int32.toInt64 x, Int32.toInt64 y, 1, 0) := by
  unfold qRs
  rw [I.up_wh]
  exact lv_wh I _ _
theorem sk_wh (I : qI G) (P : qPt) : qSk G G.wh P = P := by
  unfold qSk
  rw [I.up_wh]
  exact en_wh I _ _
end BACK
