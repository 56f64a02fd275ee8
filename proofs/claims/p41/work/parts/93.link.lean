/-! The class's points are the whole numbers' points, while sizes are small. -/
section LINKZ
variable {G : qS} {a : Nat}
def nZz (G : qS) (t : Int32) (a : Nat) : zN := ((G.nd a).over.toInt, (G.nd a).under.toInt, decide ((G.nd a).mir ≠ 0), (G.vl a 2 t).toNatClampNeg, (G.vl a 0 t).toInt, (G.vl a 1 t).toInt)
def tz (P : qPt) : zP := (P.1.toInt, P.2.1.toInt, P.2.2.1.toInt)
theorem qI.ok (I : qI G) (ha : G.N a) (t : Int32) : zOk (nZz G t a) := by
  obtain ⟨o1, o2⟩ := I.E.ov a ha
  have v0 := I.vl ha (j := 0) (by decide) t
  have v1 := I.vl ha (j := 1) (by decide) t
  have v2 := I.vl ha (j := 2) (by decide) t
  have v2a : (0 : Int) ≤ (G.vl a 2 t).toInt := v2.1
  have v2b : (G.vl a 2 t).toInt ≤ 3 := v2.2
  have n2 := i32_nat v2a
  refine ⟨o1, o2, ?_, v0, v1⟩
  show (G.vl a 2 t).toNatClampNeg < 4
  omega
theorem i64_neg {x : Int64} (h : -4000000000000000000 ≤ x.toInt ∧ x.toInt ≤ 4000000000000000000) : (-x).toInt = -x.toInt := by
  rw [Int64.toInt_neg]
  exact Int.bmod_eq_of_le (by omega) (by omega)
theorem rot_e {y : Int64} {M : Int} (hM : M ≤ 4000000000000000000) (hy : -M ≤ y.toInt ∧ y.toInt ≤ M) : (-y).toInt = -y.toInt := i64_neg ⟨by omega, by omega⟩
theorem rot_tz (n : Nat) : ∀ (x y : Int64) (M : Int), M ≤ 4000000000000000000 → (-M ≤ x.toInt ∧ x.toInt ≤ M) → (-M ≤ y.toInt ∧ y.toInt ≤ M) → (qRot n x y).1.toInt = (zRot n x.toInt y.toInt).1 ∧ (qRot n x y).2.toInt = (zRot n x.toInt y.toInt).2 := by
  induction n with
  | zero => intro x y M _ _ _; exact ⟨rfl, rfl⟩
  | succ n ih =>
    intro x y M hM hx hy
    have e := rot_e hM hy
    have hy2 : -M ≤ (-y).toInt ∧ (-y).toInt ≤ M := by rw [e]; omega
    have := ih (-y) x M hM hy2 hx
    rw [e] at this
    unfold qRot zRot
    exact this
/-- a point of size W -/
def wZb (P : zP) (W : Int) : Prop := 0 < P.2.2 ∧ (-(W - 300 * P.2.2) ≤ P.1 ∧ P.1 ≤ W - 300 * P.2.2) ∧ (-(W - 300 * P.2.2) ≤ P.2.1 ∧ P.2.1 ≤ W - 300 * P.2.2)
theorem wZb.le {P : zP} {W : Int} (h : wZb P W) : 0 ≤ W - 300 * P.2.2 := by
  obtain ⟨-, h1, -⟩ := h
  omega
theorem wZb.lv {N : zN} (o : zOk N) {P : zP} {W : Int} (h : wZb P W) : wZb (zLv N P) (7 * W) := by
  have h0 := h.le
  obtain ⟨u0, hx, hy⟩ := h
  obtain ⟨m1, m2, m3, m4⟩ := zLv_M o (M := W - 300 * P.2.2) (U := P.2.2) h0 ⟨hx, hy, u0, Int.le_refl _⟩
  exact ⟨m3, ⟨by omega, by omega⟩, by omega, by omega⟩
theorem wZb.en {N : zN} (o : zOk N) {P : zP} {W : Int} (h : wZb P W) : wZb (zEn N P) (7 * W) := by
  have h0 := h.le
  obtain ⟨u0, hx, hy⟩ := h
  obtain ⟨m1, m2, m3, m4⟩ := zEn_M o (M := W - 300 * P.2.2) (U := P.2.2) h0 ⟨hx, hy, u0, Int.le_refl _⟩
  exact ⟨m3, ⟨by omega, by omega⟩, by omega, by omega⟩
theorem i32_64 {x : Int32} : (Int32.toInt64 x).toInt = x.toInt := i64_of
theorem lv_tz (I : qI G) (ha : G.N a) (t : Int32) {P : qPt} {W : Int} (h : wZb (tz P) W) (hW : W ≤ 1000000000000000) : tz (qLv G t a P) = zLv (nZz G t a) (tz P) := by
  have h0 := h.le
  obtain ⟨⟨o1, o2⟩, ⟨n1, n2⟩, t1, x1, y1⟩ := I.ok ha t
  obtain ⟨u0, hx, hy⟩ := h
  obtain ⟨x, y, u, c⟩ := P
  have u0 : 0 < u.toInt := u0
  have hx : -(W - 300 * u.toInt) ≤ x.toInt ∧ x.toInt ≤ W - 300 * u.toInt := hx
  have hy : -(W - 300 * u.toInt) ≤ y.toInt ∧ y.toInt ≤ W - 300 * u.toInt := hy
  have h0 : 0 ≤ W - 300 * u.toInt := h0
  have o1 : 1 ≤ (G.nd a).over.toInt := o1
  have o2 : (G.nd a).over.toInt ≤ 4 := o2
  have n1 : 1 ≤ (G.nd a).under.toInt := n1
  have n2 : (G.nd a).under.toInt ≤ 4 := n2
  have x1 : -200 ≤ (G.vl a 0 t).toInt ∧ (G.vl a 0 t).toInt ≤ 200 := x1
  have y1 : -200 ≤ (G.vl a 1 t).toInt ∧ (G.vl a 1 t).toInt ≤ 200 := y1
  have mx := mul_rg (C := 4) hx (show -4 ≤ (G.nd a).over.toInt ∧ (G.nd a).over.toInt ≤ 4 by omega) h0 (by decide)
  have my := mul_rg (C := 4) hy (show -4 ≤ (G.nd a).over.toInt ∧ (G.nd a).over.toInt ≤ 4 by omega) h0 (by decide)
  have mu := mul_rg (C := 4) (show -u.toInt ≤ u.toInt ∧ u.toInt ≤ u.toInt by omega) (show -4 ≤ (G.nd a).under.toInt ∧ (G.nd a).under.toInt ≤ 4 by omega) (by omega) (by decide)
  have ex : (x * Int32.toInt64 (G.nd a).over).toInt = x.toInt * (G.nd a).over.toInt := by rw [i64_mul (by rw [i32_64]; omega) (by rw [i32_64]; omega), i32_64]
  have ey : (y * Int32.toInt64 (G.nd a).over).toInt = y.toInt * (G.nd a).over.toInt := by rw [i64_mul (by rw [i32_64]; omega) (by rw [i32_64]; omega), i32_64]
  have eu : (u * Int32.toInt64 (G.nd a).under).toInt = u.toInt * (G.nd a).under.toInt := by rw [i64_mul (by rw [i32_64]; omega) (by rw [i32_64]; omega), i32_64]
  have vx := mul_rg x1 mu (by decide) (by omega)
  have vy := mul_rg y1 mu (by decide) (by omega)
  have evx : (Int32.toInt64 (G.vl a 0 t) * (u * Int32.toInt64 (G.nd a).under)).toInt = (G.vl a 0 t).toInt * (u.toInt * (G.nd a).under.toInt) := by rw [i64_mul (by rw [i32_64, eu]; omega) (by rw [i32_64, eu]; omega), i32_64, eu]
  have evy : (Int32.toInt64 (G.vl a 1 t) * (u * Int32.toInt64 (G.nd a).under)).toInt = (G.vl a 1 t).toInt * (u.toInt * (G.nd a).under.toInt) := by rw [i64_mul (by rw [i32_64, eu]; omega) (by rw [i32_64, eu]; omega), i32_64, eu]
  -- the mirror
  have em : (if (G.nd a).mir = 0 then x * Int32.toInt64 (G.nd a).over else -(x * Int32.toInt64 (G.nd a).over)).toInt = zMi (decide ((G.nd a).mir ≠ 0)) (x.toInt * (G.nd a).over.toInt) := by
    unfold zMi
    by_cases q : (G.nd a).mir = 0
    · rw [if_pos q, ex, if_neg (by simp [q])]
    · rw [if_neg q, i64_neg (by rw [ex]; omega), ex, if_pos (by simp [q])]
  have mm := zMi_le (decide ((G.nd a).mir ≠ 0)) mx
  obtain ⟨r1, r2⟩ := rot_tz (G.vl a 2 t).toNatClampNeg (if (G.nd a).mir = 0 then x * Int32.toInt64 (G.nd a).over else -(x * Int32.toInt64 (G.nd a).over)) (y * Int32.toInt64 (G.nd a).over) ((W - 300 * u.toInt) * 4) (by omega) (by rw [em]; exact mm) (by rw [ey]; exact my)
  rw [em, ey] at r1 r2
  obtain ⟨b1, b2⟩ := zRot_le (G.vl a 2 t).toNatClampNeg mm my
  have e1 : ((qRot (G.vl a 2 t).toNatClampNeg (if (G.nd a).mir = 0 then x * Int32.toInt64 (G.nd a).over else -(x * Int32.toInt64 (G.nd a).over)) (y * Int32.toInt64 (G.nd a).over)).1 + Int32.toInt64 (G.vl a 0 t) * (u * Int32.toInt64 (G.nd a).under)).toInt = (zRot (G.vl a 2 t).toNatClampNeg (zMi (decide ((G.nd a).mir ≠ 0)) (x.toInt * (G.nd a).over.toInt)) (y.toInt * (G.nd a).over.toInt)).1 + (G.vl a 0 t).toInt * (u.toInt * (G.nd a).under.toInt) := by
    rw [i64_add (by rw [r1, evx]; omega) (by rw [r1, evx]; omega), r1, evx]
  have e2 : ((qRot (G.vl a 2 t).toNatClampNeg (if (G.nd a).mir = 0 then x * Int32.toInt64 (G.nd a).over else -(x * Int32.toInt64 (G.nd a).over)) (y * Int32.toInt64 (G.nd a).over)).2 + Int32.toInt64 (G.vl a 1 t) * (u * Int32.toInt64 (G.nd a).under)).toInt = (zRot (G.vl a 2 t).toNatClampNeg (zMi (decide ((G.nd a).mir ≠ 0)) (x.toInt * (G.nd a).over.toInt)) (y.toInt * (G.nd a).over.toInt)).2 + (G.vl a 1 t).toInt * (u.toInt * (G.nd a).under.toInt) := by
    rw [i64_add (by rw [r2, evy]; omega) (by rw [r2, evy]; omega), r2, evy]
  exact Prod.ext e1 (Prod.ext e2 eu)
theorem en_tz (I : qI G) (ha : G.N a) (t : Int32) {P : qPt} {W : Int} (h : wZb (tz P) W) (hW : W ≤ 1000000000000000) : tz (qEn G t a P) = zEn (nZz G t a) (tz P) := by
  have h0 := h.le
  obtain ⟨⟨o1, o2⟩, ⟨n1, n2⟩, t1, x1, y1⟩ := I.ok ha t
  have v2 := I.vl ha (j := 2) (by decide) t
  have v2a : (0 : Int) ≤ (G.vl a 2 t).toInt := v2.1
  have v2b : (G.vl a 2 t).toInt ≤ 3 := v2.2
  have nt := i32_nat v2a
  obtain ⟨u0, hx, hy⟩ := h
  obtain ⟨x, y, u, c⟩ := P
  have u0 : 0 < u.toInt := u0
  have hx : -(W - 300 * u.toInt) ≤ x.toInt ∧ x.toInt ≤ W - 300 * u.toInt := hx
  have hy : -(W - 300 * u.toInt) ≤ y.toInt ∧ y.toInt ≤ W - 300 * u.toInt := hy
  have h0 : 0 ≤ W - 300 * u.toInt := h0
  have o1 : 1 ≤ (G.nd a).over.toInt := o1
  have o2 : (G.nd a).over.toInt ≤ 4 := o2
  have n1 : 1 ≤ (G.nd a).under.toInt := n1
  have n2 : (G.nd a).under.toInt ≤ 4 := n2
  have x1 : -200 ≤ (G.vl a 0 t).toInt ∧ (G.vl a 0 t).toInt ≤ 200 := x1
  have y1 : -200 ≤ (G.vl a 1 t).toInt ∧ (G.vl a 1 t).toInt ≤ 200 := y1
  have e4 : (4 : Int32).toInt = 4 := by decide
  have tt : ((4 : Int32) - G.vl a 2 t).toInt = 4 - (G.vl a 2 t).toInt := by rw [i32_sub (by omega) (by omega), e4]
  have tn : ((4 : Int32) - G.vl a 2 t).toNatClampNeg = 4 - (G.vl a 2 t).toNatClampNeg := by
    have := i32_nat (i := (4 : Int32) - G.vl a 2 t) (by omega)
    omega
  have vx := mul_rg x1 (show -u.toInt ≤ u.toInt ∧ u.toInt ≤ u.toInt by omega) (by decide) (by omega)
  have vy := mul_rg y1 (show -u.toInt ≤ u.toInt ∧ u.toInt ≤ u.toInt by omega) (by decide) (by omega)
  have evx : (Int32.toInt64 (G.vl a 0 t) * u).toInt = (G.vl a 0 t).toInt * u.toInt := by rw [i64_mul (by rw [i32_64]; omega) (by rw [i32_64]; omega), i32_64]
  have evy : (Int32.toInt64 (G.vl a 1 t) * u).toInt = (G.vl a 1 t).toInt * u.toInt := by rw [i64_mul (by rw [i32_64]; omega) (by rw [i32_64]; omega), i32_64]
  have ex : (x - Int32.toInt64 (G.vl a 0 t) * u).toInt = x.toInt - (G.vl a 0 t).toInt * u.toInt := by rw [i64_sub (by rw [evx]; omega) (by rw [evx]; omega), evx]
  have ey : (y - Int32.toInt64 (G.vl a 1 t) * u).toInt = y.toInt - (G.vl a 1 t).toInt * u.toInt := by rw [i64_sub (by rw [evy]; omega) (by rw [evy]; omega), evy]
  have bx : -(W - 100 * u.toInt) ≤ x.toInt - (G.vl a 0 t).toInt * u.toInt ∧ x.toInt - (G.vl a 0 t).toInt * u.toInt ≤ W - 100 * u.toInt := by omega
  have by_ : -(W - 100 * u.toInt) ≤ y.toInt - (G.vl a 1 t).toInt * u.toInt ∧ y.toInt - (G.vl a 1 t).toInt * u.toInt ≤ W - 100 * u.toInt := by omega
  obtain ⟨r1, r2⟩ := rot_tz (4 - (G.vl a 2 t).toNatClampNeg) (x - Int32.toInt64 (G.vl a 0 t) * u) (y - Int32.toInt64 (G.vl a 1 t) * u) (W - 100 * u.toInt) (by omega) (by rw [ex]; exact bx) (by rw [ey]; exact by_)
  rw [ex, ey] at r1 r2
  obtain ⟨b1, b2⟩ := zRot_le (4 - (G.vl a 2 t).toNatClampNeg) bx by_
  rw [← r1] at b1
  rw [← r2] at b2
  have em : (if (G.nd a).mir = 0 then (qRot (4 - (G.vl a 2 t).toNatClampNeg) (x - Int32.toInt64 (G.vl a 0 t) * u) (y - Int32.toInt64 (G.vl a 1 t) * u)).1 else -(qRot (4 - (G.vl a 2 t).toNatClampNeg) (x - Int32.toInt64 (G.vl a 0 t) * u) (y - Int32.toInt64 (G.vl a 1 t) * u)).1).toInt = zMi (decide ((G.nd a).mir ≠ 0)) (zRot (4 - (G.vl a 2 t).toNatClampNeg) (x.toInt - (G.vl a 0 t).toInt * u.toInt) (y.toInt - (G.vl a 1 t).toInt * u.toInt)).1 := by
    unfold zMi
    by_cases q : (G.nd a).mir = 0
    · rw [if_pos q, r1, if_neg (by simp [q])]
    · rw [if_neg q, i64_neg (by omega), r1, if_pos (by simp [q])]
  have mm := zMi_le (decide ((G.nd a).mir ≠ 0)) b1
  rw [r1] at mm
  have kx := mul_rg (C := 4) mm (show -4 ≤ (G.nd a).under.toInt ∧ (G.nd a).under.toInt ≤ 4 by omega) (by omega) (by decide)
  have ky := mul_rg (C := 4) b2 (show -4 ≤ (G.nd a).under.toInt ∧ (G.nd a).under.toInt ≤ 4 by omega) (by omega) (by decide)
  have ku := mul_rg (C := 4) (show -u.toInt ≤ u.toInt ∧ u.toInt ≤ u.toInt by omega) (show -4 ≤ (G.nd a).over.toInt ∧ (G.nd a).over.toInt ≤ 4 by omega) (by omega) (by decide)
  refine Prod.ext ?_ (Prod.ext ?_ ?_)
  · show ((if (G.nd a).mir = 0 then (qRot ((4 : Int32) - G.vl a 2 t).toNatClampNeg (x - Int32.toInt64 (G.vl a 0 t) * u) (y - Int32.toInt64 (G.vl a 1 t) * u)).1 else -(qRot ((4 : Int32) - G.vl a 2 t).toNatClampNeg (x - Int32.toInt64 (G.vl a 0 t) * u) (y - Int32.toInt64 (G.vl a 1 t) * u)).1) * Int32.toInt64 (G.nd a).under).toInt = _
    rw [tn, i64_mul (by rw [i32_64, em]; omega) (by rw [i32_64, em]; omega), i32_64, em]
    rfl
  · show ((qRot ((4 : Int32) - G.vl a 2 t).toNatClampNeg (x - Int32.toInt64 (G.vl a 0 t) * u) (y - Int32.toInt64 (G.vl a 1 t) * u)).2 * Int32.toInt64 (G.nd a).under).toInt = _
    rw [tn, i64_mul (by rw [i32_64]; omega) (by rw [i32_64]; omega), i32_64, r2]
    rfl
  · show (u * Int32.toInt64 (G.nd a).over).toInt = _
    rw [i64_mul (by rw [i32_64]; omega) (by rw [i32_64]; omega), i32_64]
    rfl
/-- sizes along a way of at most 5 -/
def pw7 : Nat → Int
  | 0 => 1
  | n + 1 => 7 * pw7 n
theorem pw7_pos : ∀ n, 1 ≤ pw7 n
  | 0 => by decide
  | n + 1 => by have := pw7_pos n; unfold pw7; omega
theorem pw7_mul (W : Int) (n : Nat) : 7 * W * pw7 n = W * pw7 (n + 1) := by
  show _ = W * (7 * pw7 n)
  rw [Int.mul_comm 7 W, Int.mul_assoc]
theorem up_tz (I : qI G) (t : Int32) : ∀ (l : List Nat) (P : qPt) (W : Int), (∀ a, a ∈ l → G.N a) → 0 ≤ W → wZb (tz P) W → W * pw7 l.length ≤ 1000000000000000 → tz (qUpP G t l P) = zUp (l.map (nZz G t)) (tz P) ∧ wZb (tz (qUpP G t l P)) (W * pw7 l.length)
  | [], P, W, _, _, h, _ => ⟨rfl, by show wZb _ (W * 1); rw [Int.mul_one]; exact h⟩
  | a :: l, P, W, hl, w0, h, hW => by
    have na := hl a List.mem_cons_self
    have hW : W * pw7 (l.length + 1) ≤ 1000000000000000 := hW
    have p1 := pw7_pos (l.length + 1)
    have hW1 : W ≤ W * pw7 (l.length + 1) := by
      have := Int.mul_le_mul_of_nonneg_left p1 w0
      rw [Int.mul_one] at this
      exact this
    have e := lv_tz I na t h (by omega)
    have h2 : wZb (tz (qLv G t a P)) (7 * W) := by rw [e]; exact h.lv (I.ok na t)
    obtain ⟨i1, i2⟩ := up_tz I t l (qLv G t a P) (7 * W) (fun b hb => hl b (List.mem_cons_of_mem _ hb)) (by omega) h2 (by rw [pw7_mul]; exact hW)
    rw [pw7_mul] at i2
    refine ⟨?_, i2⟩
    rw [e] at i1
    exact i1
theorem dn_tz (I : qI G) (t : Int32) : ∀ (l : List Nat) (P : qPt) (W : Int), (∀ a, a ∈ l → G.N a) → 0 ≤ W → wZb (tz P) W → W * pw7 l.length ≤ 1000000000000000 → tz (qDnP G t l P) = zDn (l.map (nZz G t)) (tz P) ∧ wZb (tz (qDnP G t l P)) (W * pw7 l.length)
  | [], P, W, _, _, h, _ => ⟨rfl, by show wZb _ (W * 1); rw [Int.mul_one]; exact h⟩
  | a :: l, P, W, hl, w0, h, hW => by
    have na := hl a List.mem_cons_self
    have hW : W * pw7 (l.length + 1) ≤ 1000000000000000 := hW
    have p0 := pw7_pos l.length
    have hW0 : W * pw7 l.length ≤ W * pw7 (l.length + 1) := by
      refine Int.mul_le_mul_of_nonneg_left ?_ w0
      show pw7 l.length ≤ 7 * pw7 l.length
      omega
    obtain ⟨i1, i2⟩ := dn_tz I t l P W (fun b hb => hl b (List.mem_cons_of_mem _ hb)) w0 h (by omega)
    have e := en_tz I na t i2 (by omega)
    have h2 := i2.en (I.ok na t)
    rw [← e] at h2
    refine ⟨?_, ?_⟩
    · show tz (qEn G t a (qDnP G t l P)) = zEn (nZz G t a) (zDn (l.map (nZz G t)) (tz P))
      rw [e, i1]
    · show wZb (tz (qEn G t a (qDnP G t l P))) (W * (7 * pw7 l.length))
      rw [show W * (7 * pw7 l.length) = 7 * (W * pw7 l.length) by rw [← Int.mul_assoc, Int.mul_comm W 7, Int.mul_assoc]]
      exact h2
theorem pw7_5 {n : Nat} (h : n ≤ 5) : pw7 n ≤ 16807 := by
  match n, h with
  | 0, _ => decide
  | 1, _ => decide
  | 2, _ => decide
  | 3, _ => decide
  | 4, _ => decide
  | 5, _ => decide
  | n + 6, h => omega
theorem w_pw {W : Int} {n : Nat} (w0 : 0 ≤ W) (h : n ≤ 5) : W * pw7 n ≤ W * 16807 := Int.mul_le_mul_of_nonneg_left (pw7_5 h) w0
theorem wZb.mono {P : zP} {W W2 : Int} (h : wZb P W) (e : W ≤ W2) : wZb P W2 := by
  obtain ⟨u0, hx, hy⟩ := h
  exact ⟨u0, by omega, by omega⟩
theorem up5 (I : qI G) (la : G.Lv a) (t : Int32) (P : qPt) {W : Int} (w0 : 0 ≤ W) (h : wZb (tz P) W) (hW : W ≤ 10000000000) : tz (qUpP G t (G.up a) P) = zUp ((G.up a).map (nZz G t)) (tz P) ∧ wZb (tz (qUpP G t (G.up a) P)) (W * 16807) := by
  obtain ⟨c, l5⟩ := I.V.up a la
  have := w_pw w0 l5
  obtain ⟨i1, i2⟩ := up_tz I t (G.up a) P W (fun b hb => c.D b hb) w0 h (by omega)
  exact ⟨i1, i2.mono this⟩
theorem dn5 (I : qI G) (la : G.Lv a) (t : Int32) (P : qPt) {W : Int} (w0 : 0 ≤ W) (h : wZb (tz P) W) (hW : W ≤ 10000000000) : tz (qDnP G t (G.up a) P) = zDn ((G.up a).map (nZz G t)) (tz P) ∧ wZb (tz (qDnP G t (G.up a) P)) (W * 16807) := by
  obtain ⟨c, l5⟩ := I.V.up a la
  have := w_pw w0 l5
  obtain ⟨i1, i2⟩ := dn_tz I t (G.up a) P W (fun b hb => c.D b hb) w0 h (by omega)
  exact ⟨i1, i2.mono this⟩
theorem nZ_ok (I : qI G) (la : G.Lv a) (t : Int32) : ∀ N, N ∈ (G.up a).map (nZz G t) → zOk N := by
  obtain ⟨c, -⟩ := I.V.up a la
  intro N hN
  obtain ⟨b, hb, rfl⟩ := List.mem_map.mp hN
  exact I.ok (c.D b hb) t
/-! the divisor -/
theorem zGl_dvd2 {d : Nat} : ∀ (n a b : Nat), d ∣ a → d ∣ b → d ∣ zGl n a b
  | 0, a, b, h1, _ => h1
  | n + 1, a, b, h1, h2 => by
    unfold zGl
    by_cases q : b = 0
    · rw [if_pos q]; exact h1
    · rw [if_neg q]
      exact zGl_dvd2 n b (a % b) h2 ((Nat.dvd_mod_iff h2).mpr h1)
theorem qGl_z : ∀ (n : Nat) (a b : Int64), 0 ≤ a.toInt → 0 ≤ b.toInt → a.toInt ≤ 4000000000000000000 → b.toInt ≤ 4000000000000000000 → (qGl n a b).toInt = (zGl n a.toInt.toNat b.toInt.toNat : Nat)
  | 0, a, b, h1, _, _, _ => by
    show a.toInt = ((a.toInt.toNat : Nat) : Int)
    omega
  | n + 1, a, b, h1, h2, h3, h4 => by
    unfold qGl zGl
    by_cases q : b = 0
    · have e : b.toInt = 0 := by rw [q]; decide
      rw [if_pos q, if_pos (by omega)]
      omega
    · have e : b.toInt ≠ 0 := fun z => q (Int64.toInt_inj.mp (by rw [z]; decide))
      rw [if_neg q, if_neg (by omega)]
      have d1 : (a / b).toInt = a.toInt / b.toInt := by
        rw [i64_div (by rw [Int.tdiv_eq_ediv_of_nonneg h1]; have := Int.ediv_nonneg h1 h2; omega) (by rw [Int.tdiv_eq_ediv_of_nonneg h1]; have := Int.ediv_le_self b.toInt h1; omega), Int.tdiv_eq_ediv_of_nonneg h1]
      have m1 := Int.emod_add_mul_ediv a.toInt b.toInt
      have m2 := Int.emod_nonneg a.toInt e
      have m3 := Int.emod_lt_of_pos a.toInt (show 0 < b.toInt by omega)
      have c1 : a.toInt / b.toInt * b.toInt = b.toInt * (a.toInt / b.toInt) := Int.mul_comm _ _
      have d2 : (a / b * b).toInt = a.toInt / b.toInt * b.toInt := by
        rw [i64_mul (by rw [d1]; omega) (by rw [d1]; omega), d1]
      have d3 : (a - a / b * b).toInt = a.toInt % b.toInt := by
        rw [i64_sub (by rw [d2]; omega) (by rw [d2]; omega), d2]
        omega
      rw [qGl_z n b (a - a / b * b) h2 (by rw [d3]; exact m2) h4 (by rw [d3]; omega), d3]
      have : (a.toInt % b.toInt).toNat = a.toInt.toNat % b.toInt.toNat := by
        apply Int.ofNat_inj.mp
        rw [Int.toNat_of_nonneg m2, Int.natCast_emod, Int.toNat_of_nonneg h1, Int.toNat_of_nonneg h2]
      rw [this]
theorem qAb_z {x : Int64} (h : -4000000000000000000 ≤ x.toInt ∧ x.toInt ≤ 4000000000000000000) : (qAb x).toInt = (x.toInt.natAbs : Int) := by
  unfold qAb
  by_cases q : 0 ≤ x
  · have q2 : 0 ≤ x.toInt := by
      have := Int64.le_iff_toInt_le.mp q
      have e : (0 : Int64).toInt = 0 := by decide
      omega
    rw [if_pos q]; omega
  · have q2 : ¬ 0 ≤ x.toInt := fun z => q (Int64.le_iff_toInt_le.mpr (by have e : (0 : Int64).toInt = 0 := by decide
                                                                         omega))
    rw [if_neg q, i64_neg h]; omega
/-- the greatest divisor -/
theorem qCd_z {x u : Int64} (hx : -1000000000000000 ≤ x.toInt ∧ x.toInt ≤ 1000000000000000) (hu : 0 < u.toInt ∧ u.toInt ≤ 1000000000000000) : ∃ g : Nat, (qCd x u).toInt = g ∧ 0 < g ∧ g ∣ x.toInt.natAbs ∧ g ∣ u.toInt.natAbs ∧ ∀ d : Nat, d ∣ x.toInt.natAbs → d ∣ u.toInt.natAbs → d ∣ g := by
  have a1 := qAb_z (x := x) (by omega)
  have a2 := qAb_z (x := u) (by omega)
  have e := qGl_z 200 (qAb x) (qAb u) (by omega) (by omega) (by omega) (by omega)
  rw [a1, a2, Int.toNat_natCast, Int.toNat_natCast] at e
  have p2 : u.toInt.natAbs < 2 ^ 50 := by
    have : (2 : Nat) ^ 50 = 1125899906842624 := by decide
    omega
  obtain ⟨d1, d2⟩ := zGl_dvd 50 200 x.toInt.natAbs u.toInt.natAbs p2 (by decide)
  have d3 := fun (d : Nat) h1 h2 => zGl_dvd2 (d := d) 200 x.toInt.natAbs u.toInt.natAbs h1 h2
  generalize zGl 200 x.toInt.natAbs u.toInt.natAbs = g at *
  have g0 : 0 < g := Nat.pos_of_dvd_of_pos d2 (by omega)
  refine ⟨g, ?_, g0, d1, d2, d3⟩
  unfold qCd
  rw [if_neg, e]
  intro z
  have := Int64.le_iff_toInt_le.mp z
  have e0 : (0 : Int64).toInt = 0 := by decide
  omega
end LINKZ
