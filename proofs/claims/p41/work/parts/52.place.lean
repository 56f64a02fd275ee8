/-! Points, bounds, and who covers: the walks of the class's questions. -/
section PLC
variable {G : qS} {F : Nat → Option fCe} {X : Nat × Nat × (Nat → Int32)} {k : Nat} {h : fSt} {a : Nat}
theorem i32_le {a b : Int32} (q : a.toInt ≤ b.toInt) : a ≤ b := Int32.le_iff_toInt_le.mpr q
theorem i32_lt2 {a b : Int32} (q : a.toInt < b.toInt) : a < b := Int32.lt_iff_toInt_lt.mpr q
theorem i32_nle {a b : Int32} (q : b.toInt < a.toInt) : ¬ a ≤ b := fun z => by have := Int32.le_iff_toInt_le.mp z; omega
theorem i32_nlt {a b : Int32} (q : b.toInt ≤ a.toInt) : ¬ a < b := fun z => by have := Int32.lt_iff_toInt_lt.mp z; omega
theorem i32_s {i : Int32} (h1 : -100 ≤ i.toInt) (h2 : i.toInt ≤ 100000) : (i + 1).toInt = i.toInt + 1 := by
  have e : (1 : Int32).toInt = 1 := by decide
  rw [i32_add (by omega) (by omega), e]
theorem x_strL (R : qR G F X k h) (V : qV G) (t : Int32) : ∀ (l : List Nat) (a d : Nat) (i : Int32), Ch G.parF G.N (a :: l) (some a) → l.length < d → 0 ≤ i.toInt → (l.length : Int) + i.toInt ≤ 4 → f_X7_strengthOf d (some a) t i h = some (qStr G t (a :: l), h)
  | [], a, d + 1, i, c, _, _, _ => by
    obtain ⟨-, ha, c2⟩ := c
    have e : (G.nd a).par = none := c2
    rw [st_X7_strengthOf]
    unfold f_X7_strengthOf_L0 f_X7_strengthOf_L12 f_X7_strengthOf_L17 f_X7_strengthOf_L38
    simp +decide only [gN_par R ha, e, gN_opac R ha, (V.px a ha).2.2.2, oP R (V.pP a 3 ha (by decide)), x_at R V ha (show 3 < 4 by decide), Option.bind_some, if_true, if_false]
    rfl
  | b :: l, a, d + 1, i, c, hd, hi, hj => by
    obtain ⟨-, ha, c2⟩ := c
    have c3 := c2
    obtain ⟨e, hb, c4⟩ := c2
    have e : (G.nd a).par = some b := e
    have hd2 : l.length + 1 < d + 1 := hd
    have hj2 : ((l.length + 1 : Nat) : Int) + i.toInt ≤ 4 := hj
    have i4 : i < 4 := i32_lt2 (by have e4 : (4 : Int32).toInt = 4 := by decide
                                   omega)
    have i1 := i32_s (i := i) (by omega) (by omega)
    have c5 : Ch G.parF G.N (b :: l) (some b) := ⟨rfl, hb, c4⟩
    have ih := x_strL R V t l b d (i + 1) c5 (by omega) (by omega) (by omega)
    rw [st_X7_strengthOf]
    unfold f_X7_strengthOf_L0 f_X7_strengthOf_L17 f_X7_strengthOf_L38
    simp +decide only [gN_par R ha, e, i4, gN_opac R ha, (V.px a ha).2.2.2, oP R (V.pP a 3 ha (by decide)), x_at R V ha (show 3 < 4 by decide), ih, Option.bind_some, if_true, if_false, reduceCtorEq]
    rfl
theorem qUp_hd (G : qS) (a n : Nat) : qUp G (n + 1) (some a) = a :: qUp G n (G.nd a).par := rfl
theorem qS.up_hd (G : qS) (a : Nat) : ∃ l, G.up a = a :: l := ⟨_, rfl⟩
theorem x_str (R : qR G F X k h) (V : qV G) (t : Int32) (ha : G.Lv a) : f_X7_strengthOf 8 (some a) t 0 h = some (qStr G t (G.up a), h) := by
  obtain ⟨c, hl⟩ := V.up a ha
  obtain ⟨l, e⟩ := G.up_hd a
  rw [e] at c hl ⊢
  have hl2 : l.length + 1 ≤ 5 := hl
  exact x_strL R V t l a 8 0 c (by omega) (by decide) (by have e0 : (0 : Int32).toInt = 0 := by decide
                                                          omega)
/-! points -/
abbrev qPt : Type := Int64 × Int64 × Int64 × Int32
def PTq (p : Nat) (P : qPt) (h : fSt) : fSt := PT p P.1 P.2.1 P.2.2.1 P.2.2.2 h
def qRot : Nat → Int64 → Int64 → Int64 × Int64
  | 0, x, y => (x, y)
  | n + 1, x, y => qRot n (-y) x
theorem x_tqL {p : Nat} {u : Int64} {c : Int32} (t : Int32) : ∀ (m n : Nat) (i : Int32) (x y : Int64), m < n → 0 ≤ i.toInt → i.toInt + m = t.toInt → t.toInt ≤ 100 → f_X5_turnQuarters_L2 n (some p) t i (PT p x y u c h) = some ((), PT p (qRot m x y).1 (qRot m x y).2 u c h)
  | 0, n + 1, i, x, y, _, _, e, _ => by
    rw [st_X5_turnQuarters_L2, if_pos (i32_le (by omega))]
    rfl
  | m + 1, n + 1, i, x, y, hn, h0, e, ht => by
    rw [st_X5_turnQuarters_L2, if_neg (i32_nle (by omega))]
    simp only [gP0, gP1, wP0, wP1, Option.bind_some]
    rw [x_tqL t m n (i + 1) (-y) x (by omega) (by rw [i32_s (by omega) (by omega)]; omega) (by rw [i32_s (by omega) (by omega)]; omega) ht]
    rfl
theorem x_tq {p : Nat} {x y u : Int64} {c t : Int32} (h0 : 0 ≤ t.toInt) (h1 : t.toInt ≤ 100) : f_X5_turnQuarters p t (PT p x y u c h) = some ((), PT p (qRot t.toNatClampNeg x y).1 (qRot t.toNatClampNeg x y).2 u c h) := by
  unfold f_X5_turnQuarters f_X5_turnQuarters_L0
  have e : (t.toNatClampNeg : Int) = t.toInt := by
    show ((t.toInt.toNat : Nat) : Int) = t.toInt
    omega
  exact x_tqL t _ 4096 0 x y (by omega) (by decide) (by have e0 : (0 : Int32).toInt = 0 := by decide
                                                        omega) h1
def qLv (G : qS) (t : Int32) (a : Nat) (P : qPt) : qPt :=
  ((qRot (G.vl a 2 t).toNatClampNeg (if (G.nd a).mir = 0 then P.1 * Int32.toInt64 (G.nd a).over else -(P.1 * Int32.toInt64 (G.nd a).over)) (P.2.1 * Int32.toInt64 (G.nd a).over)).1 + Int32.toInt64 (G.vl a 0 t) * (P.2.2.1 * Int32.toInt64 (G.nd a).under),
   (qRot (G.vl a 2 t).toNatClampNeg (if (G.nd a).mir = 0 then P.1 * Int32.toInt64 (G.nd a).over else -(P.1 * Int32.toInt64 (G.nd a).over)) (P.2.1 * Int32.toInt64 (G.nd a).over)).2 + Int32.toInt64 (G.vl a 1 t) * (P.2.2.1 * Int32.toInt64 (G.nd a).under),
   P.2.2.1 * Int32.toInt64 (G.nd a).under, P.2.2.2)
theorem x_leave (R : qR G F X k h) (V : qV G) (ha : G.N a) (t : Int32) (P : qPt) : f_X5_leave G.pt (some a) t (PTq G.pt P h) = some ((), PTq G.pt (qLv G t a P) h) := by
  obtain ⟨x, y, u, c⟩ := P
  obtain ⟨e0, e1, e2, e3⟩ := V.px a ha
  have p0 := V.pP a 0 ha (by decide)
  have p1 := V.pP a 1 ha (by decide)
  have p2 := V.pP a 2 ha (by decide)
  obtain ⟨t0, t1⟩ := V.tn a t ha
  have r := fun (x y u : Int64) (c : Int32) => R.s_pt x y u c
  unfold f_X5_leave f_X5_leave_L0 f_X5_leave_L58 PTq qLv
  by_cases q : (G.nd a).mir = 0
  · simp only [gP0, gP1, gP2, wP0, wP1, wP2, oP_PT, gN_over (r _ _ _ _) ha, gN_under (r _ _ _ _) ha, gN_mir (r _ _ _ _) ha, gN_x (r _ _ _ _) ha, gN_y (r _ _ _ _) ha, gN_turns (r _ _ _ _) ha, e0, e1, e2, oP (r _ _ _ _) p0, oP (r _ _ _ _) p1, oP (r _ _ _ _) p2, x_at (r _ _ _ _) V ha (show 0 < 4 by decide), x_at (r _ _ _ _) V ha (show 1 < 4 by decide), x_at (r _ _ _ _) V ha (show 2 < 4 by decide), x_tq t0 (Int.le_trans t1 (by decide)), Option.bind_some, q, if_true]
  · simp only [gP0, gP1, gP2, wP0, wP1, wP2, oP_PT, gN_over (r _ _ _ _) ha, gN_under (r _ _ _ _) ha, gN_mir (r _ _ _ _) ha, gN_x (r _ _ _ _) ha, gN_y (r _ _ _ _) ha, gN_turns (r _ _ _ _) ha, e0, e1, e2, oP (r _ _ _ _) p0, oP (r _ _ _ _) p1, oP (r _ _ _ _) p2, x_at (r _ _ _ _) V ha (show 0 < 4 by decide), x_at (r _ _ _ _) V ha (show 1 < 4 by decide), x_at (r _ _ _ _) V ha (show 2 < 4 by decide), x_tq t0 (Int.le_trans t1 (by decide)), Option.bind_some, q, if_false]
def qHo (m : qM) (x y u : Int64) : Bool := decide (¬ x < Int32.toInt64 m.left * u ∧ ¬ Int32.toInt64 m.right * u < x ∧ ¬ y < Int32.toInt64 m.top * u ∧ ¬ Int32.toInt64 m.bot * u < y)
theorem x_holds (R : qR G F X k h) {m : Nat} (hm : G.M m) (P : qPt) : f_X2_holds m (some G.pt) (PTq G.pt P h) = some (if qHo (G.fm m) P.1 P.2.1 P.2.2.1 then 1 else 0, PTq G.pt P h) := by
  obtain ⟨x, y, u, c⟩ := P
  have r := R.s_pt x y u c
  unfold f_X2_holds f_X2_holds_L0 f_X2_holds_L76 f_X2_holds_L77 PTq qHo
  simp only [gP0, gP1, gP2, gM_left r hm, gM_top r hm, gM_right r hm, gM_bot r hm, Option.bind_some]
  by_cases q1 : x < Int32.toInt64 (G.fm m).left * u
  · simp [q1]
  by_cases q2 : Int32.toInt64 (G.fm m).right * u < x
  · simp [q1, q2]
  by_cases q3 : y < Int32.toInt64 (G.fm m).top * u
  · simp [q1, q2, q3]
  by_cases q4 : Int32.toInt64 (G.fm m).bot * u < y
  · simp [q1, q2, q3, q4]
  simp [q1, q2, q3, q4]
def qSl (m : qM) (x y u : Int64) : Bool := decide (¬ u * Int32.toInt64 m.right * Int32.toInt64 m.bot < x * Int32.toInt64 m.bot + y * Int32.toInt64 m.right)
theorem x_slope (R : qR G F X k h) {m : Nat} (hm : G.M m) (P : qPt) : f_X2_isAheadOfSlope m (some G.pt) (PTq G.pt P h) = some (if qSl (G.fm m) P.1 P.2.1 P.2.2.1 then 1 else 0, PTq G.pt P h) := by
  obtain ⟨x, y, u, c⟩ := P
  have r := R.s_pt x y u c
  unfold f_X2_isAheadOfSlope f_X2_isAheadOfSlope_L0 f_X2_isAheadOfSlope_L46 PTq qSl
  simp only [gP0, gP1, gP2, gM_right r hm, gM_bot r hm, Option.bind_some]
  by_cases q1 : u * Int32.toInt64 (G.fm m).right * Int32.toInt64 (G.fm m).bot < x * Int32.toInt64 (G.fm m).bot + y * Int32.toInt64 (G.fm m).right
  · simp [q1]
  · simp [q1]
/-- behind a cut -/
def qCu (G : qS) (o : Option Nat) (x y u : Int64) (c : Int32) : Int32 := match o with
  | none => c
  | some m => if qHo (G.fm m) x y u then c else 1
def qEnX (G : qS) (t : Int32) (a : Nat) (P : qPt) : Int64 × Int64 := qRot (4 - G.vl a 2 t).toNatClampNeg (P.1 - Int32.toInt64 (G.vl a 0 t) * P.2.2.1) (P.2.1 - Int32.toInt64 (G.vl a 1 t) * P.2.2.1)
def qEn3 (G : qS) (t : Int32) (a : Nat) (P : qPt) : Int64 × Int64 × Int64 :=
  ((if (G.nd a).mir = 0 then (qEnX G t a P).1 else -(qEnX G t a P).1) * Int32.toInt64 (G.nd a).under, (qEnX G t a P).2 * Int32.toInt64 (G.nd a).under, P.2.2.1 * Int32.toInt64 (G.nd a).over)
def qEn (G : qS) (t : Int32) (a : Nat) (P : qPt) : qPt :=
  ((qEn3 G t a P).1, (qEn3 G t a P).2.1, (qEn3 G t a P).2.2, qCu G (G.nd a).cut (qEn3 G t a P).1 (qEn3 G t a P).2.1 (qEn3 G t a P).2.2 P.2.2.2)
theorem x_enter76 (R : qR G F X k h) (V : qV G) (ha : G.N a) (P : qPt) : f_X5_enter_L76 (some G.pt) (some a) (PTq G.pt P h) = some ((), PTq G.pt (P.1 * Int32.toInt64 (G.nd a).under, P.2.1 * Int32.toInt64 (G.nd a).under, P.2.2.1 * Int32.toInt64 (G.nd a).over, qCu G (G.nd a).cut (P.1 * Int32.toInt64 (G.nd a).under) (P.2.1 * Int32.toInt64 (G.nd a).under) (P.2.2.1 * Int32.toInt64 (G.nd a).over) P.2.2.2) h) := by
  obtain ⟨x, y, u, c⟩ := P
  have r := fun (x y u : Int64) (c : Int32) => R.s_pt x y u c
  unfold f_X5_enter_L76 f_X5_enter_L141 PTq qCu
  simp only [gP0, gP1, gP2, wP0, wP1, wP2, gN_over (r _ _ _ _) ha, gN_under (r _ _ _ _) ha, gN_cut (r _ _ _ _) ha, Option.bind_some]
  cases e : (G.nd a).cut with
  | none => simp only [if_true]
  | some m =>
    have hm := V.ct a m ha e
    have e2 := x_holds R hm (x * Int32.toInt64 (G.nd a).under, y * Int32.toInt64 (G.nd a).under, u * Int32.toInt64 (G.nd a).over, c)
    unfold PTq at e2
    dsimp only at e2
    simp only [oM (r _ _ _ _) hm, e2, Option.bind_some, reduceCtorEq, if_false]
    by_cases q : qHo (G.fm m) (x * Int32.toInt64 (G.nd a).under) (y * Int32.toInt64 (G.nd a).under) (u * Int32.toInt64 (G.nd a).over) = true
    · simp +decide only [q, if_true, if_false]
    · simp +decide only [q, if_true, if_false, wP3 (Or.inr rfl), Option.bind_some]
theorem x_enter (R : qR G F X k h) (V : qV G) (ha : G.N a) (t : Int32) (P : qPt) : f_X5_enter G.pt (some a) t (PTq G.pt P h) = some ((), PTq G.pt (qEn G t a P) h) := by
  obtain ⟨e0, e1, e2, e3⟩ := V.px a ha
  have p0 := V.pP a 0 ha (by decide)
  have p1 := V.pP a 1 ha (by decide)
  have p2 := V.pP a 2 ha (by decide)
  obtain ⟨t0, t1⟩ := V.tn a t ha
  have e4 : (4 : Int32).toInt = 4 := by decide
  have t2 : ((4 : Int32) - G.vl a 2 t).toInt = 4 - (G.vl a 2 t).toInt := by rw [i32_sub (by omega) (by omega), e4]
  have r := fun (x y u : Int64) (c : Int32) => R.s_pt x y u c
  have last := fun (P : qPt) => x_enter76 R V ha P
  unfold PTq at last
  unfold f_X5_enter f_X5_enter_L0
  obtain ⟨x, y, u, c⟩ := P
  have tq := fun (x y : Int64) => x_tq (h := h) (p := G.pt) (x := x) (y := y) (u := u) (c := c) (t := (4 : Int32) - G.vl a 2 t) (by omega) (by omega)
  unfold PTq qEn qEn3 qEnX
  by_cases q : (G.nd a).mir = 0
  · simp only [gP0, gP1, gP2, wP0, wP1, wP2, oP_PT, gN_mir (r _ _ _ _) ha, gN_x (r _ _ _ _) ha, gN_y (r _ _ _ _) ha, gN_turns (r _ _ _ _) ha, e0, e1, e2, oP (r _ _ _ _) p0, oP (r _ _ _ _) p1, oP (r _ _ _ _) p2, x_at (r _ _ _ _) V ha (show 0 < 4 by decide), x_at (r _ _ _ _) V ha (show 1 < 4 by decide), x_at (r _ _ _ _) V ha (show 2 < 4 by decide), tq, Option.bind_some, q, if_true]
    exact last (_, _, u, c)
  · simp only [gP0, gP1, gP2, wP0, wP1, wP2, oP_PT, gN_mir (r _ _ _ _) ha, gN_x (r _ _ _ _) ha, gN_y (r _ _ _ _) ha, gN_turns (r _ _ _ _) ha, e0, e1, e2, oP (r _ _ _ _) p0, oP (r _ _ _ _) p1, oP (r _ _ _ _) p2, x_at (r _ _ _ _) V ha (show 0 < 4 by decide), x_at (r _ _ _ _) V ha (show 1 < 4 by decide), x_at (r _ _ _ _) V ha (show 2 < 4 by decide), tq, Option.bind_some, q, if_false]
    exact last (_, _, u, c)
/-- up to the whole, down from it -/
def qUpP (G : qS) (t : Int32) : List Nat → qPt → qPt
  | [], P => P
  | a :: l, P => qUpP G t l (qLv G t a P)
def qDnP (G : qS) (t : Int32) : List Nat → qPt → qPt
  | [], P => P
  | a :: l, P => qEn G t a (qDnP G t l P)
theorem x_raiseL (V : qV G) : ∀ (l : List Nat) (o : Option Nat) (n : Nat) (P : qPt), Ch G.parF G.N l o → l.length < n → qR G F X k h → f_X7_raise_L15 n (some G.z) o (PTq G.pt P h) = some ((), PTq G.pt (qUpP G G.time l P) h)
  | [], o, n + 1, P, c, _, _ => by
    obtain rfl : o = none := c
    rw [sN_X7_raise_L15]
    rfl
  | a :: l, o, n + 1, P, c, hn, R => by
    obtain ⟨rfl, ha, c2⟩ := c
    have hn2 : l.length + 1 < n + 1 := hn
    have r := fun (P : qPt) => R.s_pt P.1 P.2.1 P.2.2.1 P.2.2.2
    have r : ∀ P : qPt, qR G F X k (PTq G.pt P h) := r
    rw [sS_X7_raise_L15, gS_pt (r P), Option.bind_some, gS_time (r P), Option.bind_some, oPt (r P), Option.bind_some, x_leave R V ha, Option.bind_some]
    dsimp only
    rw [gN_par (r _) ha, Option.bind_some, x_raiseL V l _ n _ c2 (by omega) R]
    rfl
theorem x_set (R : qR G F X k h) (x y u : Int64) : f_X5_set G.pt x y u h = some ((), PTq G.pt (x, y, u, 0) h) := by
  obtain ⟨x0, y0, u0, c0, e⟩ := R.pt
  rw [← PT_self e]
  unfold f_X5_set f_X5_set_L0 PTq
  simp only [wP0, wP1, wP2, wP3 (Or.inl rfl), Option.bind_some, PT_PT]
theorem x_raise (R : qR G F X k h) (V : qV G) (ha : G.Lv a) (x y : Int32) : f_X7_raise G.z (some a) x y h = some ((), PTq G.pt (qUpP G G.time (G.up a) (Int32.toInt64 x, Int32.toInt64 y, 1, 0)) h) := by
  obtain ⟨c, hl⟩ := V.up a ha
  unfold f_X7_raise f_X7_raise_L0
  rw [gS_pt R, Option.bind_some, oPt R, Option.bind_some, x_set R, Option.bind_some]
  exact x_raiseL V _ _ 4096 _ c (by omega) R
theorem x_sinkL (R : qR G F X k h) (V : qV G) (t : Int32) : ∀ (l : List Nat) (a d : Nat) (i : Int32) (P : qPt), Ch G.parF G.N (a :: l) (some a) → l.length < d → 0 ≤ i.toInt → (l.length : Int) + i.toInt ≤ 4 → f_X7_sink d (some G.pt) (some a) t i (PTq G.pt P h) = some ((), PTq G.pt (qDnP G t (a :: l) P) h)
  | [], a, d + 1, i, P, c, _, _, _ => by
    obtain ⟨-, ha, c2⟩ := c
    have e : (G.nd a).par = none := c2
    have r : ∀ P : qPt, qR G F X k (PTq G.pt P h) := fun P => R.s_pt P.1 P.2.1 P.2.2.1 P.2.2.2
    rw [st_X7_sink]
    unfold f_X7_sink_L0 f_X7_sink_L24
    simp only [gN_par (r P) ha, e, oPt (r P), x_enter R V ha, Option.bind_some, if_true]
    rfl
  | b :: l, a, d + 1, i, P, c, hd, hi, hj => by
    obtain ⟨-, ha, c2⟩ := c
    obtain ⟨e, hb, c4⟩ := c2
    have e : (G.nd a).par = some b := e
    have r : ∀ P : qPt, qR G F X k (PTq G.pt P h) := fun P => R.s_pt P.1 P.2.1 P.2.2.1 P.2.2.2
    have hd2 : l.length + 1 < d + 1 := hd
    have hj2 : ((l.length + 1 : Nat) : Int) + i.toInt ≤ 4 := hj
    have i4 : ¬ 4 ≤ i := i32_nle (by have e4 : (4 : Int32).toInt = 4 := by decide
                                     omega)
    have i1 := i32_s (i := i) (by omega) (by omega)
    have c5 : Ch G.parF G.N (b :: l) (some b) := ⟨rfl, hb, c4⟩
    have ih := x_sinkL R V t l b d (i + 1) P c5 (by omega) (by omega) (by omega)
    rw [st_X7_sink]
    unfold f_X7_sink_L0 f_X7_sink_L24
    simp only [gN_par (r P) ha, e, i4, ih, oPt (r _), x_enter R V ha, Option.bind_some, if_false, reduceCtorEq]
    rfl
theorem x_sink (R : qR G F X k h) (V : qV G) (t : Int32) (ha : G.Lv a) (P : qPt) : f_X7_sink 8 (some G.pt) (some a) t 0 (PTq G.pt P h) = some ((), PTq G.pt (qDnP G t (G.up a) P) h) := by
  obtain ⟨c, hl⟩ := V.up a ha
  obtain ⟨l, e⟩ := G.up_hd a
  rw [e] at c hl ⊢
  have hl2 : l.length + 1 ≤ 5 := hl
  exact x_sinkL R V t l a 8 0 P c (by omega) (by decide) (by have e0 : (0 : Int32).toInt = 0 := by decide
                                                             omega)
/-! lowest terms -/
def qGl : Nat → Int64 → Int64 → Int64
  | 0, a, _ => a
  | n + 1, a, b => if b = 0 then a else qGl n b (a - a / b * b)
def qAb (x : Int64) : Int64 := if 0 ≤ x then x else -x
def qCd (x y : Int64) : Int64 := if qGl 200 (qAb x) (qAb y) ≤ 0 then 1 else qGl 200 (qAb x) (qAb y)
theorem x_gcdL : ∀ (m n : Nat) (a b : Int64) (i : Int32), m < n → 0 ≤ i.toInt → i.toInt + m = 200 → f_X7_commonDivisor_L31 n a b i h = f_X7_commonDivisor_L67 (qGl m a b) h
  | 0, n + 1, a, b, i, _, _, e => by
    rw [st_X7_commonDivisor_L31, if_pos (i32_le (by have e4 : (200 : Int32).toInt = 200 := by decide
                                                    omega))]
    rfl
  | m + 1, n + 1, a, b, i, hn, h0, e => by
    rw [st_X7_commonDivisor_L31, if_neg (i32_nle (by have e4 : (200 : Int32).toInt = 200 := by decide
                                                     omega))]
    unfold qGl
    by_cases q : b = 0
    · rw [if_pos q, if_pos q]
    · rw [if_neg q, if_neg q, if_neg q]
      exact x_gcdL m n b _ (i + 1) (by omega) (by rw [i32_s (by omega) (by omega)]; omega) (by rw [i32_s (by omega) (by omega)]; omega)
theorem x_gcd (x y : Int64) : f_X7_commonDivisor x y h = some (qCd x y, h) := by
  have l : ∀ a b, f_X7_commonDivisor_L26 a b h = some (if qGl 200 a b ≤ 0 then 1 else qGl 200 a b, h) := by
    intro a b
    unfold f_X7_commonDivisor_L26
    rw [x_gcdL 200 4096 a b 0 (by decide) (by decide) (by decide)]
    unfold f_X7_commonDivisor_L67 f_X7_commonDivisor_L80
    by_cases q : qGl 200 a b ≤ 0
    · rw [if_pos q, if_pos q]
    · rw [if_neg q, if_neg q]
  unfold f_X7_commonDivisor f_X7_commonDivisor_L0 f_X7_commonDivisor_L12 qCd qAb
  by_cases q1 : 0 ≤ x
  · by_cases q2 : 0 ≤ y
    · rw [if_pos q1, if_pos q2, if_pos q1, if_pos q2, l]
    · rw [if_pos q1, if_neg q2, if_pos q1, if_neg q2, l]
  · by_cases q2 : 0 ≤ y
    · rw [if_neg q1, if_pos q2, if_neg q1, if_pos q2, l]
    · rw [if_neg q1, if_neg q2, if_neg q1, if_neg q2, l]
theorem qCd_pos (x y : Int64) : 0 < qCd x y := by
  unfold qCd
  by_cases q : qGl 200 (qAb x) (qAb y) ≤ 0
  · rw [if_pos q]; decide
  · rw [if_neg q]; exact Int64.not_le.mp q
theorem qCd_0 (x y : Int64) : ¬ qCd x y = 0 := fun e => by
  have := qCd_pos x y
  rw [e] at this
  exact absurd this (by decide)
def qPa (P : qPt) (w : Int32) : Int64 := (if w - w / 2 * 2 = 0 then (if 2 ≤ w then P.2.1 else P.1) else P.2.2.1) / qCd (if 2 ≤ w then P.2.1 else P.1) P.2.2.1
theorem x_part {p : Nat} (P : qPt) (w : Int32) : f_X5_part p w (PTq p P h) = some (qPa P w, PTq p P h) := by
  obtain ⟨x, y, u, c⟩ := P
  unfold f_X5_part f_X5_part_L0 f_X5_part_L16 f_X5_part_L41 PTq qPa
  by_cases q : 2 ≤ w
  · simp only [q, if_true, gP1, gP2, x_gcd, Option.bind_some, qCd_0, if_false]
    by_cases q2 : w - w / 2 * 2 = 0
    · simp only [q2, if_true]
    · simp only [q2, if_false]
  · simp only [q, if_false, gP0, gP2, x_gcd, Option.bind_some, qCd_0]
    by_cases q2 : w - w / 2 * 2 = 0
    · simp only [q2, if_true]
    · simp only [q2, if_false]
/-! who covers -/
def qOw (G : qS) (a : Nat) (P : qPt) : Bool := qHo (G.fm (G.fr a)) P.1 P.2.1 P.2.2.1 && ((G.nd a).kind == 1 || qSl (G.fm (G.fr a)) P.1 P.2.1 P.2.2.1)
theorem x_owns (R : qR G F X k h) (V : qV G) (ha : G.N a) (hk : ¬ (G.nd a).kind = 0) (P : qPt) : f_X4_owns a (some G.pt) (PTq G.pt P h) = some (if qOw G a P then 1 else 0, PTq G.pt P h) := by
  obtain ⟨e, hm⟩ := V.fr a ha
  have r : qR G F X k (PTq G.pt P h) := R.s_pt P.1 P.2.1 P.2.2.1 P.2.2.2
  unfold f_X4_owns f_X4_owns_L0 f_X4_owns_L37 f_X4_owns_L41 f_X4_owns_L42 qOw
  simp only [gN_kind r ha, hk, gN_frame r ha, e, oM r hm, x_holds R hm, x_slope R hm, Option.bind_some, if_false]
  by_cases q1 : qHo (G.fm (G.fr a)) P.1 P.2.1 P.2.2.1 = true
  · by_cases q2 : (G.nd a).kind = 1
    · simp +decide only [q1, q2, if_true, if_false, Bool.true_and, Bool.true_or, beq_self_eq_true]
    · have q3 : ((G.nd a).kind == 1) = false := by simpa using q2
      by_cases q4 : qSl (G.fm (G.fr a)) P.1 P.2.1 P.2.2.1 = true
      · simp +decide only [q1, q2, q3, q4, if_true, if_false, Bool.true_and, Bool.false_or]
      · simp +decide only [q1, q2, q3, q4, if_true, if_false, Bool.true_and, Bool.false_or]
  · simp +decide only [q1, if_true, if_false, Bool.false_and]
def qCov (G : qS) (x y u t : Int32) (a : Nat) : Bool :=
  if (G.nd a).kind = 0 then false else if qSh G t (G.up a) then
    (if (qDnP G t (G.up a) (Int32.toInt64 x, Int32.toInt64 y, Int32.toInt64 u, 0)).2.2.2 = 0 then qOw G a (qDnP G t (G.up a) (Int32.toInt64 x, Int32.toInt64 y, Int32.toInt64 u, 0)) else false)
  else false
theorem x_covers (R : qR G F X k h) (V : qV G) (x y u t : Int32) (ha : G.Lv a) : ∃ h2, f_X7_coversAt G.z (some a) x y u t h = some (if qCov G x y u t a then 1 else 0, h2) ∧ qR G F X k h2 := by
  have r : ∀ P : qPt, qR G F X k (PTq G.pt P h) := fun P => R.s_pt P.1 P.2.1 P.2.2.1 P.2.2.2
  unfold f_X7_coversAt f_X7_coversAt_L0 f_X7_coversAt_L16 f_X7_coversAt_L68 f_X7_coversAt_L69 qCov
  rw [gN_kind R ha.1, Option.bind_some]
  by_cases q0 : (G.nd a).kind = 0
  · rw [if_pos q0, if_pos q0]
    exact ⟨h, rfl, R⟩
  rw [if_neg q0, if_neg q0, oN R ha.1, Option.bind_some, x_shown R V t ha, Option.bind_some]
  dsimp only
  by_cases q1 : qSh G t (G.up a) = true
  · simp only [q1, if_true]
    rw [if_neg (show ¬ (1 : Int32) = 0 by decide), gS_pt R, Option.bind_some, oPt R, Option.bind_some, x_set R, Option.bind_some]
    dsimp only
    rw [gS_pt (r _), Option.bind_some, x_sink R V t ha, Option.bind_some]
    dsimp only
    rw [gS_pt (r _), Option.bind_some]
    generalize qDnP G t (G.up a) (Int32.toInt64 x, Int32.toInt64 y, Int32.toInt64 u, 0) = P
    rw [show fgI (PTq G.pt P h) (some G.pt) 5 3 = some P.2.2.2 from gP3, Option.bind_some]
    by_cases q2 : P.2.2.2 = 0
    · rw [if_pos q2, if_pos q2, Option.bind_some, oN (r _) ha.1, Option.bind_some, x_owns R V ha.1 q0, Option.bind_some]
      dsimp only
      refine ⟨PTq G.pt P h, ?_, r P⟩
      by_cases q3 : qOw G a P = true
      · simp +decide only [q3, if_true, if_false]
      · simp +decide only [q3, if_true, if_false]
    · rw [if_neg q2, if_neg q2]
      exact ⟨PTq G.pt P h, by simp +decide only [if_true, if_false], r P⟩
  · simp +decide only [q1, if_true, if_false]
    exact ⟨h, rfl, R⟩
/-- the first one of the list that covers, with what is left out -/
def qTop (G : qS) (x y u t : Int32) (w : Option Nat) : List Nat → Int32
  | [] => -1
  | a :: l => if qIn w (G.up a) then qTop G x y u t w l else if qCov G x y u t a then (G.nd a).number else qTop G x y u t w l
theorem x_topL (V : qV G) (x y u t : Int32) (w : Option Nat) : ∀ (l : List Nat) (o : Option Nat) (n : Nat) (h : fSt), Ch G.befF G.N l o → (∀ a, a ∈ l → G.Lv a) → l.length < n → qR G F X k h → ∃ h2, f_X7_topAt_L6 n (some G.z) x y u t w o h = some (qTop G x y u t w l, h2) ∧ qR G F X k h2
  | [], o, n + 1, h, c, _, _, R => by
    obtain rfl : o = none := c
    rw [sN_X7_topAt_L6]
    exact ⟨h, rfl, R⟩
  | a :: l, o, n + 1, h, c, hl, hn, R => by
    obtain ⟨rfl, ha, c2⟩ := c
    have hn2 : l.length + 1 < n + 1 := hn
    have la := hl a List.mem_cons_self
    obtain ⟨cu, lu⟩ := V.up a la
    have hl2 : ∀ b, b ∈ l → G.Lv b := fun b hb => hl b (List.mem_cons_of_mem _ hb)
    rw [sS_X7_topAt_L6, oN R ha, Option.bind_some, x_within R w cu (by omega), Option.bind_some]
    unfold f_X7_topAt_L41 qTop
    dsimp only
    by_cases q : qIn w (G.up a) = true
    · simp +decide only [q, if_true, if_false]
      rw [gN_bef R ha, Option.bind_some]
      exact x_topL V x y u t w l _ n h c2 hl2 (by omega) R
    · simp +decide only [q, if_true, if_false]
      obtain ⟨h2, e2, R2⟩ := x_covers R V x y u t la
      rw [oS R, Option.bind_some, e2, Option.bind_some]
      dsimp only
      by_cases q2 : qCov G x y u t a = true
      · simp +decide only [q2, if_true, if_false]
        rw [gN_number R2 ha, Option.bind_some]
        exact ⟨h2, rfl, R2⟩
      · simp +decide only [q2, if_true, if_false]
        rw [gN_bef R2 ha, Option.bind_some]
        exact x_topL V x y u t w l _ n h2 c2 hl2 (by omega) R2
theorem x_top (R : qR G F X k h) (V : qV G) (x y u t : Int32) (w : Option Nat) : ∃ h2, f_X7_topAt G.z x y u t w h = some (qTop G x y u t w G.od, h2) ∧ qR G F X k h2 := by
  obtain ⟨c, hl, hv⟩ := V.od
  unfold f_X7_topAt f_X7_topAt_L0
  rw [gS_last R, Option.bind_some]
  exact x_topL V x y u t w _ _ 4096 h c hv (by omega) R
end PLC
