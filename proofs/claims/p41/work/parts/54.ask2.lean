/-! Counts over the order, time, and the checksum. -/
section ASK2
variable {G : qS} {F : Nat → Option fCe} {X : Nat × Nat × (Nat → Int32)} {k : Nat} {h : fSt} {a : Nat}
def qMany (G : qS) (x y u : Int32) : Int32 → List Nat → Int32
  | c, [] => c
  | c, a :: l => if qCov G x y u G.time a then qMany G x y u (c + 1) l else qMany G x y u c l
theorem x_manyL (V : qV G) (x y u : Int32) : ∀ (l : List Nat) (o : Option Nat) (n : Nat) (c0 : Int32) (h : fSt), Ch G.befF G.N l o → (∀ a, a ∈ l → G.Lv a) → l.length < n → qR G F X k h → ∃ h2, f_X7_many_L15 n (some G.z) x y u c0 o h = some (.inl (qMany G x y u c0 l), h2) ∧ qR G F X k h2
  | [], o, n + 1, c0, h, c, _, _, R => by
    obtain rfl : o = none := c
    rw [sN_X7_many_L15]
    exact ⟨h, rfl, R⟩
  | a :: l, o, n + 1, c0, h, c, hl, hn, R => by
    obtain ⟨rfl, ha, c2⟩ := c
    have hn2 : l.length + 1 < n + 1 := hn
    have la := hl a List.mem_cons_self
    have hl2 : ∀ b, b ∈ l → G.Lv b := fun b hb => hl b (List.mem_cons_of_mem _ hb)
    obtain ⟨h2, e2, R2⟩ := x_covers R V x y u G.time la
    rw [sS_X7_many_L15, gS_time R, Option.bind_some, oS R, Option.bind_some, e2, Option.bind_some]
    unfold f_X7_many_L39 qMany
    dsimp only
    by_cases q : qCov G x y u G.time a = true
    · simp +decide only [q, if_true, if_false]
      rw [gN_bef R2 ha, Option.bind_some]
      exact x_manyL V x y u l _ n _ h2 c2 hl2 (by omega) R2
    · simp +decide only [q, if_true, if_false]
      rw [gN_bef R2 ha, Option.bind_some]
      exact x_manyL V x y u l _ n _ h2 c2 hl2 (by omega) R2
theorem q_many (R : qR G F X k h) (V : qV G) {x y u : Int32} (hx : -10000 ≤ x.toInt ∧ x.toInt ≤ 10000) (hy : -10000 ≤ y.toInt ∧ y.toInt ≤ 10000) (hu : 1 ≤ u.toInt ∧ u.toInt ≤ 60) : ∃ h2, f_X7_many G.z x y u h = some (.inl (qMany G x y u 0 G.od), h2) ∧ qR G F X k h2 := by
  obtain ⟨c, hl, hv⟩ := V.od
  unfold f_X7_many f_X7_many_L0
  rw [x_spot hx hy hu, Option.bind_some]
  dsimp only [Sum.elim_inl]
  rw [gS_last R, Option.bind_some]
  exact x_manyL V x y u _ _ 4096 0 h c hv (by omega) R
def qThr (G : qS) (x y u : Int32) : Int32 → List Nat → Int32
  | c, [] => c
  | c, a :: l => if qCov G x y u G.time a then qThr G x y u (c * (100 - qStr G G.time (G.up a)) / 100) l else qThr G x y u c l
theorem x_thrL (V : qV G) (x y u : Int32) : ∀ (l : List Nat) (o : Option Nat) (n : Nat) (c0 : Int32) (h : fSt), Ch G.befF G.N l o → (∀ a, a ∈ l → G.Lv a) → l.length < n → qR G F X k h → ∃ h2, f_X7_through_L17 n (some G.z) x y u c0 o h = some (.inl (qThr G x y u c0 l), h2) ∧ qR G F X k h2
  | [], o, n + 1, c0, h, c, _, _, R => by
    obtain rfl : o = none := c
    rw [sN_X7_through_L17]
    exact ⟨h, rfl, R⟩
  | a :: l, o, n + 1, c0, h, c, hl, hn, R => by
    obtain ⟨rfl, ha, c2⟩ := c
    have hn2 : l.length + 1 < n + 1 := hn
    have la := hl a List.mem_cons_self
    have hl2 : ∀ b, b ∈ l → G.Lv b := fun b hb => hl b (List.mem_cons_of_mem _ hb)
    obtain ⟨h2, e2, R2⟩ := x_covers R V x y u G.time la
    rw [sS_X7_through_L17, gS_time R, Option.bind_some, oS R, Option.bind_some, e2, Option.bind_some]
    unfold f_X7_through_L59 qThr
    dsimp only
    by_cases q : qCov G x y u G.time a = true
    · simp +decide only [q, if_true, if_false]
      rw [gS_time R2, Option.bind_some, x_str R2 V G.time la, Option.bind_some]
      dsimp only
      rw [gN_bef R2 ha, Option.bind_some]
      exact x_thrL V x y u l _ n _ h2 c2 hl2 (by omega) R2
    · simp +decide only [q, if_true, if_false]
      rw [gN_bef R2 ha, Option.bind_some]
      exact x_thrL V x y u l _ n _ h2 c2 hl2 (by omega) R2
theorem q_through (R : qR G F X k h) (V : qV G) {x y u : Int32} (hx : -10000 ≤ x.toInt ∧ x.toInt ≤ 10000) (hy : -10000 ≤ y.toInt ∧ y.toInt ≤ 10000) (hu : 1 ≤ u.toInt ∧ u.toInt ≤ 60) : ∃ h2, f_X7_through G.z x y u h = some (.inl (qThr G x y u 10000 G.od), h2) ∧ qR G F X k h2 := by
  obtain ⟨c, hl, hv⟩ := V.od
  unfold f_X7_through f_X7_through_L0
  rw [x_spot hx hy hu, Option.bind_some]
  dsimp only [Sum.elim_inl]
  rw [gS_last R, Option.bind_some]
  exact x_thrL V x y u _ _ 4096 10000 h c hv (by omega) R
def qChg (G : qS) (t u : Int32) : Int32 → List Nat → Int32
  | c, [] => c
  | c, a :: l => if qDfN G t u (G.up a) then qChg G t u (c + 1) l else qChg G t u c l
theorem x_chgL (R : qR G F X k h) (V : qV G) (t u : Int32) : ∀ (l : List Nat) (o : Option Nat) (n : Nat) (c0 : Int32), Ch G.befF G.N l o → (∀ a, a ∈ l → G.Lv a) → l.length < n → f_X7_changes_L16 n t u c0 o h = some (.inl (qChg G t u c0 l), h)
  | [], o, n + 1, c0, c, _, _ => by
    obtain rfl : o = none := c
    rw [sN_X7_changes_L16]
    rfl
  | a :: l, o, n + 1, c0, c, hl, hn => by
    obtain ⟨rfl, ha, c2⟩ := c
    have hn2 : l.length + 1 < n + 1 := hn
    have la := hl a List.mem_cons_self
    have hl2 : ∀ b, b ∈ l → G.Lv b := fun b hb => hl b (List.mem_cons_of_mem _ hb)
    rw [sS_X7_changes_L16, oN R ha, Option.bind_some, x_differs R V t u la, Option.bind_some]
    unfold f_X7_changes_L34 qChg
    dsimp only
    by_cases q : qDfN G t u (G.up a) = true
    · simp +decide only [q, if_true, if_false]
      rw [gN_bef R ha, Option.bind_some]
      exact x_chgL R V t u l _ n _ c2 hl2 (by omega)
    · simp +decide only [q, if_true, if_false]
      rw [gN_bef R ha, Option.bind_some]
      exact x_chgL R V t u l _ n _ c2 hl2 (by omega)
theorem q_changes (R : qR G F X k h) (V : qV G) {t u : Int32} (ht : 0 ≤ t.toInt ∧ t.toInt ≤ 9999) (hu : 0 ≤ u.toInt ∧ u.toInt ≤ 9999) : f_X7_changes G.z t u h = some (.inl (qChg G t u 0 G.od), h) := by
  obtain ⟨c, hl, hv⟩ := V.od
  unfold f_X7_changes f_X7_changes_L0
  rw [x_time ht, Option.bind_some]
  dsimp only [Sum.elim_inl]
  rw [x_time hu, Option.bind_some]
  dsimp only [Sum.elim_inl]
  rw [gS_last R, Option.bind_some]
  exact x_chgL R V t u _ _ 4096 0 c hv (by omega)
theorem q_setTime (R : qR G F X k h) {t : Int32} (ht : 0 ≤ t.toInt ∧ t.toInt ≤ 9999) : ∃ h2, f_X7_setTime G.z t h = some (.inl G.time, h2) ∧ qR ((G).s_time (t)) F X k h2 := by
  obtain ⟨h2, e2, R2⟩ := wS_time R t
  refine ⟨h2, ?_, R2⟩
  unfold f_X7_setTime f_X7_setTime_L0
  rw [x_time ht, Option.bind_some]
  dsimp only [Sum.elim_inl]
  rw [gS_time R, Option.bind_some, e2, Option.bind_some]
/-- the first of the way up in which the other one is -/
def qCom (G : qS) (l2 : List Nat) : List Nat → Int32
  | [] => (G.nd G.wh).number
  | a :: l => if qIn (some a) l2 then (G.nd a).number else qCom G l2 l
theorem x_comL (R : qR G F X k h) (V : qV G) {b : Nat} (hb : G.Lv b) : ∀ (l : List Nat) (o : Option Nat) (n : Nat), Ch G.parF G.N l o → l.length < n → f_X7_common_L16 n (some G.z) (some b) o h = some (.inl (qCom G (G.up b) l), h)
  | [], o, n + 1, c, _ => by
    obtain rfl : o = none := c
    rw [sN_X7_common_L16, gS_wh R, Option.bind_some, gN_number R V.wh.1, Option.bind_some]
    rfl
  | a :: l, o, n + 1, c, hn => by
    obtain ⟨rfl, ha, c2⟩ := c
    have hn2 : l.length + 1 < n + 1 := hn
    obtain ⟨cb, lb⟩ := V.up b hb
    rw [sS_X7_common_L16, oN R hb.1, Option.bind_some, x_within R (some a) cb (by omega), Option.bind_some]
    unfold qCom
    dsimp only
    by_cases q : qIn (some a) (G.up b) = true
    · simp +decide only [q, if_true, if_false]
      rw [gN_number R ha, Option.bind_some]
    · simp +decide only [q, if_true, if_false]
      rw [gN_par R ha, Option.bind_some]
      exact x_comL R V hb l _ n c2 (by omega)
theorem q_common (R : qR G F X k h) (V : qV G) {i j : Int32} {b : Nat} (q : qIs G i a) (q2 : qIs G j b) : f_X7_common G.z i j h = some (.inl (qCom G (G.up b) (G.up a)), h) := by
  obtain ⟨c, hl⟩ := V.up a q.2.2.2
  unfold f_X7_common f_X7_common_L0
  rw [oS R, Option.bind_some, x_found R q, Option.bind_some]
  dsimp only [Sum.elim_inl]
  rw [oS R, Option.bind_some, x_found R q2, Option.bind_some]
  dsimp only [Sum.elim_inl]
  exact x_comL R V q2.2.2.2 _ _ 4096 c (by omega)
theorem x_ordL (R : qR G F X k h) {p : Int32} : ∀ (l : List Nat) (o : Option Nat) (n : Nat) (a : Nat), Ch G.befF G.N l o → l.length < n → a ∈ l → (G.nd a).place = p → (∀ b, b ∈ l → (G.nd b).place = p → b = a) → f_X7_orderAt_L5 n p o h = some (.inl (G.nd a).number, h)
  | b :: l, o, n + 1, a, c, hn, hm, hp, hu => by
    obtain ⟨rfl, hb, c2⟩ := c
    have hn2 : l.length + 1 < n + 1 := hn
    rw [sS_X7_orderAt_L5, gN_place R hb, Option.bind_some]
    by_cases q : (G.nd b).place = p
    · rw [if_pos q, gN_number R hb, Option.bind_some, hu b List.mem_cons_self q]
    · rw [if_neg q, gN_bef R hb, Option.bind_some]
      have hm2 : a ∈ l := (List.mem_cons.mp hm).resolve_left (fun z => q (by rw [← z]; exact hp))
      exact x_ordL R l _ n a c2 (by omega) hm2 hp (fun d hd => hu d (List.mem_cons_of_mem _ hd))
theorem q_orderAt (R : qR G F X k h) (V : qV G) (ha : a ∈ G.od) (hu : ∀ b, b ∈ G.od → (G.nd b).place = (G.nd a).place → b = a) : f_X7_orderAt G.z (G.nd a).place h = some (.inl (G.nd a).number, h) := by
  obtain ⟨c, hl, hv⟩ := V.od
  unfold f_X7_orderAt f_X7_orderAt_L0
  rw [gS_last R, Option.bind_some]
  exact x_ordL R _ _ 4096 a c (by omega) ha rfl hu
/-! the tracks -/
theorem tr_at (R : qR G F X k h) (V : qV G) {i : Int32} (h0 : 0 ≤ i.toInt) (h1 : i.toInt < G.tracked.toInt) : ∃ p, G.tr i.toNatClampNeg = some p ∧ G.P p ∧ faR h (some G.ta) 3 i = some (some p) := by
  obtain ⟨t0, t1, t2⟩ := V.tk
  have e : (i.toNatClampNeg : Int) = i.toInt := by
    show ((i.toInt.toNat : Nat) : Int) = i.toInt
    omega
  obtain ⟨p, e2, hp⟩ := t2 i.toNatClampNeg (by omega)
  exact ⟨p, e2, hp, by rw [rta R (i32_cl h0 (by omega)), e2]⟩
def qTld (G : qS) (u : Int32) : Nat → Nat → Bool
  | 0, _ => false
  | n + 1, i => match G.tr i with
    | none => qTld G u n (i + 1)
    | some p => if qDf G p G.time u then true else qTld G u n (i + 1)
theorem x_tldL (R : qR G F X k h) (V : qV G) (u : Int32) : ∀ (m n : Nat) (i : Int32), m < n → 0 ≤ i.toInt → i.toInt + m = G.tracked.toInt → f_X7_isToldAnew_L2 n (some G.z) u i h = some (if qTld G u m i.toNatClampNeg then 1 else 0, h)
  | 0, n + 1, i, _, _, e => by
    rw [st_X7_isToldAnew_L2, gS_tracked R, Option.bind_some, if_pos (i32_le (by omega))]
    rfl
  | m + 1, n + 1, i, hn, h0, e => by
    obtain ⟨t0, t1, t2⟩ := V.tk
    have e12 : (12 : Int32).toInt = 12 := by decide
    obtain ⟨p, e2, hp, e3⟩ := tr_at R V (i := i) h0 (by omega)
    have s1 := i32_s (i := i) (by omega) (by omega)
    have nx := i32_nat h0
    have nx1 : (i + 1).toNatClampNeg = i.toNatClampNeg + 1 := by
      have := i32_nat (i := i + 1) (by omega)
      omega
    rw [st_X7_isToldAnew_L2, gS_tracked R, Option.bind_some, if_neg (i32_nle (by omega)), gS_ta R, Option.bind_some, lta R, Option.bind_some, if_neg (i32_nle (by omega)), Option.bind_some, e3, Option.bind_some, if_neg (fun z => nomatch z), Option.bind_some, e3, Option.bind_some, gS_time R, Option.bind_some, oP R hp, Option.bind_some, x_differsP R V hp, Option.bind_some]
    unfold qTld f_X7_isToldAnew_L47
    rw [e2]
    dsimp only
    by_cases q : qDf G p G.time u = true
    · simp +decide only [q, if_true, if_false]
    · simp +decide only [q, if_true, if_false]
      rw [x_tldL R V u m n (i + 1) (by omega) (by omega) (by omega), nx1]
theorem x_tld (R : qR G F X k h) (V : qV G) (u : Int32) : f_X7_isToldAnew G.z u h = some (if qTld G u G.tracked.toNatClampNeg 0 then 1 else 0, h) := by
  obtain ⟨t0, t1, t2⟩ := V.tk
  unfold f_X7_isToldAnew f_X7_isToldAnew_L0
  have := i32_nat t0
  exact x_tldL R V u G.tracked.toNatClampNeg 4096 0 (by omega) (by decide) (by have e0 : (0 : Int32).toInt = 0 := by decide
                                                                               omega)
/-- a next pick: none, or a time told anew with another one on top -/
theorem x_npL (V : qV G) (x y u top e : Int32) (he : e.toInt ≤ 9999) : ∀ (m n : Nat) (i : Int32) (h : fSt), m < n → 0 ≤ i.toInt → i.toInt + m = e.toInt + 1 → qR G F X k h → ∃ r h2, f_X7_nextPick_L65 n (some G.z) x y u top e i h = some (.inl r, h2) ∧ qR G F X k h2 ∧ (r = -1 ∨ (i.toInt ≤ r.toInt ∧ r.toInt ≤ e.toInt ∧ qTop G x y u r none G.od ≠ top))
  | 0, n + 1, i, h, _, _, e1, R => by
    rw [st_X7_nextPick_L65, if_pos (i32_lt2 (by omega))]
    exact ⟨-1, h, rfl, R, Or.inl rfl⟩
  | m + 1, n + 1, i, h, hn, h0, e1, R => by
    have s1 := i32_s (i := i) (by omega) (by omega)
    rw [st_X7_nextPick_L65, if_neg (i32_nlt (by omega)), oS R, Option.bind_some, x_tld R V, Option.bind_some]
    unfold f_X7_nextPick_L99
    have go : ∀ h, qR G F X k h → ∃ r h2, f_X7_nextPick_L65 n (some G.z) x y u top e (i + 1) h = some (.inl r, h2) ∧ qR G F X k h2 ∧ (r = -1 ∨ (i.toInt ≤ r.toInt ∧ r.toInt ≤ e.toInt ∧ qTop G x y u r none G.od ≠ top)) := by
      intro h R
      obtain ⟨r, h2, e2, R2, z⟩ := x_npL V x y u top e he m n (i + 1) h (by omega) (by omega) (by omega) R
      exact ⟨r, h2, e2, R2, z.imp id (fun z => ⟨by omega, z.2⟩)⟩
    dsimp only
    by_cases q : qTld G i G.tracked.toNatClampNeg 0 = true
    · simp +decide only [q, if_true, if_false]
      obtain ⟨h2, e2, R2⟩ := x_top R V x y u i none
      rw [oS R, Option.bind_some, e2, Option.bind_some]
      dsimp only
      by_cases q2 : qTop G x y u i none G.od = top
      · rw [if_pos q2]
        exact go h2 R2
      · rw [if_neg q2]
        exact ⟨i, h2, rfl, R2, Or.inr ⟨by omega, by omega, q2⟩⟩
    · simp +decide only [q, if_true, if_false]
      exact go h R
theorem q_nextPick (R : qR G F X k h) (V : qV G) {x y u : Int32} (hx : -10000 ≤ x.toInt ∧ x.toInt ≤ 10000) (hy : -10000 ≤ y.toInt ∧ y.toInt ≤ 10000) (hu : 1 ≤ u.toInt ∧ u.toInt ≤ 60) (ht : 0 ≤ G.time.toInt ∧ G.time.toInt ≤ 9000) : ∃ r h2, f_X7_nextPick G.z x y u 20 h = some (.inl r, h2) ∧ qR G F X k h2 ∧ (r = -1 ∨ (G.time.toInt < r.toInt ∧ r.toInt ≤ G.time.toInt + 20 ∧ qTop G x y u r none G.od ≠ qTop G x y u G.time none G.od)) := by
  obtain ⟨h2, e2, R2⟩ := x_top R V x y u G.time none
  have e20 : (20 : Int32).toInt = 20 := by decide
  have e9 : (9999 : Int32).toInt = 9999 := by decide
  have s1 := i32_s (i := G.time) (by omega) (by omega)
  have s2 : (G.time + 20).toInt = G.time.toInt + 20 := by rw [i32_add (by omega) (by omega), e20]
  obtain ⟨r, h3, e3, R3, z⟩ := x_npL V x y u (qTop G x y u G.time none G.od) (G.time + 20) (by omega) 20 4096 (G.time + 1) h2 (by decide) (by omega) (by omega) R2
  refine ⟨r, h3, ?_, R3, z.imp id (fun z => ⟨by omega, by omega, z.2.2⟩)⟩
  unfold f_X7_nextPick f_X7_nextPick_L0
  rw [x_spot hx hy hu, Option.bind_some]
  dsimp only [Sum.elim_inl]
  rw [x_from1 (l := 1) (u := 100) (v := 20) (by decide), Option.bind_some, if_neg (show ¬ (1 : Int32) = 0 by decide), gS_time R, Option.bind_some, oS R, Option.bind_some, e2, Option.bind_some]
  dsimp only
  rw [gS_time R2, Option.bind_some, Option.bind_some, if_neg (i32_nlt (by omega)), e3]
/-! a side of the bounds -/
def qSd (B : qBo) (s : Int32) : qFr := if s = 0 then B.1 else if s = 1 then B.2.1 else if s = 2 then B.2.2.1 else B.2.2.2
theorem x_side (R : qR G F X k h) {B : qBo} (hB : qB G B h) (s : Int32) : ∃ p, f_X0_side G.bo s h = some (some p, h) ∧ fgJ h (some p) 1 0 = some (qSd B s).1 ∧ fgJ h (some p) 1 1 = some (qSd B s).2 := by
  obtain ⟨b0, b1, b2, b3⟩ := hB
  unfold f_X0_side f_X0_side_L0 qSd
  by_cases q0 : s = 0
  · rw [if_pos q0, if_pos q0, gB_0 R, Option.bind_some]
    exact ⟨_, rfl, fgJ_C b0 rfl, fgJ_C b0 rfl⟩
  rw [if_neg q0, if_neg q0]
  by_cases q1 : s = 1
  · rw [if_pos q1, if_pos q1, gB_1 R, Option.bind_some]
    exact ⟨_, rfl, fgJ_C b1 rfl, fgJ_C b1 rfl⟩
  rw [if_neg q1, if_neg q1]
  by_cases q2 : s = 2
  · rw [if_pos q2, if_pos q2, gB_2 R, Option.bind_some]
    exact ⟨_, rfl, fgJ_C b2 rfl, fgJ_C b2 rfl⟩
  · rw [if_neg q2, if_neg q2, gB_3 R, Option.bind_some]
    exact ⟨_, rfl, fgJ_C b3 rfl, fgJ_C b3 rfl⟩
theorem q_bound (R : qR G F X k h) (V : qV G) (fd : qFd G) {i s b : Int32} (q : qIs G i a) (hs : 0 ≤ s.toInt ∧ s.toInt ≤ 3) : ∃ h2, f_X7_bound G.z i s b h = some (.inl (Int64.toInt32 (if b = 0 then (qSd (qBd G a) s).1 else (qSd (qBd G a) s).2)), h2) ∧ qR G F X k h2 := by
  obtain ⟨h2, e2, R2, B2⟩ := x_gather R V fd a
  obtain ⟨p, e3, e4, e5⟩ := x_side R2 B2 s
  refine ⟨h2, ?_, R2⟩
  unfold f_X7_bound f_X7_bound_L0 f_X7_bound_L60
  rw [oS R, Option.bind_some, x_found R q, Option.bind_some]
  dsimp only [Sum.elim_inl]
  rw [x_from1 (l := 0) (u := 3) hs, Option.bind_some, if_neg (show ¬ (1 : Int32) = 0 by decide), oS R, Option.bind_some, e2, Option.bind_some]
  dsimp only
  rw [gS_bo R2, Option.bind_some, oB R2, Option.bind_some, e3, Option.bind_some]
  dsimp only
  by_cases q0 : b = 0
  · rw [if_pos q0, if_pos q0, e4, Option.bind_some]
  · rw [if_neg q0, if_neg q0, e5, Option.bind_some]
/-! the checksum -/
def qNk (G : qS) (t : Int32) : List Nat → Int32
  | [] => -1
  | a :: l => if (G.ky a).time ≤ t then qNk G t l else (G.ky a).time
theorem x_nkL (R : qR G F X k h) (t : Int32) : ∀ (l : List Nat) (o : Option Nat) (n : Nat), Ch G.nexF G.K l o → l.length < n → f_X6_nextKeyTime_L5 n t o h = some (qNk G t l, h)
  | [], o, n + 1, c, _ => by
    obtain rfl : o = none := c
    rw [sN_X6_nextKeyTime_L5]
    rfl
  | a :: l, o, n + 1, c, hn => by
    obtain ⟨rfl, ha, c2⟩ := c
    have hn2 : l.length + 1 < n + 1 := hn
    rw [sS_X6_nextKeyTime_L5, gK_time R ha, Option.bind_some]
    unfold qNk
    by_cases q : (G.ky a).time ≤ t
    · rw [if_pos q, if_pos q, gK_next R ha, Option.bind_some]
      exact x_nkL R t l _ n c2 (by omega)
    · rw [if_neg q, if_neg q, Option.bind_some]
theorem x_nk (R : qR G F X k h) (V : qV G) {p : Nat} (hp : G.P p) (t : Int32) : f_X6_nextKeyTime p t h = some (qNk G t (G.kl p), h) := by
  obtain ⟨c, hl⟩ := V.kc p hp
  unfold f_X6_nextKeyTime f_X6_nextKeyTime_L0
  rw [gP_fk R hp, Option.bind_some]
  exact x_nkL R t _ _ 4096 c (by omega)
def qNx (G : qS) : Nat → Nat → Int32 → Int32
  | 0, _, s => s
  | n + 1, i, s => match G.tr i with
    | none => qNx G n (i + 1) s
    | some p => if qNk G G.time (G.kl p) = -1 then qNx G n (i + 1) s else if s = -1 then qNx G n (i + 1) (qNk G G.time (G.kl p)) else if s ≤ qNk G G.time (G.kl p) then qNx G n (i + 1) s else qNx G n (i + 1) (qNk G G.time (G.kl p))
theorem x_nxL (R : qR G F X k h) (V : qV G) : ∀ (m n : Nat) (s i : Int32), m < n → 0 ≤ i.toInt → i.toInt + m = G.tracked.toInt → f_X7_nextKey_L4 n (some G.z) s i h = some (qNx G m i.toNatClampNeg s, h)
  | 0, n + 1, s, i, _, _, e => by
    rw [st_X7_nextKey_L4, gS_tracked R, Option.bind_some, if_pos (i32_le (by omega))]
    rfl
  | m + 1, n + 1, s, i, hn, h0, e => by
    obtain ⟨t0, t1, t2⟩ := V.tk
    have e12 : (12 : Int32).toInt = 12 := by decide
    obtain ⟨p, e2, hp, e3⟩ := tr_at R V (i := i) h0 (by omega)
    have s1 := i32_s (i := i) (by omega) (by omega)
    have nx := i32_nat h0
    have nx1 : (i + 1).toNatClampNeg = i.toNatClampNeg + 1 := by
      have := i32_nat (i := i + 1) (by omega)
      omega
    have go : ∀ s, f_X7_nextKey_L4 n (some G.z) s (i + 1) h = some (qNx G m (i.toNatClampNeg + 1) s, h) := by
      intro s
      rw [x_nxL R V m n s (i + 1) (by omega) (by omega) (by omega), nx1]
    rw [st_X7_nextKey_L4, gS_tracked R, Option.bind_some, if_neg (i32_nle (by omega)), gS_ta R, Option.bind_some, lta R, Option.bind_some, if_neg (i32_nle (by omega)), Option.bind_some, e3, Option.bind_some, if_neg (fun z => nomatch z), Option.bind_some, e3, Option.bind_some, gS_time R, Option.bind_some, oP R hp, Option.bind_some, x_nk R V hp, Option.bind_some]
    unfold qNx f_X7_nextKey_L47 f_X7_nextKey_L65 f_X7_nextKey_L63 f_X7_nextKey_L65
    rw [e2]
    dsimp only
    by_cases q1 : qNk G G.time (G.kl p) = -1
    · rw [if_pos q1, if_pos q1, go]
    · rw [if_neg q1, if_neg q1]
      by_cases q2 : s = -1
      · rw [if_pos q2, if_pos q2, go]
      · rw [if_neg q2, if_neg q2]
        by_cases q3 : s ≤ qNk G G.time (G.kl p)
        · rw [if_pos q3, if_pos q3, go]
        · rw [if_neg q3, if_neg q3, go]
theorem x_nx (R : qR G F X k h) (V : qV G) : f_X7_nextKey G.z h = some (qNx G G.tracked.toNatClampNeg 0 (-1), h) := by
  obtain ⟨t0, t1, t2⟩ := V.tk
  unfold f_X7_nextKey f_X7_nextKey_L0
  have := i32_nat t0
  exact x_nxL R V G.tracked.toNatClampNeg 4096 (-1) 0 (by omega) (by decide) (by have e0 : (0 : Int32).toInt = 0 := by decide
                                                                                 omega)
theorem x_mix (d v : Int64) : f_X7_mixed d v h = some (d * 31 + v, h) := rfl
def qMxP (P : qPt) (d : Int64) : Int64 := (((d * 31 + qPa P 0) * 31 + qPa P 1) * 31 + qPa P 2) * 31 + qPa P 3
theorem x_mxP (R : qR G F X k h) (P : qPt) (d : Int64) : f_X7_mixedWithPoint G.z d (PTq G.pt P h) = some (qMxP P d, PTq G.pt P h) := by
  have r : qR G F X k (PTq G.pt P h) := R.s_pt P.1 P.2.1 P.2.2.1 P.2.2.2
  have st : ∀ (n : Nat) (d : Int64) (i : Int32), ¬ 3 < i → f_X7_mixedWithPoint_L5 (n + 1) (some G.z) d i (PTq G.pt P h) = f_X7_mixedWithPoint_L5 n (some G.z) (d * 31 + qPa P i) (i + 1) (PTq G.pt P h) := by
    intro n d i hi
    rw [st_X7_mixedWithPoint_L5, if_neg hi, gS_pt r, Option.bind_some, oPt r, Option.bind_some, x_part, Option.bind_some]
    dsimp only
    rw [x_mix, Option.bind_some]
  unfold f_X7_mixedWithPoint f_X7_mixedWithPoint_L0
  rw [st 4095 d 0 (by decide), st 4094 _ (0 + 1) (by decide), st 4093 _ (0 + 1 + 1) (by decide), st 4092 _ (0 + 1 + 1 + 1) (by decide), st_X7_mixedWithPoint_L5, if_pos (by decide)]
  rfl
def qMxB (B : qBo) (d : Int64) : Int64 := (((((((d * 31 + B.1.1) * 31 + B.1.2) * 31 + B.2.1.1) * 31 + B.2.1.2) * 31 + B.2.2.1.1) * 31 + B.2.2.1.2) * 31 + B.2.2.2.1) * 31 + B.2.2.2.2
theorem x_mxB (R : qR G F X k h) {B : qBo} (hB : qB G B h) (d : Int64) : f_X7_mixedWithNode_L219 4096 (some G.z) d 0 h = some (qMxB B d, h) := by
  have st : ∀ (n : Nat) (d : Int64) (i : Int32), ¬ 3 < i → f_X7_mixedWithNode_L219 (n + 1) (some G.z) d i h = f_X7_mixedWithNode_L219 n (some G.z) ((d * 31 + (qSd B i).1) * 31 + (qSd B i).2) (i + 1) h := by
    intro n d i hi
    obtain ⟨p, e3, e4, e5⟩ := x_side R hB i
    rw [st_X7_mixedWithNode_L219, if_neg hi, gS_bo R, Option.bind_some, oB R, Option.bind_some, e3, Option.bind_some]
    dsimp only
    rw [e4, Option.bind_some, x_mix, Option.bind_some]
    dsimp only
    rw [e5, Option.bind_some, x_mix, Option.bind_some]
  rw [st 4095 d 0 (by decide), st 4094 _ (0 + 1) (by decide), st 4093 _ (0 + 1 + 1) (by decide), st 4092 _ (0 + 1 + 1 + 1) (by decide), st_X7_mixedWithNode_L219, if_pos (by decide)]
  rfl
def qMxN (G : qS) (a : Nat) (d : Int64) : Int64 :=
  qMxB (qBd G a) (qMxP (qSk G a (1, 2, 1, 0)) (qMxP (qRs G a 1 2) (((((((((((d * 31 + Int32.toInt64 (G.nd a).number) * 31 + Int32.toInt64 (qPn G a)) * 31 + Int32.toInt64 (nI ((G.up a).length - 1))) * 31 + Int32.toInt64 (G.vl a 0 G.time)) * 31 + Int32.toInt64 (G.vl a 1 G.time)) * 31 + Int32.toInt64 (G.vl a 2 G.time)) * 31 + Int32.toInt64 (G.vl a 3 G.time)) * 31 + (if qSh G G.time (G.up a) then 1 else 0)) * 31 + Int32.toInt64 (qStr G G.time (G.up a))) * 31 + Int32.toInt64 (G.nd a).place))))
theorem x_mxN129 (R : qR G F X k h) (V : qV G) (fd : qFd G) (ha : G.Lv a) (d s : Int64) : ∃ h2, f_X7_mixedWithNode_L129 (some G.z) (some a) s d h = some (qMxB (qBd G a) (qMxP (qSk G a (1, 2, 1, 0)) (qMxP (qRs G a 1 2) (((d * 31 + s) * 31 + Int32.toInt64 (qStr G G.time (G.up a))) * 31 + Int32.toInt64 (G.nd a).place))), h2) ∧ qR G F X k h2 := by
  have r : ∀ P : qPt, qR G F X k (PTq G.pt P h) := fun P => R.s_pt P.1 P.2.1 P.2.2.1 P.2.2.2
  have e1 : Int32.toInt64 1 = 1 := by decide
  have e2 : Int32.toInt64 2 = 2 := by decide
  obtain ⟨h2, e3, R2, B2⟩ := x_gather (r (qSk G a (1, 2, 1, 0))) V fd a
  refine ⟨h2, ?_, R2⟩
  unfold f_X7_mixedWithNode_L129
  rw [x_mix, Option.bind_some]
  dsimp only
  rw [gS_time R, Option.bind_some, x_str R V G.time ha, Option.bind_some]
  dsimp only
  rw [x_mix, Option.bind_some]
  dsimp only
  rw [gN_place R ha.1, Option.bind_some, x_mix, Option.bind_some]
  dsimp only
  rw [oS R, Option.bind_some, x_raise R V ha, Option.bind_some]
  dsimp only
  rw [oS (r _), Option.bind_some, x_mxP R, Option.bind_some]
  dsimp only
  rw [gS_pt (r _), Option.bind_some, oPt (r _), Option.bind_some, x_set (r _), Option.bind_some]
  dsimp only
  rw [show ∀ P Q : qPt, PTq G.pt P (PTq G.pt Q h) = PTq G.pt P h from fun P Q => PT_PT, gS_pt (r _), Option.bind_some, gS_time (r _), Option.bind_some, x_sink R V _ ha, Option.bind_some]
  dsimp only
  rw [oS (r _), Option.bind_some, x_mxP R, Option.bind_some]
  dsimp only
  rw [oS (r _), Option.bind_some]
  unfold qSk at e3
  rw [e3, Option.bind_some]
  dsimp only
  rw [x_mxB R2 B2]
  unfold qRs qSk
  rw [e1, e2]
theorem x_mxN (R : qR G F X k h) (V : qV G) (fd : qFd G) (ha : G.Lv a) (d : Int64) : ∃ h2, f_X7_mixedWithNode G.z d (some a) h = some (qMxN G a d, h2) ∧ qR G F X k h2 := by
  obtain ⟨c, hl⟩ := V.up a ha
  obtain ⟨l, e⟩ := G.up_hd a
  obtain ⟨e0, e1, e2, e3⟩ := V.px a ha.1
  have p0 := V.pP a 0 ha.1 (by decide)
  have p1 := V.pP a 1 ha.1 (by decide)
  have p2 := V.pP a 2 ha.1 (by decide)
  have p3 := V.pP a 3 ha.1 (by decide)
  have c2 := c
  rw [e] at c2
  have hl2 : l.length + 1 ≤ 5 := by rw [e] at hl; exact hl
  have dp := x_depth R c2 (by omega)
  have ln : (G.up a).length - 1 = l.length := by rw [e]; rfl
  unfold f_X7_mixedWithNode f_X7_mixedWithNode_L0 qMxN
  simp only [gN_number R ha.1, x_mix, x_pn R V ha, oN R ha.1, dp, gN_x R ha.1, gN_y R ha.1, gN_turns R ha.1, gN_opac R ha.1, e0, e1, e2, e3, gS_time R, oP R p0, oP R p1, oP R p2, oP R p3, x_at R V ha.1 (show 0 < 4 by decide), x_at R V ha.1 (show 1 < 4 by decide), x_at R V ha.1 (show 2 < 4 by decide), x_at R V ha.1 (show 3 < 4 by decide), x_shown R V G.time ha, Option.bind_some, ln]
  by_cases q : qSh G G.time (G.up a) = true
  · simp +decide only [q, if_true, if_false]
    exact x_mxN129 R V fd ha _ _
  · simp +decide only [q, if_true, if_false]
    exact x_mxN129 R V fd ha _ _
def qDgN (G : qS) : Nat → Int32 → Int64 → Int64
  | 0, _, d => d
  | n + 1, i, d => match qFnd G i with
    | none => qDgN G n (i + 1) d
    | some a => qDgN G n (i + 1) (qMxN G a d)
def qDgT (G : qS) : Nat → Int32 → Int64 → Int64
  | 0, _, d => d * 31 + Int32.toInt64 (qChg G 0 7 0 G.od)
  | n + 1, i, d => qDgT G n (i + 10) (d * 31 + Int32.toInt64 (qTop G i i 1 G.time none G.od))
theorem x_dgT (V : qV G) : ∀ (m n : Nat) (i : Int32) (d : Int64) (h : fSt), m < n → 0 ≤ i.toInt → i.toInt + 10 * m = 100 → qR G F X k h → ∃ h2, f_X7_digest_L80 n (some G.z) d i h = some (qDgT G m i d, h2) ∧ qR G F X k h2
  | 0, n + 1, i, d, h, _, _, e, R => by
    have e9 : (90 : Int32).toInt = 90 := by decide
    rw [st_X7_digest_L80, if_pos (i32_lt2 (by omega)), oS R, Option.bind_some, q_changes R V (by decide) (by decide), Option.bind_some]
    exact ⟨h, rfl, R⟩
  | m + 1, n + 1, i, d, h, hn, h0, e, R => by
    have e9 : (90 : Int32).toInt = 90 := by decide
    have e10 : (10 : Int32).toInt = 10 := by decide
    have s1 : (i + 10).toInt = i.toInt + 10 := by rw [i32_add (by omega) (by omega), e10]
    obtain ⟨h2, e2, R2⟩ := x_top R V i i 1 G.time none
    rw [st_X7_digest_L80, if_neg (i32_nlt (by omega)), gS_time R, Option.bind_some, oS R, Option.bind_some, e2, Option.bind_some]
    dsimp only
    rw [x_mix, Option.bind_some]
    exact x_dgT V m n (i + 10) _ h2 (by omega) (by omega) (by omega) R2
theorem x_dgN (V : qV G) (fd : qFd G) : ∀ (m n : Nat) (i : Int32) (d : Int64) (h : fSt), m < n → 0 ≤ i.toInt → i.toInt + m = G.added.toInt → qR G F X k h → ∃ h2, f_X7_digest_L44 n (some G.z) d i h = some (qDgT G 10 0 (qDgN G m i d), h2) ∧ qR G F X k h2
  | 0, n + 1, i, d, h, _, _, e, R => by
    rw [st_X7_digest_L44, gS_added R, Option.bind_some, if_pos (i32_le (by omega))]
    exact x_dgT V 10 4096 0 d h (by decide) (by decide) (by decide) R
  | m + 1, n + 1, i, d, h, hn, h0, e, R => by
    obtain ⟨a0, a1, a2⟩ := V.no
    have s1 := i32_s (i := i) (by omega) (by omega)
    have nx := i32_nat h0
    obtain ⟨b, eb, hb⟩ := a2 i.toNatClampNeg (by omega)
    rw [st_X7_digest_L44, gS_added R, Option.bind_some, if_neg (i32_nle (by omega)), oS R, Option.bind_some, x_non R h0 (by omega) (fun c hc => by rw [eb] at hc; cases hc; exact hb), Option.bind_some]
    unfold f_X7_digest_L72 qDgN
    by_cases q : (G.nd b).gone = 0
    · have f : qFnd G i = some b := by
        unfold qFnd
        rw [eb]
        exact if_pos q
      rw [f]
      dsimp only
      rw [if_neg (fun z => nomatch z)]
      obtain ⟨h2, e2, R2⟩ := x_mxN R V fd ⟨hb, q⟩ d
      rw [oS R, Option.bind_some, e2, Option.bind_some]
      exact x_dgN V fd m n (i + 1) _ h2 (by omega) (by omega) (by omega) R2
    · have f : qFnd G i = none := by
        unfold qFnd
        rw [eb]
        exact if_neg q
      rw [f]
      dsimp only
      rw [if_pos rfl]
      exact x_dgN V fd m n (i + 1) _ h (by omega) (by omega) (by omega) R
def qDig (G : qS) : Int64 := qDgT G 10 0 (qDgN G G.added.toNatClampNeg 0 ((((2647 * 31 + Int32.toInt64 G.added) * 31 + Int32.toInt64 G.ord) * 31 + Int32.toInt64 G.tracked) * 31 + Int32.toInt64 (qNx G G.tracked.toNatClampNeg 0 (-1))))
theorem q_digest (R : qR G F X k h) (V : qV G) (fd : qFd G) : ∃ h2, f_X7_digest G.z h = some (qDig G, h2) ∧ qR G F X k h2 := by
  obtain ⟨a0, a1, a2⟩ := V.no
  have nx := i32_nat a0
  unfold f_X7_digest f_X7_digest_L0
  simp only [gS_added R, gS_ord R, gS_tracked R, x_mix, oS R, x_nx R V, Option.bind_some]
  exact x_dgN V fd G.added.toNatClampNeg 4096 0 _ h (by omega) (by decide) (by have e0 : (0 : Int32).toInt = 0 := by decide
                                                                               omega) R
end ASK2
