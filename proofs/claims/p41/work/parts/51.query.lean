/-! What the class tells of itself: values of keys, looks and places, as functions of the typed state. -/
section QRY
variable {G : qS} {F : Nat → Option fCe} {X : Nat × Nat × (Nat → Int32)} {k : Nat} {h : fSt} {a : Nat}
/-- a chain by links: its list -/
def Ch (nx : Nat → Option Nat) (D : Nat → Prop) : List Nat → Option Nat → Prop
  | [], o => o = none
  | a :: l, o => o = some a ∧ D a ∧ Ch nx D l (nx a)
def qS.Lv (G : qS) (a : Nat) : Prop := G.N a ∧ (G.nd a).gone = 0
def qUp (G : qS) : Nat → Option Nat → List Nat
  | 0, _ => []
  | _ + 1, none => []
  | n + 1, some a => a :: qUp G n (G.nd a).par
def qS.up (G : qS) (a : Nat) : List Nat := qUp G 6 (some a)
abbrev qS.parF (G : qS) : Nat → Option Nat := fun a => (G.nd a).par
abbrev qS.befF (G : qS) : Nat → Option Nat := fun a => (G.nd a).bef
abbrev qS.nxtF (G : qS) : Nat → Option Nat := fun a => (G.nd a).nxt
abbrev qS.nexF (G : qS) : Nat → Option Nat := fun a => (G.ky a).next
/-- the last key up to a time -/
def qLast (G : qS) (t : Int32) : Option Nat → List Nat → Option Nat
  | r, [] => r
  | r, a :: l => if t < (G.ky a).time then r else qLast G t (some a) l
def qCnt (e t f g : Int32) : Int32 :=
  if e = 0 then t else if t ≤ g then t else if 1 ≤ g - f then
    (if e = 1 then f + ((t - f) - (t - f) / (g - f) * (g - f)) else
      if g - f < (t - f) - (t - f) / (2 * (g - f)) * (2 * (g - f)) then f + (2 * (g - f) - ((t - f) - (t - f) / (2 * (g - f)) * (2 * (g - f)))) else f + ((t - f) - (t - f) / (2 * (g - f)) * (2 * (g - f))))
  else t
def qMid (e : Int32) (v rise past gap : Int64) : Int64 :=
  if e = 1 then v + rise * past / gap else v + ((rise * past) * past) * (3 * gap - 2 * past) / ((gap * gap) * gap)
def qVal (G : qS) (p a : Nat) (t : Int32) : Int32 :=
  match (G.ky a).next with
  | none => (G.ky a).value
  | some b => if (G.pp p).ease = 0 then (G.ky a).value else
      if 1 ≤ Int32.toInt64 ((G.ky b).time - (G.ky a).time) then
        Int64.toInt32 (qMid (G.pp p).ease (Int32.toInt64 (G.ky a).value) (Int32.toInt64 ((G.ky b).value - (G.ky a).value)) (Int32.toInt64 (t - (G.ky a).time)) (Int32.toInt64 ((G.ky b).time - (G.ky a).time)))
      else (G.ky a).value
def qAt (G : qS) (p : Nat) (l : List Nat) (t : Int32) : Int32 :=
  match l with
  | [] => (G.pp p).own
  | f :: _ => match qLast G t none l with
    | none => (G.ky f).value
    | some a => match (G.ky a).next with
      | none => match qLast G (qCnt (G.pp p).end_ t (G.ky f).time (G.ky a).time) none l with
        | none => (G.ky f).value
        | some b => qVal G p b (qCnt (G.pp p).end_ t (G.ky f).time (G.ky a).time)
      | some _ => qVal G p a t
def qS.vl (G : qS) (a j : Nat) (t : Int32) : Int32 := qAt G (G.pr a j) (G.kl (G.pr a j)) t
/-- what asking needs -/
def qV (G : qS) : Prop :=
  (G.Lv G.wh) ∧
  (∀ a, G.N a → (G.nd a).x = some (G.pr a 0) ∧ (G.nd a).y = some (G.pr a 1) ∧ (G.nd a).turns = some (G.pr a 2) ∧ (G.nd a).opac = some (G.pr a 3)) ∧
  (∀ a j, G.N a → j < 4 → G.P (G.pr a j)) ∧
  (∀ a, G.N a → (G.nd a).frame = some (G.fr a) ∧ G.M (G.fr a)) ∧
  (∀ a m, G.N a → (G.nd a).cut = some m → G.M m) ∧
  (∀ p, G.P p → Ch G.nexF G.K (G.kl p) (G.pp p).fk ∧ (G.kl p).length ≤ 1000) ∧
  (∀ a, G.K a → 0 ≤ (G.ky a).time.toInt ∧ (G.ky a).time.toInt ≤ 999) ∧
  (∀ a, G.Lv a → Ch G.parF G.N (G.up a) (some a) ∧ (G.up a).length ≤ 5) ∧
  (Ch G.befF G.N G.od G.last ∧ G.od.length ≤ 30 ∧ ∀ a, a ∈ G.od → G.Lv a) ∧
  (∀ a t, G.N a → 0 ≤ (G.vl a 2 t).toInt ∧ (G.vl a 2 t).toInt ≤ 3) ∧
  (0 ≤ G.added.toInt ∧ G.added.toInt ≤ 30 ∧ ∀ i : Nat, (i : Int) < G.added.toInt → ∃ a, G.no i = some a ∧ G.N a) ∧
  (0 ≤ G.tracked.toInt ∧ G.tracked.toInt ≤ 12 ∧ ∀ i : Nat, (i : Int) < G.tracked.toInt → ∃ p, G.tr i = some p ∧ G.P p)
theorem qV.wh {G : qS} (hq0 : qV G) : G.Lv G.wh := hq0.1
theorem qV.px {G : qS} (hq0 : qV G) : ∀ a, G.N a → (G.nd a).x = some (G.pr a 0) ∧ (G.nd a).y = some (G.pr a 1) ∧ (G.nd a).turns = some (G.pr a 2) ∧ (G.nd a).opac = some (G.pr a 3) := hq0.2.1
theorem qV.pP {G : qS} (hq0 : qV G) : ∀ a j, G.N a → j < 4 → G.P (G.pr a j) := hq0.2.2.1
theorem qV.fr {G : qS} (hq0 : qV G) : ∀ a, G.N a → (G.nd a).frame = some (G.fr a) ∧ G.M (G.fr a) := hq0.2.2.2.1
theorem qV.ct {G : qS} (hq0 : qV G) : ∀ a m, G.N a → (G.nd a).cut = some m → G.M m := hq0.2.2.2.2.1
theorem qV.kc {G : qS} (hq0 : qV G) : ∀ p, G.P p → Ch G.nexF G.K (G.kl p) (G.pp p).fk ∧ (G.kl p).length ≤ 1000 := hq0.2.2.2.2.2.1
theorem qV.kt {G : qS} (hq0 : qV G) : ∀ a, G.K a → 0 ≤ (G.ky a).time.toInt ∧ (G.ky a).time.toInt ≤ 999 := hq0.2.2.2.2.2.2.1
theorem qV.up {G : qS} (hq0 : qV G) : ∀ a, G.Lv a → Ch G.parF G.N (G.up a) (some a) ∧ (G.up a).length ≤ 5 := hq0.2.2.2.2.2.2.2.1
theorem qV.od {G : qS} (hq0 : qV G) : Ch G.befF G.N G.od G.last ∧ G.od.length ≤ 30 ∧ ∀ a, a ∈ G.od → G.Lv a := hq0.2.2.2.2.2.2.2.2.1
theorem qV.tn {G : qS} (hq0 : qV G) : ∀ a t, G.N a → 0 ≤ (G.vl a 2 t).toInt ∧ (G.vl a 2 t).toInt ≤ 3 := hq0.2.2.2.2.2.2.2.2.2.1
theorem qV.no {G : qS} (hq0 : qV G) : 0 ≤ G.added.toInt ∧ G.added.toInt ≤ 30 ∧ ∀ i : Nat, (i : Int) < G.added.toInt → ∃ a, G.no i = some a ∧ G.N a := hq0.2.2.2.2.2.2.2.2.2.2.1
theorem qV.tk {G : qS} (hq0 : qV G) : 0 ≤ G.tracked.toInt ∧ G.tracked.toInt ≤ 12 ∧ ∀ i : Nat, (i : Int) < G.tracked.toInt → ∃ p, G.tr i = some p ∧ G.P p := hq0.2.2.2.2.2.2.2.2.2.2.2
/-! numbers -/
theorem i32_1 {d : Int32} (q : 1 ≤ d) : 1 ≤ d.toInt := by
  have := Int32.le_iff_toInt_le.mp q
  have e : (1 : Int32).toInt = 1 := by decide
  omega
theorem i32_sub {a b : Int32} (h1 : -1000000000 ≤ a.toInt - b.toInt) (h2 : a.toInt - b.toInt ≤ 1000000000) : (a - b).toInt = a.toInt - b.toInt := by
  rw [Int32.toInt_sub]
  exact Int.bmod_eq_of_le (by omega) (by omega)
theorem i32_add {a b : Int32} (h1 : -1000000000 ≤ a.toInt + b.toInt) (h2 : a.toInt + b.toInt ≤ 1000000000) : (a + b).toInt = a.toInt + b.toInt := by
  rw [Int32.toInt_add]
  exact Int.bmod_eq_of_le (by omega) (by omega)
theorem i32_mul {a b : Int32} (h1 : -1000000000 ≤ a.toInt * b.toInt) (h2 : a.toInt * b.toInt ≤ 1000000000) : (a * b).toInt = a.toInt * b.toInt := by
  rw [Int32.toInt_mul]
  exact Int.bmod_eq_of_le (by omega) (by omega)
theorem i64_add {a b : Int64} (h1 : -4000000000000000000 ≤ a.toInt + b.toInt) (h2 : a.toInt + b.toInt ≤ 4000000000000000000) : (a + b).toInt = a.toInt + b.toInt := by
  rw [Int64.toInt_add]
  exact Int.bmod_eq_of_le (by omega) (by omega)
theorem i64_sub {a b : Int64} (h1 : -4000000000000000000 ≤ a.toInt - b.toInt) (h2 : a.toInt - b.toInt ≤ 4000000000000000000) : (a - b).toInt = a.toInt - b.toInt := by
  rw [Int64.toInt_sub]
  exact Int.bmod_eq_of_le (by omega) (by omega)
theorem i64_mul {a b : Int64} (h1 : -4000000000000000000 ≤ a.toInt * b.toInt) (h2 : a.toInt * b.toInt ≤ 4000000000000000000) : (a * b).toInt = a.toInt * b.toInt := by
  rw [Int64.toInt_mul]
  exact Int.bmod_eq_of_le (by omega) (by omega)
theorem i64_0 {a : Int64} (q : a.toInt ≠ 0) : ¬ a = 0 := fun e => q (by rw [e]; decide)
theorem i32_0 {a : Int32} (q : a.toInt ≠ 0) : ¬ a = 0 := fun e => q (by rw [e]; decide)
theorem nI_len (n : Nat) (i : Int32) : i + 1 + nI n = i + nI (n + 1) := by
  rw [nI_succ, Int32.add_assoc, Int32.add_comm 1 (nI n)]
/-! the chains -/
theorem x_depthL (R : qR G F X k h) : ∀ (l : List Nat) (o : Option Nat) (n : Nat) (i : Int32), Ch G.parF G.N l o → l.length < n → f_X4_depth_L7 n i o h = some (i + nI l.length, h)
  | [], o, n + 1, i, c, _ => by
    obtain rfl : o = none := c
    rw [sN_X4_depth_L7]
    show some (i, h) = some (i + nI 0, h)
    rw [show nI 0 = 0 from rfl, Int32.add_zero]
  | a :: l, o, n + 1, i, c, hn => by
    obtain ⟨rfl, ha, c2⟩ := c
    have hn2 : l.length + 1 < n + 1 := hn
    rw [sS_X4_depth_L7, gN_par R ha, Option.bind_some, x_depthL R l _ n (i + 1) c2 (by omega), nI_len]
    rfl
theorem x_depth (R : qR G F X k h) {l : List Nat} (c : Ch G.parF G.N (a :: l) (some a)) (hn : l.length < 4000) : f_X4_depth a h = some (nI l.length, h) := by
  obtain ⟨-, ha, c2⟩ := c
  unfold f_X4_depth f_X4_depth_L0
  rw [gN_par R ha, Option.bind_some, x_depthL R l _ 4096 0 c2 (by omega), Int32.zero_add]
def qIn (w : Option Nat) : List Nat → Bool
  | [] => false
  | a :: l => if some a = w then true else qIn w l
theorem x_withinL (R : qR G F X k h) (w : Option Nat) : ∀ (l : List Nat) (o : Option Nat) (n : Nat), Ch G.parF G.N l o → l.length < n → f_X4_isWithin_L2 n w o h = some (if qIn w l then 1 else 0, h)
  | [], o, n + 1, c, _ => by
    obtain rfl : o = none := c
    rw [sN_X4_isWithin_L2]
    rfl
  | a :: l, o, n + 1, c, hn => by
    obtain ⟨rfl, ha, c2⟩ := c
    have hn2 : l.length + 1 < n + 1 := hn
    rw [sS_X4_isWithin_L2]
    by_cases q : some a = w
    · rw [if_pos q]
      unfold qIn
      rw [if_pos q]
      rfl
    · rw [if_neg q, gN_par R ha, Option.bind_some, x_withinL R w l _ n c2 (by omega)]
      conv => rhs; unfold qIn
      rw [if_neg q]
theorem x_within (R : qR G F X k h) {l : List Nat} (w : Option Nat) (c : Ch G.parF G.N l (some a)) (hn : l.length < 4000) : f_X4_isWithin a w h = some (if qIn w l then 1 else 0, h) := by
  unfold f_X4_isWithin f_X4_isWithin_L0
  exact x_withinL R w l _ 4096 c (by omega)
/-! the keys -/
theorem x_lastL (R : qR G F X k h) (t : Int32) : ∀ (l : List Nat) (o r : Option Nat) (n : Nat), Ch G.nexF G.K l o → l.length < n → f_X6_lastKeyUpTo_L7 n t r o h = some (qLast G t r l, h)
  | [], o, r, n + 1, c, _ => by
    obtain rfl : o = none := c
    rw [sN_X6_lastKeyUpTo_L7]
    rfl
  | a :: l, o, r, n + 1, c, hn => by
    obtain ⟨rfl, ha, c2⟩ := c
    have hn2 : l.length + 1 < n + 1 := hn
    rw [sS_X6_lastKeyUpTo_L7, gK_time R ha, Option.bind_some]
    unfold qLast
    by_cases q : t < (G.ky a).time
    · rw [if_pos q, if_pos q]
      rfl
    · rw [if_neg q, if_neg q, gK_next R ha, Option.bind_some, x_lastL R t l _ _ n c2 (by omega)]
theorem x_last (R : qR G F X k h) (V : qV G) {p : Nat} (hp : G.P p) (t : Int32) : f_X6_lastKeyUpTo p t h = some (qLast G t none (G.kl p), h) := by
  obtain ⟨c, hl⟩ := V.kc p hp
  unfold f_X6_lastKeyUpTo f_X6_lastKeyUpTo_L0
  rw [gP_fk R hp, Option.bind_some]
  exact x_lastL R t _ _ _ 4096 c (by omega)
theorem qLast_in (G : qS) (t : Int32) : ∀ (l : List Nat) (r : Option Nat) (b : Nat), qLast G t r l = some b → r = some b ∨ b ∈ l
  | [], r, b, e => Or.inl e
  | a :: l, r, b, e => by
    unfold qLast at e
    by_cases q : t < (G.ky a).time
    · rw [if_pos q] at e; exact Or.inl e
    · rw [if_neg q] at e
      rcases qLast_in G t l _ _ e with e2 | e2
      · cases e2; exact Or.inr List.mem_cons_self
      · exact Or.inr (List.mem_cons_of_mem _ e2)
theorem Ch.D {nx : Nat → Option Nat} {D : Nat → Prop} : ∀ {l : List Nat} {o : Option Nat}, Ch nx D l o → ∀ b, b ∈ l → D b
  | [], _, _, b, hb => nomatch hb
  | a :: l, _, c, b, hb => by
    obtain ⟨-, ha, c2⟩ := c
    rcases List.mem_cons.mp hb with e | e
    · rw [e]; exact ha
    · exact Ch.D c2 b e
theorem Ch.nx {nx : Nat → Option Nat} {D : Nat → Prop} : ∀ {l : List Nat} {o : Option Nat}, Ch nx D l o → ∀ b c, b ∈ l → nx b = some c → c ∈ l
  | [], _, _, b, _, hb, _ => nomatch hb
  | a :: l, _, c, b, d, hb, e => by
    obtain ⟨-, ha, c2⟩ := c
    rcases List.mem_cons.mp hb with e2 | e2
    · subst e2
      cases l with
      | nil => rw [show nx b = none from c2] at e; cases e
      | cons x l =>
        obtain ⟨q, -, -⟩ := c2
        rw [q] at e
        cases e
        exact List.mem_cons_of_mem _ List.mem_cons_self
    · exact List.mem_cons_of_mem _ (Ch.nx c2 b d e2 e)
theorem x_cnt (R : qR G F X k h) {p : Nat} (hp : G.P p) {t f g : Int32} (hf : 0 ≤ f.toInt ∧ f.toInt ≤ 999) (hg : 0 ≤ g.toInt ∧ g.toInt ≤ 999) : f_X6_countedTime p t f g h = some (qCnt (G.pp p).end_ t f g, h) := by
  unfold f_X6_countedTime f_X6_countedTime_L0 f_X6_countedTime_L23 f_X6_countedTime_L75 qCnt
  rw [gP_end_ R hp]
  simp only [Option.bind_some]
  by_cases q0 : (G.pp p).end_ = 0
  · rw [if_pos q0, if_pos q0]
  rw [if_neg q0, if_neg q0]
  by_cases q1 : t ≤ g
  · rw [if_pos q1, if_pos q1]
  rw [if_neg q1, if_neg q1]
  by_cases q2 : 1 ≤ g - f
  · have d1 := i32_1 q2
    have d2 : (g - f).toInt = g.toInt - f.toInt := i32_sub (by omega) (by omega)
    have e2 : (2 : Int32).toInt = 2 := by decide
    have d3 : ((2 : Int32) * (g - f)).toInt = 2 * (g - f).toInt := by
      rw [i32_mul (by rw [e2]; omega) (by rw [e2]; omega), e2]
    rw [if_pos q2, if_pos q2]
    by_cases q3 : (G.pp p).end_ = 1
    · rw [if_pos q3, if_pos q3, if_neg (i32_0 (by omega))]
    · rw [if_neg q3, if_neg q3, if_neg (i32_0 (by omega))]
      by_cases q4 : g - f < t - f - (t - f) / (2 * (g - f)) * (2 * (g - f))
      · rw [if_pos q4, if_pos q4]
      · rw [if_neg q4, if_neg q4]
  · rw [if_neg q2, if_neg q2]
theorem i64_of {a : Int32} : (Int32.toInt64 a).toInt = a.toInt := Int32.toInt_toInt64 a
theorem i64_1 {d : Int64} (q : 1 ≤ d) : 1 ≤ d.toInt := by
  have := Int64.le_iff_toInt_le.mp q
  have e : (1 : Int64).toInt = 1 := by decide
  omega
theorem x_val (R : qR G F X k h) (V : qV G) {p b : Nat} (hp : G.P p) (hb : b ∈ G.kl p) (t : Int32) : f_X6_valueFrom p (some b) t h = some (qVal G p b t, h) := by
  obtain ⟨c, hl⟩ := V.kc p hp
  have kb := c.D b hb
  unfold f_X6_valueFrom f_X6_valueFrom_L0 f_X6_valueFrom_L16 qVal
  rw [gK_next R kb, Option.bind_some]
  cases e : (G.ky b).next with
  | none => simp only [gK_value R kb, Option.bind_some, if_true]
  | some d =>
    have kd := c.D d (c.nx b d hb e)
    simp only [gK_value R kb, gK_time R kb, gK_value R kd, gK_time R kd, gP_ease R hp, Option.bind_some, reduceCtorEq, if_false]
    by_cases q0 : (G.pp p).ease = 0
    · rw [if_pos q0, if_pos q0]
    rw [if_neg q0, if_neg q0]
    by_cases q1 : (1 : Int64) ≤ Int32.toInt64 ((G.ky d).time - (G.ky b).time)
    · rw [if_pos q1, if_pos q1]
      unfold qMid
      have t1 := V.kt b kb
      have t2 := V.kt d kd
      have d1 := i64_1 q1
      rw [i64_of] at d1
      have d2 : ((G.ky d).time - (G.ky b).time).toInt = (G.ky d).time.toInt - (G.ky b).time.toInt := i32_sub (by omega) (by omega)
      generalize (G.ky d).time - (G.ky b).time = w at *
      have w1 : (Int32.toInt64 w).toInt = w.toInt := i64_of
      have w2 : w.toInt * w.toInt ≤ 1000 * 1000 := Int.mul_le_mul (by omega) (by omega) (by omega) (by omega)
      have w3 : 1 * 1 ≤ w.toInt * w.toInt := Int.mul_le_mul (by omega) (by omega) (by omega) (by omega)
      have w4 : (Int32.toInt64 w * Int32.toInt64 w).toInt = w.toInt * w.toInt := by
        rw [i64_mul (by rw [w1]; omega) (by rw [w1]; omega), w1]
      have w5 : w.toInt * w.toInt * w.toInt ≤ (1000 * 1000) * 1000 := Int.mul_le_mul (by omega) (by omega) (by omega) (by omega)
      have w6 : (1 * 1) * 1 ≤ w.toInt * w.toInt * w.toInt := Int.mul_le_mul (by omega) (by omega) (by omega) (by omega)
      have w7 : (Int32.toInt64 w * Int32.toInt64 w * Int32.toInt64 w).toInt = w.toInt * w.toInt * w.toInt := by
        rw [i64_mul (by rw [w4, w1]; omega) (by rw [w4, w1]; omega), w4, w1]
      by_cases q2 : (G.pp p).ease = 1
      · rw [if_pos q2, if_pos q2, if_neg (i64_0 (by omega))]
      · rw [if_neg q2, if_neg q2, if_neg (i64_0 (by omega))]
    · rw [if_neg q1, if_neg q1]
theorem x_atP (R : qR G F X k h) (V : qV G) {p : Nat} (hp : G.P p) (t : Int32) : f_X6_at p t h = some (qAt G p (G.kl p) t, h) := by
  obtain ⟨c, hl⟩ := V.kc p hp
  have hfk := gP_fk R hp
  unfold f_X6_at f_X6_at_L0
  rw [hfk, Option.bind_some]
  cases e : G.kl p with
  | nil =>
    rw [e] at c
    rw [show (G.pp p).fk = none from c, if_pos rfl, gP_own R hp, Option.bind_some]
    rfl
  | cons f l =>
    have c9 := c
    rw [e] at c
    obtain ⟨q, kf, c2⟩ := c
    have hf : f ∈ G.kl p := by rw [e]; exact List.mem_cons_self
    rw [q] at hfk ⊢
    rw [if_neg (fun z => nomatch z), oP R hp, Option.bind_some, x_last R V hp t, Option.bind_some]
    unfold qAt
    rw [← e]
    dsimp only
    cases e1 : qLast G t none (G.kl p) with
    | none =>
      rw [if_pos rfl]
      unfold f_X6_at_L54 f_X6_at_L74
      simp only [hfk, gK_value R kf, Option.bind_some, if_true, e]
    | some b =>
      have hb : b ∈ G.kl p := (qLast_in G t _ _ _ e1).resolve_left (fun z => nomatch z)
      have kb := c9.D b hb
      rw [if_neg (fun z => nomatch z)]
      dsimp only
      rw [gK_next R kb, Option.bind_some]
      cases e2 : (G.ky b).next with
      | none =>
        simp only [if_true, hfk, gK_time R kf, gK_time R kb, oP R hp, Option.bind_some, x_cnt R hp (V.kt f kf) (V.kt b kb), x_last R V hp]
        unfold f_X6_at_L54 f_X6_at_L74
        simp only [e]
        rw [← e]
        cases e3 : qLast G (qCnt (G.pp p).end_ t (G.ky f).time (G.ky b).time) none (G.kl p) with
        | none => simp only [if_true, hfk, gK_value R kf, Option.bind_some]
        | some d =>
          have hd : d ∈ G.kl p := (qLast_in G _ _ _ _ e3).resolve_left (fun z => nomatch z)
          simp only [reduceCtorEq, if_false, oP R hp, x_val R V hp hd, Option.bind_some]
      | some d =>
        rw [if_neg (fun z => nomatch z)]
        unfold f_X6_at_L54 f_X6_at_L74
        rw [if_neg (fun z => nomatch z), oP R hp, Option.bind_some, x_val R V hp hb, Option.bind_some, e]
theorem x_at (R : qR G F X k h) (V : qV G) (ha : G.N a) {j : Nat} (hj : j < 4) (t : Int32) : f_X6_at (G.pr a j) t h = some (G.vl a j t, h) := x_atP R V (V.pP a j ha hj) t
def qDf (G : qS) (p : Nat) (t u : Int32) : Bool := !(G.kl p).isEmpty && qAt G p (G.kl p) t != qAt G p (G.kl p) u
theorem x_differsP (R : qR G F X k h) (V : qV G) {p : Nat} (hp : G.P p) (t u : Int32) : f_X6_differs p t u h = some (if qDf G p t u then 1 else 0, h) := by
  obtain ⟨c, hl⟩ := V.kc p hp
  unfold f_X6_differs f_X6_differs_L0 f_X6_differs_L24 f_X6_differs_L25 qDf
  rw [gP_fk R hp, Option.bind_some]
  cases e : G.kl p with
  | nil =>
    rw [e] at c
    rw [show (G.pp p).fk = none from c, if_pos rfl]
    rfl
  | cons f l =>
    have c9 := c
    rw [e] at c
    rw [c.1, if_neg (fun z => nomatch z)]
    simp only [oP R hp, x_atP R V hp, Option.bind_some, e]
    by_cases q : qAt G p (f :: l) t = qAt G p (f :: l) u
    · rw [if_pos q, if_pos (Or.inl trivial)]
      simp [q]
    · rw [if_neg q, if_pos (Or.inr trivial)]
      simp [q]
/-! shown, and strong -/
def qSh (G : qS) (t : Int32) : List Nat → Bool
  | [] => true
  | a :: l => if (G.nd a).hid = 0 then (if G.vl a 3 t = 0 then false else qSh G t l) else false
theorem x_shownL (R : qR G F X k h) (V : qV G) (t : Int32) : ∀ (l : List Nat) (o : Option Nat) (n : Nat), Ch G.parF G.N l o → l.length < n → f_X4_isShownAt_L2 n t o h = some (if qSh G t l then 1 else 0, h)
  | [], o, n + 1, c, _ => by
    obtain rfl : o = none := c
    rw [sN_X4_isShownAt_L2]
    rfl
  | a :: l, o, n + 1, c, hn => by
    obtain ⟨rfl, ha, c2⟩ := c
    have hn2 : l.length + 1 < n + 1 := hn
    rw [sS_X4_isShownAt_L2, gN_hid R ha, Option.bind_some]
    unfold qSh
    by_cases q : (G.nd a).hid = 0
    · rw [if_pos q, if_pos q, gN_opac R ha, Option.bind_some, (V.px a ha).2.2.2, oP R (V.pP a 3 ha (by decide)), Option.bind_some, x_at R V ha (by decide), Option.bind_some]
      dsimp only
      by_cases q2 : G.vl a 3 t = 0
      · rw [if_pos q2, if_pos q2]
        rfl
      · rw [if_neg q2, if_neg q2, gN_par R ha, Option.bind_some, x_shownL R V t l _ n c2 (by omega)]
    · rw [if_neg q, if_neg q]
      rfl
theorem x_shown (R : qR G F X k h) (V : qV G) (t : Int32) (ha : G.Lv a) : f_X4_isShownAt a t h = some (if qSh G t (G.up a) then 1 else 0, h) := by
  obtain ⟨c, hl⟩ := V.up a ha
  unfold f_X4_isShownAt f_X4_isShownAt_L0
  exact x_shownL R V t _ _ 4096 c (by omega)
def qDfN (G : qS) (t u : Int32) : List Nat → Bool
  | [] => false
  | a :: l => if qDf G (G.pr a 0) t u then true else if qDf G (G.pr a 1) t u then true else if qDf G (G.pr a 2) t u then true else if qDf G (G.pr a 3) t u then true else qDfN G t u l
theorem x_differsL (R : qR G F X k h) (V : qV G) (t u : Int32) : ∀ (l : List Nat) (o : Option Nat) (n : Nat), Ch G.parF G.N l o → l.length < n → f_X4_differs_L2 n t u o h = some (if qDfN G t u l then 1 else 0, h)
  | [], o, n + 1, c, _ => by
    obtain rfl : o = none := c
    rw [sN_X4_differs_L2]
    rfl
  | a :: l, o, n + 1, c, hn => by
    obtain ⟨rfl, ha, c2⟩ := c
    have hn2 : l.length + 1 < n + 1 := hn
    obtain ⟨e0, e1, e2, e3⟩ := V.px a ha
    have p0 := V.pP a 0 ha (by decide)
    have p1 := V.pP a 1 ha (by decide)
    have p2 := V.pP a 2 ha (by decide)
    have p3 := V.pP a 3 ha (by decide)
    rw [sS_X4_differs_L2]
    unfold qDfN f_X4_differs_L54
    simp only [gN_x R ha, gN_y R ha, gN_turns R ha, gN_opac R ha, gN_par R ha, e0, e1, e2, e3, oP R p0, oP R p1, oP R p2, oP R p3, x_differsP R V p0, x_differsP R V p1, x_differsP R V p2, x_differsP R V p3, Option.bind_some]
    by_cases q0 : qDf G (G.pr a 0) t u = true
    · simp +decide only [q0, if_true, if_false]
    by_cases q1 : qDf G (G.pr a 1) t u = true
    · simp +decide only [q0, q1, if_true, if_false]
    by_cases q2 : qDf G (G.pr a 2) t u = true
    · simp +decide only [q0, q1, q2, if_true, if_false]
    by_cases q3 : qDf G (G.pr a 3) t u = true
    · simp +decide only [q0, q1, q2, q3, if_true, if_false]
    simp +decide only [q0, q1, q2, q3, if_true, if_false]
    exact x_differsL R V t u l _ n c2 (by omega)
theorem x_differs (R : qR G F X k h) (V : qV G) (t u : Int32) (ha : G.Lv a) : f_X4_differs a t u h = some (if qDfN G t u (G.up a) then 1 else 0, h) := by
  obtain ⟨c, hl⟩ := V.up a ha
  unfold f_X4_differs f_X4_differs_L0
  exact x_differsL R V t u _ _ 4096 c (by omega)
/-- the strength, outside first -/
def qStr (G : qS) (t : Int32) : List Nat → Int32
  | [] => 100
  | a :: l => qStr G t l * G.vl a 3 t / 100
end QRY
