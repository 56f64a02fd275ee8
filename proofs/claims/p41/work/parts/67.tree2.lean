/-! A node leaves its parent, and is taken in by another one. -/
section TREE2
variable {G : qS} {a c : Nat}
/-- the tree with one node loose -/
def qDt (Lv : Nat → Prop) (par : Nat → Option Nat) (fst : Nat → Option Nat) (nxt : Nat → Option Nat) (ly : Nat → Int32) (kd : Nat → List Nat) (wh : Nat) (c : Nat) : Prop :=
  (Lv wh) ∧
  (par wh = none) ∧
  (Lv c) ∧
  (c ≠ wh) ∧
  (∀ a, Lv a → (kd a).Nodup ∧ ∀ b, b ∈ kd a ↔ (Lv b ∧ par b = some a ∧ b ≠ c)) ∧
  (∀ a, Lv a → -9 ≤ (ly a).toInt ∧ (ly a).toInt ≤ 9) ∧
  (∀ a, Lv a → Ch nxt Lv (kd a) (fst a))
theorem qDt.wl {Lv : Nat → Prop}{par : Nat → Option Nat}{fst : Nat → Option Nat}{nxt : Nat → Option Nat}{ly : Nat → Int32}{kd : Nat → List Nat}{wh : Nat}{c : Nat} (hq0 : qDt Lv par fst nxt ly kd wh c) : Lv wh := hq0.1
theorem qDt.wp {Lv : Nat → Prop}{par : Nat → Option Nat}{fst : Nat → Option Nat}{nxt : Nat → Option Nat}{ly : Nat → Int32}{kd : Nat → List Nat}{wh : Nat}{c : Nat} (hq0 : qDt Lv par fst nxt ly kd wh c) : par wh = none := hq0.2.1
theorem qDt.lc {Lv : Nat → Prop}{par : Nat → Option Nat}{fst : Nat → Option Nat}{nxt : Nat → Option Nat}{ly : Nat → Int32}{kd : Nat → List Nat}{wh : Nat}{c : Nat} (hq0 : qDt Lv par fst nxt ly kd wh c) : Lv c := hq0.2.2.1
theorem qDt.cw {Lv : Nat → Prop}{par : Nat → Option Nat}{fst : Nat → Option Nat}{nxt : Nat → Option Nat}{ly : Nat → Int32}{kd : Nat → List Nat}{wh : Nat}{c : Nat} (hq0 : qDt Lv par fst nxt ly kd wh c) : c ≠ wh := hq0.2.2.2.1
theorem qDt.tk {Lv : Nat → Prop}{par : Nat → Option Nat}{fst : Nat → Option Nat}{nxt : Nat → Option Nat}{ly : Nat → Int32}{kd : Nat → List Nat}{wh : Nat}{c : Nat} (hq0 : qDt Lv par fst nxt ly kd wh c) : ∀ a, Lv a → (kd a).Nodup ∧ ∀ b, b ∈ kd a ↔ (Lv b ∧ par b = some a ∧ b ≠ c) := hq0.2.2.2.2.1
theorem qDt.ly {Lv : Nat → Prop}{par : Nat → Option Nat}{fst : Nat → Option Nat}{nxt : Nat → Option Nat}{ly : Nat → Int32}{kd : Nat → List Nat}{wh : Nat}{c : Nat} (hq0 : qDt Lv par fst nxt ly kd wh c) : ∀ a, Lv a → -9 ≤ (ly a).toInt ∧ (ly a).toInt ≤ 9 := hq0.2.2.2.2.2.1
theorem qDt.ch {Lv : Nat → Prop}{par : Nat → Option Nat}{fst : Nat → Option Nat}{nxt : Nat → Option Nat}{ly : Nat → Int32}{kd : Nat → List Nat}{wh : Nat}{c : Nat} (hq0 : qDt Lv par fst nxt ly kd wh c) : ∀ a, Lv a → Ch nxt Lv (kd a) (fst a) := hq0.2.2.2.2.2.2
def qJd (G : qS) (c : Nat) : Prop :=
  (qIA G.added G.no G.N G.numF G.wh) ∧
  (qDt (qLvf G.N G.goneF) G.parF G.fstF G.nxtF (qLyF G) G.kd G.wh c) ∧
  (qIX G.N G.xF G.yF G.tuF G.opF G.pr G.P) ∧
  (qID G.N G.pr G.pp) ∧
  (qIK G.P G.pp G.K G.ky G.kl) ∧
  (qIO G.N G.goneF G.pr G.pp) ∧
  (qIE G.N G.ovF G.unF G.frF G.cuF G.fr G.M G.fm) ∧
  (qIF G.tracked G.tr G.P G.pp) ∧
  (qIW G.wh G.ovF G.unF G.miF G.cuF G.pr G.pp) ∧
  (qFd G)
theorem qJd.A {G : qS}{c : Nat} (hq0 : qJd G c) : qIA G.added G.no G.N G.numF G.wh := hq0.1
theorem qJd.B {G : qS}{c : Nat} (hq0 : qJd G c) : qDt (qLvf G.N G.goneF) G.parF G.fstF G.nxtF (qLyF G) G.kd G.wh c := hq0.2.1
theorem qJd.Y {G : qS}{c : Nat} (hq0 : qJd G c) : qIX G.N G.xF G.yF G.tuF G.opF G.pr G.P := hq0.2.2.1
theorem qJd.D {G : qS}{c : Nat} (hq0 : qJd G c) : qID G.N G.pr G.pp := hq0.2.2.2.1
theorem qJd.K {G : qS}{c : Nat} (hq0 : qJd G c) : qIK G.P G.pp G.K G.ky G.kl := hq0.2.2.2.2.1
theorem qJd.O {G : qS}{c : Nat} (hq0 : qJd G c) : qIO G.N G.goneF G.pr G.pp := hq0.2.2.2.2.2.1
theorem qJd.E {G : qS}{c : Nat} (hq0 : qJd G c) : qIE G.N G.ovF G.unF G.frF G.cuF G.fr G.M G.fm := hq0.2.2.2.2.2.2.1
theorem qJd.T {G : qS}{c : Nat} (hq0 : qJd G c) : qIF G.tracked G.tr G.P G.pp := hq0.2.2.2.2.2.2.2.1
theorem qJd.W {G : qS}{c : Nat} (hq0 : qJd G c) : qIW G.wh G.ovF G.unF G.miF G.cuF G.pr G.pp := hq0.2.2.2.2.2.2.2.2.1
theorem qJd.fd {G : qS}{c : Nat} (hq0 : qJd G c) : qFd G := hq0.2.2.2.2.2.2.2.2.2
/-! taking in -/
theorem take_f {α : Type} (f : qN → α) (h1 : ∀ q v, f (qN.s_fst q v) = f q) (h2 : ∀ q v, f (qN.s_nxt q v) = f q) (h3 : ∀ q v, f (qN.s_par q v) = f q) (x : Nat) : f ((qTake G a c).nd x) = f (G.nd x) := by
  have e1 : ∀ y, f ((qTk1 G a c).nd y) = f (G.nd y) := by
    intro y
    unfold qTk1
    cases qLs none (G.kd a) with
    | none =>
      show f (qu G.nd a ((G.nd a).s_fst (some c)) y) = _
      by_cases n : y = a
      · subst n; rw [qu_eq, h1]
      · rw [qu_ne n]
    | some b =>
      show f (qu G.nd b ((G.nd b).s_nxt (some c)) y) = _
      by_cases n : y = b
      · subst n; rw [qu_eq, h2]
      · rw [qu_ne n]
  show f (qu (qTk1 G a c).nd c _ x) = _
  by_cases n : x = c
  · subst n; rw [qu_eq, h3, h2, e1]
  · rw [qu_ne n, e1]
theorem take_par (x : Nat) : ((qTake G a c).nd x).par = if x = c then some a else (G.nd x).par := by
  show (qu (qTk1 G a c).nd c _ x).par = _
  by_cases n : x = c
  · subst n; rw [qu_eq, if_pos rfl]; rfl
  · rw [qu_ne n, if_neg n]
    unfold qTk1
    cases qLs none (G.kd a) with
    | none =>
      show (qu G.nd a ((G.nd a).s_fst (some c)) x).par = _
      by_cases n : x = a
      · subst n; rw [qu_eq]; rfl
      · rw [qu_ne n]
    | some b =>
      show (qu G.nd b ((G.nd b).s_nxt (some c)) x).par = _
      by_cases n : x = b
      · subst n; rw [qu_eq]; rfl
      · rw [qu_ne n]
theorem take_nxt (x : Nat) : ((qTake G a c).nd x).nxt = if x = c then none else if qLs none (G.kd a) = some x then some c else (G.nd x).nxt := by
  show (qu (qTk1 G a c).nd c _ x).nxt = _
  by_cases n : x = c
  · subst n; rw [qu_eq, if_pos rfl]; rfl
  · rw [qu_ne n, if_neg n]
    unfold qTk1
    cases e : qLs none (G.kd a) with
    | none =>
      rw [if_neg (fun z => nomatch z)]
      show (qu G.nd a ((G.nd a).s_fst (some c)) x).nxt = _
      by_cases n : x = a
      · subst n; rw [qu_eq]; rfl
      · rw [qu_ne n]
    | some b =>
      show (qu G.nd b ((G.nd b).s_nxt (some c)) x).nxt = _
      by_cases n : x = b
      · subst n; rw [qu_eq, if_pos rfl]; rfl
      · rw [qu_ne n, if_neg (fun z => n (Option.some.inj z).symm)]
theorem take_fst (x : Nat) : ((qTake G a c).nd x).fst = if x = a ∧ qLs none (G.kd a) = none then some c else (G.nd x).fst := by
  have e0 : ((qTake G a c).nd x).fst = ((qTk1 G a c).nd x).fst := by
    show (qu (qTk1 G a c).nd c _ x).fst = _
    by_cases n : x = c
    · subst n; rw [qu_eq]; rfl
    · rw [qu_ne n]
  rw [e0]
  unfold qTk1
  cases e : qLs none (G.kd a) with
  | none =>
    show (qu G.nd a ((G.nd a).s_fst (some c)) x).fst = _
    by_cases n : x = a
    · subst n; rw [qu_eq, if_pos ⟨rfl, rfl⟩]; rfl
    · rw [qu_ne n, if_neg (fun z => n z.1)]
  | some b =>
    rw [if_neg (fun z => nomatch z.2)]
    show (qu G.nd b ((G.nd b).s_nxt (some c)) x).fst = _
    by_cases n : x = b
    · subst n; rw [qu_eq]; rfl
    · rw [qu_ne n]
theorem Ch.snoc {nx nx2 : Nat → Option Nat} {D D2 : Nat → Prop} {c : Nat} (hc : D2 c) (e2 : nx2 c = none) : ∀ {l : List Nat} {o : Option Nat}, l.Nodup → Ch nx D l o → (∀ x, x ∈ l → D2 x ∧ nx2 x = if qLs none l = some x then some c else nx x) → Ch nx2 D2 (l ++ [c]) (if l = [] then some c else o)
  | [], o, _, _, _ => ⟨rfl, hc, e2⟩
  | a :: l, o, d, ch, h => by
    obtain ⟨d1, d2⟩ := List.nodup_cons.mp d
    obtain ⟨e, ha, ch2⟩ := ch
    rw [if_neg (List.cons_ne_nil a l)]
    have ha2 := h a List.mem_cons_self
    refine ⟨e, ha2.1, ?_⟩
    cases l with
    | nil =>
      have e1 := ha2.2
      rw [if_pos (show qLs none [a] = some a from rfl)] at e1
      rw [e1]
      exact ⟨rfl, hc, e2⟩
    | cons b l =>
      have ih := Ch.snoc (nx := nx) (nx2 := nx2) (D := D) hc e2 d2 ch2 (fun x hx => h x (List.mem_cons_of_mem _ hx))
      rw [if_neg (List.cons_ne_nil b l)] at ih
      have e1 := ha2.2
      have ne : ¬ qLs none (a :: b :: l) = some a := by
        intro z
        have z : qLs none (b :: l) = some a := z
        exact d1 ((qLs_in _ _ _ z).resolve_left (fun w => nomatch w))
      rw [if_neg ne] at e1
      rw [e1]
      exact ih
theorem qLs_nil {l : List Nat} : qLs none l = none ↔ l = [] := ⟨qLs_none, fun z => by rw [z]; rfl⟩
theorem take_J (J : qJd G c) (la : G.Lv a) (ac : a ≠ c) (hd : ∀ b, G.Lv b → ∃ d, d ≤ 4 ∧ qDp (qTake G a c).parF (qLvf G.N G.goneF) G.wh d b) : qJ (qTake G a c) := by
  have g1 : (qTake G a c).goneF = G.goneF := funext fun x => take_f qN.gone (fun _ _ => rfl) (fun _ _ => rfl) (fun _ _ => rfl) x
  have ca : ¬ c ∈ G.kd a := fun z => (((J.B.tk a la).2 c).mp z).2.2 rfl
  have ly : qLyF (qTake G a c) = qLyF G := funext fun x => take_f qN.layer (fun _ _ => rfl) (fun _ _ => rfl) (fun _ _ => rfl) x
  have kd : ∀ x, (qTake G a c).kd x = if x = a then G.kd a ++ [c] else G.kd x := fun x => by
    show qu G.kd a (G.kd a ++ [c]) x = _
    by_cases n : x = a
    · subst n; rw [qu_eq, if_pos rfl]
    · rw [qu_ne n, if_neg n]
  have sT : ∀ x y, (qTake G a c).parF x = some y ↔ (x = c ∧ y = a) ∨ (x ≠ c ∧ G.parF x = some y) := fun x y => by
    rw [show (qTake G a c).parF x = _ from take_par x]
    by_cases n : x = c
    · rw [if_pos n]
      exact ⟨fun z => Or.inl ⟨n, (Option.some.inj z).symm⟩, fun z => by rcases z with ⟨-, z⟩ | ⟨z, -⟩; rw [z]; exact absurd n z⟩
    · rw [if_neg n]
      exact ⟨fun z => Or.inr ⟨n, z⟩, fun z => by rcases z with ⟨z, -⟩ | ⟨-, z⟩; exact absurd z n; exact z⟩
  have tN : (qTake G a c).N = G.N := by
    show (qTk1 G a c).N = G.N
    unfold qTk1
    cases qLs none (G.kd a) <;> rfl
  have st : ∀ {β : Type} (f : qS → β), (∀ q b n, f (qS.setN q b n) = f q) → (∀ q v, f (qS.s_kd q v) = f q) → f (qTake G a c) = f G := by
    intro β f h1 h2
    have h3 : f (qTk1 G a c) = f G := by
      unfold qTk1
      cases qLs none (G.kd a) with
      | none => exact h1 _ _ _
      | some b => exact h1 _ _ _
    exact (h2 _ _).trans ((h1 _ _ _).trans h3)
  refine ⟨?_, ⟨?_, ?_, ⟨fun x lx => ?_, fun x lx => ?_⟩, fun x lx => ?_, ?_⟩, ?_, ?_, ?_, ?_, ?_, ?_, ?_, ?_⟩
  · rw [st qS.added (fun _ _ _ => rfl) (fun _ _ => rfl), st qS.no (fun _ _ _ => rfl) (fun _ _ => rfl), tN, st qS.wh (fun _ _ _ => rfl) (fun _ _ => rfl), show (qTake G a c).numF = G.numF from funext fun x => take_f qN.number (fun _ _ => rfl) (fun _ _ => rfl) (fun _ _ => rfl) x]; exact J.A
  · rw [tN, g1, st qS.wh (fun _ _ _ => rfl) (fun _ _ => rfl)]; exact J.B.wl
  · rw [st qS.wh (fun _ _ _ => rfl) (fun _ _ => rfl), show (qTake G a c).parF G.wh = _ from take_par G.wh, if_neg J.B.cw.symm]; exact J.B.wp
  · rw [tN, g1] at lx ⊢
    rw [kd x]
    obtain ⟨t1, t2⟩ := J.B.tk x lx
    by_cases n : x = a
    · subst n
      rw [if_pos rfl]
      refine ⟨List.nodup_append.mpr ⟨t1, List.nodup_cons.mpr ⟨fun z => (nomatch z), List.nodup_nil⟩, fun y hy z hz e => ?_⟩, fun b => ?_⟩
      · rw [List.mem_singleton.mp hz] at e
        rw [e] at hy
        exact ca hy
      · rw [List.mem_append, t2 b, List.mem_singleton, sT]
        constructor
        · rintro (⟨z1, z2, z3⟩ | z)
          · exact ⟨z1, Or.inr ⟨z3, z2⟩⟩
          · exact ⟨by rw [z]; exact J.B.lc, Or.inl ⟨z, rfl⟩⟩
        · rintro ⟨z1, ⟨z2, -⟩ | ⟨z2, z3⟩⟩
          · exact Or.inr z2
          · exact Or.inl ⟨z1, z3, z2⟩
    · rw [if_neg n]
      refine ⟨t1, fun b => ?_⟩
      rw [t2 b, sT]
      constructor
      · rintro ⟨z1, z2, z3⟩
        exact ⟨z1, Or.inr ⟨z3, z2⟩⟩
      · rintro ⟨z1, ⟨z2, z3⟩ | ⟨z2, z3⟩⟩
        · exact absurd z3 n
        · exact ⟨z1, z3, z2⟩
  · rw [tN, g1] at lx
    rw [ly]
    exact J.B.ly x lx
  · rw [tN, g1] at lx ⊢
    rw [kd x]
    have ch := J.B.ch x lx
    obtain ⟨t1, t2⟩ := J.B.tk x lx
    have fs : (qTake G a c).fstF x = _ := take_fst x
    rw [fs]
    by_cases n : x = a
    · subst n
      rw [if_pos rfl]
      have := Ch.snoc (nx2 := (qTake G x c).nxtF) (c := c) J.B.lc (by rw [show (qTake G x c).nxtF c = _ from take_nxt c, if_pos rfl]) t1 ch (fun y hy => ⟨((t2 y).mp hy).1, by rw [show (qTake G x c).nxtF y = _ from take_nxt y, if_neg ((t2 y).mp hy).2.2]⟩)
      by_cases z : G.kd x = []
      · rw [if_pos z] at this
        rw [if_pos ⟨rfl, qLs_nil.mpr z⟩]
        exact this
      · rw [if_neg z] at this
        rw [if_neg (fun w => z (qLs_nil.mp w.2))]
        exact this
    · rw [if_neg n, if_neg (fun z => n z.1)]
      refine ch.cg (fun b hb => ⟨?_, ((t2 b).mp hb).1⟩)
      obtain ⟨z1, z2, z3⟩ := (t2 b).mp hb
      rw [show (qTake G a c).nxtF b = _ from take_nxt b, if_neg z3, if_neg]
      intro w
      have hb2 := (qLs_in _ _ _ w).resolve_left (fun z => nomatch z)
      have := (((J.B.tk a la).2 b).mp hb2).2.1
      rw [z2] at this
      exact n (Option.some.inj this)
  · intro x lx
    rw [tN, g1] at lx ⊢
    rw [st qS.wh (fun _ _ _ => rfl) (fun _ _ => rfl)]
    exact hd x lx
  · rw [tN, st qS.pr (fun _ _ _ => rfl) (fun _ _ => rfl), st qS.P (fun _ _ _ => rfl) (fun _ _ => rfl), show (qTake G a c).xF = G.xF from funext fun x => take_f qN.x (fun _ _ => rfl) (fun _ _ => rfl) (fun _ _ => rfl) x, show (qTake G a c).yF = G.yF from funext fun x => take_f qN.y (fun _ _ => rfl) (fun _ _ => rfl) (fun _ _ => rfl) x, show (qTake G a c).tuF = G.tuF from funext fun x => take_f qN.turns (fun _ _ => rfl) (fun _ _ => rfl) (fun _ _ => rfl) x, show (qTake G a c).opF = G.opF from funext fun x => take_f qN.opac (fun _ _ => rfl) (fun _ _ => rfl) (fun _ _ => rfl) x]; exact J.Y
  · rw [tN, st qS.pr (fun _ _ _ => rfl) (fun _ _ => rfl), st qS.pp (fun _ _ _ => rfl) (fun _ _ => rfl)]; exact J.D
  · rw [st qS.P (fun _ _ _ => rfl) (fun _ _ => rfl), st qS.pp (fun _ _ _ => rfl) (fun _ _ => rfl), st qS.K (fun _ _ _ => rfl) (fun _ _ => rfl), st qS.ky (fun _ _ _ => rfl) (fun _ _ => rfl), st qS.kl (fun _ _ _ => rfl) (fun _ _ => rfl)]; exact J.K
  · rw [tN, g1, st qS.pr (fun _ _ _ => rfl) (fun _ _ => rfl), st qS.pp (fun _ _ _ => rfl) (fun _ _ => rfl)]; exact J.O
  · rw [tN, st qS.fr (fun _ _ _ => rfl) (fun _ _ => rfl), st qS.M (fun _ _ _ => rfl) (fun _ _ => rfl), st qS.fm (fun _ _ _ => rfl) (fun _ _ => rfl), show (qTake G a c).ovF = G.ovF from funext fun x => take_f qN.over (fun _ _ => rfl) (fun _ _ => rfl) (fun _ _ => rfl) x, show (qTake G a c).unF = G.unF from funext fun x => take_f qN.under (fun _ _ => rfl) (fun _ _ => rfl) (fun _ _ => rfl) x, show (qTake G a c).frF = G.frF from funext fun x => take_f qN.frame (fun _ _ => rfl) (fun _ _ => rfl) (fun _ _ => rfl) x, show (qTake G a c).cuF = G.cuF from funext fun x => take_f qN.cut (fun _ _ => rfl) (fun _ _ => rfl) (fun _ _ => rfl) x]; exact J.E
  · rw [st qS.tracked (fun _ _ _ => rfl) (fun _ _ => rfl), st qS.tr (fun _ _ _ => rfl) (fun _ _ => rfl), st qS.P (fun _ _ _ => rfl) (fun _ _ => rfl), st qS.pp (fun _ _ _ => rfl) (fun _ _ => rfl)]; exact J.T
  · rw [st qS.wh (fun _ _ _ => rfl) (fun _ _ => rfl), st qS.pr (fun _ _ _ => rfl) (fun _ _ => rfl), st qS.pp (fun _ _ _ => rfl) (fun _ _ => rfl), show (qTake G a c).ovF = G.ovF from funext fun x => take_f qN.over (fun _ _ => rfl) (fun _ _ => rfl) (fun _ _ => rfl) x, show (qTake G a c).unF = G.unF from funext fun x => take_f qN.under (fun _ _ => rfl) (fun _ _ => rfl) (fun _ _ => rfl) x, show (qTake G a c).miF = G.miF from funext fun x => take_f qN.mir (fun _ _ => rfl) (fun _ _ => rfl) (fun _ _ => rfl) x, show (qTake G a c).cuF = G.cuF from funext fun x => take_f qN.cut (fun _ _ => rfl) (fun _ _ => rfl) (fun _ _ => rfl) x]; exact J.W
  · show qFd (qTake G a c)
    unfold qFd
    rw [st qS.f0 (fun _ _ _ => rfl) (fun _ _ => rfl), st qS.f1 (fun _ _ _ => rfl) (fun _ _ => rfl), st qS.f2 (fun _ _ _ => rfl) (fun _ _ => rfl), st qS.f3 (fun _ _ _ => rfl) (fun _ _ => rfl)]; exact J.fd
/-- depths after a part is hung elsewhere -/
theorem take_dp {par : Nat → Option Nat} {Lv : Nat → Prop} {wh da : Nat} {par2 : Nat → Option Nat} (e2 : ∀ x, par2 x = if x = c then some a else par x) (qa : qDp par Lv wh da a) (na : ∀ n, ¬ qWi par n c a) (sf : ∀ n, ¬ qWi par (n + 1) c c) (lv : ∀ n b, qWi par n c b → Lv b → da + 1 + n ≤ 4) (pl : ∀ b p, Lv b → par b = some p → b ≠ c → Lv p) (hb : ∀ b, Lv b → b = c ∨ ∃ d, d ≤ 4 ∧ qDp par Lv wh d b) : ∀ b, Lv b → ∃ d, d ≤ 4 ∧ qDp par2 Lv wh d b := by
  have out : ∀ (d b : Nat), qDp par Lv wh d b → (∀ n, ¬ qWi par n c b) → qDp par2 Lv wh d b := by
    intro d
    induction d with
    | zero =>
      intro b q n
      have bc : b ≠ c := fun z => n 0 z
      exact ⟨q.1, q.2.1, by rw [e2, if_neg bc]; exact q.2.2⟩
    | succ d ih =>
      intro b q n
      obtain ⟨lb, p, e, q2⟩ := q
      have bc : b ≠ c := fun z => n 0 z
      exact ⟨lb, p, by rw [e2, if_neg bc]; exact e, ih p q2 (fun m z => n (m + 1) ⟨p, e, z⟩)⟩
  have qa2 := out da a qa na
  have ins : ∀ (n b : Nat), qWi par n c b → Lv b → qDp par2 Lv wh (da + 1 + n) b := by
    intro n
    induction n with
    | zero =>
      intro b w lb
      have w : b = c := w
      exact ⟨lb, a, by rw [e2, if_pos w], qa2⟩
    | succ n ih =>
      intro b w lb
      have bc : b ≠ c := fun z => sf n (by rw [z] at w; exact w)
      obtain ⟨p, e, w2⟩ := w
      exact ⟨lb, p, by rw [e2, if_neg bc]; exact e, ih p w2 (pl b p lb e bc)⟩
  intro b lb
  by_cases w : ∃ n, qWi par n c b
  · obtain ⟨n, w⟩ := w
    exact ⟨da + 1 + n, lv n b w lb, ins n b w lb⟩
  · obtain ⟨d, hd, q⟩ := (hb b lb).resolve_left (fun z => w ⟨0, z⟩)
    exact ⟨d, hd, out d b q (fun n z => w ⟨n, z⟩)⟩
end TREE2
