/-! Leaving a parent, vanishing, and new nodes. -/
section MUT3
variable {G : qS} {F : Nat → Option fCe} {X : Nat × Nat × (Nat → Int32)} {k : Nat} {h : fSt} {a : Nat}
/-- kids l1, a, l2 of p: a leaves -/
def qLv1 (G : qS) (a p : Nat) (l1 : List Nat) : qS := match qLs none l1 with
  | none => G.setN p ((G.nd p).s_fst ((G.nd a).nxt))
  | some b => G.setN b ((G.nd b).s_nxt ((G.nd a).nxt))
def qLeave (G : qS) (a p : Nat) (l1 l2 : List Nat) : qS := ((((qLv1 G a p l1).setN a (((qLv1 G a p l1).nd a).s_nxt (none)))).s_kd (qu G.kd p (l1 ++ l2)))
theorem x_lvEnd (R : qR G F X k h) (ha : G.N a) : ∃ h2, f_X4_leaveParent_L38 1 (some a) none h = some ((), h2) ∧ qR (G.setN a ((G.nd a).s_nxt (none))) F X k h2 := by
  obtain ⟨h2, w2, R2⟩ := wN_nxt R ha rfl none
  refine ⟨h2, ?_, R2⟩
  rw [sN_X4_leaveParent_L38, w2, Option.bind_some]
theorem Ch.nn {nx : Nat → Option Nat} {D : Nat → Prop} : ∀ {l : List Nat} {o : Option Nat} {a : Nat}, Ch nx D l o → (o ≠ some a) → ¬ a ∈ l → ∀ b, b ∈ l → nx b ≠ some a
  | [], _, _, _, _, _, b, hb => nomatch hb
  | d :: l, o, a, c, ho, hn, b, hb => by
    obtain ⟨e, hd, c2⟩ := c
    have nd : nx d ≠ some a := by
      intro z
      cases l with
      | nil => rw [show nx d = none from c2] at z; cases z
      | cons f l =>
        obtain ⟨e2, -, -⟩ := c2
        rw [e2] at z
        cases z
        exact hn (List.mem_cons_of_mem _ List.mem_cons_self)
    rcases List.mem_cons.mp hb with z | z
    · rw [z]; exact nd
    · exact Ch.nn c2 nd (fun w => hn (List.mem_cons_of_mem _ w)) b z
theorem Ch.app {nx : Nat → Option Nat} {D : Nat → Prop} : ∀ {l1 l2 : List Nat} {o : Option Nat}, Ch nx D (l1 ++ l2) o → ∃ o2, Ch nx D l2 o2 ∧ (∀ b, qLs none l1 = some b → nx b = o2) ∧ (l1 = [] → o = o2)
  | [], l2, o, c => ⟨o, c, fun b e => (nomatch e), fun _ => rfl⟩
  | a :: l1, l2, o, c => by
    obtain ⟨e, ha, c2⟩ := c
    obtain ⟨o2, c3, h1, h2⟩ := Ch.app (l1 := l1) c2
    refine ⟨o2, c3, fun b eb => ?_, fun z => nomatch z⟩
    cases l1 with
    | nil =>
      have : some a = some b := eb
      cases this
      exact h2 rfl
    | cons d l1 => exact h1 b eb
/-- the walk up to the one ahead of a -/
theorem x_lvB (R : qR G F X k h) (ha : G.N a) (b : Nat) : ∀ (l : List Nat) (o : Option Nat) (n : Nat), Ch G.nxtF G.N (l ++ [b]) o → (G.nd b).nxt = some a ∨ True → l.length + 200 < n → (∀ d, d ∈ l → (G.nd d).nxt ≠ some a) → ∃ m, 100 < m ∧ f_X4_leaveParent_L38 n (some a) o h = f_X4_leaveParent_L38 m (some a) (some b) h
  | [], o, n, c, _, hn, _ => by
    obtain ⟨e, hb, c2⟩ := c
    have e : o = some b := e
    subst e
    exact ⟨n, by omega, rfl⟩
  | d :: l, o, n + 1, c, hb, hn, hq => by
    obtain ⟨rfl, hd, c2⟩ := c
    have hn2 : l.length + 1 + 200 < n + 1 := hn
    obtain ⟨m, hm, e⟩ := x_lvB R ha b l _ n c2 hb (by omega) (fun f hf => hq f (List.mem_cons_of_mem _ hf))
    refine ⟨m, hm, ?_⟩
    rw [sS_X4_leaveParent_L38, gN_nxt R hd, Option.bind_some, if_neg (hq d List.mem_cons_self)]
    unfold f_X4_leaveParent_L58
    rw [gN_nxt R hd, Option.bind_some]
    exact e
theorem qLs_snoc : ∀ {l : List Nat} {b : Nat}, qLs none l = some b → ∃ l0, l = l0 ++ [b]
  | [], _, e => nomatch e
  | [a], b, e => by
    have : some a = some b := e
    cases this
    exact ⟨[], rfl⟩
  | a :: d :: l, b, e => by
    obtain ⟨l0, e0⟩ := qLs_snoc (l := d :: l) (b := b) e
    exact ⟨a :: l0, by rw [e0]; rfl⟩
theorem qLs_none : ∀ {l : List Nat}, qLs none l = none → l = []
  | [], _ => rfl
  | a :: l, e => by
    exfalso
    have : ∀ (l : List Nat) (a : Nat), qLs (some a) l ≠ none := by
      intro l
      induction l with
      | nil => intro a z; cases z
      | cons d l ih => intro a z; exact ih d z
    exact this l a e
theorem x_leaveP (R : qR G F X k h) {p : Nat} {l1 l2 : List Nat} (ha : G.N a) (hp : G.N p) (ep : (G.nd a).par = some p) (pa : p ≠ a) (ek : G.kd p = l1 ++ a :: l2) (kc : Ch G.nxtF G.N (G.kd p) (G.nd p).fst) (kl : (G.kd p).length ≤ 100) (kn : (G.kd p).Nodup) : ∃ h2, f_X4_leaveParent a h = some ((), h2) ∧ qR (qLeave G a p l1 l2) F X k h2 := by
  rw [ek] at kc kl kn
  have kl2 : l1.length + (l2.length + 1) ≤ 100 := by simpa using kl
  obtain ⟨n1, n2, n3⟩ := List.nodup_append.mp kn
  obtain ⟨n4, n5⟩ := List.nodup_cons.mp n2
  obtain ⟨o2, c2, q1, q2⟩ := kc.app
  obtain ⟨rfl, -, c3⟩ := c2
  have c3 : Ch G.nxtF G.N l2 (G.nd a).nxt := c3
  unfold f_X4_leaveParent f_X4_leaveParent_L0 f_X4_leaveParent_L30
  rw [gN_par R ha, Option.bind_some, ep, if_neg (fun z => nomatch z), Option.bind_some, gN_fst R hp, Option.bind_some]
  have na : ∀ b, b ∈ l2 → (G.nd b).nxt ≠ some a := by
    refine c3.nn ?_ n4
    intro z
    cases l2 with
    | nil => rw [show (G.nd a).nxt = none from c3] at z; cases z
    | cons d l =>
      rw [c3.1] at z
      cases z
      exact n4 List.mem_cons_self
  cases e : qLs none l1 with
  | none =>
    obtain rfl := qLs_none e
    have ef : (G.nd p).fst = some a := q2 rfl
    obtain ⟨h1, w1, R1⟩ := wN_fst R hp rfl (G.nd a).nxt
    have nx : ∀ b, ((G.setN p ((G.nd p).s_fst ((G.nd a).nxt))).nd b).nxt = (G.nd b).nxt := by
      intro b
      show (qu G.nd p _ b).nxt = _
      by_cases z : b = p
      · subst z; rw [qu_eq]; rfl
      · rw [qu_ne z]
    have pr : ((G.setN p ((G.nd p).s_fst ((G.nd a).nxt))).nd a).par = some p := by
      show (qu G.nd p _ a).par = _
      rw [qu_ne pa.symm]; exact ep
    obtain ⟨h2, e2, R2⟩ := x_lvEnd (a := a) R1 ha
    have c4 : Ch (G.setN p ((G.nd p).s_fst ((G.nd a).nxt))).nxtF G.N l2 (G.nd a).nxt := c3.cg (fun b hb => ⟨nx b, c3.D b hb⟩)
    refine ⟨h2, ?_, ?_⟩
    · rw [ef, if_pos rfl, Option.bind_some, gN_nxt R ha, Option.bind_some, w1, Option.bind_some, gN_par R1 (a := a) ha, pr, Option.bind_some, gN_fst R1 (a := p) hp, at_setN, Option.bind_some]
      exact (x_lvA R1 l2 _ 4096 c4 (by omega) (fun b hb => by rw [nx b]; exact na b hb)).trans e2
    · unfold qLeave qLv1
      rw [e]
      exact R2
  | some b =>
    obtain ⟨l0, rfl⟩ := qLs_snoc e
    have eb : (G.nd b).nxt = some a := q1 b e
    have hb : G.N b := kc.D b (by simp)
    have ab : b ≠ a := by
      intro z
      exact n3 b (by simp) a List.mem_cons_self z
    have ef : (G.nd p).fst ≠ some a := by
      intro z
      have n6 : ¬ a ∈ l0 ++ [b] := fun w => n3 a w a List.mem_cons_self rfl
      cases l0 with
      | nil => rw [kc.1] at z; cases z; exact ab rfl
      | cons d l => rw [kc.1] at z; cases z; exact n6 List.mem_cons_self
    have pre : Ch G.nxtF G.N (l0 ++ [b]) (G.nd p).fst ∨ True := Or.inr trivial
    have nl0 : ∀ d, d ∈ l0 → (G.nd d).nxt ≠ some a := by
      have n6 : (l0 ++ [b] ++ a :: l2).Nodup := kn
      intro d hd z
      have kc2 : Ch G.nxtF G.N (l0 ++ ([b] ++ a :: l2)) (G.nd p).fst := by rw [← List.append_assoc]; exact kc
      -- the one behind d lies in l0 ++ [b]
      have go : ∀ (l : List Nat) (o : Option Nat), Ch G.nxtF G.N (l ++ ([b] ++ a :: l2)) o → d ∈ l → ∃ x, (G.nd d).nxt = some x ∧ x ∈ l ++ [b] := by
        intro l
        induction l with
        | nil => intro o _ hd; cases hd
        | cons f l ih =>
          intro o c hd
          obtain ⟨-, -, c2⟩ := c
          rcases List.mem_cons.mp hd with w | w
          · subst w
            cases l with
            | nil => exact ⟨b, c2.1, by simp⟩
            | cons g l => exact ⟨g, c2.1, by simp⟩
          · obtain ⟨x, x1, x2⟩ := ih _ c2 w
            exact ⟨x, x1, List.mem_cons_of_mem _ x2⟩
      obtain ⟨x, x1, x2⟩ := go l0 _ kc2 hd
      rw [x1] at z
      cases z
      exact n3 a x2 a List.mem_cons_self rfl
    have kcp : Ch G.nxtF G.N (l0 ++ [b] ++ a :: l2) (G.nd p).fst := kc
    obtain ⟨h1, w1, R1⟩ := wN_nxt R hb rfl (G.nd a).nxt
    have nx : ∀ d, d ∈ l2 → ((G.setN b ((G.nd b).s_nxt ((G.nd a).nxt))).nd d).nxt = (G.nd d).nxt := by
      intro d hd
      show (qu G.nd b _ d).nxt = _
      rw [qu_ne]
      intro z
      exact n3 b (by simp) d (List.mem_cons_of_mem _ hd) z.symm
    obtain ⟨h2, e2, R2⟩ := x_lvEnd (a := a) R1 ha
    have c4 : Ch (G.setN b ((G.nd b).s_nxt ((G.nd a).nxt))).nxtF G.N l2 (G.nd a).nxt := c3.cg (fun d hd => ⟨nx d hd, c3.D d hd⟩)
    -- the walk along l0
    have walk : ∀ (l : List Nat) (o : Option Nat) (n : Nat), Ch G.nxtF G.N (l ++ ([b] ++ a :: l2)) o → l.length + 200 < n → (∀ d, d ∈ l → (G.nd d).nxt ≠ some a) → f_X4_leaveParent_L38 n (some a) o h = some ((), h2) := by
      intro l
      induction l with
      | nil =>
        intro o n c hn _
        obtain ⟨rfl, -, -⟩ := c
        obtain ⟨n, rfl⟩ : ∃ q, n = q + 1 := ⟨n - 1, by omega⟩
        rw [sS_X4_leaveParent_L38, gN_nxt R hb, Option.bind_some, if_pos eb, gN_nxt R ha, Option.bind_some, w1, Option.bind_some]
        unfold f_X4_leaveParent_L58
        rw [gN_nxt R1 (a := b) hb, at_setN, Option.bind_some]
        exact (x_lvA R1 l2 _ n c4 (by omega) (fun d hd => by rw [nx d hd]; exact na d hd)).trans e2
      | cons f l ih =>
        intro o n c hn hq
        obtain ⟨rfl, hf, c5⟩ := c
        have hn2 : l.length + 1 + 200 < n := hn
        obtain ⟨n, rfl⟩ : ∃ q, n = q + 1 := ⟨n - 1, by omega⟩
        rw [sS_X4_leaveParent_L38, gN_nxt R hf, Option.bind_some, if_neg (hq f List.mem_cons_self)]
        unfold f_X4_leaveParent_L58
        rw [gN_nxt R hf, Option.bind_some]
        exact ih _ n c5 (by omega) (fun d hd => hq d (List.mem_cons_of_mem _ hd))
    refine ⟨h2, ?_, ?_⟩
    · rw [if_neg ef, Option.bind_some, gN_fst R hp, Option.bind_some]
      have l0l : l0.length + 1 = (l0 ++ [b]).length := by simp
      exact walk l0 _ 4096 (by rw [← List.append_assoc]; exact kc) (by omega) nl0
    · unfold qLeave qLv1
      rw [e]
      exact R2
/-! vanishing -/
def qEnd (G : qS) (p : Nat) : qS := (((G.setP p ((((G.pp p).s_done (1)).s_fk (none)).s_cnt (0)))).s_kl (qu G.kl p []))
theorem x_end (R : qR G F X k h) {p : Nat} (hp : G.P p) : ∃ h2, f_X6_endTrack p h = some ((), h2) ∧ qR (qEnd G p) F X k h2 := by
  obtain ⟨h1, w1, R1⟩ := wP_done R hp rfl (v := 1) (Or.inr rfl)
  obtain ⟨h2, w2, R2⟩ := wP_fk R1 (a := p) hp at_setP none
  obtain ⟨h3, w3, R3⟩ := wP_cnt R2 (a := p) hp at_setP 0
  rw [setP_setP, setP_setP] at R3
  refine ⟨h3, ?_, R3⟩
  unfold f_X6_endTrack f_X6_endTrack_L0
  rw [w1, Option.bind_some, w2, Option.bind_some, w3, Option.bind_some]
def qVan (G : qS) (a : Nat) : qS := qEnd (qEnd (qEnd (qEnd (G.setN a ((G.nd a).s_gone (1))) (G.pr a 0)) (G.pr a 1)) (G.pr a 2)) (G.pr a 3)
theorem x_van (R : qR G F X k h) (px : (G.nd a).x = some (G.pr a 0) ∧ (G.nd a).y = some (G.pr a 1) ∧ (G.nd a).turns = some (G.pr a 2) ∧ (G.nd a).opac = some (G.pr a 3)) (pP : ∀ j, j < 4 → G.P (G.pr a j)) (ha : G.N a) : ∃ h2, f_X4_vanish a h = some ((), h2) ∧ qR (qVan G a) F X k h2 := by
  obtain ⟨e0, e1, e2, e3⟩ := px
  have p0 := pP 0 (by decide)
  have p1 := pP 1 (by decide)
  have p2 := pP 2 (by decide)
  have p3 := pP 3 (by decide)
  obtain ⟨h0, w0, R0⟩ := wN_gone R ha rfl (v := 1) (Or.inr rfl)
  have ex : ∀ f : qN → Option Nat, (∀ q : qN, f (q.s_gone 1) = f q) → f ((G.setN a ((G.nd a).s_gone (1))).nd a) = f (G.nd a) := fun f hf => by rw [at_setN]; exact hf _
  obtain ⟨h1, f1, R1⟩ := x_end R0 (p := G.pr a 0) p0
  obtain ⟨h2, f2, R2⟩ := x_end R1 (p := G.pr a 1) p1
  obtain ⟨h3, f3, R3⟩ := x_end R2 (p := G.pr a 2) p2
  obtain ⟨h4, f4, R4⟩ := x_end R3 (p := G.pr a 3) p3
  refine ⟨h4, ?_, R4⟩
  unfold f_X4_vanish f_X4_vanish_L0
  rw [w0, Option.bind_some]
  rw [show fgR h0 (some a) 4 3 = some (some (G.pr a 0)) from (gN_x R0 (a := a) ha).trans (by rw [ex qN.x (fun _ => rfl), e0]), Option.bind_some, show fobj h0 (some (G.pr a 0)) 6 = some (G.pr a 0) from oP R0 p0, Option.bind_some, f1, Option.bind_some]
  dsimp only
  rw [show fgR h1 (some a) 4 4 = some (some (G.pr a 1)) from (gN_y R1 (a := a) ha).trans (congrArg some ((ex qN.y (fun _ => rfl)).trans e1)), Option.bind_some, show fobj h1 (some (G.pr a 1)) 6 = some (G.pr a 1) from oP R1 p1, Option.bind_some, f2, Option.bind_some]
  dsimp only
  rw [show fgR h2 (some a) 4 5 = some (some (G.pr a 2)) from (gN_turns R2 (a := a) ha).trans (congrArg some ((ex qN.turns (fun _ => rfl)).trans e2)), Option.bind_some, show fobj h2 (some (G.pr a 2)) 6 = some (G.pr a 2) from oP R2 p2, Option.bind_some, f3, Option.bind_some]
  dsimp only
  rw [show fgR h3 (some a) 4 6 = some (some (G.pr a 3)) from (gN_opac R3 (a := a) ha).trans (congrArg some ((ex qN.opac (fun _ => rfl)).trans e3)), Option.bind_some, show fobj h3 (some (G.pr a 3)) 6 = some (G.pr a 3) from oP R3 p3, Option.bind_some, f4, Option.bind_some]
/-! a new node -/
theorem x_newP (R : qR G F X (k + 1) h) (v l u : Int32) : ∃ m h1 h2, fnew h (.inl (6, [.int 0, .int 0, .int 0, .int 0, .int 0, .int 0, .int 0, .null, .int 0])) 9 = some (m, h1) ∧ f_X6_init m v l u h1 = some ((), h2) ∧ qR (G.addP m (qP.mk l u v 0 0 0 0 none 0)) F X k h2 ∧ ¬ G.P m := by
  have Rn := R.newP (qP.mk 0 0 0 0 0 0 0 none 0) (n := 9) (by decide)
  have hm : (G.addP (fZ h) (qP.mk 0 0 0 0 0 0 0 none 0)).P (fZ h) := Or.inl rfl
  obtain ⟨h2, w2, R2⟩ := wP_own Rn hm at_addP v
  obtain ⟨h3, w3, R3⟩ := wP_least R2 (a := fZ h) hm at_setP l
  obtain ⟨h4, w4, R4⟩ := wP_most R3 (a := fZ h) hm at_setP u
  rw [setP_setP, setP_setP, addP_setP] at R4
  refine ⟨fZ h, _, h4, fnew_C (by have := R.rm.1; omega) (by have := R.rm.2; omega), ?_, R4, R.fresh.2.1⟩
  unfold f_X6_init f_X6_init_L0
  rw [show fobj (fPush h (.inl (6, [.int 0, .int 0, .int 0, .int 0, .int 0, .int 0, .int 0, .null, .int 0])) 9) (some (fZ h)) 6 = some (fZ h) from oP Rn hm, Option.bind_some]
  rw [show fput (fPush h (.inl (6, [.int 0, .int 0, .int 0, .int 0, .int 0, .int 0, .int 0, .null, .int 0])) 9) (some (fZ h)) 6 2 (.int v) = some h2 from w2, Option.bind_some, w3, Option.bind_some, w4, Option.bind_some]
def qNn (num kind : Int32) (p0 p1 p2 p3 f : Nat) : qN := (qN.mk num kind (some f) (some p0) (some p1) (some p2) (some p3) 1 1 0 0 0 none 0 none none none none 0)
def qNd0 : qN := (qN.mk 0 0 none none none none none 0 0 0 0 0 none 0 none none none none 0)
/-- the state with a new node at m -/
def qNew (G : qS) (m p0 p1 p2 p3 f : Nat) (num kind w hh : Int32) : qS :=
  (((((G.addN m (qNn num kind p0 p1 p2 p3 f)).addP p0 (qP.mk (-200) 200 0 0 0 0 0 none 0)).addP p1 (qP.mk (-200) 200 0 0 0 0 0 none 0)).addP p2 (qP.mk 0 3 0 0 0 0 0 none 0)).addP p3 (qP.mk 0 100 100 0 0 0 0 none 0)).addM f (qM.mk 0 0 w hh)
theorem x_newN (R : qR G F X (k + 6) h) (num kind w hh : Int32) : ∃ m p0 p1 p2 p3 f h1 h2, fnew h (.inl (4, [.int 0, .int 0, .null, .null, .null, .null, .null, .int 0, .int 0, .int 0, .int 0, .int 0, .null, .int 0, .null, .null, .null, .null, .int 0])) 19 = some (m, h1) ∧ f_X4_init m num kind w hh h1 = some ((), h2) ∧ qR (qNew G m p0 p1 p2 p3 f num kind w hh) F X k h2 ∧ ¬ G.N m ∧ (¬ G.P p0 ∧ ¬ G.P p1 ∧ ¬ G.P p2 ∧ ¬ G.P p3) ∧ (p1 ≠ p0 ∧ p2 ≠ p0 ∧ p2 ≠ p1 ∧ p3 ≠ p0 ∧ p3 ≠ p1 ∧ p3 ≠ p2) ∧ ¬ G.M f := by
  have Rn := R.newN (k := k + 5) qNd0 (n := 19) (by decide)
  generalize em : fZ h = m at Rn
  have hm : (G.addN m qNd0).N m := Or.inl rfl
  obtain ⟨p0, g0, h0, a0, b0, R0, x0⟩ := x_newP (k := k + 4) Rn 0 (-200) 200
  obtain ⟨h1, w1, R1⟩ := wN_x R0 (a := m) hm at_addN (some p0)
  rw [addP_setN, addN_setN] at R1
  obtain ⟨p1, g1, h2, a1, b1, R2, x1⟩ := x_newP (k := k + 3) R1 0 (-200) 200
  obtain ⟨h3, w3, R3⟩ := wN_y R2 (a := m) hm at_addN (some p1)
  rw [addP_setN, addP_setN, addN_setN] at R3
  obtain ⟨p2, g2, h4, a2, b2, R4, x2⟩ := x_newP (k := k + 2) R3 0 0 3
  obtain ⟨h5, w5, R5⟩ := wN_turns R4 (a := m) hm at_addN (some p2)
  rw [addP_setN, addP_setN, addP_setN, addN_setN] at R5
  obtain ⟨p3, g3, h6, a3, b3, R6, x3⟩ := x_newP (k := k + 1) R5 100 0 100
  obtain ⟨h7, w7, R7⟩ := wN_opac R6 (a := m) hm at_addN (some p3)
  rw [addP_setN, addP_setN, addP_setN, addP_setN, addN_setN] at R7
  obtain ⟨h8, w8, R8⟩ := wN_over R7 (a := m) hm at_addN 1
  rw [addP_setN, addP_setN, addP_setN, addP_setN, addN_setN] at R8
  obtain ⟨h9, w9, R9⟩ := wN_under R8 (a := m) hm at_addN 1
  rw [addP_setN, addP_setN, addP_setN, addP_setN, addN_setN] at R9
  obtain ⟨h10, w10, R10⟩ := wN_number R9 (a := m) hm at_addN num
  rw [addP_setN, addP_setN, addP_setN, addP_setN, addN_setN] at R10
  obtain ⟨h11, w11, R11⟩ := wN_kind R10 (a := m) hm at_addN kind
  rw [addP_setN, addP_setN, addP_setN, addP_setN, addN_setN] at R11
  obtain ⟨f, g4, h12, a4, b4, R12, x4⟩ := x_frame R11 0 0 w hh
  obtain ⟨h13, w13, R13⟩ := wN_frame R12 (a := m) hm at_addN (some f)
  rw [addM_setN, addP_setN, addP_setN, addP_setN, addP_setN, addN_setN] at R13
  have y0 : ¬ G.P p0 := x0
  have y1 : ¬ (p1 = p0 ∨ G.P p1) := x1
  have y2 : ¬ (p2 = p1 ∨ p2 = p0 ∨ G.P p2) := x2
  have y3 : ¬ (p3 = p2 ∨ p3 = p1 ∨ p3 = p0 ∨ G.P p3) := x3
  refine ⟨m, p0, p1, p2, p3, f, fPush h qNd0.c 19, h13, ?_, ?_, R13, by rw [← em]; exact R.fresh.1, ⟨y0, fun z => y1 (Or.inr z), fun z => y2 (Or.inr (Or.inr z)), fun z => y3 (Or.inr (Or.inr (Or.inr z)))⟩, ⟨fun z => y1 (Or.inl z), fun z => y2 (Or.inr (Or.inl z)), fun z => y2 (Or.inl z), fun z => y3 (Or.inr (Or.inr (Or.inl z))), fun z => y3 (Or.inr (Or.inl z)), fun z => y3 (Or.inl z)⟩, x4⟩
  · rw [← em]
    exact fnew_C (by have := R.rm.1; omega) (by have := R.rm.2; omega)
  · unfold f_X4_init f_X4_init_L0
    rw [oN Rn hm, Option.bind_some]
    exact (congrArg (fun o : Option (Nat × fSt) => o.bind _) a0).trans (by
      rw [Option.bind_some, b0, Option.bind_some, w1, Option.bind_some, a1, Option.bind_some, b1, Option.bind_some, w3, Option.bind_some, a2, Option.bind_some, b2, Option.bind_some, w5, Option.bind_some, a3, Option.bind_some, b3, Option.bind_some, w7, Option.bind_some, w8, Option.bind_some, w9, Option.bind_some, w10, Option.bind_some, w11, Option.bind_some, a4, Option.bind_some, b4, Option.bind_some, w13, Option.bind_some])
end MUT3
