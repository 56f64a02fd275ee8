/-! A node leaves its parent; a part of the tree goes. -/
section LEAVE
variable {G : qS} {a c p : Nat} {l1 l2 : List Nat}
theorem leave_f {α : Type} (f : qN → α) (h1 : ∀ q v, f (qN.s_fst q v) = f q) (h2 : ∀ q v, f (qN.s_nxt q v) = f q) (x : Nat) : f ((qLeave G c p l1 l2).nd x) = f (G.nd x) := by
  have e1 : ∀ y, f ((qLv1 G c p l1).nd y) = f (G.nd y) := by
    intro y
    unfold qLv1
    cases qLs none l1 with
    | none =>
      show f (qu G.nd p ((G.nd p).s_fst (G.nd c).nxt) y) = _
      by_cases n : y = p
      · subst n; rw [qu_eq, h1]
      · rw [qu_ne n]
    | some b =>
      show f (qu G.nd b ((G.nd b).s_nxt (G.nd c).nxt) y) = _
      by_cases n : y = b
      · subst n; rw [qu_eq, h2]
      · rw [qu_ne n]
  show f (qu (qLv1 G c p l1).nd c _ x) = _
  by_cases n : x = c
  · subst n; rw [qu_eq, h2, e1]
  · rw [qu_ne n, e1]
theorem leave_nxt (x : Nat) : ((qLeave G c p l1 l2).nd x).nxt = if x = c then none else if qLs none l1 = some x then (G.nd c).nxt else (G.nd x).nxt := by
  show (qu (qLv1 G c p l1).nd c _ x).nxt = _
  by_cases n : x = c
  · subst n; rw [qu_eq, if_pos rfl]; rfl
  · rw [qu_ne n, if_neg n]
    unfold qLv1
    cases e : qLs none l1 with
    | none =>
      rw [if_neg (fun z => nomatch z)]
      show (qu G.nd p ((G.nd p).s_fst (G.nd c).nxt) x).nxt = _
      by_cases n : x = p
      · subst n; rw [qu_eq]; rfl
      · rw [qu_ne n]
    | some b =>
      show (qu G.nd b ((G.nd b).s_nxt (G.nd c).nxt) x).nxt = _
      by_cases n : x = b
      · subst n; rw [qu_eq, if_pos rfl]; rfl
      · rw [qu_ne n, if_neg (fun z => n (Option.some.inj z).symm)]
theorem leave_fst (x : Nat) : ((qLeave G c p l1 l2).nd x).fst = if x = p ∧ qLs none l1 = none then (G.nd c).nxt else (G.nd x).fst := by
  have e0 : ((qLeave G c p l1 l2).nd x).fst = ((qLv1 G c p l1).nd x).fst := by
    show (qu (qLv1 G c p l1).nd c _ x).fst = _
    by_cases n : x = c
    · subst n; rw [qu_eq]; rfl
    · rw [qu_ne n]
  rw [e0]
  unfold qLv1
  cases e : qLs none l1 with
  | none =>
    show (qu G.nd p ((G.nd p).s_fst (G.nd c).nxt) x).fst = _
    by_cases n : x = p
    · subst n; rw [qu_eq, if_pos ⟨rfl, rfl⟩]; rfl
    · rw [qu_ne n, if_neg (fun z => n z.1)]
  | some b =>
    rw [if_neg (fun z => nomatch z.2)]
    show (qu G.nd b ((G.nd b).s_nxt (G.nd c).nxt) x).fst = _
    by_cases n : x = b
    · subst n; rw [qu_eq]; rfl
    · rw [qu_ne n]
theorem leave_kd (x : Nat) : (qLeave G c p l1 l2).kd x = if x = p then l1 ++ l2 else G.kd x := by
  show qu G.kd p (l1 ++ l2) x = _
  by_cases n : x = p
  · subst n; rw [qu_eq, if_pos rfl]
  · rw [qu_ne n, if_neg n]
theorem leave_st {β : Type} (f : qS → β) (h1 : ∀ q b n, f (qS.setN q b n) = f q) (h2 : ∀ q v, f (qS.s_kd q v) = f q) : f (qLeave G c p l1 l2) = f G := by
  have h3 : f (qLv1 G c p l1) = f G := by
    unfold qLv1
    cases qLs none l1 with
    | none => exact h1 _ _ _
    | some b => exact h1 _ _ _
  exact (h2 _ _).trans ((h1 _ _ _).trans h3)
theorem Ch.del {nx nx2 : Nat → Option Nat} {D D2 : Nat → Prop} : ∀ {l1 l2 : List Nat} {o : Option Nat}, l1.Nodup → Ch nx D (l1 ++ c :: l2) o → (∀ x, x ∈ l1 → D2 x ∧ nx2 x = if qLs none l1 = some x then nx c else nx x) → (∀ x, x ∈ l2 → nx2 x = nx x ∧ D2 x) → Ch nx2 D2 (l1 ++ l2) (if l1 = [] then nx c else o)
  | [], l2, o, _, ch, _, h2 => ch.2.2.cg h2
  | a :: l1, l2, o, d, ch, h, h2 => by
    obtain ⟨d1, d2⟩ := List.nodup_cons.mp d
    obtain ⟨e, ha, ch2⟩ := ch
    rw [if_neg (List.cons_ne_nil a l1)]
    have ha2 := h a List.mem_cons_self
    refine ⟨e, ha2.1, ?_⟩
    cases l1 with
    | nil =>
      have e1 := ha2.2
      rw [if_pos (show qLs none [a] = some a from rfl)] at e1
      rw [e1]
      exact ch2.2.2.cg h2
    | cons b l =>
      have ne : ∀ x, qLs none (a :: b :: l) = some x ↔ qLs none (b :: l) = some x := fun x => Iff.rfl
      have ih := Ch.del (nx := nx) (nx2 := nx2) (D := D) (D2 := D2) d2 ch2 (fun x hx => by
        have := h x (List.mem_cons_of_mem _ hx)
        exact this) h2
      rw [if_neg (List.cons_ne_nil b l)] at ih
      have e1 := ha2.2
      have ne : ¬ qLs none (a :: b :: l) = some a := by
        intro z
        have z : qLs none (b :: l) = some a := z
        exact d1 ((qLs_in _ _ _ z).resolve_left (fun w => nomatch w))
      rw [if_neg ne] at e1
      rw [e1]
      exact ih
/-- the tree after a node left -/
theorem leave_B {N : Nat → Prop} {gone : Nat → Int32} (B : qIB N gone G.parF G.fstF G.nxtF (qLyF G) G.kd G.wh) (lc : qLvf N gone c) (ep : (G.nd c).par = some p) (ek : G.kd p = l1 ++ c :: l2) : qDt (qLvf N gone) (qLeave G c p l1 l2).parF (qLeave G c p l1 l2).fstF (qLeave G c p l1 l2).nxtF (qLyF (qLeave G c p l1 l2)) (qLeave G c p l1 l2).kd G.wh c := by
  have ly : qLyF (qLeave G c p l1 l2) = qLyF G := funext fun x => leave_f qN.layer (fun _ _ => rfl) (fun _ _ => rfl) x
  have pa : (qLeave G c p l1 l2).parF = G.parF := funext fun x => leave_f qN.par (fun _ _ => rfl) (fun _ _ => rfl) x
  have lp : qLvf N gone p := by
    obtain ⟨d, hd, q⟩ := B.dp c lc
    cases d with
    | zero =>
      have := q.2.2
      rw [show G.parF c = some p from ep] at this
      cases this
    | succ d =>
      obtain ⟨-, p2, e2, q2⟩ := q
      rw [show G.parF c = some p from ep] at e2
      cases e2
      exact q2.lv
  obtain ⟨k1, k2⟩ := B.tk.1 p lp
  have k0 := k1
  rw [ek] at k1
  obtain ⟨n1, n2, n3⟩ := List.nodup_append.mp k1
  obtain ⟨n4, n5⟩ := List.nodup_cons.mp n2
  have m12 : ∀ b, b ∈ l1 ++ l2 ↔ (b ∈ G.kd p ∧ b ≠ c) := by
    intro b
    rw [ek, List.mem_append, List.mem_append, List.mem_cons]
    constructor
    · rintro (z | z)
      · exact ⟨Or.inl z, fun w => n3 b z c List.mem_cons_self w⟩
      · exact ⟨Or.inr (Or.inr z), fun w => n4 (by rw [← w]; exact z)⟩
    · rintro ⟨z | z | z, w⟩
      · exact Or.inl z
      · exact absurd z w
      · exact Or.inr z
  refine ⟨B.wl, by rw [pa]; exact B.wp, lc, fun z => ?_, fun x lx => ?_, fun x lx => by rw [ly]; exact B.tk.2 x lx, fun x lx => ?_⟩
  · rw [z, show (G.nd G.wh).par = none from B.wp] at ep
    cases ep
  · rw [leave_kd, pa]
    by_cases n : x = p
    · subst n
      rw [if_pos rfl]
      refine ⟨List.nodup_append.mpr ⟨n1, n5, fun y hy z hz => n3 y hy z (List.mem_cons_of_mem _ hz)⟩, fun b => ?_⟩
      rw [m12, k2 b, and_assoc]
    · rw [if_neg n]
      obtain ⟨t1, t2⟩ := B.tk.1 x lx
      refine ⟨t1, fun b => ?_⟩
      rw [t2 b]
      constructor
      · rintro ⟨z1, z2⟩
        refine ⟨z1, z2, fun w => ?_⟩
        rw [w, show G.parF c = some p from ep] at z2
        exact n (Option.some.inj z2).symm
      · rintro ⟨z1, z2, -⟩
        exact ⟨z1, z2⟩
  · rw [leave_kd]
    have ch := B.ch x lx
    rw [show (qLeave G c p l1 l2).fstF x = _ from leave_fst x]
    have hD : ∀ b, b ∈ G.kd x → qLvf N gone b := fun b hb => (((B.tk.1 x lx).2 b).mp hb).1
    by_cases n : x = p
    · subst n
      rw [if_pos rfl]
      rw [ek] at ch hD
      have := Ch.del (nx2 := (qLeave G c x l1 l2).nxtF) (D2 := qLvf N gone) n1 ch (fun y hy => ⟨hD y (List.mem_append_left _ hy), by rw [show (qLeave G c x l1 l2).nxtF y = _ from leave_nxt y, if_neg (fun w => n3 y hy c List.mem_cons_self w)]⟩) (fun y hy => ⟨by
        have yc : y ≠ c := fun w => n4 (by rw [← w]; exact hy)
        have yl : ¬ qLs none l1 = some y := fun w => n3 y ((qLs_in _ _ _ w).resolve_left (fun z => nomatch z)) y (List.mem_cons_of_mem _ hy) rfl
        rw [show (qLeave G c x l1 l2).nxtF y = _ from leave_nxt y, if_neg yc, if_neg yl], hD y (List.mem_append_right _ (List.mem_cons_of_mem _ hy))⟩)
      by_cases z : l1 = []
      · rw [if_pos z] at this
        rw [if_pos ⟨rfl, qLs_nil.mpr z⟩]
        exact this
      · rw [if_neg z] at this
        rw [if_neg (fun w => z (qLs_nil.mp w.2))]
        exact this
    · rw [if_neg n, if_neg (fun z => n z.1)]
      refine ch.cg (fun b hb => ⟨?_, hD b hb⟩)
      have pb := (((B.tk.1 x lx).2 b).mp hb).2
      have bc : b ≠ c := by
        intro w
        rw [w, show G.parF c = some p from ep] at pb
        exact n (Option.some.inj pb).symm
      have bl : ¬ qLs none l1 = some b := by
        intro w
        have h1 : b ∈ l1 := (qLs_in _ _ _ w).resolve_left (fun z => nomatch z)
        have h2 := ((k2 b).mp (by rw [ek]; exact List.mem_append_left _ h1)).2
        rw [pb] at h2
        exact n (Option.some.inj h2)
      rw [show (qLeave G c p l1 l2).nxtF b = _ from leave_nxt b, if_neg bc, if_neg bl]
theorem leave_J (J : qJ G) (lc : G.Lv c) (ep : (G.nd c).par = some p) (ek : G.kd p = l1 ++ c :: l2) : qJd (qLeave G c p l1 l2) c := by
  have B := leave_B (N := G.N) (gone := G.goneF) J.B lc ep ek
  have g1 : (qLeave G c p l1 l2).goneF = G.goneF := funext fun x => leave_f qN.gone (fun _ _ => rfl) (fun _ _ => rfl) x
  have tN : (qLeave G c p l1 l2).N = G.N := leave_st qS.N (fun _ _ _ => rfl) (fun _ _ => rfl)
  have tw : (qLeave G c p l1 l2).wh = G.wh := leave_st qS.wh (fun _ _ _ => rfl) (fun _ _ => rfl)
  have tr : (qLeave G c p l1 l2).pr = G.pr := leave_st qS.pr (fun _ _ _ => rfl) (fun _ _ => rfl)
  have tp : (qLeave G c p l1 l2).pp = G.pp := leave_st qS.pp (fun _ _ _ => rfl) (fun _ _ => rfl)
  have tP : (qLeave G c p l1 l2).P = G.P := leave_st qS.P (fun _ _ _ => rfl) (fun _ _ => rfl)
  have o1 : (qLeave G c p l1 l2).ovF = G.ovF := funext fun x => leave_f qN.over (fun _ _ => rfl) (fun _ _ => rfl) x
  have o2 : (qLeave G c p l1 l2).unF = G.unF := funext fun x => leave_f qN.under (fun _ _ => rfl) (fun _ _ => rfl) x
  have o3 : (qLeave G c p l1 l2).cuF = G.cuF := funext fun x => leave_f qN.cut (fun _ _ => rfl) (fun _ _ => rfl) x
  refine ⟨?_, ?_, ?_, ?_, ?_, ?_, ?_, ?_, ?_, ?_⟩
  · rw [leave_st qS.added (fun _ _ _ => rfl) (fun _ _ => rfl), leave_st qS.no (fun _ _ _ => rfl) (fun _ _ => rfl), tN, tw, show (qLeave G c p l1 l2).numF = G.numF from funext fun x => leave_f qN.number (fun _ _ => rfl) (fun _ _ => rfl) x]; exact J.A
  · rw [tN, g1, tw]; exact B
  · rw [tN, tr, tP, show (qLeave G c p l1 l2).xF = G.xF from funext fun x => leave_f qN.x (fun _ _ => rfl) (fun _ _ => rfl) x, show (qLeave G c p l1 l2).yF = G.yF from funext fun x => leave_f qN.y (fun _ _ => rfl) (fun _ _ => rfl) x, show (qLeave G c p l1 l2).tuF = G.tuF from funext fun x => leave_f qN.turns (fun _ _ => rfl) (fun _ _ => rfl) x, show (qLeave G c p l1 l2).opF = G.opF from funext fun x => leave_f qN.opac (fun _ _ => rfl) (fun _ _ => rfl) x]; exact J.Y
  · rw [tN, tr, tp]; exact J.D
  · rw [tP, tp, leave_st qS.K (fun _ _ _ => rfl) (fun _ _ => rfl), leave_st qS.ky (fun _ _ _ => rfl) (fun _ _ => rfl), leave_st qS.kl (fun _ _ _ => rfl) (fun _ _ => rfl)]; exact J.K
  · rw [tN, g1, tr, tp]; exact J.O
  · rw [tN, o1, o2, o3, leave_st qS.fr (fun _ _ _ => rfl) (fun _ _ => rfl), leave_st qS.M (fun _ _ _ => rfl) (fun _ _ => rfl), leave_st qS.fm (fun _ _ _ => rfl) (fun _ _ => rfl), show (qLeave G c p l1 l2).frF = G.frF from funext fun x => leave_f qN.frame (fun _ _ => rfl) (fun _ _ => rfl) x]; exact J.E
  · rw [leave_st qS.tracked (fun _ _ _ => rfl) (fun _ _ => rfl), leave_st qS.tr (fun _ _ _ => rfl) (fun _ _ => rfl), tP, tp]; exact J.T
  · rw [tw, o1, o2, o3, tr, tp, show (qLeave G c p l1 l2).miF = G.miF from funext fun x => leave_f qN.mir (fun _ _ => rfl) (fun _ _ => rfl) x]; exact J.W
  · show qFd (qLeave G c p l1 l2)
    unfold qFd
    rw [leave_st qS.f0 (fun _ _ _ => rfl) (fun _ _ => rfl), leave_st qS.f1 (fun _ _ _ => rfl) (fun _ _ => rfl), leave_st qS.f2 (fun _ _ _ => rfl) (fun _ _ => rfl), leave_st qS.f3 (fun _ _ _ => rfl) (fun _ _ => rfl)]; exact J.fd
/-! within -/
theorem qIn_mem (w : Nat) : ∀ l : List Nat, qIn (some w) l = true ↔ w ∈ l
  | [] => ⟨fun z => (nomatch z), fun z => (nomatch z)⟩
  | b :: l => by
    unfold qIn
    rw [List.mem_cons]
    by_cases q : some b = some w
    · rw [if_pos q]
      exact ⟨fun _ => Or.inl (Option.some.inj q).symm, fun _ => rfl⟩
    · rw [if_neg q, qIn_mem w l]
      exact ⟨Or.inr, fun z => z.resolve_left (fun e => q (by rw [e]))⟩
theorem qI.upW (I : qI G) : ∀ (d : Nat) {b : Nat}, qDp G.parF (qLvf G.N G.goneF) G.wh d b → ∀ x, x ∈ G.up b ↔ ∃ n, qWi G.parF n x b
  | 0, b, q, x => by
    rw [q.1, I.up_wh, List.mem_singleton]
    constructor
    · intro e; exact ⟨0, e.symm⟩
    · rintro ⟨n, w⟩
      cases n with
      | zero => exact (show G.wh = x from w).symm
      | succ n =>
        obtain ⟨p, e, -⟩ := w
        rw [I.B.wp] at e
        cases e
  | d + 1, b, q, x => by
    obtain ⟨lb, p, e, q2⟩ := q
    obtain ⟨lp, eu⟩ := I.up_par lb e
    rw [eu, List.mem_cons, I.upW d q2]
    constructor
    · rintro (z | ⟨n, z⟩)
      · exact ⟨0, z.symm⟩
      · exact ⟨n + 1, p, e, z⟩
    · rintro ⟨n, w⟩
      cases n with
      | zero => exact Or.inl (show b = x from w).symm
      | succ n =>
        obtain ⟨p2, e2, w⟩ := w
        have e2 : (G.nd b).par = some p2 := e2
        rw [show (G.nd b).par = some p from e] at e2
        cases e2
        exact Or.inr ⟨n, w⟩
theorem qI.inW (I : qI G) {b x : Nat} (lb : G.Lv b) : qIn (some x) (G.up b) = true ↔ ∃ n, qWi G.parF n x b := by
  obtain ⟨d, -, q⟩ := I.B.dp b lb
  rw [qIn_mem]
  exact I.upW d q x
/-- a part of the tree gone -/
theorem rem_B {Lv Lv2 : Nat → Prop} {par fst nxt : Nat → Option Nat} {ly : Nat → Int32} {kd : Nat → List Nat} {wh : Nat} (T : qDt Lv par fst nxt ly kd wh c) (dp : ∀ a, Lv a → ∃ d, d ≤ 4 ∧ qDp par Lv wh d a) (h : ∀ b, Lv2 b ↔ (Lv b ∧ ∀ n, ¬ qWi par n c b)) (ww : ∀ n, ¬ qWi par n c wh) : Lv2 wh ∧ par wh = none ∧ qTk par kd ly Lv2 ∧ (∀ a, Lv2 a → Ch nxt Lv2 (kd a) (fst a)) ∧ ∀ a, Lv2 a → ∃ d, d ≤ 4 ∧ qDp par Lv2 wh d a := by
  have kid : ∀ a b, Lv2 a → b ∈ kd a → Lv2 b := by
    intro a b la hb
    obtain ⟨l1, w1⟩ := (h a).mp la
    obtain ⟨b1, b2, b3⟩ := ((T.tk a l1).2 b).mp hb
    refine (h b).mpr ⟨b1, fun n w => ?_⟩
    cases n with
    | zero => exact b3 w
    | succ n =>
      obtain ⟨p, e, w⟩ := w
      rw [b2] at e
      cases e
      exact w1 n w
  refine ⟨(h wh).mpr ⟨T.wl, ww⟩, T.wp, ⟨fun a la => ?_, fun a la => T.ly a ((h a).mp la).1⟩, fun a la => ?_, fun a la => ?_⟩
  · obtain ⟨l1, w1⟩ := (h a).mp la
    obtain ⟨t1, t2⟩ := T.tk a l1
    refine ⟨t1, fun b => ⟨fun hb => ⟨kid a b la hb, ((t2 b).mp hb).2.1⟩, fun hb => (t2 b).mpr ⟨((h b).mp hb.1).1, hb.2, fun z => ((h b).mp hb.1).2 0 z⟩⟩⟩
  · obtain ⟨l1, w1⟩ := (h a).mp la
    exact (T.ch a l1).cg (fun b hb => ⟨rfl, kid a b la hb⟩)
  · obtain ⟨l1, w1⟩ := (h a).mp la
    obtain ⟨d, hd, q⟩ := dp a l1
    refine ⟨d, hd, ?_⟩
    have go : ∀ (d a : Nat), qDp par Lv wh d a → (∀ n, ¬ qWi par n c a) → qDp par Lv2 wh d a := by
      intro d
      induction d with
      | zero => intro a q w; exact ⟨q.1, (h a).mpr ⟨q.2.1, w⟩, q.2.2⟩
      | succ d ih =>
        intro a q w
        obtain ⟨la, p, e, q2⟩ := q
        exact ⟨(h a).mpr ⟨la, w⟩, p, e, ih p q2 (fun n z => w (n + 1) ⟨p, e, z⟩)⟩
    exact go d a q w1
end LEAVE
