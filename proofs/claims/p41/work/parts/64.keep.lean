/-! What keeps the invariant: looks, values, tracks, keys, time. -/
section KEEP
variable {G : qS} {a : Nat}
theorem qfld {α : Type} (f : qN → α) {nd : Nat → qN} {a : Nat} {q : qN} (e : f q = f (nd a)) : (fun b => f (qu nd a q b)) = fun b => f (nd b) := by
  funext b
  by_cases n : b = a
  · subst n; rw [qu_eq]; exact e
  · rw [qu_ne n]
/-- alike but in what looks are -/
def qSmN (q : qN) (d : qN) : Prop :=
  (q.number = d.number) ∧
  (q.gone = d.gone) ∧
  (q.par = d.par) ∧
  (q.fst = d.fst) ∧
  (q.nxt = d.nxt) ∧
  (q.layer = d.layer) ∧
  (q.bef = d.bef) ∧
  (q.place = d.place) ∧
  (q.x = d.x) ∧
  (q.y = d.y) ∧
  (q.turns = d.turns) ∧
  (q.opac = d.opac) ∧
  (q.frame = d.frame)
theorem qSmN.number {q : qN}{d : qN} (hq0 : qSmN q d) : q.number = d.number := hq0.1
theorem qSmN.gone {q : qN}{d : qN} (hq0 : qSmN q d) : q.gone = d.gone := hq0.2.1
theorem qSmN.par {q : qN}{d : qN} (hq0 : qSmN q d) : q.par = d.par := hq0.2.2.1
theorem qSmN.fst {q : qN}{d : qN} (hq0 : qSmN q d) : q.fst = d.fst := hq0.2.2.2.1
theorem qSmN.nxt {q : qN}{d : qN} (hq0 : qSmN q d) : q.nxt = d.nxt := hq0.2.2.2.2.1
theorem qSmN.layer {q : qN}{d : qN} (hq0 : qSmN q d) : q.layer = d.layer := hq0.2.2.2.2.2.1
theorem qSmN.bef {q : qN}{d : qN} (hq0 : qSmN q d) : q.bef = d.bef := hq0.2.2.2.2.2.2.1
theorem qSmN.place {q : qN}{d : qN} (hq0 : qSmN q d) : q.place = d.place := hq0.2.2.2.2.2.2.2.1
theorem qSmN.x {q : qN}{d : qN} (hq0 : qSmN q d) : q.x = d.x := hq0.2.2.2.2.2.2.2.2.1
theorem qSmN.y {q : qN}{d : qN} (hq0 : qSmN q d) : q.y = d.y := hq0.2.2.2.2.2.2.2.2.2.1
theorem qSmN.turns {q : qN}{d : qN} (hq0 : qSmN q d) : q.turns = d.turns := hq0.2.2.2.2.2.2.2.2.2.2.1
theorem qSmN.opac {q : qN}{d : qN} (hq0 : qSmN q d) : q.opac = d.opac := hq0.2.2.2.2.2.2.2.2.2.2.2.1
theorem qSmN.frame {q : qN}{d : qN} (hq0 : qSmN q d) : q.frame = d.frame := hq0.2.2.2.2.2.2.2.2.2.2.2.2
theorem qI.lookN (I : qI G) {q : qN} (s : qSmN q (G.nd a)) (hw : a ≠ G.wh) (ov : (1 ≤ q.over.toInt ∧ q.over.toInt ≤ 4) ∧ 1 ≤ q.under.toInt ∧ q.under.toInt ≤ 4) (ct : ∀ m, q.cut = some m → G.M m) : qI (G.setN a q) := by
  have w : qu G.nd a q G.wh = G.nd G.wh := qu_ne hw.symm
  refine ⟨?_, ?_, ?_, ?_, I.D, I.K, ?_, ?_, I.T, ?_, I.fd⟩
  · show qIA G.added G.no G.N (fun b => qN.number (qu G.nd a q b)) G.wh
    rw [qfld qN.number s.number]; exact I.A
  · show qIB G.N (fun b => qN.gone (qu G.nd a q b)) (fun b => qN.par (qu G.nd a q b)) (fun b => qN.fst (qu G.nd a q b)) (fun b => qN.nxt (qu G.nd a q b)) (fun b => qN.layer (qu G.nd a q b)) G.kd G.wh
    rw [qfld qN.gone s.gone, qfld qN.par s.par, qfld qN.fst s.fst, qfld qN.nxt s.nxt, qfld qN.layer s.layer]; exact I.B
  · show qIC (fun b => qN.bef (qu G.nd a q b)) (fun b => qN.place (qu G.nd a q b)) G.N G.od G.last G.ord (qLay (fun b => qN.layer (qu G.nd a q b)) G.kd 5 G.wh)
    rw [qfld qN.bef s.bef, qfld qN.place s.place, qfld qN.layer s.layer]; exact I.C
  · show qIX G.N (fun b => qN.x (qu G.nd a q b)) (fun b => qN.y (qu G.nd a q b)) (fun b => qN.turns (qu G.nd a q b)) (fun b => qN.opac (qu G.nd a q b)) G.pr G.P
    rw [qfld qN.x s.x, qfld qN.y s.y, qfld qN.turns s.turns, qfld qN.opac s.opac]; exact I.Y
  · show qIO G.N (fun b => qN.gone (qu G.nd a q b)) G.pr G.pp
    rw [qfld qN.gone s.gone]; exact I.O
  · refine ⟨fun b hb => ?_, ?_, I.E.fm, fun b m hb => ?_⟩
    · show (1 ≤ (qu G.nd a q b).over.toInt ∧ (qu G.nd a q b).over.toInt ≤ 4) ∧ 1 ≤ (qu G.nd a q b).under.toInt ∧ (qu G.nd a q b).under.toInt ≤ 4
      by_cases n : b = a
      · subst n; rw [qu_eq]; exact ov
      · rw [qu_ne n]; exact I.E.ov b hb
    · show ∀ b, G.N b → (fun b => qN.frame (qu G.nd a q b)) b = some (G.fr b) ∧ G.M (G.fr b)
      rw [qfld qN.frame s.frame]; exact I.E.fr
    · show (qu G.nd a q b).cut = some m → G.M m
      by_cases n : b = a
      · subst n; rw [qu_eq]; exact ct m
      · rw [qu_ne n]; exact I.E.ct b m hb
  · refine ⟨?_, ?_, ?_, ?_, I.W.ow, I.W.tr⟩
    · show (qu G.nd a q G.wh).over = 1
      rw [w]; exact I.W.ov
    · show (qu G.nd a q G.wh).under = 1
      rw [w]; exact I.W.un
    · show (qu G.nd a q G.wh).mir = 0
      rw [w]; exact I.W.mi
    · show (qu G.nd a q G.wh).cut = none
      rw [w]; exact I.W.ct
theorem qSmN.rf (d : qN) : qSmN d d := ⟨rfl, rfl, rfl, rfl, rfl, rfl, rfl, rfl, rfl, rfl, rfl, rfl, rfl⟩
/-- a new frame of no node -/
theorem qI.addM (I : qI G) {m : Nat} (hm : ¬ G.M m) (q : qM) : qI (G.addM m q) := by
  refine ⟨I.A, I.B, I.C, I.Y, I.D, I.K, I.O, ⟨I.E.ov, fun b hb => ⟨(I.E.fr b hb).1, Or.inr (I.E.fr b hb).2⟩, fun b hb => ?_, fun b c hb e => Or.inr (I.E.ct b c hb e)⟩, I.T, I.W, I.fd⟩
  have n : G.fr b ≠ m := fun z => hm (by rw [← z]; exact (I.E.fr b hb).2)
  have e : (G.addM m q).fm (G.fr b) = G.fm (G.fr b) := qu_ne n
  show ((G.addM m q).fm (G.fr b)).left = 0 ∧ ((G.addM m q).fm (G.fr b)).top = 0 ∧ (0 ≤ ((G.addM m q).fm (G.fr b)).right.toInt ∧ ((G.addM m q).fm (G.fr b)).right.toInt ≤ 200) ∧ 0 ≤ ((G.addM m q).fm (G.fr b)).bot.toInt ∧ ((G.addM m q).fm (G.fr b)).bot.toInt ≤ 200
  rw [e]
  exact I.E.fm b hb
theorem qI.time (I : qI G) (t : Int32) : qI ((G).s_time (t)) := ⟨I.A, I.B, I.C, I.Y, I.D, I.K, I.O, I.E, I.T, I.W, I.fd⟩
/-- its own value -/
theorem qI.own (I : qI G) {j : Nat} (ha : G.N a) (hj : j < 4) (hw : a ≠ G.wh) {v : Int32} (hv : (qRg j).1 ≤ v.toInt ∧ v.toInt ≤ (qRg j).2) : qI (qOwn G (G.pr a j) v) := by
  have ne : ∀ {b i : Nat}, G.N b → i < 4 → ¬ (b = a ∧ i = j) → (qOwn G (G.pr a j) v).pp (G.pr b i) = G.pp (G.pr b i) := by
    intro b i hb hi n
    exact qu_ne (fun z => n (I.Y.inj b a i j hb ha hi hj z))
  have eq : (qOwn G (G.pr a j) v).pp (G.pr a j) = (G.pp (G.pr a j)).s_own v := qu_eq
  have all : ∀ p, (qOwn G (G.pr a j) v).pp p = G.pp p ∨ (qOwn G (G.pr a j) v).pp p = (G.pp p).s_own v := by
    intro p
    by_cases n : p = G.pr a j
    · subst n; exact Or.inr eq
    · exact Or.inl (qu_ne n)
  refine ⟨I.A, I.B, I.C, I.Y, fun b i hb hi => ?_, ⟨fun p hp => ?_, I.K.ds, I.K.kt⟩, fun b i lb hi => ?_, I.E, ⟨I.T.tk, I.T.tr, fun p hp => ?_⟩, ⟨I.W.ov, I.W.un, I.W.mi, I.W.ct, ?_, fun i hi => ?_⟩, I.fd⟩
  · have d := I.D b i hb hi
    show ((qOwn G (G.pr a j) v).pp (G.pr b i)).least.toInt = (qRg i).1 ∧ ((qOwn G (G.pr a j) v).pp (G.pr b i)).most.toInt = (qRg i).2 ∧ (qRg i).1 ≤ ((qOwn G (G.pr a j) v).pp (G.pr b i)).own.toInt ∧ ((qOwn G (G.pr a j) v).pp (G.pr b i)).own.toInt ≤ (qRg i).2
    by_cases n : b = a ∧ i = j
    · obtain ⟨rfl, rfl⟩ := n
      rw [eq]
      exact ⟨d.1, d.2.1, hv⟩
    · rw [ne hb hi n]
      exact d
  · have k := I.K.on p hp
    show qKk G.K G.ky ((qOwn G (G.pr a j) v).pp p) (G.kl p)
    rcases all p with e | e
    · rw [e]; exact k
    · rw [e]; exact ⟨k.ch, k.le, k.ct, k.so, k.vl, k.un⟩
  · have o := I.O b i lb hi
    show ((qOwn G (G.pr a j) v).pp (G.pr b i)).done = 0
    rcases all (G.pr b i) with e | e
    · rw [e]; exact o
    · rw [e]; exact o
  · show ((qOwn G (G.pr a j) v).pp p).trk ≠ 0 → _
    rcases all p with e | e
    · rw [e]; exact I.T.un p hp
    · rw [e]; exact I.T.un p hp
  · have e : ∀ i, i < 4 → (qOwn G (G.pr a j) v).pp (G.pr G.wh i) = G.pp (G.pr G.wh i) := fun i hi => ne I.B.wl.1 hi (fun z => hw z.1.symm)
    show ((qOwn G (G.pr a j) v).pp (G.pr G.wh 0)).own = 0 ∧ ((qOwn G (G.pr a j) v).pp (G.pr G.wh 1)).own = 0 ∧ ((qOwn G (G.pr a j) v).pp (G.pr G.wh 2)).own = 0
    rw [e 0 (by decide), e 1 (by decide), e 2 (by decide)]
    exact I.W.ow
  · show ((qOwn G (G.pr a j) v).pp (G.pr G.wh i)).trk = 0
    rw [ne I.B.wl.1 hi (fun z => hw z.1.symm)]
    exact I.W.tr i hi
theorem qI.move (I : qI G) (ha : G.N a) (hw : a ≠ G.wh) {x y : Int32} (hx : -200 ≤ x.toInt ∧ x.toInt ≤ 200) (hy : -200 ≤ y.toInt ∧ y.toInt ≤ 200) : qI (qMove G a x y) := by
  have I1 := I.own (j := 0) ha (by decide) hw hx
  exact I1.own (a := a) (j := 1) ha (by decide) hw hy
theorem qI.scale (I : qI G) (ha : G.N a) (hw : a ≠ G.wh) {o u : Int32} (ho : 1 ≤ o.toInt ∧ o.toInt ≤ 4) (hu : 1 ≤ u.toInt ∧ u.toInt ≤ 4) : qI (qScale G a o u) :=
  I.lookN ⟨rfl, rfl, rfl, rfl, rfl, rfl, rfl, rfl, rfl, rfl, rfl, rfl, rfl⟩ hw ⟨ho, hu⟩ (fun m e => I.E.ct a m ha e)
theorem qI.turn (I : qI G) (ha : G.N a) (hw : a ≠ G.wh) {t m : Int32} (ht : 0 ≤ t.toInt ∧ t.toInt ≤ 3) : qI (qTurn G a t m) := by
  have I1 := I.own (j := 2) ha (by decide) hw (v := t) ht
  exact I1.lookN (a := a) (q := ((G.nd a).s_mir (m))) ⟨rfl, rfl, rfl, rfl, rfl, rfl, rfl, rfl, rfl, rfl, rfl, rfl, rfl⟩ hw (I.E.ov a ha) (fun m e => I.E.ct a m ha e)
theorem qI.cutN (I : qI G) (ha : G.N a) (hw : a ≠ G.wh) {m : Option Nat} (hm : ∀ c, m = some c → G.M c) : qI (qCutN G a m) :=
  I.lookN ⟨rfl, rfl, rfl, rfl, rfl, rfl, rfl, rfl, rfl, rfl, rfl, rfl, rfl⟩ hw (I.E.ov a ha) (fun c e => hm c e)
/-- a new track -/
theorem qI.trk (I : qI G) {j : Nat} (ha : G.N a) (hj : j < 4) (hw : a ≠ G.wh) (ease end_ : Int32) (hk : G.tracked.toInt < 12) : qI (qTrk G (G.pr a j) ease end_) := by
  have hp := I.Y.pP a j ha hj
  have eq : (qTrk G (G.pr a j) ease end_).pp (G.pr a j) = ((((G.pp (G.pr a j)).s_trk (1)).s_ease (ease)).s_end_ (end_)) := qu_eq
  have ne : ∀ p, p ≠ G.pr a j → (qTrk G (G.pr a j) ease end_).pp p = G.pp p := fun p n => qu_ne n
  obtain ⟨t0, t1⟩ := I.T.tk
  have s1 := i32_s (i := G.tracked) (by omega) (by omega)
  have nt := i32_nat t0
  refine ⟨I.A, I.B, I.C, I.Y, fun b i hb hi => ?_, ⟨fun p hp => ?_, I.K.ds, I.K.kt⟩, fun b i lb hi => ?_, I.E, ⟨?_, fun i hi => ?_, fun p hp hn => ?_⟩, ⟨I.W.ov, I.W.un, I.W.mi, I.W.ct, ?_, fun i hi => ?_⟩, I.fd⟩
  · have d := I.D b i hb hi
    show ((qTrk G (G.pr a j) ease end_).pp (G.pr b i)).least.toInt = (qRg i).1 ∧ ((qTrk G (G.pr a j) ease end_).pp (G.pr b i)).most.toInt = (qRg i).2 ∧ (qRg i).1 ≤ ((qTrk G (G.pr a j) ease end_).pp (G.pr b i)).own.toInt ∧ ((qTrk G (G.pr a j) ease end_).pp (G.pr b i)).own.toInt ≤ (qRg i).2
    by_cases n : G.pr b i = G.pr a j
    · rw [n] at d ⊢
      rw [eq]
      exact d
    · rw [ne _ n]
      exact d
  · have k := I.K.on p hp
    show qKk G.K G.ky ((qTrk G (G.pr a j) ease end_).pp p) (G.kl p)
    by_cases n : p = G.pr a j
    · subst n
      rw [eq]
      exact ⟨k.ch, k.le, k.ct, k.so, k.vl, fun z => absurd z (show ¬ (1 : Int32) = 0 by decide)⟩
    · rw [ne _ n]
      exact k
  · have o := I.O b i lb hi
    show ((qTrk G (G.pr a j) ease end_).pp (G.pr b i)).done = 0
    by_cases n : G.pr b i = G.pr a j
    · rw [n] at o ⊢
      rw [eq]
      exact o
    · rw [ne _ n]
      exact o
  · show 0 ≤ (G.tracked + 1).toInt ∧ (G.tracked + 1).toInt ≤ 12
    omega
  · have hi : (i : Int) < (G.tracked + 1).toInt := hi
    show ∃ p, va_up G.tr G.tracked.toNatClampNeg (some (G.pr a j)) i = some p ∧ G.P p
    by_cases n : i = G.tracked.toNatClampNeg
    · exact ⟨_, if_pos n, hp⟩
    · obtain ⟨p, e, h2⟩ := I.T.tr i (by omega)
      exact ⟨p, (if_neg n).trans e, h2⟩
  · show ∃ i : Nat, (i : Int) < (G.tracked + 1).toInt ∧ va_up G.tr G.tracked.toNatClampNeg (some (G.pr a j)) i = some p
    by_cases n : p = G.pr a j
    · subst n
      exact ⟨G.tracked.toNatClampNeg, by omega, if_pos rfl⟩
    · have hn : ((qTrk G (G.pr a j) ease end_).pp p).trk ≠ 0 := hn
      rw [ne _ n] at hn
      obtain ⟨i, h1, h2⟩ := I.T.un p hp hn
      exact ⟨i, by omega, (if_neg (show i ≠ G.tracked.toNatClampNeg by omega)).trans h2⟩
  · have e : ∀ i, i < 4 → (qTrk G (G.pr a j) ease end_).pp (G.pr G.wh i) = G.pp (G.pr G.wh i) := fun i hi => ne _ (fun z => hw (I.Y.inj _ _ _ _ I.B.wl.1 ha hi hj z).1.symm)
    show ((qTrk G (G.pr a j) ease end_).pp (G.pr G.wh 0)).own = 0 ∧ ((qTrk G (G.pr a j) ease end_).pp (G.pr G.wh 1)).own = 0 ∧ ((qTrk G (G.pr a j) ease end_).pp (G.pr G.wh 2)).own = 0
    rw [e 0 (by decide), e 1 (by decide), e 2 (by decide)]
    exact I.W.ow
  · show ((qTrk G (G.pr a j) ease end_).pp (G.pr G.wh i)).trk = 0
    rw [ne _ (fun z => hw (I.Y.inj _ _ _ _ I.B.wl.1 ha hi hj z).1.symm)]
    exact I.W.tr i hi
end KEEP
