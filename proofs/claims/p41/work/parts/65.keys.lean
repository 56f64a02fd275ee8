/-! A key put in: the chain, the times, and what stays. -/
section KEYS
variable {G : qS} {a : Nat}
theorem qIns_all {t : Int32} {m : Nat} : ∀ {l : List Nat}, (∀ x, x ∈ l → t.toInt < (G.ky x).time.toInt) → qIns G t m l = m :: l
  | [], _ => rfl
  | a :: l, h => by
    unfold qIns
    rw [if_pos (i32_lt2 (h a List.mem_cons_self))]
theorem qLast_split {t : Int32} {m : Nat} : ∀ (l : List Nat) (r : Option Nat) (b : Nat), List.Pairwise (fun a b => (G.ky a).time.toInt < (G.ky b).time.toInt) l → qLast G t r l = some b → (r = some b ∧ ∀ x, x ∈ l → t.toInt < (G.ky x).time.toInt) ∨ ∃ l1 l2, l = l1 ++ b :: l2 ∧ (G.ky b).time.toInt ≤ t.toInt ∧ (∀ y, y ∈ l2 → t.toInt < (G.ky y).time.toInt) ∧ qIns G t m l = l1 ++ b :: m :: l2
  | [], r, b, _, e => Or.inl ⟨e, fun x hx => nomatch hx⟩
  | a :: l, r, b, so, e => by
    obtain ⟨s1, s2⟩ := List.pairwise_cons.mp so
    unfold qLast at e
    by_cases q : t < (G.ky a).time
    · rw [if_pos q] at e
      have q2 := Int32.lt_iff_toInt_lt.mp q
      refine Or.inl ⟨e, fun x hx => ?_⟩
      rcases List.mem_cons.mp hx with z | z
      · rw [z]; exact q2
      · have := s1 x z; omega
    · rw [if_neg q] at e
      have q2 : (G.ky a).time.toInt ≤ t.toInt := Int.not_lt.mp (fun z => q (i32_lt2 z))
      have qi : qIns G t m (a :: l) = a :: qIns G t m l := by
        conv => lhs; unfold qIns
        rw [if_neg q]
      right
      rcases qLast_split l (some a) b s2 e with ⟨z1, z2⟩ | ⟨l1, l2, z1, z2, z3, z4⟩
      · cases z1
        exact ⟨[], l, rfl, q2, z2, by rw [qi, qIns_all z2]; rfl⟩
      · exact ⟨a :: l1, l2, by rw [z1]; rfl, z2, z3, by rw [qi, z4]; rfl⟩
theorem qLast_none {t : Int32} : ∀ {l : List Nat}, List.Pairwise (fun a b => (G.ky a).time.toInt < (G.ky b).time.toInt) l → qLast G t none l = none → ∀ x, x ∈ l → t.toInt < (G.ky x).time.toInt
  | [], _, _, x, hx => nomatch hx
  | a :: l, so, e, x, hx => by
    obtain ⟨s1, s2⟩ := List.pairwise_cons.mp so
    unfold qLast at e
    by_cases q : t < (G.ky a).time
    · have q2 := Int32.lt_iff_toInt_lt.mp q
      rcases List.mem_cons.mp hx with z | z
      · rw [z]; exact q2
      · have := s1 x z; omega
    · rw [if_neg q] at e
      exfalso
      have : ∀ (l : List Nat) (a : Nat), qLast G t (some a) l ≠ none := by
        intro l
        induction l with
        | nil => intro a z; cases z
        | cons d l ih =>
          intro a z
          unfold qLast at z
          by_cases q : t < (G.ky d).time
          · rw [if_pos q] at z; cases z
          · rw [if_neg q] at z; exact ih d z
      exact this l a e
theorem Ch.ins {nx nx2 : Nat → Option Nat} {D D2 : Nat → Prop} {b m : Nat} {l2 : List Nat} : ∀ {l1 : List Nat} {o : Option Nat}, Ch nx D (l1 ++ b :: l2) o → (∀ x, x ∈ l1 → nx2 x = nx x ∧ D2 x) → (∀ x, x ∈ l2 → nx2 x = nx x ∧ D2 x) → D2 b → D2 m → nx2 b = some m → nx2 m = nx b → Ch nx2 D2 (l1 ++ b :: m :: l2) o
  | [], o, c, _, h2, hb, hm, e1, e2 => by
    obtain ⟨e, _, c2⟩ := c
    refine ⟨e, hb, ?_⟩
    rw [e1]
    refine ⟨rfl, hm, ?_⟩
    rw [e2]
    exact c2.cg h2
  | a :: l1, o, c, h1, h2, hb, hm, e1, e2 => by
    obtain ⟨e, _, c2⟩ := c
    have ha := h1 a List.mem_cons_self
    refine ⟨e, ha.2, ?_⟩
    rw [ha.1]
    exact Ch.ins c2 (fun x hx => h1 x (List.mem_cons_of_mem _ hx)) h2 hb hm e1 e2
/-- keys that stay as they are -/
theorem qKk.cg {K K2 : Nat → Prop} {ky ky2 : Nat → qK} {w : qP} {l : List Nat} (q : qKk K ky w l) (h : ∀ x, x ∈ l → ky2 x = ky x ∧ K2 x) : qKk K2 ky2 w l := by
  refine ⟨q.ch.cg (fun b hb => ⟨by rw [(h b hb).1], (h b hb).2⟩), q.le, q.ct, ?_, fun x hx => ?_, q.un⟩
  · refine List.Pairwise.imp_of_mem (fun {x y} hx hy z => ?_) q.so
    rw [(h x hx).1, (h y hy).1]
    exact z
  · rw [(h x hx).1]
    exact q.vl x hx
def qTm (G : qS) (p : Nat) : List Int32 := (G.kl p).map fun a => (G.ky a).time
/-- the times after a key is put in -/
def qTmI (t : Int32) (L L2 : List Int32) : Prop := ∃ A B, L = A ++ B ∧ (∀ x, x ∈ A → x.toInt < t.toInt) ∧ ((∃ C, B = t :: C ∧ L2 = L) ∨ ((∀ x, x ∈ B → t.toInt < x.toInt) ∧ L2 = A ++ t :: B))
theorem pw_ins {R : Nat → Nat → Prop} {l1 l2 : List Nat} {m : Nat} (h : List.Pairwise R (l1 ++ l2)) (h1 : ∀ x, x ∈ l1 → R x m) (h2 : ∀ x, x ∈ l2 → R m x) : List.Pairwise R (l1 ++ m :: l2) := by
  obtain ⟨a, b, c⟩ := List.pairwise_append.mp h
  refine List.pairwise_append.mpr ⟨a, List.pairwise_cons.mpr ⟨h2, b⟩, fun x hx y hy => ?_⟩
  rcases List.mem_cons.mp hy with z | z
  · rw [z]; exact h1 x hx
  · exact c x hx y z
/-- what a put key leaves in all -/
def qPu (G : qS) (p : Nat) (m : Nat) (t : Int32) (H : qS) : Prop :=
  (qI H) ∧
  (qTmI t (qTm G p) (qTm H p)) ∧
  (∀ q, G.P q → q ≠ p → qTm H q = qTm G q) ∧
  (H.nd = G.nd) ∧
  (H.no = G.no ∧ H.added = G.added ∧ H.tr = G.tr ∧ H.tracked = G.tracked ∧ H.pr = G.pr ∧ H.N = G.N ∧ H.P = G.P ∧ H.time = G.time ∧ H.wh = G.wh ∧ H.z = G.z) ∧
  (∀ q, (H.pp q).own = (G.pp q).own ∧ (H.pp q).trk = (G.pp q).trk) ∧
  ((H.pp p).cnt.toInt = (qTm H p).length)
theorem qPu.I {G : qS}{p : Nat}{m : Nat}{t : Int32}{H : qS} (hq0 : qPu G p m t H) : qI H := hq0.1
theorem qPu.tm {G : qS}{p : Nat}{m : Nat}{t : Int32}{H : qS} (hq0 : qPu G p m t H) : qTmI t (qTm G p) (qTm H p) := hq0.2.1
theorem qPu.ot {G : qS}{p : Nat}{m : Nat}{t : Int32}{H : qS} (hq0 : qPu G p m t H) : ∀ q, G.P q → q ≠ p → qTm H q = qTm G q := hq0.2.2.1
theorem qPu.s1 {G : qS}{p : Nat}{m : Nat}{t : Int32}{H : qS} (hq0 : qPu G p m t H) : H.nd = G.nd := hq0.2.2.2.1
theorem qPu.s2 {G : qS}{p : Nat}{m : Nat}{t : Int32}{H : qS} (hq0 : qPu G p m t H) : H.no = G.no ∧ H.added = G.added ∧ H.tr = G.tr ∧ H.tracked = G.tracked ∧ H.pr = G.pr ∧ H.N = G.N ∧ H.P = G.P ∧ H.time = G.time ∧ H.wh = G.wh ∧ H.z = G.z := hq0.2.2.2.2.1
theorem qPu.pp {G : qS}{p : Nat}{m : Nat}{t : Int32}{H : qS} (hq0 : qPu G p m t H) : ∀ q, (H.pp q).own = (G.pp q).own ∧ (H.pp q).trk = (G.pp q).trk := hq0.2.2.2.2.2.1
theorem qPu.ct {G : qS}{p : Nat}{m : Nat}{t : Int32}{H : qS} (hq0 : qPu G p m t H) : (H.pp p).cnt.toInt = (qTm H p).length := hq0.2.2.2.2.2.2
/-- the invariant with keys and counts put anew -/
theorem qI.keysP (I : qI G) {p : Nat} (hp : G.P p) {w : qP} {K2 : Nat → Prop} {ky2 : Nat → qK} {kl2 : Nat → List Nat} {H : qS} (eH : H = ((((G.s_K K2).s_ky ky2).s_pp (qu G.pp p w)).s_kl kl2)) (w1 : w.least = (G.pp p).least ∧ w.most = (G.pp p).most ∧ w.own = (G.pp p).own ∧ w.trk = (G.pp p).trk ∧ w.done = (G.pp p).done) (h1 : qKk K2 ky2 w (kl2 p)) (h2 : ∀ q, G.P q → q ≠ p → kl2 q = G.kl q ∧ ∀ x, x ∈ G.kl q → ky2 x = G.ky x ∧ K2 x) (h3 : ∀ q, G.P q → q ≠ p → ∀ x, x ∈ kl2 p → ¬ x ∈ G.kl q) (h4 : ∀ a, K2 a → 0 ≤ (ky2 a).time.toInt ∧ (ky2 a).time.toInt ≤ 999) : qI H := by
  subst eH
  have ppe : ∀ q, (qu G.pp p w q).least = (G.pp q).least ∧ (qu G.pp p w q).most = (G.pp q).most ∧ (qu G.pp p w q).own = (G.pp q).own ∧ (qu G.pp p w q).trk = (G.pp q).trk ∧ (qu G.pp p w q).done = (G.pp q).done := by
    intro q
    by_cases n : q = p
    · subst n; rw [qu_eq]; exact w1
    · rw [qu_ne n]; exact ⟨rfl, rfl, rfl, rfl, rfl⟩
  refine ⟨I.A, I.B, I.C, I.Y, fun b i hb hi => ?_, ⟨fun q hq => ?_, fun q r hq hr n x hx hy => ?_, h4⟩, fun b i lb hi => ?_, I.E, ⟨I.T.tk, I.T.tr, fun q hq => ?_⟩, ⟨I.W.ov, I.W.un, I.W.mi, I.W.ct, ?_, fun i hi => ?_⟩, I.fd⟩
  · have d := I.D b i hb hi
    obtain ⟨e1, e2, e3, -, -⟩ := ppe (G.pr b i)
    show (qu G.pp p w (G.pr b i)).least.toInt = (qRg i).1 ∧ (qu G.pp p w (G.pr b i)).most.toInt = (qRg i).2 ∧ (qRg i).1 ≤ (qu G.pp p w (G.pr b i)).own.toInt ∧ (qu G.pp p w (G.pr b i)).own.toInt ≤ (qRg i).2
    rw [e1, e2, e3]
    exact d
  · show qKk K2 ky2 (qu G.pp p w q) (kl2 q)
    by_cases n : q = p
    · subst n; rw [qu_eq]; exact h1
    · rw [qu_ne n, (h2 q hq n).1]
      exact (I.K.on q hq).cg (h2 q hq n).2
  · replace hx : x ∈ kl2 q := hx
    replace hy : x ∈ kl2 r := hy
    by_cases n1 : q = p
    · subst n1
      have n2 : r ≠ q := n.symm
      rw [(h2 r hr n2).1] at hy
      exact h3 r hr n2 x hx hy
    · rw [(h2 q hq n1).1] at hx
      by_cases n2 : r = p
      · subst n2
        exact h3 q hq n1 x hy hx
      · rw [(h2 r hr n2).1] at hy
        exact I.K.ds q r hq hr n x hx hy
  · have o := I.O b i lb hi
    show (qu G.pp p w (G.pr b i)).done = 0
    rw [(ppe _).2.2.2.2]
    exact o
  · show (qu G.pp p w q).trk ≠ 0 → _
    rw [(ppe _).2.2.2.1]
    exact I.T.un q hq
  · show (qu G.pp p w (G.pr G.wh 0)).own = 0 ∧ (qu G.pp p w (G.pr G.wh 1)).own = 0 ∧ (qu G.pp p w (G.pr G.wh 2)).own = 0
    rw [(ppe _).2.2.1, (ppe _).2.2.1, (ppe _).2.2.1]
    exact I.W.ow
  · show (qu G.pp p w (G.pr G.wh i)).trk = 0
    rw [(ppe _).2.2.2.1]
    exact I.W.tr i hi
theorem qI.put (I : qI G) {p m : Nat} {t v : Int32} (hp : G.P p) (hm : ¬ G.K m) (ht : 0 ≤ t.toInt ∧ t.toInt ≤ 999) (hv : (G.pp p).least.toInt ≤ v.toInt ∧ v.toInt ≤ (G.pp p).most.toInt) (hc : (G.pp p).cnt.toInt < 8) (hu : (G.pp p).trk ≠ 0) : qPu G p m t (qPut G p m t v) := by
  have k := I.K.on p hp
  have kD : ∀ x, x ∈ G.kl p → G.K x := fun x hx => k.ch.D x hx
  have km : ∀ x, G.K x → x ≠ m := fun x hx z => hm (by rw [← z]; exact hx)
  have lc : (G.kl p).length < 8 := by have := k.ct; omega
  have c1 : (1 : Int32).toInt = 1 := by decide
  have cn : ((G.pp p).cnt + 1).toInt = (G.pp p).cnt.toInt + 1 := by
    have := k.ct
    exact i32_s (by omega) (by omega)
  have oth : ∀ q, G.P q → q ≠ p → ∀ x, x ∈ G.kl q → G.K x ∧ x ≠ m ∧ ¬ x ∈ G.kl p := fun q hq n x hx => by
    have kx := (I.K.on q hq).ch.D x hx
    exact ⟨kx, km x kx, I.K.ds q p hq hp n x hx⟩
  unfold qPut
  cases e : qLast G t none (G.kl p) with
  | none =>
    have al := qLast_none k.so e
    have ins : qIns G t m (G.kl p) = m :: G.kl p := qIns_all al
    rw [ins]
    dsimp only
    have kyo : ∀ x, x ≠ m → qu G.ky m (qK.mk t v (G.pp p).fk) x = G.ky x := fun x n => qu_ne n
    have kym : qu G.ky m (qK.mk t v (G.pp p).fk) m = qK.mk t v (G.pp p).fk := qu_eq
    have tmo : ∀ l : List Nat, (∀ x, x ∈ l → x ≠ m) → (l.map fun a => (qu G.ky m (qK.mk t v (G.pp p).fk) a).time) = l.map fun a => (G.ky a).time := fun l hl => List.map_congr_left (fun x hx => by rw [kyo x (hl x hx)])
    have tmp : qTm (((G.addK m (qK.mk t v (G.pp p).fk)).setP p (((G.pp p).s_fk (some m)).s_cnt ((G.pp p).cnt + 1))).s_kl (qu G.kl p (m :: G.kl p))) p = t :: qTm G p := by
      show (qu G.kl p (m :: G.kl p) p).map (fun a => (qu G.ky m (qK.mk t v (G.pp p).fk) a).time) = _
      rw [qu_eq, List.map_cons, kym, tmo _ (fun x hx => km x (kD x hx))]
      rfl
    refine ⟨I.keysP hp (w := ((G.pp p).s_fk (some m)).s_cnt ((G.pp p).cnt + 1)) (K2 := fun b => b = m ∨ G.K b) (ky2 := qu G.ky m (qK.mk t v (G.pp p).fk)) (kl2 := qu G.kl p (m :: G.kl p)) rfl ⟨rfl, rfl, rfl, rfl, rfl⟩ ?_ ?_ ?_ ?_, ?_, ?_, rfl, ⟨rfl, rfl, rfl, rfl, rfl, rfl, rfl, rfl, rfl, rfl⟩, ?_, ?_⟩
    · rw [qu_eq]
      refine ⟨⟨rfl, Or.inl rfl, ?_⟩, ?_, ?_, ?_, fun x hx => ?_, fun z => absurd z hu⟩
      · show Ch (fun a => (qu G.ky m (qK.mk t v (G.pp p).fk) a).next) _ (G.kl p) (qu G.ky m (qK.mk t v (G.pp p).fk) m).next
        rw [kym]
        exact k.ch.cg (fun b hb => ⟨by rw [kyo b (km b (kD b hb))], Or.inr (kD b hb)⟩)
      · rw [List.length_cons]; omega
      · show ((G.pp p).cnt + 1).toInt = ((G.kl p).length + 1 : Nat)
        have := k.ct
        omega
      · refine List.pairwise_cons.mpr ⟨fun x hx => ?_, List.Pairwise.imp_of_mem (fun {x y} hx hy z => ?_) k.so⟩
        · rw [kym, kyo x (km x (kD x hx))]
          exact al x hx
        · rw [kyo x (km x (kD x hx)), kyo y (km y (kD y hy))]
          exact z
      · rcases List.mem_cons.mp hx with z | z
        · rw [z, kym]; exact hv
        · rw [kyo x (km x (kD x z))]
          exact k.vl x z
    · intro q hq n
      exact ⟨qu_ne n, fun x hx => ⟨kyo x (oth q hq n x hx).2.1, Or.inr (oth q hq n x hx).1⟩⟩
    · intro q hq n x hx hy
      rw [qu_eq] at hx
      rcases List.mem_cons.mp hx with z | z
      · exact (oth q hq n x hy).2.1 z
      · exact (oth q hq n x hy).2.2 z
    · intro x hx
      by_cases n : x = m
      · rw [n, kym]; exact ht
      · rw [kyo x n]; exact I.K.kt x (hx.resolve_left n)
    · rw [tmp]
      refine ⟨[], qTm G p, rfl, fun x hx => (nomatch hx), Or.inr ⟨fun x hx => ?_, rfl⟩⟩
      obtain ⟨y, hy, rfl⟩ := List.mem_map.mp hx
      exact al y hy
    · intro q hq n
      show (qu G.kl p (m :: G.kl p) q).map (fun a => (qu G.ky m (qK.mk t v (G.pp p).fk) a).time) = _
      rw [qu_ne n, tmo _ (fun x hx => (oth q hq n x hx).2.1)]
      rfl
    · intro q
      show (qu G.pp p (((G.pp p).s_fk (some m)).s_cnt ((G.pp p).cnt + 1)) q).own = _ ∧ (qu G.pp p (((G.pp p).s_fk (some m)).s_cnt ((G.pp p).cnt + 1)) q).trk = _
      by_cases n : q = p
      · subst n; rw [qu_eq]; exact ⟨rfl, rfl⟩
      · rw [qu_ne n]; exact ⟨rfl, rfl⟩
    · rw [tmp]
      show (qu G.pp p (((G.pp p).s_fk (some m)).s_cnt ((G.pp p).cnt + 1)) p).cnt.toInt = _
      rw [qu_eq, List.length_cons]
      show ((G.pp p).cnt + 1).toInt = _
      have := k.ct
      unfold qTm
      rw [List.length_map]
      omega
  | some b =>
    obtain ⟨l1, l2, z1, z2, z3, z4⟩ := (qLast_split (m := m) (G.kl p) none b k.so e).resolve_left (fun z => nomatch z.1)
    have hb : b ∈ G.kl p := by rw [z1]; simp
    have kb := kD b hb
    dsimp only
    by_cases q : (G.ky b).time = t
    · rw [if_pos q]
      have kt : ∀ x, (qu G.ky b ((G.ky b).s_value v) x).time = (G.ky x).time := fun x => by
        by_cases n : x = b
        · subst n; rw [qu_eq]; rfl
        · rw [qu_ne n]
      have kn : ∀ x, (qu G.ky b ((G.ky b).s_value v) x).next = (G.ky x).next := fun x => by
        by_cases n : x = b
        · subst n; rw [qu_eq]; rfl
        · rw [qu_ne n]
      have tme : ∀ q, qTm (G.setK b ((G.ky b).s_value v)) q = qTm G q := fun q => List.map_congr_left (fun x hx => kt x)
      have ppe : qu G.pp p (G.pp p) = G.pp := by
        funext x
        by_cases n : x = p
        · subst n; rw [qu_eq]
        · rw [qu_ne n]
      refine ⟨I.keysP hp (w := G.pp p) (K2 := G.K) (ky2 := qu G.ky b ((G.ky b).s_value v)) (kl2 := G.kl) (by rw [ppe]; rfl) ⟨rfl, rfl, rfl, rfl, rfl⟩ ?_ ?_ ?_ ?_, ?_, ?_, rfl, ⟨rfl, rfl, rfl, rfl, rfl, rfl, rfl, rfl, rfl, rfl⟩, fun q => ⟨rfl, rfl⟩, ?_⟩
      · refine ⟨k.ch.cg (fun x hx => ⟨kn x, kD x hx⟩), k.le, k.ct, List.Pairwise.imp_of_mem (fun {x y} hx hy z => by rw [kt, kt]; exact z) k.so, fun x hx => ?_, k.un⟩
        by_cases n : x = b
        · rw [n, qu_eq]; exact hv
        · rw [qu_ne n]; exact k.vl x hx
      · intro r hr n
        exact ⟨rfl, fun x hx => ⟨qu_ne (fun z => (oth r hr n x hx).2.2 (by rw [z]; exact hb)), (oth r hr n x hx).1⟩⟩
      · intro r hr n x hx hy
        exact (oth r hr n x hy).2.2 hx
      · intro x hx
        rw [kt]
        exact I.K.kt x hx
      · rw [tme]
        refine ⟨l1.map fun a => (G.ky a).time, (b :: l2).map fun a => (G.ky a).time, by unfold qTm; rw [z1, List.map_append], fun x hx => ?_, Or.inl ⟨l2.map fun a => (G.ky a).time, by rw [List.map_cons, q], rfl⟩⟩
        obtain ⟨y, hy, rfl⟩ := List.mem_map.mp hx
        have so := k.so
        rw [z1] at so
        have := (List.pairwise_append.mp so).2.2 y hy b List.mem_cons_self
        rw [q] at this
        exact this
      · intro r hr n
        exact tme r
      · show (G.pp p).cnt.toInt = _
        rw [tme, k.ct]
        unfold qTm
        rw [List.length_map]
    · rw [if_neg q, z4]
      have tb : (G.ky b).time.toInt < t.toInt := by
        have : (G.ky b).time.toInt ≠ t.toInt := fun z => q (Int32.toInt_inj.mp z)
        omega
      have bm : b ≠ m := km b kb
      have kyb : (G.addK m (qK.mk t v (G.ky b).next)).ky b = G.ky b := qu_ne bm
      -- the keys as they are now
      have kyo : ∀ x, x ≠ m → x ≠ b → qu (qu G.ky m (qK.mk t v (G.ky b).next)) b ((G.ky b).s_next (some m)) x = G.ky x := fun x n1 n2 => by rw [qu_ne n2, qu_ne n1]
      have kym : qu (qu G.ky m (qK.mk t v (G.ky b).next)) b ((G.ky b).s_next (some m)) m = qK.mk t v (G.ky b).next := by rw [qu_ne bm.symm, qu_eq]
      have kyb : qu (qu G.ky m (qK.mk t v (G.ky b).next)) b ((G.ky b).s_next (some m)) b = (G.ky b).s_next (some m) := qu_eq
      generalize ek : qu (qu G.ky m (qK.mk t v (G.ky b).next)) b ((G.ky b).s_next (some m)) = ky2 at kyo kym kyb
      have kt : ∀ x, x ≠ m → (ky2 x).time = (G.ky x).time := fun x n => by
        by_cases n2 : x = b
        · rw [n2, kyb]; rfl
        · rw [kyo x n n2]
      have kv : ∀ x, x ≠ m → (ky2 x).value = (G.ky x).value := fun x n => by
        by_cases n2 : x = b
        · rw [n2, kyb]; rfl
        · rw [kyo x n n2]
      have so := k.so
      have kD2 := kD
      have kc := k.ch
      have nod : ∀ x, x ∈ l1 ∨ x ∈ l2 → x ≠ b := by
        rintro x hx rfl
        rw [z1] at so
        obtain ⟨-, s2, s3⟩ := List.pairwise_append.mp so
        rcases hx with hx | hx
        · have := s3 x hx x List.mem_cons_self; omega
        · have := (List.pairwise_cons.mp s2).1 x hx; omega
      have kx1 : ∀ x, x ∈ l1 → G.K x := fun x hx => kD x (by rw [z1]; simp [hx])
      have kx2 : ∀ x, x ∈ l2 → G.K x := fun x hx => kD x (by rw [z1]; simp [hx])
      have tmo : ∀ l : List Nat, (∀ x, x ∈ l → x ≠ m) → (l.map fun a => (ky2 a).time) = l.map fun a => (G.ky a).time := fun l hl => List.map_congr_left (fun x hx => kt x (hl x hx))
      have tmp : (qu G.kl p (l1 ++ b :: m :: l2) p).map (fun a => (ky2 a).time) = (l1 ++ [b]).map (fun a => (G.ky a).time) ++ t :: l2.map (fun a => (G.ky a).time) := by
        rw [qu_eq, List.map_append, List.map_cons, List.map_cons, kym, kt b bm, tmo l1 (fun x hx => km x (kx1 x hx)), tmo l2 (fun x hx => km x (kx2 x hx)), List.map_append, List.append_assoc]
        rfl
      have tmG : qTm G p = (l1 ++ [b]).map (fun a => (G.ky a).time) ++ l2.map (fun a => (G.ky a).time) := by
        unfold qTm
        rw [z1, ← List.map_append, List.append_assoc]
        rfl
      have len : (l1 ++ b :: m :: l2).length = (G.kl p).length + 1 := by
        rw [z1]
        simp only [List.length_append, List.length_cons]
        omega
      have eH : ∀ (w : qP) (kl2 : Nat → List Nat), ((((G.addK m (qK.mk t v (G.ky b).next)).setK b ((G.ky b).s_next (some m))).setP p w).s_kl kl2) = ((((G.s_K (fun x => x = m ∨ G.K x)).s_ky ky2).s_pp (qu G.pp p w)).s_kl kl2) := by
        intro w kl2
        rw [← ek]
        rfl
      have hkl : ∀ (w : qP) (kl2 : Nat → List Nat), ((((G.s_K (fun x => x = m ∨ G.K x)).s_ky ky2).s_pp (qu G.pp p w)).s_kl kl2).ky = ky2 := fun _ _ => rfl
      rw [eH]
      refine ⟨I.keysP hp (w := (G.pp p).s_cnt ((G.pp p).cnt + 1)) (K2 := fun x => x = m ∨ G.K x) (ky2 := ky2) (kl2 := qu G.kl p (l1 ++ b :: m :: l2)) rfl ⟨rfl, rfl, rfl, rfl, rfl⟩ ?_ ?_ ?_ ?_, ?_, ?_, rfl, ⟨rfl, rfl, rfl, rfl, rfl, rfl, rfl, rfl, rfl, rfl⟩, ?_, ?_⟩
      · rw [qu_eq]
        refine ⟨?_, by omega, ?_, ?_, fun x hx => ?_, fun z => absurd z hu⟩
        · rw [z1] at kc
          refine kc.ins (fun x hx => ⟨?_, Or.inr (kx1 x hx)⟩) (fun x hx => ⟨?_, Or.inr (kx2 x hx)⟩) (Or.inr kb) (Or.inl rfl) ?_ ?_
          · rw [kyo x (km x (kx1 x hx)) (nod x (Or.inl hx))]
          · rw [kyo x (km x (kx2 x hx)) (nod x (Or.inr hx))]
          · rw [kyb]; rfl
          · rw [kym]; rfl
        · show ((G.pp p).cnt + 1).toInt = _
          have := k.ct
          omega
        · rw [z1, show l1 ++ b :: l2 = (l1 ++ [b]) ++ l2 by simp] at so
          rw [show l1 ++ b :: m :: l2 = (l1 ++ [b]) ++ m :: l2 by simp]
          have kmm : ∀ x, x ∈ (l1 ++ [b]) ++ l2 → x ≠ m := fun x hx => km x (kD x (by rw [z1]; simpa using hx))
          refine pw_ins (List.Pairwise.imp_of_mem (fun {x y} hx hy z => ?_) so) (fun x hx => ?_) (fun x hx => ?_)
          · rw [kt x (kmm x hx), kt y (kmm y hy)]; exact z
          · rw [kt x (kmm x (List.mem_append_left _ hx)), kym]
            show _ < t.toInt
            rcases List.mem_append.mp hx with w | w
            · have := (List.pairwise_append.mp (List.pairwise_append.mp so).1).2.2 x w b List.mem_cons_self
              omega
            · rw [List.mem_singleton.mp w]; exact tb
          · rw [kym, kt x (kmm x (List.mem_append_right _ hx))]
            exact z3 x hx
        · by_cases n : x = m
          · rw [n, kym]; exact hv
          · have hx2 : x ∈ G.kl p := by
              rw [z1]
              rcases List.mem_append.mp hx with w | w
              · exact List.mem_append_left _ w
              · rcases List.mem_cons.mp w with w | w
                · rw [w]; simp
                · rcases List.mem_cons.mp w with w | w
                  · exact absurd w n
                  · simp [w]
            show (G.pp p).least.toInt ≤ (ky2 x).value.toInt ∧ (ky2 x).value.toInt ≤ (G.pp p).most.toInt
            rw [kv x n]
            exact k.vl x hx2
      · intro r hr n
        refine ⟨qu_ne n, fun x hx => ?_⟩
        obtain ⟨o1, o2, o3⟩ := oth r hr n x hx
        exact ⟨kyo x o2 (fun z => o3 (by rw [z]; exact hb)), Or.inr o1⟩
      · intro r hr n x hx hy
        obtain ⟨o1, o2, o3⟩ := oth r hr n x hy
        rw [qu_eq] at hx
        refine o3 ?_
        rw [z1]
        rcases List.mem_append.mp hx with w | w
        · exact List.mem_append_left _ w
        · rcases List.mem_cons.mp w with w | w
          · rw [w]; simp
          · rcases List.mem_cons.mp w with w | w
            · exact absurd w o2
            · simp [w]
      · intro x hx
        by_cases n : x = m
        · rw [n, kym]; exact ht
        · rw [kt x n]; exact I.K.kt x (hx.resolve_left n)
      · show qTmI t (qTm G p) ((qu G.kl p (l1 ++ b :: m :: l2) p).map (fun a => (ky2 a).time))
        rw [tmp]
        refine ⟨(l1 ++ [b]).map (fun a => (G.ky a).time), l2.map (fun a => (G.ky a).time), tmG, fun x hx => ?_, Or.inr ⟨fun x hx => ?_, rfl⟩⟩
        · obtain ⟨y, hy, rfl⟩ := List.mem_map.mp hx
          rcases List.mem_append.mp hy with w | w
          · rw [z1] at so
            have := (List.pairwise_append.mp so).2.2 y w b List.mem_cons_self
            omega
          · rw [List.mem_singleton.mp w]; exact tb
        · obtain ⟨y, hy, rfl⟩ := List.mem_map.mp hx
          exact z3 y hy
      · intro r hr n
        show (qu G.kl p (l1 ++ b :: m :: l2) r).map (fun a => (ky2 a).time) = _
        rw [qu_ne n, tmo _ (fun x hx => (oth r hr n x hx).2.1)]
        rfl
      · intro r
        show (qu G.pp p ((G.pp p).s_cnt ((G.pp p).cnt + 1)) r).own = _ ∧ (qu G.pp p ((G.pp p).s_cnt ((G.pp p).cnt + 1)) r).trk = _
        by_cases n : r = p
        · subst n; rw [qu_eq]; exact ⟨rfl, rfl⟩
        · rw [qu_ne n]; exact ⟨rfl, rfl⟩
      · show (qu G.pp p ((G.pp p).s_cnt ((G.pp p).cnt + 1)) p).cnt.toInt = (((qu G.kl p (l1 ++ b :: m :: l2) p).map (fun a => (ky2 a).time)).length : Nat)
        rw [qu_eq, qu_eq, List.length_map, len]
        show ((G.pp p).cnt + 1).toInt = _
        have := k.ct
        omega
end KEYS
