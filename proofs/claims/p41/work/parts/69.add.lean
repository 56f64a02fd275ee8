/-! A node more. -/
section ADD
variable {G : qS} {F : Nat → Option fCe} {X : Nat × Nat × (Nat → Int32)} {k : Nat} {h : fSt} {a : Nat}
/-- a state with a node more, that hangs in nothing -/
def qAf (G : qS) (H : qS) (m : Nat) (p0 : Nat) (p1 : Nat) (p2 : Nat) (p3 : Nat) (f : Nat) (kind : Int32) (w : Int32) (hh : Int32) : Prop :=
  (∀ b, H.N b ↔ (b = m ∨ G.N b)) ∧
  (∀ b, H.P b ↔ (b = p0 ∨ b = p1 ∨ b = p2 ∨ b = p3 ∨ G.P b)) ∧
  (∀ b, H.M b ↔ (b = f ∨ G.M b)) ∧
  (H.K = G.K ∧ H.ky = G.ky) ∧
  (∀ b, G.N b → H.nd b = G.nd b) ∧
  (H.nd m = qNn G.added kind p0 p1 p2 p3 f) ∧
  (∀ p, G.P p → H.pp p = G.pp p) ∧
  (H.pp p0 = qP.mk (-200) 200 0 0 0 0 0 none 0 ∧ H.pp p1 = qP.mk (-200) 200 0 0 0 0 0 none 0 ∧ H.pp p2 = qP.mk 0 3 0 0 0 0 0 none 0 ∧ H.pp p3 = qP.mk 0 100 100 0 0 0 0 none 0) ∧
  (∀ x, G.M x → H.fm x = G.fm x) ∧
  (H.fm f = qM.mk 0 0 w hh) ∧
  (∀ b j, G.N b → H.pr b j = G.pr b j) ∧
  (H.pr m 0 = p0 ∧ H.pr m 1 = p1 ∧ H.pr m 2 = p2 ∧ H.pr m 3 = p3) ∧
  (∀ b, G.N b → H.fr b = G.fr b) ∧
  (H.fr m = f) ∧
  (∀ b, G.N b → H.kd b = G.kd b) ∧
  (H.kd m = []) ∧
  (∀ p, G.P p → H.kl p = G.kl p) ∧
  (H.kl p0 = [] ∧ H.kl p1 = [] ∧ H.kl p2 = [] ∧ H.kl p3 = []) ∧
  (H.added = G.added + 1 ∧ H.no = va_up G.no G.added.toNatClampNeg (some m) ∧ H.tracked = G.tracked ∧ H.tr = G.tr ∧ H.wh = G.wh ∧ H.time = G.time) ∧
  (qFd H ↔ qFd G) ∧
  (H.z = G.z)
theorem qAf.N {G : qS}{H : qS}{m : Nat}{p0 : Nat}{p1 : Nat}{p2 : Nat}{p3 : Nat}{f : Nat}{kind : Int32}{w : Int32}{hh : Int32} (hq0 : qAf G H m p0 p1 p2 p3 f kind w hh) : ∀ b, H.N b ↔ (b = m ∨ G.N b) := hq0.1
theorem qAf.P {G : qS}{H : qS}{m : Nat}{p0 : Nat}{p1 : Nat}{p2 : Nat}{p3 : Nat}{f : Nat}{kind : Int32}{w : Int32}{hh : Int32} (hq0 : qAf G H m p0 p1 p2 p3 f kind w hh) : ∀ b, H.P b ↔ (b = p0 ∨ b = p1 ∨ b = p2 ∨ b = p3 ∨ G.P b) := hq0.2.1
theorem qAf.M {G : qS}{H : qS}{m : Nat}{p0 : Nat}{p1 : Nat}{p2 : Nat}{p3 : Nat}{f : Nat}{kind : Int32}{w : Int32}{hh : Int32} (hq0 : qAf G H m p0 p1 p2 p3 f kind w hh) : ∀ b, H.M b ↔ (b = f ∨ G.M b) := hq0.2.2.1
theorem qAf.K {G : qS}{H : qS}{m : Nat}{p0 : Nat}{p1 : Nat}{p2 : Nat}{p3 : Nat}{f : Nat}{kind : Int32}{w : Int32}{hh : Int32} (hq0 : qAf G H m p0 p1 p2 p3 f kind w hh) : H.K = G.K ∧ H.ky = G.ky := hq0.2.2.2.1
theorem qAf.nd {G : qS}{H : qS}{m : Nat}{p0 : Nat}{p1 : Nat}{p2 : Nat}{p3 : Nat}{f : Nat}{kind : Int32}{w : Int32}{hh : Int32} (hq0 : qAf G H m p0 p1 p2 p3 f kind w hh) : ∀ b, G.N b → H.nd b = G.nd b := hq0.2.2.2.2.1
theorem qAf.nm {G : qS}{H : qS}{m : Nat}{p0 : Nat}{p1 : Nat}{p2 : Nat}{p3 : Nat}{f : Nat}{kind : Int32}{w : Int32}{hh : Int32} (hq0 : qAf G H m p0 p1 p2 p3 f kind w hh) : H.nd m = qNn G.added kind p0 p1 p2 p3 f := hq0.2.2.2.2.2.1
theorem qAf.pp {G : qS}{H : qS}{m : Nat}{p0 : Nat}{p1 : Nat}{p2 : Nat}{p3 : Nat}{f : Nat}{kind : Int32}{w : Int32}{hh : Int32} (hq0 : qAf G H m p0 p1 p2 p3 f kind w hh) : ∀ p, G.P p → H.pp p = G.pp p := hq0.2.2.2.2.2.2.1
theorem qAf.pn {G : qS}{H : qS}{m : Nat}{p0 : Nat}{p1 : Nat}{p2 : Nat}{p3 : Nat}{f : Nat}{kind : Int32}{w : Int32}{hh : Int32} (hq0 : qAf G H m p0 p1 p2 p3 f kind w hh) : H.pp p0 = qP.mk (-200) 200 0 0 0 0 0 none 0 ∧ H.pp p1 = qP.mk (-200) 200 0 0 0 0 0 none 0 ∧ H.pp p2 = qP.mk 0 3 0 0 0 0 0 none 0 ∧ H.pp p3 = qP.mk 0 100 100 0 0 0 0 none 0 := hq0.2.2.2.2.2.2.2.1
theorem qAf.fm {G : qS}{H : qS}{m : Nat}{p0 : Nat}{p1 : Nat}{p2 : Nat}{p3 : Nat}{f : Nat}{kind : Int32}{w : Int32}{hh : Int32} (hq0 : qAf G H m p0 p1 p2 p3 f kind w hh) : ∀ x, G.M x → H.fm x = G.fm x := hq0.2.2.2.2.2.2.2.2.1
theorem qAf.fn {G : qS}{H : qS}{m : Nat}{p0 : Nat}{p1 : Nat}{p2 : Nat}{p3 : Nat}{f : Nat}{kind : Int32}{w : Int32}{hh : Int32} (hq0 : qAf G H m p0 p1 p2 p3 f kind w hh) : H.fm f = qM.mk 0 0 w hh := hq0.2.2.2.2.2.2.2.2.2.1
theorem qAf.pr {G : qS}{H : qS}{m : Nat}{p0 : Nat}{p1 : Nat}{p2 : Nat}{p3 : Nat}{f : Nat}{kind : Int32}{w : Int32}{hh : Int32} (hq0 : qAf G H m p0 p1 p2 p3 f kind w hh) : ∀ b j, G.N b → H.pr b j = G.pr b j := hq0.2.2.2.2.2.2.2.2.2.2.1
theorem qAf.pm {G : qS}{H : qS}{m : Nat}{p0 : Nat}{p1 : Nat}{p2 : Nat}{p3 : Nat}{f : Nat}{kind : Int32}{w : Int32}{hh : Int32} (hq0 : qAf G H m p0 p1 p2 p3 f kind w hh) : H.pr m 0 = p0 ∧ H.pr m 1 = p1 ∧ H.pr m 2 = p2 ∧ H.pr m 3 = p3 := hq0.2.2.2.2.2.2.2.2.2.2.2.1
theorem qAf.fr {G : qS}{H : qS}{m : Nat}{p0 : Nat}{p1 : Nat}{p2 : Nat}{p3 : Nat}{f : Nat}{kind : Int32}{w : Int32}{hh : Int32} (hq0 : qAf G H m p0 p1 p2 p3 f kind w hh) : ∀ b, G.N b → H.fr b = G.fr b := hq0.2.2.2.2.2.2.2.2.2.2.2.2.1
theorem qAf.frm {G : qS}{H : qS}{m : Nat}{p0 : Nat}{p1 : Nat}{p2 : Nat}{p3 : Nat}{f : Nat}{kind : Int32}{w : Int32}{hh : Int32} (hq0 : qAf G H m p0 p1 p2 p3 f kind w hh) : H.fr m = f := hq0.2.2.2.2.2.2.2.2.2.2.2.2.2.1
theorem qAf.kd {G : qS}{H : qS}{m : Nat}{p0 : Nat}{p1 : Nat}{p2 : Nat}{p3 : Nat}{f : Nat}{kind : Int32}{w : Int32}{hh : Int32} (hq0 : qAf G H m p0 p1 p2 p3 f kind w hh) : ∀ b, G.N b → H.kd b = G.kd b := hq0.2.2.2.2.2.2.2.2.2.2.2.2.2.2.1
theorem qAf.kdm {G : qS}{H : qS}{m : Nat}{p0 : Nat}{p1 : Nat}{p2 : Nat}{p3 : Nat}{f : Nat}{kind : Int32}{w : Int32}{hh : Int32} (hq0 : qAf G H m p0 p1 p2 p3 f kind w hh) : H.kd m = [] := hq0.2.2.2.2.2.2.2.2.2.2.2.2.2.2.2.1
theorem qAf.kl {G : qS}{H : qS}{m : Nat}{p0 : Nat}{p1 : Nat}{p2 : Nat}{p3 : Nat}{f : Nat}{kind : Int32}{w : Int32}{hh : Int32} (hq0 : qAf G H m p0 p1 p2 p3 f kind w hh) : ∀ p, G.P p → H.kl p = G.kl p := hq0.2.2.2.2.2.2.2.2.2.2.2.2.2.2.2.2.1
theorem qAf.kln {G : qS}{H : qS}{m : Nat}{p0 : Nat}{p1 : Nat}{p2 : Nat}{p3 : Nat}{f : Nat}{kind : Int32}{w : Int32}{hh : Int32} (hq0 : qAf G H m p0 p1 p2 p3 f kind w hh) : H.kl p0 = [] ∧ H.kl p1 = [] ∧ H.kl p2 = [] ∧ H.kl p3 = [] := hq0.2.2.2.2.2.2.2.2.2.2.2.2.2.2.2.2.2.1
theorem qAf.st {G : qS}{H : qS}{m : Nat}{p0 : Nat}{p1 : Nat}{p2 : Nat}{p3 : Nat}{f : Nat}{kind : Int32}{w : Int32}{hh : Int32} (hq0 : qAf G H m p0 p1 p2 p3 f kind w hh) : H.added = G.added + 1 ∧ H.no = va_up G.no G.added.toNatClampNeg (some m) ∧ H.tracked = G.tracked ∧ H.tr = G.tr ∧ H.wh = G.wh ∧ H.time = G.time := hq0.2.2.2.2.2.2.2.2.2.2.2.2.2.2.2.2.2.2.1
theorem qAf.fd {G : qS}{H : qS}{m : Nat}{p0 : Nat}{p1 : Nat}{p2 : Nat}{p3 : Nat}{f : Nat}{kind : Int32}{w : Int32}{hh : Int32} (hq0 : qAf G H m p0 p1 p2 p3 f kind w hh) : qFd H ↔ qFd G := hq0.2.2.2.2.2.2.2.2.2.2.2.2.2.2.2.2.2.2.2.1
theorem qAf.z {G : qS}{H : qS}{m : Nat}{p0 : Nat}{p1 : Nat}{p2 : Nat}{p3 : Nat}{f : Nat}{kind : Int32}{w : Int32}{hh : Int32} (hq0 : qAf G H m p0 p1 p2 p3 f kind w hh) : H.z = G.z := hq0.2.2.2.2.2.2.2.2.2.2.2.2.2.2.2.2.2.2.2.2
/-- that the new ones are new -/
def qNw (G : qS) (m : Nat) (p0 : Nat) (p1 : Nat) (p2 : Nat) (p3 : Nat) (f : Nat) : Prop :=
  (¬ G.N m) ∧
  (¬ G.P p0 ∧ ¬ G.P p1 ∧ ¬ G.P p2 ∧ ¬ G.P p3) ∧
  (p1 ≠ p0 ∧ p2 ≠ p0 ∧ p2 ≠ p1 ∧ p3 ≠ p0 ∧ p3 ≠ p1 ∧ p3 ≠ p2) ∧
  (¬ G.M f)
theorem qNw.m {G : qS}{m : Nat}{p0 : Nat}{p1 : Nat}{p2 : Nat}{p3 : Nat}{f : Nat} (hq0 : qNw G m p0 p1 p2 p3 f) : ¬ G.N m := hq0.1
theorem qNw.p {G : qS}{m : Nat}{p0 : Nat}{p1 : Nat}{p2 : Nat}{p3 : Nat}{f : Nat} (hq0 : qNw G m p0 p1 p2 p3 f) : ¬ G.P p0 ∧ ¬ G.P p1 ∧ ¬ G.P p2 ∧ ¬ G.P p3 := hq0.2.1
theorem qNw.d {G : qS}{m : Nat}{p0 : Nat}{p1 : Nat}{p2 : Nat}{p3 : Nat}{f : Nat} (hq0 : qNw G m p0 p1 p2 p3 f) : p1 ≠ p0 ∧ p2 ≠ p0 ∧ p2 ≠ p1 ∧ p3 ≠ p0 ∧ p3 ≠ p1 ∧ p3 ≠ p2 := hq0.2.2.1
theorem qNw.f {G : qS}{m : Nat}{p0 : Nat}{p1 : Nat}{p2 : Nat}{p3 : Nat}{f : Nat} (hq0 : qNw G m p0 p1 p2 p3 f) : ¬ G.M f := hq0.2.2.2
theorem lt4 {j : Nat} (h : j < 4) : j = 0 ∨ j = 1 ∨ j = 2 ∨ j = 3 := by omega
theorem qR.gh (R : qR G F X k h) (m p0 p1 p2 p3 f : Nat) : qR (qGh G m p0 p1 p2 p3 f) F X k h := ⟨R.sc, R.na, R.ta, R.pt, R.bo, R.f0, R.f1, R.f2, R.f3, R.nd, R.pp, R.ky, R.fm, R.lo, R.rm, R.xx, R.bd⟩
theorem add_f {m p0 p1 p2 p3 f : Nat} {kind w hh : Int32} (n : qNw G m p0 p1 p2 p3 f) {H : qS} (eH : H = qGh (qAdd1 G m p0 p1 p2 p3 f kind w hh) m p0 p1 p2 p3 f) : qAf G H m p0 p1 p2 p3 f kind w hh := by
  obtain ⟨nm, ⟨n0, n1, n2, n3⟩, ⟨d10, d20, d21, d30, d31, d32⟩, nf⟩ := n
  have ne : ∀ {b}, G.N b → b ≠ m := fun hb z => nm (by rw [← z]; exact hb)
  have pe : ∀ {p}, G.P p → p ≠ p0 ∧ p ≠ p1 ∧ p ≠ p2 ∧ p ≠ p3 := fun hp => ⟨fun z => n0 (by rw [← z]; exact hp), fun z => n1 (by rw [← z]; exact hp), fun z => n2 (by rw [← z]; exact hp), fun z => n3 (by rw [← z]; exact hp)⟩
  have eN : H.N = fun b => b = m ∨ G.N b := by rw [eH]; rfl
  have eP : H.P = fun b => b = p3 ∨ b = p2 ∨ b = p1 ∨ b = p0 ∨ G.P b := by rw [eH]; rfl
  have eM : H.M = fun b => b = f ∨ G.M b := by rw [eH]; rfl
  have eK : H.K = G.K := by rw [eH]; rfl
  have eky : H.ky = G.ky := by rw [eH]; rfl
  have end_ : H.nd = qu G.nd m (qNn G.added kind p0 p1 p2 p3 f) := by rw [eH]; rfl
  have epp : H.pp = qu (qu (qu (qu G.pp p0 (qP.mk (-200) 200 0 0 0 0 0 none 0)) p1 (qP.mk (-200) 200 0 0 0 0 0 none 0)) p2 (qP.mk 0 3 0 0 0 0 0 none 0)) p3 (qP.mk 0 100 100 0 0 0 0 none 0) := by rw [eH]; rfl
  have efm : H.fm = qu G.fm f (qM.mk 0 0 w hh) := by rw [eH]; rfl
  have epr : H.pr = fun b j => if b = m then (if j = 0 then p0 else if j = 1 then p1 else if j = 2 then p2 else p3) else G.pr b j := by rw [eH]; rfl
  have efr : H.fr = qu G.fr m f := by rw [eH]; rfl
  have ekd : H.kd = qu G.kd m [] := by rw [eH]; rfl
  have ekl : H.kl = qu (qu (qu (qu G.kl p0 []) p1 []) p2 []) p3 [] := by rw [eH]; rfl
  have e1 : H.added = G.added + 1 := by rw [eH]; rfl
  have e2 : H.no = va_up G.no G.added.toNatClampNeg (some m) := by rw [eH]; rfl
  have e3 : H.tracked = G.tracked := by rw [eH]; rfl
  have e4 : H.tr = G.tr := by rw [eH]; rfl
  have e5 : H.wh = G.wh := by rw [eH]; rfl
  have e6 : H.time = G.time := by rw [eH]; rfl
  have e7 : H.z = G.z := by rw [eH]; rfl
  have f0 : H.f0 = G.f0 := by rw [eH]; rfl
  have f1 : H.f1 = G.f1 := by rw [eH]; rfl
  have f2 : H.f2 = G.f2 := by rw [eH]; rfl
  have f3 : H.f3 = G.f3 := by rw [eH]; rfl
  clear eH
  refine ⟨fun b => by rw [eN], fun b => ?_, fun b => by rw [eM], ⟨eK, eky⟩, fun b hb => by rw [end_, qu_ne (ne hb)], by rw [end_, qu_eq], fun p hp => ?_, ⟨?_, ?_, ?_, ?_⟩, fun x hx => by rw [efm, qu_ne (fun z => nf (by rw [← z]; exact hx))], by rw [efm, qu_eq], fun b j hb => by rw [epr]; exact if_neg (ne hb), ⟨?_, ?_, ?_, ?_⟩, fun b hb => by rw [efr, qu_ne (ne hb)], by rw [efr, qu_eq], fun b hb => by rw [ekd, qu_ne (ne hb)], by rw [ekd, qu_eq], fun p hp => ?_, ⟨?_, ?_, ?_, ?_⟩, ⟨e1, e2, e3, e4, e5, e6⟩, by unfold qFd; rw [f0, f1, f2, f3], e7⟩
  · rw [eP]
    constructor
    · rintro (z | z | z | z | z)
      · exact Or.inr (Or.inr (Or.inr (Or.inl z)))
      · exact Or.inr (Or.inr (Or.inl z))
      · exact Or.inr (Or.inl z)
      · exact Or.inl z
      · exact Or.inr (Or.inr (Or.inr (Or.inr z)))
    · rintro (z | z | z | z | z)
      · exact Or.inr (Or.inr (Or.inr (Or.inl z)))
      · exact Or.inr (Or.inr (Or.inl z))
      · exact Or.inr (Or.inl z)
      · exact Or.inl z
      · exact Or.inr (Or.inr (Or.inr (Or.inr z)))
  · obtain ⟨e0, e1, e2, e3⟩ := pe hp
    rw [epp, qu_ne e3, qu_ne e2, qu_ne e1, qu_ne e0]
  · rw [epp, qu_ne d30.symm, qu_ne d20.symm, qu_ne d10.symm, qu_eq]
  · rw [epp, qu_ne d31.symm, qu_ne d21.symm, qu_eq]
  · rw [epp, qu_ne d32.symm, qu_eq]
  · rw [epp, qu_eq]
  · rw [epr]; exact if_pos rfl
  · rw [epr]; exact if_pos rfl
  · rw [epr]; exact if_pos rfl
  · rw [epr]; exact if_pos rfl
  · obtain ⟨e0, e1, e2, e3⟩ := pe hp
    rw [ekl, qu_ne e3, qu_ne e2, qu_ne e1, qu_ne e0]
  · rw [ekl, qu_ne d30.symm, qu_ne d20.symm, qu_ne d10.symm, qu_eq]
  · rw [ekl, qu_ne d31.symm, qu_ne d21.symm, qu_eq]
  · rw [ekl, qu_ne d32.symm, qu_eq]
  · rw [ekl, qu_eq]
/-- what is known of a new property -/
theorem qKk0 {K : Nat → Prop} {ky : Nat → qK} {w : qP} (e : w.fk = none) (c : w.cnt = 0) : qKk K ky w [] :=
  ⟨e, Nat.zero_le _, by rw [c]; decide, List.Pairwise.nil, fun a ha => (nomatch ha), fun _ => rfl⟩
theorem add_J {H : qS} {m p0 p1 p2 p3 f : Nat} {kind w hh : Int32} (I : qI G) (n : qNw G m p0 p1 p2 p3 f) (A : qAf G H m p0 p1 p2 p3 f kind w hh) (had : G.added.toInt < 30) (hwh : (0 ≤ w.toInt ∧ w.toInt ≤ 200) ∧ 0 ≤ hh.toInt ∧ hh.toInt ≤ 200) : qJd H m := by
  obtain ⟨a1, a2⟩ := I.A.ad
  have s1 := i32_s (i := G.added) (by omega) (by omega)
  have na := i32_nat (i := G.added) (by omega)
  obtain ⟨st1, st2, st3, st4, st5, st6⟩ := A.st
  obtain ⟨⟨n0, n1, n2, n3⟩, ⟨d10, d20, d21, d30, d31, d32⟩⟩ := (⟨n.p, n.d⟩ : _ ∧ _)
  have ne : ∀ {b}, G.N b → b ≠ m := fun hb z => n.m (by rw [← z]; exact hb)
  have g0 : (H.nd m).gone = 0 := by rw [A.nm]; rfl
  have lv : ∀ b, qLvf H.N H.goneF b ↔ (b = m ∨ qLvf G.N G.goneF b) := by
    intro b
    constructor
    · rintro ⟨h1, h2⟩
      rcases (A.N b).mp h1 with z | z
      · exact Or.inl z
      · refine Or.inr ⟨z, ?_⟩
        have h2 : (H.nd b).gone = 0 := h2
        rw [A.nd b z] at h2
        exact h2
    · rintro (z | z)
      · rw [z]; exact ⟨(A.N m).mpr (Or.inl rfl), g0⟩
      · refine ⟨(A.N b).mpr (Or.inr z.1), ?_⟩
        show (H.nd b).gone = 0
        rw [A.nd b z.1]
        exact z.2
  have nlp : ∀ {b q}, qLvf G.N G.goneF b → (G.nd b).par = some q → q ≠ m := fun lb e => ne (I.up_par lb e).1.1
  -- the properties: by owner
  have own : ∀ p, H.P p → G.P p ∨ ∃ j, j < 4 ∧ p = H.pr m j := by
    intro p hp
    obtain ⟨q0, q1, q2, q3⟩ := A.pm
    rcases (A.P p).mp hp with z | z | z | z | z
    · exact Or.inr ⟨0, by decide, by rw [q0]; exact z⟩
    · exact Or.inr ⟨1, by decide, by rw [q1]; exact z⟩
    · exact Or.inr ⟨2, by decide, by rw [q2]; exact z⟩
    · exact Or.inr ⟨3, by decide, by rw [q3]; exact z⟩
    · exact Or.inl z
  have pmP : ∀ j, j < 4 → H.P (H.pr m j) := by
    intro j hj
    obtain ⟨q0, q1, q2, q3⟩ := A.pm
    rcases lt4 hj with rfl | rfl | rfl | rfl
    · rw [q0]; exact (A.P _).mpr (Or.inl rfl)
    · rw [q1]; exact (A.P _).mpr (Or.inr (Or.inl rfl))
    · rw [q2]; exact (A.P _).mpr (Or.inr (Or.inr (Or.inl rfl)))
    · rw [q3]; exact (A.P _).mpr (Or.inr (Or.inr (Or.inr (Or.inl rfl))))
  have pmn : ∀ j, j < 4 → ¬ G.P (H.pr m j) := by
    intro j hj
    obtain ⟨q0, q1, q2, q3⟩ := A.pm
    rcases lt4 hj with rfl | rfl | rfl | rfl
    · rw [q0]; exact n0
    · rw [q1]; exact n1
    · rw [q2]; exact n2
    · rw [q3]; exact n3
  have pmi : ∀ i j, i < 4 → j < 4 → H.pr m i = H.pr m j → i = j := by
    intro i j hi hj
    obtain ⟨q0, q1, q2, q3⟩ := A.pm
    rcases lt4 hi with rfl | rfl | rfl | rfl <;> rcases lt4 hj with rfl | rfl | rfl | rfl <;> simp only [q0, q1, q2, q3] <;> intro z <;> first | trivial | exact absurd z d10 | exact absurd z d10.symm | exact absurd z d20 | exact absurd z d20.symm | exact absurd z d21 | exact absurd z d21.symm | exact absurd z d30 | exact absurd z d30.symm | exact absurd z d31 | exact absurd z d31.symm | exact absurd z d32 | exact absurd z d32.symm
  have pmk : ∀ j, j < 4 → H.kl (H.pr m j) = [] ∧ (H.pp (H.pr m j)).fk = none ∧ (H.pp (H.pr m j)).cnt = 0 ∧ (H.pp (H.pr m j)).trk = 0 ∧ (H.pp (H.pr m j)).done = 0 ∧ (H.pp (H.pr m j)).least.toInt = (qRg j).1 ∧ (H.pp (H.pr m j)).most.toInt = (qRg j).2 ∧ (qRg j).1 ≤ (H.pp (H.pr m j)).own.toInt ∧ (H.pp (H.pr m j)).own.toInt ≤ (qRg j).2 := by
    intro j hj
    obtain ⟨q0, q1, q2, q3⟩ := A.pm
    obtain ⟨r0, r1, r2, r3⟩ := A.pn
    obtain ⟨l0, l1, l2, l3⟩ := A.kln
    rcases lt4 hj with rfl | rfl | rfl | rfl
    · rw [q0, r0, l0]; exact ⟨rfl, rfl, rfl, rfl, rfl, by decide, by decide, by decide, by decide⟩
    · rw [q1, r1, l1]; exact ⟨rfl, rfl, rfl, rfl, rfl, by decide, by decide, by decide, by decide⟩
    · rw [q2, r2, l2]; exact ⟨rfl, rfl, rfl, rfl, rfl, by decide, by decide, by decide, by decide⟩
    · rw [q3, r3, l3]; exact ⟨rfl, rfl, rfl, rfl, rfl, by decide, by decide, by decide, by decide⟩
  have prG : ∀ b j, G.N b → j < 4 → G.P (H.pr b j) := fun b j hb hj => by rw [A.pr b j hb]; exact I.Y.pP b j hb hj
  refine ⟨⟨?_, ?_, fun i hi => ?_, fun b hb => ?_⟩, ⟨?_, ?_, ?_, ?_, fun x lx => ?_, fun x lx => ?_, fun x lx => ?_⟩, ⟨fun b hb => ?_, fun b j hb hj => ?_, fun b c i j hb hc hi hj e => ?_, fun p hp => ?_⟩, fun b j hb hj => ?_, ⟨fun p hp => ?_, fun p q hp hq npq x hx hy => ?_, ?_⟩, fun b j lb hj => ?_, ⟨fun b hb => ?_, fun b hb => ?_, fun b hb => ?_, fun b c hb e => ?_⟩, ⟨?_, fun i hi => ?_, fun p hp ht => ?_⟩, ⟨?_, ?_, ?_, ?_, ?_, fun j hj => ?_⟩, A.fd.mpr I.fd⟩
  · rw [st1]; omega
  · rw [st2, st5]
    exact (if_neg (show (0 : Nat) ≠ G.added.toNatClampNeg by omega)).trans I.A.n0
  · rw [st1] at hi
    rw [st2]
    by_cases e : i = G.added.toNatClampNeg
    · refine ⟨m, if_pos e, (A.N m).mpr (Or.inl rfl), ?_⟩
      show (H.nd m).number.toInt = i
      rw [A.nm]
      show G.added.toInt = i
      omega
    · obtain ⟨b, e1, e2, e3⟩ := I.A.no i (by omega)
      refine ⟨b, (if_neg e).trans e1, (A.N b).mpr (Or.inr e2), ?_⟩
      show (H.nd b).number.toInt = i
      rw [A.nd b e2]
      exact e3
  · rw [st1, st2]
    show 0 ≤ (H.nd b).number.toInt ∧ (H.nd b).number.toInt < (G.added + 1).toInt ∧ va_up G.no G.added.toNatClampNeg (some m) (H.nd b).number.toInt.toNat = some b
    rcases (A.N b).mp hb with z | z
    · subst z
      rw [A.nm]
      show 0 ≤ G.added.toInt ∧ G.added.toInt < (G.added + 1).toInt ∧ va_up G.no G.added.toNatClampNeg (some b) G.added.toInt.toNat = some b
      exact ⟨by omega, by omega, if_pos rfl⟩
    · obtain ⟨e1, e2, e3⟩ := I.A.nu b z
      have e1 : 0 ≤ (G.nd b).number.toInt := e1
      have e2 : (G.nd b).number.toInt < G.added.toInt := e2
      have e3 : G.no (G.nd b).number.toInt.toNat = some b := e3
      rw [A.nd b z]
      exact ⟨e1, by omega, (if_neg (show (G.nd b).number.toInt.toNat ≠ G.added.toNatClampNeg by omega)).trans e3⟩
  · rw [st5]; exact (lv _).mpr (Or.inr I.B.wl)
  · rw [st5]
    show (H.nd G.wh).par = none
    rw [A.nd _ I.B.wl.1]; exact I.B.wp
  · exact (lv m).mpr (Or.inl rfl)
  · rw [st5]; exact fun z => ne I.B.wl.1 z.symm
  · rcases (lv x).mp lx with z | z
    · subst z
      rw [A.kdm]
      refine ⟨List.nodup_nil, fun b => ⟨fun hb => (nomatch hb), ?_⟩⟩
      rintro ⟨lb, e, bm⟩
      exfalso
      have lb2 := ((lv b).mp lb).resolve_left bm
      have e : (H.nd b).par = some x := e
      rw [A.nd b lb2.1] at e
      exact nlp lb2 e rfl
    · rw [A.kd x z.1]
      obtain ⟨t1, t2⟩ := I.B.tk.1 x z
      refine ⟨t1, fun b => ?_⟩
      rw [t2 b]
      constructor
      · rintro ⟨l1, e⟩
        refine ⟨(lv b).mpr (Or.inr l1), ?_, ne l1.1⟩
        show (H.nd b).par = some x
        rw [A.nd b l1.1]; exact e
      · rintro ⟨l1, e, bm⟩
        have l2 := ((lv b).mp l1).resolve_left bm
        have e : (H.nd b).par = some x := e
        rw [A.nd b l2.1] at e
        exact ⟨l2, e⟩
  · show -9 ≤ (H.nd x).layer.toInt ∧ (H.nd x).layer.toInt ≤ 9
    rcases (lv x).mp lx with z | z
    · rw [z, A.nm]
      show -9 ≤ (0 : Int32).toInt ∧ (0 : Int32).toInt ≤ 9
      decide
    · rw [A.nd x z.1]; exact I.B.tk.2 x z
  · rcases (lv x).mp lx with z | z
    · subst z
      rw [A.kdm]
      show (H.nd x).fst = none
      rw [A.nm]; rfl
    · rw [A.kd x z.1, show H.fstF x = G.fstF x by show (H.nd x).fst = _; rw [A.nd x z.1]]
      refine (I.B.ch x z).cg (fun b hb => ?_)
      have lb := (((I.B.tk.1 x z).2 b).mp hb).1
      refine ⟨?_, (lv b).mpr (Or.inr lb)⟩
      show (H.nd b).nxt = (G.nd b).nxt
      rw [A.nd b lb.1]
  · show (H.nd b).x = some (H.pr b 0) ∧ (H.nd b).y = some (H.pr b 1) ∧ (H.nd b).turns = some (H.pr b 2) ∧ (H.nd b).opac = some (H.pr b 3)
    rcases (A.N b).mp hb with z | z
    · obtain ⟨q0, q1, q2, q3⟩ := A.pm
      subst z
      rw [A.nm, q0, q1, q2, q3]
      exact ⟨rfl, rfl, rfl, rfl⟩
    · rw [A.nd b z, A.pr b 0 z, A.pr b 1 z, A.pr b 2 z, A.pr b 3 z]
      exact I.Y.px b z
  · rcases (A.N b).mp hb with z | z
    · rw [z]; exact pmP j hj
    · exact (A.P _).mpr (Or.inr (Or.inr (Or.inr (Or.inr (prG b j z hj)))))
  · rcases (A.N b).mp hb with z1 | z1
    · rcases (A.N c).mp hc with z2 | z2
      · subst z1; subst z2
        exact ⟨rfl, pmi i j hi hj e⟩
      · subst z1
        exact absurd (prG c j z2 hj) (by rw [← e]; exact pmn i hi)
    · rcases (A.N c).mp hc with z2 | z2
      · subst z2
        exact absurd (prG b i z1 hi) (by rw [e]; exact pmn j hj)
      · rw [A.pr b i z1, A.pr c j z2] at e
        exact I.Y.inj b c i j z1 z2 hi hj e
  · rcases own p hp with z | ⟨j, hj, z⟩
    · obtain ⟨b, j, hb, hj, e⟩ := I.Y.ex p z
      exact ⟨b, j, (A.N b).mpr (Or.inr hb), hj, by rw [A.pr b j hb]; exact e⟩
    · exact ⟨m, j, (A.N m).mpr (Or.inl rfl), hj, z⟩
  · rcases (A.N b).mp hb with z | z
    · rw [z]
      exact (pmk j hj).2.2.2.2.2
    · rw [A.pp _ (prG b j z hj), A.pr b j z]
      exact I.D b j z hj
  · rw [A.K.1, A.K.2]
    rcases own p hp with z | ⟨j, hj, z⟩
    · rw [A.pp p z, A.kl p z]; exact I.K.on p z
    · obtain ⟨k1, k2, k3, -⟩ := pmk j hj
      rw [z, k1]
      exact qKk0 k2 k3
  · rcases own p hp with z1 | ⟨j, hj, z1⟩
    · rcases own q hq with z2 | ⟨j, hj, z2⟩
      · rw [A.kl p z1] at hx
        rw [A.kl q z2] at hy
        exact I.K.ds p q z1 z2 npq x hx hy
      · rw [z2, (pmk j hj).1] at hy
        cases hy
    · rw [z1, (pmk j hj).1] at hx
      cases hx
  · rw [A.K.1, A.K.2]; exact I.K.kt
  · rcases (lv b).mp lb with z | z
    · rw [z]; exact (pmk j hj).2.2.2.2.1
    · rw [A.pp _ (prG b j z.1 hj), A.pr b j z.1]; exact I.O b j z hj
  · show (1 ≤ (H.nd b).over.toInt ∧ (H.nd b).over.toInt ≤ 4) ∧ 1 ≤ (H.nd b).under.toInt ∧ (H.nd b).under.toInt ≤ 4
    rcases (A.N b).mp hb with z | z
    · rw [z, A.nm]
      show (1 ≤ (1 : Int32).toInt ∧ (1 : Int32).toInt ≤ 4) ∧ 1 ≤ (1 : Int32).toInt ∧ (1 : Int32).toInt ≤ 4
      decide
    · rw [A.nd b z]; exact I.E.ov b z
  · show (H.nd b).frame = some (H.fr b) ∧ H.M (H.fr b)
    rcases (A.N b).mp hb with z | z
    · rw [z, A.nm, A.frm]; exact ⟨rfl, (A.M f).mpr (Or.inl rfl)⟩
    · rw [A.nd b z, A.fr b z]; exact ⟨(I.E.fr b z).1, (A.M _).mpr (Or.inr (I.E.fr b z).2)⟩
  · rcases (A.N b).mp hb with z | z
    · rw [z, A.frm, A.fn]
      exact ⟨rfl, rfl, hwh⟩
    · rw [A.fr b z, A.fm _ (I.E.fr b z).2]; exact I.E.fm b z
  · have e : (H.nd b).cut = some c := e
    rcases (A.N b).mp hb with z | z
    · rw [z, A.nm] at e
      exact absurd e (fun w => nomatch w)
    · rw [A.nd b z] at e; exact (A.M c).mpr (Or.inr (I.E.ct b c z e))
  · rw [st3]; exact I.T.tk
  · rw [st3] at hi
    rw [st4]
    obtain ⟨p, e, hp⟩ := I.T.tr i hi
    exact ⟨p, e, (A.P p).mpr (Or.inr (Or.inr (Or.inr (Or.inr hp))))⟩
  · rw [st3, st4]
    rcases own p hp with z | ⟨j, hj, z⟩
    · rw [A.pp p z] at ht; exact I.T.un p z ht
    · rw [z] at ht; exact absurd (pmk j hj).2.2.2.1 ht
  · show (H.nd H.wh).over = 1
    rw [st5, A.nd _ I.B.wl.1]; exact I.W.ov
  · show (H.nd H.wh).under = 1
    rw [st5, A.nd _ I.B.wl.1]; exact I.W.un
  · show (H.nd H.wh).mir = 0
    rw [st5, A.nd _ I.B.wl.1]; exact I.W.mi
  · show (H.nd H.wh).cut = none
    rw [st5, A.nd _ I.B.wl.1]; exact I.W.ct
  · rw [st5, A.pp _ (prG _ 0 I.B.wl.1 (by decide)), A.pp _ (prG _ 1 I.B.wl.1 (by decide)), A.pp _ (prG _ 2 I.B.wl.1 (by decide)), A.pr _ _ I.B.wl.1, A.pr _ _ I.B.wl.1, A.pr _ _ I.B.wl.1]; exact I.W.ow
  · rw [st5, A.pp _ (prG _ j I.B.wl.1 hj), A.pr _ _ I.B.wl.1]; exact I.W.tr j hj
end ADD
