/-! remove, as it is called. -/
section REMOVE
variable {G : qS} {F : Nat → Option fCe} {X : Nat × Nat × (Nat → Int32)} {k : Nat} {h : fSt} {a c : Nat}
def qEP (w : qP) : qP := ((((w).s_done (1)).s_fk (none)).s_cnt (0))
/-- the nodes of S vanished -/
def qVm (G : qS) (S : Nat → Prop) (nd : Nat → qN) (pp : Nat → qP) (kl : Nat → List Nat) : Prop :=
  (∀ b, (S b → nd b = ((G.nd b).s_gone (1))) ∧ (¬ S b → nd b = G.nd b)) ∧
  (∀ b j, G.N b → j < 4 → (S b → pp (G.pr b j) = qEP (G.pp (G.pr b j)) ∧ kl (G.pr b j) = []) ∧ (¬ S b → pp (G.pr b j) = G.pp (G.pr b j) ∧ kl (G.pr b j) = G.kl (G.pr b j)))
theorem qVm.n1 {G : qS}{S : Nat → Prop}{nd : Nat → qN}{pp : Nat → qP}{kl : Nat → List Nat} (hq0 : qVm G S nd pp kl) : ∀ b, (S b → nd b = ((G.nd b).s_gone (1))) ∧ (¬ S b → nd b = G.nd b) := hq0.1
theorem qVm.p1 {G : qS}{S : Nat → Prop}{nd : Nat → qN}{pp : Nat → qP}{kl : Nat → List Nat} (hq0 : qVm G S nd pp kl) : ∀ b j, G.N b → j < 4 → (S b → pp (G.pr b j) = qEP (G.pp (G.pr b j)) ∧ kl (G.pr b j) = []) ∧ (¬ S b → pp (G.pr b j) = G.pp (G.pr b j) ∧ kl (G.pr b j) = G.kl (G.pr b j)) := hq0.2
def qSt (G : qS) (nd : Nat → qN) (pp : Nat → qP) (kl : Nat → List Nat) : qS := ((G.s_nd nd).s_pp pp).s_kl kl
theorem qVm.f {α : Type} {S : Nat → Prop} {nd : Nat → qN} {pp : Nat → qP} {kl : Nat → List Nat} (m : qVm G S nd pp kl) (f : qN → α) (hf : ∀ q v, f (qN.s_gone q v) = f q) (b : Nat) : f (nd b) = f (G.nd b) := by
  by_cases z : S b
  · rw [(m.n1 b).1 z, hf]
  · rw [(m.n1 b).2 z]
theorem van_m (I : qI G) {S : Nat → Prop} {nd : Nat → qN} {pp : Nat → qP} {kl : Nat → List Nat} (m : qVm G S nd pp kl) (ha : G.N a) (sa : ¬ S a) : ∃ nd2 pp2 kl2, qVan (qSt G nd pp kl) a = qSt G nd2 pp2 kl2 ∧ qVm G (fun x => x = a ∨ S x) nd2 pp2 kl2 := by
  have ne : ∀ {b i j}, G.N b → i < 4 → j < 4 → ¬ (b = a ∧ i = j) → G.pr b i ≠ G.pr a j := fun hb hi hj n z => n (I.Y.inj _ _ _ _ hb ha hi hj z)
  have d01 := ne (b := a) (i := 0) (j := 1) ha (by decide) (by decide) (fun z => absurd z.2 (by decide))
  have d02 := ne (b := a) (i := 0) (j := 2) ha (by decide) (by decide) (fun z => absurd z.2 (by decide))
  have d03 := ne (b := a) (i := 0) (j := 3) ha (by decide) (by decide) (fun z => absurd z.2 (by decide))
  have d12 := ne (b := a) (i := 1) (j := 2) ha (by decide) (by decide) (fun z => absurd z.2 (by decide))
  have d13 := ne (b := a) (i := 1) (j := 3) ha (by decide) (by decide) (fun z => absurd z.2 (by decide))
  have d23 := ne (b := a) (i := 2) (j := 3) ha (by decide) (by decide) (fun z => absurd z.2 (by decide))
  generalize e0 : G.pr a 0 = p0 at d01 d02 d03
  generalize e1 : G.pr a 1 = p1 at d01 d12 d13
  generalize e2 : G.pr a 2 = p2 at d02 d12 d23
  generalize e3 : G.pr a 3 = p3 at d03 d13 d23
  refine ⟨qu nd a ((nd a).s_gone (1)), qu (qu (qu (qu pp p0 (qEP (pp p0))) p1 (qEP (pp p1))) p2 (qEP (pp p2))) p3 (qEP (pp p3)), qu (qu (qu (qu kl p0 []) p1 []) p2 []) p3 [], ?_, fun b => ⟨fun z => ?_, fun z => ?_⟩, fun b j hb hj => ⟨fun z => ?_, fun z => ?_⟩⟩
  · have x1 : qu pp p0 (qEP (pp p0)) p1 = pp p1 := qu_ne d01.symm
    have x2 : qu (qu pp p0 (qEP (pp p0))) p1 (qEP (pp p1)) p2 = pp p2 := by rw [qu_ne d12.symm, qu_ne d02.symm]
    have x3 : qu (qu (qu pp p0 (qEP (pp p0))) p1 (qEP (pp p1))) p2 (qEP (pp p2)) p3 = pp p3 := by rw [qu_ne d23.symm, qu_ne d13.symm, qu_ne d03.symm]
    have big : qVan (qSt G nd pp kl) a = qSt G (qu nd a ((nd a).s_gone (1))) (qu (qu (qu (qu pp p0 (qEP (pp p0))) p1 (qEP (qu pp p0 (qEP (pp p0)) p1))) p2 (qEP (qu (qu pp p0 (qEP (pp p0))) p1 (qEP (qu pp p0 (qEP (pp p0)) p1)) p2))) p3 (qEP (qu (qu (qu pp p0 (qEP (pp p0))) p1 (qEP (qu pp p0 (qEP (pp p0)) p1))) p2 (qEP (qu (qu pp p0 (qEP (pp p0))) p1 (qEP (qu pp p0 (qEP (pp p0)) p1)) p2)) p3))) (qu (qu (qu (qu kl p0 []) p1 []) p2 []) p3 []) := by
      unfold qVan
      rw [show (qSt G nd pp kl).pr = G.pr from rfl, e0, e1, e2, e3]
      rfl
    rw [big, x1, x2, x3]
  · by_cases n : b = a
    · rw [n, qu_eq, (m.n1 a).2 sa]
    · rw [qu_ne n]; exact (m.n1 b).1 (z.resolve_left n)
  · have n : b ≠ a := fun w => z (Or.inl w)
    rw [qu_ne n]; exact (m.n1 b).2 (fun w => z (Or.inr w))
  · by_cases n : b = a
    · subst n
      have m0 := (m.p1 b j hb hj).2 sa
      rcases lt4 hj with rfl | rfl | rfl | rfl
      · rw [e0] at m0 ⊢
        rw [qu_ne d03, qu_ne d02, qu_ne d01, qu_eq, qu_ne d03, qu_ne d02, qu_ne d01, qu_eq, m0.1]
        exact ⟨rfl, rfl⟩
      · rw [e1] at m0 ⊢
        rw [qu_ne d13, qu_ne d12, qu_eq, qu_ne d13, qu_ne d12, qu_eq, m0.1]
        exact ⟨rfl, rfl⟩
      · rw [e2] at m0 ⊢
        rw [qu_ne d23, qu_eq, qu_ne d23, qu_eq, m0.1]
        exact ⟨rfl, rfl⟩
      · rw [e3] at m0 ⊢
        rw [qu_eq, qu_eq, m0.1]
        exact ⟨rfl, rfl⟩
    · have n0 := ne hb hj (show 0 < 4 by decide) (fun w => n w.1)
      have n1 := ne hb hj (show 1 < 4 by decide) (fun w => n w.1)
      have n2 := ne hb hj (show 2 < 4 by decide) (fun w => n w.1)
      have n3 := ne hb hj (show 3 < 4 by decide) (fun w => n w.1)
      rw [e0] at n0
      rw [e1] at n1
      rw [e2] at n2
      rw [e3] at n3
      rw [qu_ne n3, qu_ne n2, qu_ne n1, qu_ne n0, qu_ne n3, qu_ne n2, qu_ne n1, qu_ne n0]
      exact (m.p1 b j hb hj).1 (z.resolve_left n)
  · have n : b ≠ a := fun w => z (Or.inl w)
    have n0 := ne hb hj (show 0 < 4 by decide) (fun w => n w.1)
    have n1 := ne hb hj (show 1 < 4 by decide) (fun w => n w.1)
    have n2 := ne hb hj (show 2 < 4 by decide) (fun w => n w.1)
    have n3 := ne hb hj (show 3 < 4 by decide) (fun w => n w.1)
    rw [e0] at n0
    rw [e1] at n1
    rw [e2] at n2
    rw [e3] at n3
    rw [qu_ne n3, qu_ne n2, qu_ne n1, qu_ne n0, qu_ne n3, qu_ne n2, qu_ne n1, qu_ne n0]
    exact (m.p1 b j hb hj).2 (fun w => z (Or.inr w))
def qCtW (G : qS) (c : Nat) (l : List Nat) : Nat := l.countP (fun x => qIn (some c) (G.up x))
theorem x_rmL (I : qI G) (c : Nat) : ∀ (l : List Nat) (o : Option Nat) (n : Nat) (S : Nat → Prop) (nd : Nat → qN) (pp : Nat → qP) (kl : Nat → List Nat) (cnt : Int32) (h : fSt), Ch G.befF G.N l o → (∀ a, a ∈ l → G.Lv a) → l.length < n → l.Nodup → (∀ x, x ∈ l → ¬ S x) → qVm G S nd pp kl → qR (qSt G nd pp kl) F X k h → ∃ nd2 pp2 kl2 h2, f_X7_remove_L14 n (some G.z) (some c) cnt o h = f_X7_remove_L14 1 (some G.z) (some c) (cnt + nI (qCtW G c l)) none h2 ∧ qVm G (fun x => S x ∨ (x ∈ l ∧ c ∈ G.up x)) nd2 pp2 kl2 ∧ qR (qSt G nd2 pp2 kl2) F X k h2
  | [], o, n + 1, S, nd, pp, kl, cnt, h, ch, _, _, _, _, m, R => by
    obtain rfl : o = none := ch
    refine ⟨nd, pp, kl, h, ?_, ?_, R⟩
    · rw [sN_X7_remove_L14, sN_X7_remove_L14, show nI (qCtW G c []) = 0 from rfl, Int32.add_zero]
    · have e : (fun x => S x ∨ (x ∈ ([] : List Nat) ∧ c ∈ G.up x)) = S := funext fun x => propext ⟨fun z => z.resolve_right (fun w => (nomatch w.1)), Or.inl⟩
      rw [e]; exact m
  | x :: l, o, n + 1, S, nd, pp, kl, cnt, h, ch, hl, hn, hd, hs, m, R => by
    obtain ⟨rfl, hx, ch2⟩ := ch
    have hn2 : l.length + 1 < n + 1 := hn
    obtain ⟨d1, d2⟩ := List.nodup_cons.mp hd
    have lx := hl x List.mem_cons_self
    have hl2 : ∀ b, b ∈ l → G.Lv b := fun b hb => hl b (List.mem_cons_of_mem _ hb)
    obtain ⟨cu, lu⟩ := I.V.up x lx
    have hxH : (qSt G nd pp kl).N x := hx
    have cuH : Ch (qSt G nd pp kl).parF (qSt G nd pp kl).N (G.up x) (some x) := cu.cg (fun b hb => ⟨m.f qN.par (fun _ _ => rfl) b, cu.D b hb⟩)
    have bef : ((qSt G nd pp kl).nd x).bef = (G.nd x).bef := m.f qN.bef (fun _ _ => rfl) x
    rw [sS_X7_remove_L14, oN R hxH, Option.bind_some, x_within R (some c) cuH (by omega), Option.bind_some]
    unfold f_X7_remove_L36
    dsimp only
    by_cases q : qIn (some c) (G.up x) = true
    · simp +decide only [q, if_true, if_false]
      obtain ⟨nd2, pp2, kl2, e2, m2⟩ := van_m I m hx (hs x List.mem_cons_self)
      obtain ⟨px0, px1, px2, px3⟩ := I.Y.px x hx
      obtain ⟨h1, w1, R1⟩ := x_van R (a := x) ⟨(m.f qN.x (fun _ _ => rfl) x).trans px0, (m.f qN.y (fun _ _ => rfl) x).trans px1, (m.f qN.turns (fun _ _ => rfl) x).trans px2, (m.f qN.opac (fun _ _ => rfl) x).trans px3⟩ (fun j hj => I.Y.pP x j hx hj) hxH
      rw [e2] at R1
      have bef2 : ((qSt G nd2 pp2 kl2).nd x).bef = (G.nd x).bef := m2.f qN.bef (fun _ _ => rfl) x
      obtain ⟨nd3, pp3, kl3, h3, f3, m3, R3⟩ := x_rmL I c l _ n _ nd2 pp2 kl2 (cnt + 1) h1 ch2 hl2 (by omega) d2 (fun y hy w => by
        rcases w with w | w
        · exact d1 (by rw [← w]; exact hy)
        · exact hs y (List.mem_cons_of_mem _ hy) w) m2 R1
      refine ⟨nd3, pp3, kl3, h3, ?_, ?_, R3⟩
      · rw [oN R hxH, Option.bind_some, w1, Option.bind_some]
        dsimp only
        rw [gN_bef R1 (a := x) hx, bef2, Option.bind_some, f3]
        have e : cnt + 1 + nI (qCtW G c l) = cnt + nI (qCtW G c (x :: l)) := by
          rw [nI_len]
          unfold qCtW
          rw [List.countP_cons_of_pos (p := fun x => qIn (some c) (G.up x)) q]
        rw [e]
      · have e : (fun y => (y = x ∨ S y) ∨ (y ∈ l ∧ c ∈ G.up y)) = (fun y => S y ∨ (y ∈ x :: l ∧ c ∈ G.up y)) := by
          funext y
          refine propext ⟨fun z => ?_, fun z => ?_⟩
          · rcases z with (z | z) | z
            · right
              rw [z]
              exact ⟨List.mem_cons_self, (qIn_mem c _).mp q⟩
            · exact Or.inl z
            · exact Or.inr ⟨List.mem_cons_of_mem _ z.1, z.2⟩
          · rcases z with z | ⟨z, w⟩
            · exact Or.inl (Or.inr z)
            · rcases List.mem_cons.mp z with z | z
              · exact Or.inl (Or.inl z)
              · exact Or.inr ⟨z, w⟩
        rw [← e]; exact m3
    · simp +decide only [q, if_true, if_false]
      obtain ⟨nd3, pp3, kl3, h3, f3, m3, R3⟩ := x_rmL I c l _ n S nd pp kl cnt h ch2 hl2 (by omega) d2 (fun y hy => hs y (List.mem_cons_of_mem _ hy)) m R
      refine ⟨nd3, pp3, kl3, h3, ?_, ?_, R3⟩
      · rw [gN_bef R hxH, bef, Option.bind_some, f3]
        have e : qCtW G c (x :: l) = qCtW G c l := by
          unfold qCtW
          rw [List.countP_cons_of_neg (p := fun x => qIn (some c) (G.up x)) q]
        rw [e]
      · have e : (fun y => S y ∨ (y ∈ l ∧ c ∈ G.up y)) = (fun y => S y ∨ (y ∈ x :: l ∧ c ∈ G.up y)) := by
          funext y
          refine propext ⟨fun z => z.imp id (fun w => ⟨List.mem_cons_of_mem _ w.1, w.2⟩), fun z => z.imp id (fun w => ⟨?_, w.2⟩)⟩
          rcases List.mem_cons.mp w.1 with v | v
          · rw [v] at w
            exact absurd ((qIn_mem c _).mpr w.2) q
          · exact v
        rw [← e]; exact m3
/-- what is left of a state when a part goes -/
def qRm (G : qS) (H : qS) (c : Nat) : Prop :=
  (qI H) ∧
  (H.N = G.N ∧ H.P = G.P ∧ H.no = G.no ∧ H.added = G.added ∧ H.tracked = G.tracked ∧ H.tr = G.tr ∧ H.pr = G.pr ∧ H.wh = G.wh ∧ H.time = G.time ∧ H.z = G.z) ∧
  (∀ b, H.Lv b ↔ (G.Lv b ∧ ¬ c ∈ G.up b)) ∧
  (∀ b, (H.nd b).number = (G.nd b).number ∧ (H.nd b).par = (G.nd b).par ∧ (H.nd b).over = (G.nd b).over ∧ (H.nd b).under = (G.nd b).under ∧ (H.nd b).layer = (G.nd b).layer ∧ (H.nd b).cut = (G.nd b).cut) ∧
  (∀ b j, G.N b → j < 4 → (H.pp (G.pr b j)).own = (G.pp (G.pr b j)).own ∧ (H.pp (G.pr b j)).trk = (G.pp (G.pr b j)).trk) ∧
  (∀ b j, H.Lv b → j < 4 → qTm H (G.pr b j) = qTm G (G.pr b j))
theorem qRm.I {G : qS}{H : qS}{c : Nat} (hq0 : qRm G H c) : qI H := hq0.1
theorem qRm.st {G : qS}{H : qS}{c : Nat} (hq0 : qRm G H c) : H.N = G.N ∧ H.P = G.P ∧ H.no = G.no ∧ H.added = G.added ∧ H.tracked = G.tracked ∧ H.tr = G.tr ∧ H.pr = G.pr ∧ H.wh = G.wh ∧ H.time = G.time ∧ H.z = G.z := hq0.2.1
theorem qRm.lv {G : qS}{H : qS}{c : Nat} (hq0 : qRm G H c) : ∀ b, H.Lv b ↔ (G.Lv b ∧ ¬ c ∈ G.up b) := hq0.2.2.1
theorem qRm.nd {G : qS}{H : qS}{c : Nat} (hq0 : qRm G H c) : ∀ b, (H.nd b).number = (G.nd b).number ∧ (H.nd b).par = (G.nd b).par ∧ (H.nd b).over = (G.nd b).over ∧ (H.nd b).under = (G.nd b).under ∧ (H.nd b).layer = (G.nd b).layer ∧ (H.nd b).cut = (G.nd b).cut := hq0.2.2.2.1
theorem qRm.pp {G : qS}{H : qS}{c : Nat} (hq0 : qRm G H c) : ∀ b j, G.N b → j < 4 → (H.pp (G.pr b j)).own = (G.pp (G.pr b j)).own ∧ (H.pp (G.pr b j)).trk = (G.pp (G.pr b j)).trk := hq0.2.2.2.2.1
theorem qRm.tm {G : qS}{H : qS}{c : Nat} (hq0 : qRm G H c) : ∀ b j, H.Lv b → j < 4 → qTm H (G.pr b j) = qTm G (G.pr b j) := hq0.2.2.2.2.2
theorem rem_J (I : qI G) (lc : G.Lv c) (hw : c ≠ G.wh) {p : Nat} {l1 l2 : List Nat} (ep : (G.nd c).par = some p) (ek : G.kd p = l1 ++ c :: l2) {nd : Nat → qN} {pp : Nat → qP} {kl : Nat → List Nat} (m : qVm G (fun x => x ∈ G.od ∧ c ∈ G.up x) nd pp kl) : qJ (qLeave (qSt G nd pp kl) c p l1 l2) ∧ ∀ b, (qLeave (qSt G nd pp kl) c p l1 l2).Lv b ↔ (G.Lv b ∧ ¬ c ∈ G.up b) := by
  have sod : ∀ b, (b ∈ G.od ∧ c ∈ G.up b) ↔ (G.Lv b ∧ c ∈ G.up b) := fun b => by rw [od_mem I b]
  have nf : ∀ {α : Type} (f : qN → α), (∀ q v, f (qN.s_gone q v) = f q) → (fun b => f (nd b)) = fun b => f (G.nd b) := fun f hf => funext fun b => m.f f hf b
  -- the tree, as it was
  have B : qIB G.N G.goneF (qSt G nd pp kl).parF (qSt G nd pp kl).fstF (qSt G nd pp kl).nxtF (qLyF (qSt G nd pp kl)) (qSt G nd pp kl).kd (qSt G nd pp kl).wh := by
    show qIB G.N G.goneF (fun b => qN.par (nd b)) (fun b => qN.fst (nd b)) (fun b => qN.nxt (nd b)) (fun b => qN.layer (nd b)) G.kd G.wh
    rw [nf qN.par (fun _ _ => rfl), nf qN.fst (fun _ _ => rfl), nf qN.nxt (fun _ _ => rfl), nf qN.layer (fun _ _ => rfl)]
    exact I.B
  have T := leave_B (G := qSt G nd pp kl) B lc ((m.f qN.par (fun _ _ => rfl) c).trans ep) (l1 := l1) (l2 := l2) ek
  have parE : (qLeave (qSt G nd pp kl) c p l1 l2).parF = G.parF := by
    funext x
    exact (leave_f qN.par (fun _ _ => rfl) (fun _ _ => rfl) x).trans (m.f qN.par (fun _ _ => rfl) x)
  have gone : ∀ x, ((qLeave (qSt G nd pp kl) c p l1 l2).nd x).gone = (nd x).gone := fun x => leave_f qN.gone (fun _ _ => rfl) (fun _ _ => rfl) x
  have LN : (qLeave (qSt G nd pp kl) c p l1 l2).N = G.N := leave_st qS.N (fun _ _ _ => rfl) (fun _ _ => rfl)
  have Lw : (qLeave (qSt G nd pp kl) c p l1 l2).wh = G.wh := leave_st qS.wh (fun _ _ _ => rfl) (fun _ _ => rfl)
  have Lpr : (qLeave (qSt G nd pp kl) c p l1 l2).pr = G.pr := leave_st qS.pr (fun _ _ _ => rfl) (fun _ _ => rfl)
  have Lpp : (qLeave (qSt G nd pp kl) c p l1 l2).pp = pp := leave_st qS.pp (fun _ _ _ => rfl) (fun _ _ => rfl)
  have LP : (qLeave (qSt G nd pp kl) c p l1 l2).P = G.P := leave_st qS.P (fun _ _ _ => rfl) (fun _ _ => rfl)
  have Lkl : (qLeave (qSt G nd pp kl) c p l1 l2).kl = kl := leave_st qS.kl (fun _ _ _ => rfl) (fun _ _ => rfl)
  have lv : ∀ b, qLvf G.N (fun x => ((qLeave (qSt G nd pp kl) c p l1 l2).nd x).gone) b ↔ (qLvf G.N G.goneF b ∧ ¬ c ∈ G.up b) := by
    intro b
    show G.N b ∧ ((qLeave (qSt G nd pp kl) c p l1 l2).nd b).gone = 0 ↔ _
    rw [gone]
    constructor
    · rintro ⟨hb, g⟩
      by_cases s : b ∈ G.od ∧ c ∈ G.up b
      · rw [(m.n1 b).1 s] at g
        exact absurd g (show ¬ (1 : Int32) = 0 by decide)
      · rw [(m.n1 b).2 s] at g
        exact ⟨⟨hb, g⟩, fun z => s ((sod b).mpr ⟨⟨hb, g⟩, z⟩)⟩
    · rintro ⟨hb, g⟩
      refine ⟨hb.1, ?_⟩
      rw [(m.n1 b).2 (fun z => g z.2)]
      exact hb.2
  have lvW : ∀ b, qLvf G.N (fun x => ((qLeave (qSt G nd pp kl) c p l1 l2).nd x).gone) b ↔ (qLvf G.N G.goneF b ∧ ∀ n, ¬ qWi G.parF n c b) := by
    intro b
    rw [lv b]
    refine and_congr_right (fun lb => ?_)
    rw [← qIn_mem, I.inW lb]
    exact ⟨fun z n w => z ⟨n, w⟩, fun z ⟨n, w⟩ => z n w⟩
  have cwh : ∀ n, ¬ qWi G.parF n c G.wh := by
    intro n w
    have := (I.inW I.B.wl).mpr ⟨n, w⟩
    rw [qIn_mem, I.up_wh, List.mem_singleton] at this
    exact hw this
  rw [parE] at T
  have TB := rem_B T I.B.dp lvW cwh
  obtain ⟨b1, b2, b3, b4, b5⟩ := TB
  have f_ : ∀ {α : Type} (f : qN → α), (∀ q v, f (qN.s_gone q v) = f q) → (∀ q v, f (qN.s_fst q v) = f q) → (∀ q v, f (qN.s_nxt q v) = f q) → (fun x => f ((qLeave (qSt G nd pp kl) c p l1 l2).nd x)) = fun x => f (G.nd x) := fun f h1 h2 h3 => funext fun x => (leave_f f h2 h3 x).trans (m.f f h1 x)
  have own : ∀ q, G.P q → ∃ b j, G.N b ∧ j < 4 ∧ q = G.pr b j := I.Y.ex
  refine ⟨⟨?_, ?_, ?_, ?_, ?_, ?_, ?_, ?_, ?_, ?_⟩, fun b => ?_⟩
  · rw [leave_st qS.added (fun _ _ _ => rfl) (fun _ _ => rfl), leave_st qS.no (fun _ _ _ => rfl) (fun _ _ => rfl), LN, Lw, show (qLeave (qSt G nd pp kl) c p l1 l2).numF = G.numF from f_ qN.number (fun _ _ => rfl) (fun _ _ => rfl) (fun _ _ => rfl)]; exact I.A
  · rw [LN, Lw, parE]
    exact ⟨b1, b2, b3, b4, b5⟩
  · rw [LN, Lpr, LP, show (qLeave (qSt G nd pp kl) c p l1 l2).xF = G.xF from f_ qN.x (fun _ _ => rfl) (fun _ _ => rfl) (fun _ _ => rfl), show (qLeave (qSt G nd pp kl) c p l1 l2).yF = G.yF from f_ qN.y (fun _ _ => rfl) (fun _ _ => rfl) (fun _ _ => rfl), show (qLeave (qSt G nd pp kl) c p l1 l2).tuF = G.tuF from f_ qN.turns (fun _ _ => rfl) (fun _ _ => rfl) (fun _ _ => rfl), show (qLeave (qSt G nd pp kl) c p l1 l2).opF = G.opF from f_ qN.opac (fun _ _ => rfl) (fun _ _ => rfl) (fun _ _ => rfl)]; exact I.Y
  · rw [LN, Lpr, Lpp]
    intro b j hb hj
    have d := I.D b j hb hj
    by_cases s : b ∈ G.od ∧ c ∈ G.up b
    · rw [((m.p1 b j hb hj).1 s).1]; exact d
    · rw [((m.p1 b j hb hj).2 s).1]; exact d
  · rw [LP, Lpp, Lkl, leave_st qS.K (fun _ _ _ => rfl) (fun _ _ => rfl), leave_st qS.ky (fun _ _ _ => rfl) (fun _ _ => rfl)]
    refine ⟨fun q hq => ?_, fun q r hq hr n x hx hy => ?_, I.K.kt⟩
    · obtain ⟨b, j, hb, hj, rfl⟩ := own q hq
      by_cases s : b ∈ G.od ∧ c ∈ G.up b
      · obtain ⟨z1, z2⟩ := (m.p1 b j hb hj).1 s
        rw [z1, z2]
        exact qKk0 rfl rfl
      · obtain ⟨z1, z2⟩ := (m.p1 b j hb hj).2 s
        rw [z1, z2]
        exact I.K.on _ hq
    · have sub : ∀ q, G.P q → ∀ x, x ∈ kl q → x ∈ G.kl q := by
        intro q hq x hx
        obtain ⟨b, j, hb, hj, rfl⟩ := own q hq
        by_cases s : b ∈ G.od ∧ c ∈ G.up b
        · rw [((m.p1 b j hb hj).1 s).2] at hx
          cases hx
        · rw [((m.p1 b j hb hj).2 s).2] at hx
          exact hx
      exact I.K.ds q r hq hr n x (sub q hq x hx) (sub r hr x hy)
  · rw [LN, Lpr, Lpp]
    intro b j lb hj
    obtain ⟨l1, l2⟩ := (lv b).mp lb
    rw [((m.p1 b j l1.1 hj).2 (fun z => l2 z.2)).1]
    exact I.O b j l1 hj
  · rw [LN, leave_st qS.fr (fun _ _ _ => rfl) (fun _ _ => rfl), leave_st qS.M (fun _ _ _ => rfl) (fun _ _ => rfl), leave_st qS.fm (fun _ _ _ => rfl) (fun _ _ => rfl), show (qLeave (qSt G nd pp kl) c p l1 l2).ovF = G.ovF from f_ qN.over (fun _ _ => rfl) (fun _ _ => rfl) (fun _ _ => rfl), show (qLeave (qSt G nd pp kl) c p l1 l2).unF = G.unF from f_ qN.under (fun _ _ => rfl) (fun _ _ => rfl) (fun _ _ => rfl), show (qLeave (qSt G nd pp kl) c p l1 l2).frF = G.frF from f_ qN.frame (fun _ _ => rfl) (fun _ _ => rfl) (fun _ _ => rfl), show (qLeave (qSt G nd pp kl) c p l1 l2).cuF = G.cuF from f_ qN.cut (fun _ _ => rfl) (fun _ _ => rfl) (fun _ _ => rfl)]; exact I.E
  · rw [leave_st qS.tracked (fun _ _ _ => rfl) (fun _ _ => rfl), leave_st qS.tr (fun _ _ _ => rfl) (fun _ _ => rfl), LP, Lpp]
    refine ⟨I.T.tk, I.T.tr, fun q hq ht => ?_⟩
    obtain ⟨b, j, hb, hj, rfl⟩ := own q hq
    refine I.T.un _ hq (fun z => ht ?_)
    by_cases s : b ∈ G.od ∧ c ∈ G.up b
    · rw [((m.p1 b j hb hj).1 s).1]; exact z
    · rw [((m.p1 b j hb hj).2 s).1]; exact z
  · rw [Lw, Lpr, Lpp, show (qLeave (qSt G nd pp kl) c p l1 l2).ovF = G.ovF from f_ qN.over (fun _ _ => rfl) (fun _ _ => rfl) (fun _ _ => rfl), show (qLeave (qSt G nd pp kl) c p l1 l2).unF = G.unF from f_ qN.under (fun _ _ => rfl) (fun _ _ => rfl) (fun _ _ => rfl), show (qLeave (qSt G nd pp kl) c p l1 l2).miF = G.miF from f_ qN.mir (fun _ _ => rfl) (fun _ _ => rfl) (fun _ _ => rfl), show (qLeave (qSt G nd pp kl) c p l1 l2).cuF = G.cuF from f_ qN.cut (fun _ _ => rfl) (fun _ _ => rfl) (fun _ _ => rfl)]
    have ws : ¬ (G.wh ∈ G.od ∧ c ∈ G.up G.wh) := by
      rintro ⟨-, z⟩
      rw [I.up_wh, List.mem_singleton] at z
      exact hw z
    have we : ∀ j, j < 4 → pp (G.pr G.wh j) = G.pp (G.pr G.wh j) := fun j hj => ((m.p1 G.wh j I.B.wl.1 hj).2 ws).1
    refine ⟨I.W.ov, I.W.un, I.W.mi, I.W.ct, ?_, fun j hj => by rw [we j hj]; exact I.W.tr j hj⟩
    rw [we 0 (by decide), we 1 (by decide), we 2 (by decide)]
    exact I.W.ow
  · show qFd (qLeave (qSt G nd pp kl) c p l1 l2)
    unfold qFd
    rw [leave_st qS.f0 (fun _ _ _ => rfl) (fun _ _ => rfl), leave_st qS.f1 (fun _ _ _ => rfl) (fun _ _ => rfl), leave_st qS.f2 (fun _ _ _ => rfl) (fun _ _ => rfl), leave_st qS.f3 (fun _ _ _ => rfl) (fun _ _ => rfl)]; exact I.fd
  · show (qLeave (qSt G nd pp kl) c p l1 l2).N b ∧ _ ↔ _
    rw [LN]
    exact lv b
theorem m_remove (R : qR G F X k h) (I : qI G) {i : Int32} (q : qIs G i c) (hw : c ≠ G.wh) : ∃ H h2, f_X7_remove G.z i h = some (.inl (nI (qCtW G c G.od)), h2) ∧ qR H F X k h2 ∧ qRm G H c := by
  have lc := q.2.2.2
  obtain ⟨ch, hl, hv⟩ := I.V.od
  obtain ⟨p, l1, l2, ep, lp, pc, ek⟩ := I.at_ lc hw
  have odn : G.od.Nodup := by
    rw [I.C.od]
    exact List.pairwise_reverse.mpr (I.odm.1.imp (fun h => h.symm))
  have m0 : qVm G (fun _ => False) G.nd G.pp G.kl := ⟨fun b => ⟨fun z => z.elim, fun _ => rfl⟩, fun b j _ _ => ⟨fun z => z.elim, fun _ => ⟨rfl, rfl⟩⟩⟩
  have R0 : qR (qSt G G.nd G.pp G.kl) F X k h := R
  obtain ⟨nd, pp, kl, h1, f1, m, R1⟩ := x_rmL I c G.od _ 4096 _ G.nd G.pp G.kl 0 h ch hv (by omega) odn (fun _ _ z => z) m0 R0
  have eS : (fun x => False ∨ (x ∈ G.od ∧ c ∈ G.up x)) = (fun x => x ∈ G.od ∧ c ∈ G.up x) := funext fun x => propext ⟨fun z => z.resolve_left id, Or.inr⟩
  rw [eS] at m
  obtain ⟨J, lv⟩ := rem_J I lc hw ep ek m
  have pr2 : ∀ {α : Type} (f : qN → α), (∀ q v, f (qN.s_gone q v) = f q) → ∀ b, f ((qSt G nd pp kl).nd b) = f (G.nd b) := fun f hf b => m.f f hf b
  have kc := I.kc.2 p lp
  have kcH : Ch (qSt G nd pp kl).nxtF (qSt G nd pp kl).N ((qSt G nd pp kl).kd p) ((qSt G nd pp kl).nd p).fst := by
    rw [pr2 qN.fst (fun _ _ => rfl) p]
    exact kc.1.cg (fun b hb => ⟨pr2 qN.nxt (fun _ _ => rfl) b, (kc.1.D b hb).1⟩)
  obtain ⟨h2, w2, R2⟩ := x_leaveP R1 (a := c) (p := p) (l1 := l1) (l2 := l2) lc.1 lp.1 ((pr2 qN.par (fun _ _ => rfl) c).trans ep) pc ek kcH kc.2 (I.B.tk.1 p lp).1
  obtain ⟨h3, w3, R3⟩ := x_lo R2 J.kc
  have Lz : (qLeave (qSt G nd pp kl) c p l1 l2).z = G.z := leave_st qS.z (fun _ _ _ => rfl) (fun _ _ => rfl)
  have o1 := oN R1 (a := c) lc.1
  have o2 := oS R2
  rw [Lz] at o2 w3
  have LN : (qLeave (qSt G nd pp kl) c p l1 l2).N = G.N := leave_st qS.N (fun _ _ _ => rfl) (fun _ _ => rfl)
  have f_ : ∀ {α : Type} (f : qN → α), (∀ q v, f (qN.s_gone q v) = f q) → (∀ q v, f (qN.s_fst q v) = f q) → (∀ q v, f (qN.s_nxt q v) = f q) → ∀ x, f ((qLeave (qSt G nd pp kl) c p l1 l2).nd x) = f (G.nd x) := fun f h1 h2 h3 x => (leave_f f h2 h3 x).trans (m.f f h1 x)
  have Lpp : (qLeave (qSt G nd pp kl) c p l1 l2).pp = pp := leave_st qS.pp (fun _ _ _ => rfl) (fun _ _ => rfl)
  have Lkl : (qLeave (qSt G nd pp kl) c p l1 l2).kl = kl := leave_st qS.kl (fun _ _ _ => rfl) (fun _ _ => rfl)
  have Lky : (qLeave (qSt G nd pp kl) c p l1 l2).ky = G.ky := leave_st qS.ky (fun _ _ _ => rfl) (fun _ _ => rfl)
  have lv2 : ∀ b, (qLO (qLeave (qSt G nd pp kl) c p l1 l2)).Lv b ↔ (G.Lv b ∧ ¬ c ∈ G.up b) := fun b => by
    rw [← lv b]
    show (qLO (qLeave (qSt G nd pp kl) c p l1 l2)).N b ∧ ((qLO (qLeave (qSt G nd pp kl) c p l1 l2)).nd b).gone = 0 ↔ _
    rw [lo_N, lon_gone]
    exact Iff.rfl
  refine ⟨qLO (qLeave (qSt G nd pp kl) c p l1 l2), h3, ?_, R3, J.lo, ⟨?_, ?_, ?_, ?_, ?_, ?_, ?_, ?_, ?_, ?_⟩, lv2, fun b => ⟨?_, ?_, ?_, ?_, ?_, ?_⟩, fun b j hb hj => ?_, fun b j lb hj => ?_⟩
  · unfold f_X7_remove f_X7_remove_L0
    rw [oS R, Option.bind_some, x_fbw R q hw, Option.bind_some]
    dsimp only [Sum.elim_inl]
    rw [gS_last R, Option.bind_some, f1, sN_X7_remove_L14, o1, Option.bind_some, w2, Option.bind_some]
    dsimp only
    rw [o2, Option.bind_some, w3, Option.bind_some]
    dsimp only
    rw [Int32.zero_add]
  · rw [lo_N, LN]
  · rw [lo_P]; exact leave_st qS.P (fun _ _ _ => rfl) (fun _ _ => rfl)
  · rw [lo_no]; exact leave_st qS.no (fun _ _ _ => rfl) (fun _ _ => rfl)
  · rw [lo_added]; exact leave_st qS.added (fun _ _ _ => rfl) (fun _ _ => rfl)
  · rw [lo_tracked]; exact leave_st qS.tracked (fun _ _ _ => rfl) (fun _ _ => rfl)
  · rw [lo_tr]; exact leave_st qS.tr (fun _ _ _ => rfl) (fun _ _ => rfl)
  · rw [lo_pr]; exact leave_st qS.pr (fun _ _ _ => rfl) (fun _ _ => rfl)
  · rw [lo_wh]; exact leave_st qS.wh (fun _ _ _ => rfl) (fun _ _ => rfl)
  · rw [lo_time]; exact leave_st qS.time (fun _ _ _ => rfl) (fun _ _ => rfl)
  · rw [lo_z]; exact leave_st qS.z (fun _ _ _ => rfl) (fun _ _ => rfl)
  · rw [lon_number]; exact f_ qN.number (fun _ _ => rfl) (fun _ _ => rfl) (fun _ _ => rfl) b
  · rw [lon_par]; exact f_ qN.par (fun _ _ => rfl) (fun _ _ => rfl) (fun _ _ => rfl) b
  · rw [lon_over]; exact f_ qN.over (fun _ _ => rfl) (fun _ _ => rfl) (fun _ _ => rfl) b
  · rw [lon_under]; exact f_ qN.under (fun _ _ => rfl) (fun _ _ => rfl) (fun _ _ => rfl) b
  · rw [lon_layer]; exact f_ qN.layer (fun _ _ => rfl) (fun _ _ => rfl) (fun _ _ => rfl) b
  · rw [lon_cut]; exact f_ qN.cut (fun _ _ => rfl) (fun _ _ => rfl) (fun _ _ => rfl) b
  · rw [lo_pp, Lpp]
    by_cases s : b ∈ G.od ∧ c ∈ G.up b
    · rw [((m.p1 b j hb hj).1 s).1]; exact ⟨rfl, rfl⟩
    · rw [((m.p1 b j hb hj).2 s).1]; exact ⟨rfl, rfl⟩
  · obtain ⟨g1, g2⟩ := (lv2 b).mp lb
    unfold qTm
    rw [lo_kl, Lkl, lo_ky, Lky, ((m.p1 b j g1.1 hj).2 (fun z => g2 z.2)).2]
end REMOVE
