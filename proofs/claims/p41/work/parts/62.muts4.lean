/-! add, look, hang and remove: what they answer and leave. -/
section MUT4
variable {G : qS} {F : Nat → Option fCe} {X : Nat × Nat × (Nat → Int32)} {k : Nat} {h : fSt} {a : Nat}
/-- the kids are chains of nodes that live -/
def qKc (G : qS) : Prop := G.Lv G.wh ∧ ∀ a, G.Lv a → Ch G.nxtF G.Lv (G.kd a) (G.nd a).fst ∧ (G.kd a).length ≤ 100
theorem x_lo (R : qR G F X k h) (K : qKc G) : ∃ h2, f_X7_layOrder G.z h = some ((), h2) ∧ qR (qLO G) F X k h2 := x_layOrder R (fun _ z => z.1) K.2 K.1
theorem Ch.mono {nx : Nat → Option Nat} {D D2 : Nat → Prop} (m : ∀ b, D b → D2 b) : ∀ {l : List Nat} {o : Option Nat}, Ch nx D l o → Ch nx D2 l o
  | [], _, c => c
  | _ :: _, _, c => ⟨c.1, m _ c.2.1, Ch.mono m c.2.2⟩
def qLook (G : qS) (a : Nat) (y o hd : Int32) : qS := qLO ((qOwn (G.setN a ((G.nd a).s_layer (y))) (G.pr a 3) o).setN a (((G.nd a).s_layer (y)).s_hid (hd)))
theorem m_look (R : qR G F X k h) (V : qV G) {i y o hd : Int32} (q : qIs G i a) (hw : a ≠ G.wh) (hy : -9 ≤ y.toInt ∧ y.toInt ≤ 9) (ho : (G.pp (G.pr a 3)).least.toInt ≤ o.toInt ∧ o.toInt ≤ (G.pp (G.pr a 3)).most.toInt) (hh : hd = 0 ∨ hd = 1) (K : qKc ((qOwn (G.setN a ((G.nd a).s_layer (y))) (G.pr a 3) o).setN a (((G.nd a).s_layer (y)).s_hid (hd)))) : ∃ h2, f_X7_look G.z i y o hd h = some (.inl (G.pp (G.pr a 3)).own, h2) ∧ qR (qLook G a y o hd) F X k h2 := by
  have ha := q.2.2.2.1
  obtain ⟨e0, e1, e2, e3⟩ := V.px a ha
  have p3 := V.pP a 3 ha (by decide)
  obtain ⟨h1, w1, R1⟩ := wN_layer R ha rfl y
  obtain ⟨h2, w2, R2⟩ := wP_own R1 (a := G.pr a 3) p3 (d := G.pp (G.pr a 3)) rfl o
  obtain ⟨h3, w3, R3⟩ := wN_hid R2 (a := a) ha (d := (G.nd a).s_layer y) at_setN hh
  obtain ⟨h4, w4, R4⟩ := x_lo R3 K
  refine ⟨h4, ?_, R4⟩
  unfold f_X7_look f_X7_look_L0
  rw [oS R, Option.bind_some, x_fbw R q hw, Option.bind_some]
  dsimp only [Sum.elim_inl]
  rw [x_from1 (l := -9) (u := 9) hy, Option.bind_some, if_neg (show ¬ (1 : Int32) = 0 by decide)]
  dsimp only
  rw [gN_opac R ha, e3, Option.bind_some, oP R p3, Option.bind_some, x_allows R p3 ho, Option.bind_some, if_neg (show ¬ (1 : Int32) = 0 by decide)]
  dsimp only
  rw [gN_opac R ha, e3, Option.bind_some, gP_own R p3, Option.bind_some, w1, Option.bind_some, gN_opac R1 (a := a) ha, at_setN]
  rw [show ((G.nd a).s_layer y).opac = some (G.pr a 3) from e3, Option.bind_some, w2, Option.bind_some, w3, Option.bind_some]
  rw [show fobj h3 (some G.z) 7 = some G.z from (by have g := oS R3; exact g), Option.bind_some, show f_X7_layOrder G.z h3 = some ((), h4) from w4, Option.bind_some]
/-- the state with a node more, before the order is laid -/
def qAdd1 (G : qS) (m p0 p1 p2 p3 f : Nat) (kind w hh : Int32) : qS :=
  ((((qNew G m p0 p1 p2 p3 f G.added kind w hh)).s_no (va_up G.no G.added.toNatClampNeg (some m))).s_added (G.added + 1))
def qGh (G : qS) (m p0 p1 p2 p3 f : Nat) : qS := (((((G).s_pr (fun b j => if b = m then (if j = 0 then p0 else if j = 1 then p1 else if j = 2 then p2 else p3) else G.pr b j)).s_fr (qu G.fr m f)).s_kd (qu G.kd m [])).s_kl (qu (qu (qu (qu G.kl p0 []) p1 []) p2 []) p3 []))
/-- hang -/
def qMxD (G : qS) (w : Nat) : Int32 → List Nat → Int32
  | d, [] => d
  | d, a :: l => if qIn (some w) (G.up a) then qMxD G w (if d < nI ((G.up a).length - 1) then nI ((G.up a).length - 1) else d) l else qMxD G w d l
theorem x_dep (R : qR G F X k h) (V : qV G) (ha : G.Lv a) : f_X4_depth a h = some (nI ((G.up a).length - 1), h) := by
  obtain ⟨c, hl⟩ := V.up a ha
  obtain ⟨l, e⟩ := G.up_hd a
  rw [e] at c hl ⊢
  have hl2 : l.length + 1 ≤ 5 := hl
  exact x_depth R c (by omega)
theorem x_duL (R : qR G F X k h) (V : qV G) {w : Nat} (hw : G.Lv w) : ∀ (l : List Nat) (o : Option Nat) (n : Nat) (d : Int32), Ch G.befF G.N l o → (∀ a, a ∈ l → G.Lv a) → l.length < n → f_X7_depthUnder_L10 n (some w) d o h = some (qMxD G w d l - nI ((G.up w).length - 1), h)
  | [], o, n + 1, d, c, _, _ => by
    obtain rfl : o = none := c
    rw [sN_X7_depthUnder_L10, oN R hw.1, Option.bind_some, x_dep R V hw, Option.bind_some]
    rfl
  | a :: l, o, n + 1, d, c, hl, hn => by
    obtain ⟨rfl, ha, c2⟩ := c
    have hn2 : l.length + 1 < n + 1 := hn
    have la := hl a List.mem_cons_self
    obtain ⟨cu, lu⟩ := V.up a la
    have hl2 : ∀ b, b ∈ l → G.Lv b := fun b hb => hl b (List.mem_cons_of_mem _ hb)
    rw [sS_X7_depthUnder_L10, oN R ha, Option.bind_some, x_within R (some w) cu (by omega), Option.bind_some]
    unfold f_X7_depthUnder_L31 qMxD
    dsimp only
    by_cases q : qIn (some w) (G.up a) = true
    · simp +decide only [q, if_true, if_false]
      rw [oN R ha, Option.bind_some, x_dep R V la, Option.bind_some]
      dsimp only
      rw [gN_bef R ha, Option.bind_some]
      exact x_duL R V hw l _ n _ c2 hl2 (by omega)
    · simp +decide only [q, if_true, if_false]
      rw [gN_bef R ha, Option.bind_some]
      exact x_duL R V hw l _ n _ c2 hl2 (by omega)
theorem x_du (R : qR G F X k h) (V : qV G) {w : Nat} (hw : G.Lv w) : f_X7_depthUnder G.z (some w) h = some (qMxD G w (nI ((G.up w).length - 1)) G.od - nI ((G.up w).length - 1), h) := by
  obtain ⟨c, hl, hv⟩ := V.od
  unfold f_X7_depthUnder f_X7_depthUnder_L0
  rw [oN R hw.1, Option.bind_some, x_dep R V hw, Option.bind_some]
  dsimp only
  rw [gS_last R, Option.bind_some]
  exact x_duL R V hw _ _ 4096 _ c hv (by omega)
theorem x_cntL (R : qR G F X k h) : ∀ (l : List Nat) (o : Option Nat) (n : Nat) (i : Int32), Ch G.nxtF G.N l o → l.length < n → f_X4_countHanging_L7 n i o h = some (i + nI l.length, h)
  | [], o, n + 1, i, c, _ => by
    obtain rfl : o = none := c
    rw [sN_X4_countHanging_L7]
    show some (i, h) = some (i + nI 0, h)
    rw [show nI 0 = 0 from rfl, Int32.add_zero]
  | a :: l, o, n + 1, i, c, hn => by
    obtain ⟨rfl, ha, c2⟩ := c
    have hn2 : l.length + 1 < n + 1 := hn
    rw [sS_X4_countHanging_L7, gN_nxt R ha, Option.bind_some, x_cntL R l _ n (i + 1) c2 (by omega), nI_len]
    rfl
theorem x_cntH (R : qR G F X k h) (ha : G.N a) (c : Ch G.nxtF G.N (G.kd a) (G.nd a).fst) (hl : (G.kd a).length ≤ 100) : f_X4_countHanging a h = some (nI (G.kd a).length, h) := by
  unfold f_X4_countHanging f_X4_countHanging_L0
  rw [gN_fst R ha, Option.bind_some, x_cntL R _ _ 4096 0 c (by omega), Int32.zero_add]
end MUT4
