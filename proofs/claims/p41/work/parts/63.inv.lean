/-! What holds of the class's state between calls, and what asking needs out of it. -/
section INV
variable {G : qS} {F : Nat → Option fCe} {X : Nat × Nat × (Nat → Int32)} {k : Nat} {h : fSt} {a : Nat}
abbrev qS.goneF (G : qS) : Nat → Int32 := fun b => (G.nd b).gone
abbrev qS.fstF (G : qS) : Nat → Option Nat := fun b => (G.nd b).fst
abbrev qS.numF (G : qS) : Nat → Int32 := fun b => (G.nd b).number
abbrev qS.plF (G : qS) : Nat → Int32 := fun b => (G.nd b).place
abbrev qS.xF (G : qS) : Nat → Option Nat := fun b => (G.nd b).x
abbrev qS.yF (G : qS) : Nat → Option Nat := fun b => (G.nd b).y
abbrev qS.tuF (G : qS) : Nat → Option Nat := fun b => (G.nd b).turns
abbrev qS.opF (G : qS) : Nat → Option Nat := fun b => (G.nd b).opac
abbrev qS.ovF (G : qS) : Nat → Int32 := fun b => (G.nd b).over
abbrev qS.unF (G : qS) : Nat → Int32 := fun b => (G.nd b).under
abbrev qS.miF (G : qS) : Nat → Int32 := fun b => (G.nd b).mir
abbrev qS.frF (G : qS) : Nat → Option Nat := fun b => (G.nd b).frame
abbrev qS.cuF (G : qS) : Nat → Option Nat := fun b => (G.nd b).cut
def qLvf (N : Nat → Prop) (gone : Nat → Int32) (a : Nat) : Prop := N a ∧ gone a = 0
/-- numbers -/
def qIA (added : Int32) (no : Nat → Option Nat) (N : Nat → Prop) (num : Nat → Int32) (wh : Nat) : Prop :=
  (1 ≤ added.toInt ∧ added.toInt ≤ 30) ∧
  (no 0 = some wh) ∧
  (∀ i : Nat, (i : Int) < added.toInt → ∃ a, no i = some a ∧ N a ∧ (num a).toInt = i) ∧
  (∀ a, N a → 0 ≤ (num a).toInt ∧ (num a).toInt < added.toInt ∧ no (num a).toInt.toNat = some a)
theorem qIA.ad {added : Int32}{no : Nat → Option Nat}{N : Nat → Prop}{num : Nat → Int32}{wh : Nat} (hq0 : qIA added no N num wh) : 1 ≤ added.toInt ∧ added.toInt ≤ 30 := hq0.1
theorem qIA.n0 {added : Int32}{no : Nat → Option Nat}{N : Nat → Prop}{num : Nat → Int32}{wh : Nat} (hq0 : qIA added no N num wh) : no 0 = some wh := hq0.2.1
theorem qIA.no {added : Int32}{no : Nat → Option Nat}{N : Nat → Prop}{num : Nat → Int32}{wh : Nat} (hq0 : qIA added no N num wh) : ∀ i : Nat, (i : Int) < added.toInt → ∃ a, no i = some a ∧ N a ∧ (num a).toInt = i := hq0.2.2.1
theorem qIA.nu {added : Int32}{no : Nat → Option Nat}{N : Nat → Prop}{num : Nat → Int32}{wh : Nat} (hq0 : qIA added no N num wh) : ∀ a, N a → 0 ≤ (num a).toInt ∧ (num a).toInt < added.toInt ∧ no (num a).toInt.toNat = some a := hq0.2.2.2
/-- the tree -/
def qIB (N : Nat → Prop) (gone : Nat → Int32) (par : Nat → Option Nat) (fst : Nat → Option Nat) (nxt : Nat → Option Nat) (ly : Nat → Int32) (kd : Nat → List Nat) (wh : Nat) : Prop :=
  (qLvf N gone wh) ∧
  (par wh = none) ∧
  (qTk par kd ly (qLvf N gone)) ∧
  (∀ a, qLvf N gone a → Ch nxt (qLvf N gone) (kd a) (fst a)) ∧
  (∀ a, qLvf N gone a → ∃ d, d ≤ 4 ∧ qDp par (qLvf N gone) wh d a)
theorem qIB.wl {N : Nat → Prop}{gone : Nat → Int32}{par : Nat → Option Nat}{fst : Nat → Option Nat}{nxt : Nat → Option Nat}{ly : Nat → Int32}{kd : Nat → List Nat}{wh : Nat} (hq0 : qIB N gone par fst nxt ly kd wh) : qLvf N gone wh := hq0.1
theorem qIB.wp {N : Nat → Prop}{gone : Nat → Int32}{par : Nat → Option Nat}{fst : Nat → Option Nat}{nxt : Nat → Option Nat}{ly : Nat → Int32}{kd : Nat → List Nat}{wh : Nat} (hq0 : qIB N gone par fst nxt ly kd wh) : par wh = none := hq0.2.1
theorem qIB.tk {N : Nat → Prop}{gone : Nat → Int32}{par : Nat → Option Nat}{fst : Nat → Option Nat}{nxt : Nat → Option Nat}{ly : Nat → Int32}{kd : Nat → List Nat}{wh : Nat} (hq0 : qIB N gone par fst nxt ly kd wh) : qTk par kd ly (qLvf N gone) := hq0.2.2.1
theorem qIB.ch {N : Nat → Prop}{gone : Nat → Int32}{par : Nat → Option Nat}{fst : Nat → Option Nat}{nxt : Nat → Option Nat}{ly : Nat → Int32}{kd : Nat → List Nat}{wh : Nat} (hq0 : qIB N gone par fst nxt ly kd wh) : ∀ a, qLvf N gone a → Ch nxt (qLvf N gone) (kd a) (fst a) := hq0.2.2.2.1
theorem qIB.dp {N : Nat → Prop}{gone : Nat → Int32}{par : Nat → Option Nat}{fst : Nat → Option Nat}{nxt : Nat → Option Nat}{ly : Nat → Int32}{kd : Nat → List Nat}{wh : Nat} (hq0 : qIB N gone par fst nxt ly kd wh) : ∀ a, qLvf N gone a → ∃ d, d ≤ 4 ∧ qDp par (qLvf N gone) wh d a := hq0.2.2.2.2
/-- the order -/
def qIC (bef : Nat → Option Nat) (pl : Nat → Int32) (N : Nat → Prop) (od : List Nat) (last : Option Nat) (ord : Int32) (V : List Nat) : Prop :=
  (od = V.reverse) ∧
  (Ch bef N od last) ∧
  (ord = nI V.length) ∧
  (∀ (j a : Nat), V[j]? = some a → pl a = nI j)
theorem qIC.od {bef : Nat → Option Nat}{pl : Nat → Int32}{N : Nat → Prop}{od : List Nat}{last : Option Nat}{ord : Int32}{V : List Nat} (hq0 : qIC bef pl N od last ord V) : od = V.reverse := hq0.1
theorem qIC.ch {bef : Nat → Option Nat}{pl : Nat → Int32}{N : Nat → Prop}{od : List Nat}{last : Option Nat}{ord : Int32}{V : List Nat} (hq0 : qIC bef pl N od last ord V) : Ch bef N od last := hq0.2.1
theorem qIC.or_ {bef : Nat → Option Nat}{pl : Nat → Int32}{N : Nat → Prop}{od : List Nat}{last : Option Nat}{ord : Int32}{V : List Nat} (hq0 : qIC bef pl N od last ord V) : ord = nI V.length := hq0.2.2.1
theorem qIC.pl {bef : Nat → Option Nat}{pl : Nat → Int32}{N : Nat → Prop}{od : List Nat}{last : Option Nat}{ord : Int32}{V : List Nat} (hq0 : qIC bef pl N od last ord V) : ∀ (j a : Nat), V[j]? = some a → pl a = nI j := hq0.2.2.2
/-- whose the properties are -/
def qIX (N : Nat → Prop) (x : Nat → Option Nat) (y : Nat → Option Nat) (tu : Nat → Option Nat) (op : Nat → Option Nat) (pr : Nat → Nat → Nat) (P : Nat → Prop) : Prop :=
  (∀ a, N a → x a = some (pr a 0) ∧ y a = some (pr a 1) ∧ tu a = some (pr a 2) ∧ op a = some (pr a 3)) ∧
  (∀ a j, N a → j < 4 → P (pr a j)) ∧
  (∀ a b i j, N a → N b → i < 4 → j < 4 → pr a i = pr b j → a = b ∧ i = j) ∧
  (∀ p, P p → ∃ a j, N a ∧ j < 4 ∧ p = pr a j)
theorem qIX.px {N : Nat → Prop}{x : Nat → Option Nat}{y : Nat → Option Nat}{tu : Nat → Option Nat}{op : Nat → Option Nat}{pr : Nat → Nat → Nat}{P : Nat → Prop} (hq0 : qIX N x y tu op pr P) : ∀ a, N a → x a = some (pr a 0) ∧ y a = some (pr a 1) ∧ tu a = some (pr a 2) ∧ op a = some (pr a 3) := hq0.1
theorem qIX.pP {N : Nat → Prop}{x : Nat → Option Nat}{y : Nat → Option Nat}{tu : Nat → Option Nat}{op : Nat → Option Nat}{pr : Nat → Nat → Nat}{P : Nat → Prop} (hq0 : qIX N x y tu op pr P) : ∀ a j, N a → j < 4 → P (pr a j) := hq0.2.1
theorem qIX.inj {N : Nat → Prop}{x : Nat → Option Nat}{y : Nat → Option Nat}{tu : Nat → Option Nat}{op : Nat → Option Nat}{pr : Nat → Nat → Nat}{P : Nat → Prop} (hq0 : qIX N x y tu op pr P) : ∀ a b i j, N a → N b → i < 4 → j < 4 → pr a i = pr b j → a = b ∧ i = j := hq0.2.2.1
theorem qIX.ex {N : Nat → Prop}{x : Nat → Option Nat}{y : Nat → Option Nat}{tu : Nat → Option Nat}{op : Nat → Option Nat}{pr : Nat → Nat → Nat}{P : Nat → Prop} (hq0 : qIX N x y tu op pr P) : ∀ p, P p → ∃ a j, N a ∧ j < 4 ∧ p = pr a j := hq0.2.2.2
def qRg (j : Nat) : Int × Int := if j < 2 then (-200, 200) else if j = 2 then (0, 3) else (0, 100)
/-- values and ranges -/
def qID (N : Nat → Prop) (pr : Nat → Nat → Nat) (pp : Nat → qP) : Prop := ∀ a j, N a → j < 4 → (pp (pr a j)).least.toInt = (qRg j).1 ∧ (pp (pr a j)).most.toInt = (qRg j).2 ∧ (qRg j).1 ≤ (pp (pr a j)).own.toInt ∧ (pp (pr a j)).own.toInt ≤ (qRg j).2
/-- the keys of one property -/
def qKk (K : Nat → Prop) (ky : Nat → qK) (w : qP) (l : List Nat) : Prop :=
  (Ch (fun a => (ky a).next) K l w.fk) ∧
  (l.length ≤ 8) ∧
  (w.cnt.toInt = l.length) ∧
  (List.Pairwise (fun a b => (ky a).time.toInt < (ky b).time.toInt) l) ∧
  (∀ a, a ∈ l → w.least.toInt ≤ (ky a).value.toInt ∧ (ky a).value.toInt ≤ w.most.toInt) ∧
  (w.trk = 0 → l = [])
theorem qKk.ch {K : Nat → Prop}{ky : Nat → qK}{w : qP}{l : List Nat} (hq0 : qKk K ky w l) : Ch (fun a => (ky a).next) K l w.fk := hq0.1
theorem qKk.le {K : Nat → Prop}{ky : Nat → qK}{w : qP}{l : List Nat} (hq0 : qKk K ky w l) : l.length ≤ 8 := hq0.2.1
theorem qKk.ct {K : Nat → Prop}{ky : Nat → qK}{w : qP}{l : List Nat} (hq0 : qKk K ky w l) : w.cnt.toInt = l.length := hq0.2.2.1
theorem qKk.so {K : Nat → Prop}{ky : Nat → qK}{w : qP}{l : List Nat} (hq0 : qKk K ky w l) : List.Pairwise (fun a b => (ky a).time.toInt < (ky b).time.toInt) l := hq0.2.2.2.1
theorem qKk.vl {K : Nat → Prop}{ky : Nat → qK}{w : qP}{l : List Nat} (hq0 : qKk K ky w l) : ∀ a, a ∈ l → w.least.toInt ≤ (ky a).value.toInt ∧ (ky a).value.toInt ≤ w.most.toInt := hq0.2.2.2.2.1
theorem qKk.un {K : Nat → Prop}{ky : Nat → qK}{w : qP}{l : List Nat} (hq0 : qKk K ky w l) : w.trk = 0 → l = [] := hq0.2.2.2.2.2
/-- the keys -/
def qIK (P : Nat → Prop) (pp : Nat → qP) (K : Nat → Prop) (ky : Nat → qK) (kl : Nat → List Nat) : Prop :=
  (∀ p, P p → qKk K ky (pp p) (kl p)) ∧
  (∀ p q, P p → P q → p ≠ q → ∀ m, m ∈ kl p → ¬ m ∈ kl q) ∧
  (∀ a, K a → 0 ≤ (ky a).time.toInt ∧ (ky a).time.toInt ≤ 999)
theorem qIK.on {P : Nat → Prop}{pp : Nat → qP}{K : Nat → Prop}{ky : Nat → qK}{kl : Nat → List Nat} (hq0 : qIK P pp K ky kl) : ∀ p, P p → qKk K ky (pp p) (kl p) := hq0.1
theorem qIK.ds {P : Nat → Prop}{pp : Nat → qP}{K : Nat → Prop}{ky : Nat → qK}{kl : Nat → List Nat} (hq0 : qIK P pp K ky kl) : ∀ p q, P p → P q → p ≠ q → ∀ m, m ∈ kl p → ¬ m ∈ kl q := hq0.2.1
theorem qIK.kt {P : Nat → Prop}{pp : Nat → qP}{K : Nat → Prop}{ky : Nat → qK}{kl : Nat → List Nat} (hq0 : qIK P pp K ky kl) : ∀ a, K a → 0 ≤ (ky a).time.toInt ∧ (ky a).time.toInt ≤ 999 := hq0.2.2
def qIO (N : Nat → Prop) (gone : Nat → Int32) (pr : Nat → Nat → Nat) (pp : Nat → qP) : Prop := ∀ a j, qLvf N gone a → j < 4 → (pp (pr a j)).done = 0
/-- looks -/
def qIE (N : Nat → Prop) (ov : Nat → Int32) (un : Nat → Int32) (frm : Nat → Option Nat) (cut : Nat → Option Nat) (fr : Nat → Nat) (M : Nat → Prop) (fm : Nat → qM) : Prop :=
  (∀ a, N a → (1 ≤ (ov a).toInt ∧ (ov a).toInt ≤ 4) ∧ 1 ≤ (un a).toInt ∧ (un a).toInt ≤ 4) ∧
  (∀ a, N a → frm a = some (fr a) ∧ M (fr a)) ∧
  (∀ a, N a → (fm (fr a)).left = 0 ∧ (fm (fr a)).top = 0 ∧ (0 ≤ (fm (fr a)).right.toInt ∧ (fm (fr a)).right.toInt ≤ 200) ∧ 0 ≤ (fm (fr a)).bot.toInt ∧ (fm (fr a)).bot.toInt ≤ 200) ∧
  (∀ a m, N a → cut a = some m → M m)
theorem qIE.ov {N : Nat → Prop}{ov : Nat → Int32}{un : Nat → Int32}{frm : Nat → Option Nat}{cut : Nat → Option Nat}{fr : Nat → Nat}{M : Nat → Prop}{fm : Nat → qM} (hq0 : qIE N ov un frm cut fr M fm) : ∀ a, N a → (1 ≤ (ov a).toInt ∧ (ov a).toInt ≤ 4) ∧ 1 ≤ (un a).toInt ∧ (un a).toInt ≤ 4 := hq0.1
theorem qIE.fr {N : Nat → Prop}{ov : Nat → Int32}{un : Nat → Int32}{frm : Nat → Option Nat}{cut : Nat → Option Nat}{fr : Nat → Nat}{M : Nat → Prop}{fm : Nat → qM} (hq0 : qIE N ov un frm cut fr M fm) : ∀ a, N a → frm a = some (fr a) ∧ M (fr a) := hq0.2.1
theorem qIE.fm {N : Nat → Prop}{ov : Nat → Int32}{un : Nat → Int32}{frm : Nat → Option Nat}{cut : Nat → Option Nat}{fr : Nat → Nat}{M : Nat → Prop}{fm : Nat → qM} (hq0 : qIE N ov un frm cut fr M fm) : ∀ a, N a → (fm (fr a)).left = 0 ∧ (fm (fr a)).top = 0 ∧ (0 ≤ (fm (fr a)).right.toInt ∧ (fm (fr a)).right.toInt ≤ 200) ∧ 0 ≤ (fm (fr a)).bot.toInt ∧ (fm (fr a)).bot.toInt ≤ 200 := hq0.2.2.1
theorem qIE.ct {N : Nat → Prop}{ov : Nat → Int32}{un : Nat → Int32}{frm : Nat → Option Nat}{cut : Nat → Option Nat}{fr : Nat → Nat}{M : Nat → Prop}{fm : Nat → qM} (hq0 : qIE N ov un frm cut fr M fm) : ∀ a m, N a → cut a = some m → M m := hq0.2.2.2
/-- tracks -/
def qIF (tracked : Int32) (tr : Nat → Option Nat) (P : Nat → Prop) (pp : Nat → qP) : Prop :=
  (0 ≤ tracked.toInt ∧ tracked.toInt ≤ 12) ∧
  (∀ i : Nat, (i : Int) < tracked.toInt → ∃ p, tr i = some p ∧ P p) ∧
  (∀ p, P p → (pp p).trk ≠ 0 → ∃ i : Nat, (i : Int) < tracked.toInt ∧ tr i = some p)
theorem qIF.tk {tracked : Int32}{tr : Nat → Option Nat}{P : Nat → Prop}{pp : Nat → qP} (hq0 : qIF tracked tr P pp) : 0 ≤ tracked.toInt ∧ tracked.toInt ≤ 12 := hq0.1
theorem qIF.tr {tracked : Int32}{tr : Nat → Option Nat}{P : Nat → Prop}{pp : Nat → qP} (hq0 : qIF tracked tr P pp) : ∀ i : Nat, (i : Int) < tracked.toInt → ∃ p, tr i = some p ∧ P p := hq0.2.1
theorem qIF.un {tracked : Int32}{tr : Nat → Option Nat}{P : Nat → Prop}{pp : Nat → qP} (hq0 : qIF tracked tr P pp) : ∀ p, P p → (pp p).trk ≠ 0 → ∃ i : Nat, (i : Int) < tracked.toInt ∧ tr i = some p := hq0.2.2
/-- the whole stands still -/
def qIW (wh : Nat) (ov : Nat → Int32) (un : Nat → Int32) (mi : Nat → Int32) (cut : Nat → Option Nat) (pr : Nat → Nat → Nat) (pp : Nat → qP) : Prop :=
  (ov wh = 1) ∧
  (un wh = 1) ∧
  (mi wh = 0) ∧
  (cut wh = none) ∧
  ((pp (pr wh 0)).own = 0 ∧ (pp (pr wh 1)).own = 0 ∧ (pp (pr wh 2)).own = 0) ∧
  (∀ j, j < 4 → (pp (pr wh j)).trk = 0)
theorem qIW.ov {wh : Nat}{ov : Nat → Int32}{un : Nat → Int32}{mi : Nat → Int32}{cut : Nat → Option Nat}{pr : Nat → Nat → Nat}{pp : Nat → qP} (hq0 : qIW wh ov un mi cut pr pp) : ov wh = 1 := hq0.1
theorem qIW.un {wh : Nat}{ov : Nat → Int32}{un : Nat → Int32}{mi : Nat → Int32}{cut : Nat → Option Nat}{pr : Nat → Nat → Nat}{pp : Nat → qP} (hq0 : qIW wh ov un mi cut pr pp) : un wh = 1 := hq0.2.1
theorem qIW.mi {wh : Nat}{ov : Nat → Int32}{un : Nat → Int32}{mi : Nat → Int32}{cut : Nat → Option Nat}{pr : Nat → Nat → Nat}{pp : Nat → qP} (hq0 : qIW wh ov un mi cut pr pp) : mi wh = 0 := hq0.2.2.1
theorem qIW.ct {wh : Nat}{ov : Nat → Int32}{un : Nat → Int32}{mi : Nat → Int32}{cut : Nat → Option Nat}{pr : Nat → Nat → Nat}{pp : Nat → qP} (hq0 : qIW wh ov un mi cut pr pp) : cut wh = none := hq0.2.2.2.1
theorem qIW.ow {wh : Nat}{ov : Nat → Int32}{un : Nat → Int32}{mi : Nat → Int32}{cut : Nat → Option Nat}{pr : Nat → Nat → Nat}{pp : Nat → qP} (hq0 : qIW wh ov un mi cut pr pp) : (pp (pr wh 0)).own = 0 ∧ (pp (pr wh 1)).own = 0 ∧ (pp (pr wh 2)).own = 0 := hq0.2.2.2.2.1
theorem qIW.tr {wh : Nat}{ov : Nat → Int32}{un : Nat → Int32}{mi : Nat → Int32}{cut : Nat → Option Nat}{pr : Nat → Nat → Nat}{pp : Nat → qP} (hq0 : qIW wh ov un mi cut pr pp) : ∀ j, j < 4 → (pp (pr wh j)).trk = 0 := hq0.2.2.2.2.2
def qI (G : qS) : Prop :=
  (qIA G.added G.no G.N G.numF G.wh) ∧
  (qIB G.N G.goneF G.parF G.fstF G.nxtF (qLyF G) G.kd G.wh) ∧
  (qIC G.befF G.plF G.N G.od G.last G.ord (qVs G)) ∧
  (qIX G.N G.xF G.yF G.tuF G.opF G.pr G.P) ∧
  (qID G.N G.pr G.pp) ∧
  (qIK G.P G.pp G.K G.ky G.kl) ∧
  (qIO G.N G.goneF G.pr G.pp) ∧
  (qIE G.N G.ovF G.unF G.frF G.cuF G.fr G.M G.fm) ∧
  (qIF G.tracked G.tr G.P G.pp) ∧
  (qIW G.wh G.ovF G.unF G.miF G.cuF G.pr G.pp) ∧
  (qFd G)
theorem qI.A {G : qS} (hq0 : qI G) : qIA G.added G.no G.N G.numF G.wh := hq0.1
theorem qI.B {G : qS} (hq0 : qI G) : qIB G.N G.goneF G.parF G.fstF G.nxtF (qLyF G) G.kd G.wh := hq0.2.1
theorem qI.C {G : qS} (hq0 : qI G) : qIC G.befF G.plF G.N G.od G.last G.ord (qVs G) := hq0.2.2.1
theorem qI.Y {G : qS} (hq0 : qI G) : qIX G.N G.xF G.yF G.tuF G.opF G.pr G.P := hq0.2.2.2.1
theorem qI.D {G : qS} (hq0 : qI G) : qID G.N G.pr G.pp := hq0.2.2.2.2.1
theorem qI.K {G : qS} (hq0 : qI G) : qIK G.P G.pp G.K G.ky G.kl := hq0.2.2.2.2.2.1
theorem qI.O {G : qS} (hq0 : qI G) : qIO G.N G.goneF G.pr G.pp := hq0.2.2.2.2.2.2.1
theorem qI.E {G : qS} (hq0 : qI G) : qIE G.N G.ovF G.unF G.frF G.cuF G.fr G.M G.fm := hq0.2.2.2.2.2.2.2.1
theorem qI.T {G : qS} (hq0 : qI G) : qIF G.tracked G.tr G.P G.pp := hq0.2.2.2.2.2.2.2.2.1
theorem qI.W {G : qS} (hq0 : qI G) : qIW G.wh G.ovF G.unF G.miF G.cuF G.pr G.pp := hq0.2.2.2.2.2.2.2.2.2.1
theorem qI.fd {G : qS} (hq0 : qI G) : qFd G := hq0.2.2.2.2.2.2.2.2.2.2
/-! counting -/
theorem nodup_lt : ∀ (n : Nat) (l : List Nat), l.Nodup → (∀ x, x ∈ l → x < n) → l.length ≤ n
  | 0, [], _, _ => Nat.le_refl _
  | 0, x :: _, _, h => absurd (h x List.mem_cons_self) (Nat.not_lt_zero _)
  | n + 1, l, d, h => by
    have e : (l.erase n).length ≤ n := by
      refine nodup_lt n _ (d.sublist List.erase_sublist) (fun x hx => ?_)
      have h1 := h x (List.mem_of_mem_erase hx)
      have h2 : x ≠ n := fun z => by
        subst z
        exact (List.Nodup.not_mem_erase d) hx
      omega
    have := List.length_erase (a := n) (l := l)
    by_cases q : n ∈ l
    · rw [if_pos q] at this; omega
    · rw [if_neg q] at this; omega
theorem nodup_map {f : Nat → Nat} : ∀ {l : List Nat}, l.Nodup → (∀ a b, a ∈ l → b ∈ l → f a = f b → a = b) → (l.map f).Nodup
  | [], _, _ => List.nodup_nil
  | a :: l, d, h => by
    obtain ⟨d1, d2⟩ := List.nodup_cons.mp d
    rw [List.map_cons]
    refine List.nodup_cons.mpr ⟨fun z => ?_, nodup_map d2 (fun x y hx hy => h x y (List.mem_cons_of_mem _ hx) (List.mem_cons_of_mem _ hy))⟩
    obtain ⟨b, hb, e⟩ := List.mem_map.mp z
    have := h b a (List.mem_cons_of_mem _ hb) List.mem_cons_self e
    subst this
    exact d1 hb
theorem qI.inj (I : qI G) {b : Nat} (ha : G.N a) (hb : G.N b) (e : (G.nd a).number = (G.nd b).number) : a = b := by
  obtain ⟨-, -, e1⟩ := I.A.nu a ha
  obtain ⟨-, -, e2⟩ := I.A.nu b hb
  have e3 : G.numF a = G.numF b := e
  rw [e3, e2] at e1
  exact (Option.some.inj e1).symm
theorem qI.len (I : qI G) {l : List Nat} (d : l.Nodup) (h : ∀ b, b ∈ l → G.N b) : l.length ≤ 30 := by
  have := nodup_lt 30 (l.map fun b => (G.nd b).number.toInt.toNat) (nodup_map d (fun a b ha hb e => by
    obtain ⟨x1, -, e1⟩ := I.A.nu a (h a ha)
    obtain ⟨x2, -, e2⟩ := I.A.nu b (h b hb)
    have e1 : G.no (G.nd a).number.toInt.toNat = some a := e1
    have e2 : G.no (G.nd b).number.toInt.toNat = some b := e2
    rw [e, e2] at e1
    exact (Option.some.inj e1).symm)) (fun x hx => by
    obtain ⟨b, hb, rfl⟩ := List.mem_map.mp hx
    obtain ⟨x1, x2, -⟩ := I.A.nu b (h b hb)
    have x1 : 0 ≤ (G.nd b).number.toInt := x1
    have x2 : (G.nd b).number.toInt < G.added.toInt := x2
    have := I.A.ad
    omega)
  rw [List.length_map] at this
  exact this
theorem qI.kc (I : qI G) : qKc G := by
  refine ⟨I.B.wl, fun a la => ⟨I.B.ch a la, ?_⟩⟩
  have := I.len (I.B.tk.1 a la).1 (fun b hb => (((I.B.tk.1 a la).2 b).mp hb).1.1)
  omega
/-! the way up -/
theorem qUp_none (n : Nat) : qUp G n none = [] := by cases n <;> rfl
theorem qUp_dp : ∀ {d a n : Nat}, qDp G.parF (qLvf G.N G.goneF) G.wh d a → d < n → Ch G.parF (qLvf G.N G.goneF) (qUp G n (some a)) (some a) ∧ (qUp G n (some a)).length = d + 1
  | 0, a, n + 1, q, _ => by
    have e : qUp G (n + 1) (some a) = [a] := by
      show a :: qUp G n (G.nd a).par = [a]
      rw [show (G.nd a).par = none from q.2.2, qUp_none]
    rw [e]
    exact ⟨⟨rfl, q.2.1, q.2.2⟩, rfl⟩
  | d + 1, a, n + 1, q, hn => by
    obtain ⟨la, p, e, q2⟩ := q
    have e : (G.nd a).par = some p := e
    obtain ⟨c, l⟩ := qUp_dp (n := n) q2 (by omega)
    have e3 : qUp G (n + 1) (some a) = a :: qUp G n (some p) := by
      show a :: qUp G n (G.nd a).par = _
      rw [e]
    rw [e3]
    exact ⟨⟨rfl, la, by show Ch G.parF _ _ (G.nd a).par; rw [e]; exact c⟩, by rw [List.length_cons, l]⟩
theorem qUp_fuel : ∀ {d a n m : Nat}, qDp G.parF (qLvf G.N G.goneF) G.wh d a → d < n → d < m → qUp G n (some a) = qUp G m (some a)
  | 0, a, n + 1, m + 1, q, _, _ => by
    show a :: qUp G n (G.nd a).par = a :: qUp G m (G.nd a).par
    rw [show (G.nd a).par = none from q.2.2, qUp_none, qUp_none]
  | d + 1, a, n + 1, m + 1, q, hn, hm => by
    obtain ⟨la, p, e, q2⟩ := q
    show a :: qUp G n (G.nd a).par = a :: qUp G m (G.nd a).par
    rw [show (G.nd a).par = some p from e, qUp_fuel q2 (n := n) (m := m) (by omega) (by omega)]
theorem qI.up (I : qI G) (la : G.Lv a) : ∃ d, d ≤ 4 ∧ qDp G.parF (qLvf G.N G.goneF) G.wh d a ∧ Ch G.parF (qLvf G.N G.goneF) (G.up a) (some a) ∧ (G.up a).length = d + 1 := by
  obtain ⟨d, hd, q⟩ := I.B.dp a la
  obtain ⟨c, l⟩ := qUp_dp (n := 6) q (by omega)
  exact ⟨d, hd, q, c, l⟩
theorem qI.up_par (I : qI G) (la : G.Lv a) {p : Nat} (e : (G.nd a).par = some p) : G.Lv p ∧ G.up a = a :: G.up p := by
  obtain ⟨d, hd, q⟩ := I.B.dp a la
  cases d with
  | zero =>
    have := q.2.2
    rw [show G.parF a = some p from e] at this
    cases this
  | succ d =>
    obtain ⟨-, p2, e2, q2⟩ := q
    have e2 : (G.nd a).par = some p2 := e2
    rw [e] at e2
    cases e2
    refine ⟨q2.lv, ?_⟩
    show a :: qUp G 5 (G.nd a).par = a :: qUp G 6 (some p)
    rw [e, qUp_fuel q2 (n := 5) (m := 6) (by omega) (by omega)]
theorem qI.up_wh (I : qI G) : G.up G.wh = [G.wh] := by
  show G.wh :: qUp G 5 (G.nd G.wh).par = _
  rw [show (G.nd G.wh).par = none from I.B.wp, qUp_none]
theorem qI.par_none (I : qI G) (la : G.Lv a) (e : (G.nd a).par = none) : a = G.wh := by
  obtain ⟨d, hd, q⟩ := I.B.dp a la
  cases d with
  | zero => exact q.1
  | succ d =>
    obtain ⟨-, p2, e2, q2⟩ := q
    have e2 : (G.nd a).par = some p2 := e2
    rw [e] at e2
    cases e2
/-! values lie in their ranges -/
theorem i64_i32 {x : Int64} (h : -2000000000 ≤ x.toInt ∧ x.toInt ≤ 2000000000) : (Int64.toInt32 x).toInt = x.toInt := by
  rw [Int64.toInt_toInt32]
  exact Int.bmod_eq_of_le (by omega) (by omega)
theorem qLast_le (t : Int32) : ∀ (l : List Nat) (r : Option Nat) (b : Nat), qLast G t r l = some b → r = some b ∨ (b ∈ l ∧ (G.ky b).time.toInt ≤ t.toInt)
  | [], r, b, e => Or.inl e
  | a :: l, r, b, e => by
    unfold qLast at e
    by_cases q : t < (G.ky a).time
    · rw [if_pos q] at e; exact Or.inl e
    · rw [if_neg q] at e
      have q2 : (G.ky a).time.toInt ≤ t.toInt := Int.not_lt.mp (fun z => q (i32_lt2 z))
      rcases qLast_le t l _ _ e with e2 | e2
      · cases e2; exact Or.inr ⟨List.mem_cons_self, q2⟩
      · exact Or.inr ⟨List.mem_cons_of_mem _ e2.1, e2.2⟩
/-- the one behind the last key up to a time is past it -/
theorem qLast_nx (t : Int32) : ∀ (l : List Nat) (r : Option Nat) (b c : Nat) (o : Option Nat) {D : Nat → Prop}, Ch G.nexF D l o → (∀ x, r = some x → G.nexF x = o) → qLast G t r l = some b → (G.ky b).next = some c → t.toInt < (G.ky c).time.toInt
  | [], r, b, c, o, D, ch, hr, e, en => by
    have := hr b e
    rw [show G.nexF b = some c from en, show o = none from ch] at this
    cases this
  | a :: l, r, b, c, o, D, ch, hr, e, en => by
    obtain ⟨e1, ha, ch2⟩ := ch
    unfold qLast at e
    by_cases q : t < (G.ky a).time
    · rw [if_pos q] at e
      have := hr b e
      rw [show G.nexF b = some c from en, e1] at this
      cases this
      exact Int32.lt_iff_toInt_lt.mp q
    · rw [if_neg q] at e
      exact qLast_nx t l (some a) b c _ ch2 (fun x hx => by cases hx; rfl) e en
theorem qVal_rg {p b : Nat} {lo hi : Int} (hl : -10000 ≤ lo) (hh : hi ≤ 10000) (hw : hi - lo ≤ 10000) (t : Int32) (hb : lo ≤ (G.ky b).value.toInt ∧ (G.ky b).value.toInt ≤ hi) (tb : 0 ≤ (G.ky b).time.toInt ∧ (G.ky b).time.toInt ≤ 999) (ht : (G.ky b).time.toInt ≤ t.toInt) (hc : ∀ c, (G.ky b).next = some c → (lo ≤ (G.ky c).value.toInt ∧ (G.ky c).value.toInt ≤ hi) ∧ (0 ≤ (G.ky c).time.toInt ∧ (G.ky c).time.toInt ≤ 999) ∧ t.toInt < (G.ky c).time.toInt) : lo ≤ (qVal G p b t).toInt ∧ (qVal G p b t).toInt ≤ hi := by
  unfold qVal
  cases e : (G.ky b).next with
  | none => exact hb
  | some c =>
    obtain ⟨c1, c2, c3⟩ := hc c e
    dsimp only
    by_cases q0 : (G.pp p).ease = 0
    · rw [if_pos q0]; exact hb
    rw [if_neg q0]
    by_cases q1 : (1 : Int64) ≤ Int32.toInt64 ((G.ky c).time - (G.ky b).time)
    · rw [if_pos q1]
      have s1 : ((G.ky c).time - (G.ky b).time).toInt = (G.ky c).time.toInt - (G.ky b).time.toInt := i32_sub (by omega) (by omega)
      have s2 : ((G.ky c).value - (G.ky b).value).toInt = (G.ky c).value.toInt - (G.ky b).value.toInt := i32_sub (by omega) (by omega)
      have s3 : (t - (G.ky b).time).toInt = t.toInt - (G.ky b).time.toInt := i32_sub (by omega) (by omega)
      have m := qMid_rg (e := (G.pp p).ease) (v := Int32.toInt64 (G.ky b).value) (rise := Int32.toInt64 ((G.ky c).value - (G.ky b).value)) (past := Int32.toInt64 (t - (G.ky b).time)) (gap := Int32.toInt64 ((G.ky c).time - (G.ky b).time)) (by rw [i64_of]; omega) (by rw [i64_of, s2]; omega) (by rw [i64_of, i64_of, s1, s3]; omega) (by rw [i64_of, s1]; omega)
      rw [i64_of, i64_of, s2] at m
      unfold btw at m
      rw [i64_i32 (by omega)]
      omega
    · rw [if_neg q1]; exact hb
theorem qAt_rg {p : Nat} {l : List Nat} {K : Nat → Prop} {lo hi : Int} (hl : -10000 ≤ lo) (hh : hi ≤ 10000) (hw : hi - lo ≤ 10000) (ho : lo ≤ (G.pp p).own.toInt ∧ (G.pp p).own.toInt ≤ hi) (o : Option Nat) (c : Ch G.nexF K l o) (hk : ∀ a, K a → 0 ≤ (G.ky a).time.toInt ∧ (G.ky a).time.toInt ≤ 999) (hv : ∀ a, a ∈ l → lo ≤ (G.ky a).value.toInt ∧ (G.ky a).value.toInt ≤ hi) (t : Int32) : lo ≤ (qAt G p l t).toInt ∧ (qAt G p l t).toInt ≤ hi := by
  have key : ∀ (u : Int32) (b : Nat), qLast G u none l = some b → lo ≤ (qVal G p b u).toInt ∧ (qVal G p b u).toInt ≤ hi := by
    intro u b e
    obtain ⟨hb, tb⟩ := (qLast_le u l none b e).resolve_left (fun z => nomatch z)
    refine qVal_rg hl hh hw u (hv b hb) (hk b (c.D b hb)) tb (fun d hd => ?_)
    have dl := c.nx b d hb hd
    exact ⟨hv d dl, hk d (c.D d dl), qLast_nx u l none b d o c (fun x z => nomatch z) e hd⟩
  unfold qAt
  cases l with
  | nil => exact ho
  | cons f l =>
    have hf := hv f List.mem_cons_self
    dsimp only
    cases e1 : qLast G t none (f :: l) with
    | none => exact hf
    | some b =>
      dsimp only
      cases e2 : (G.ky b).next with
      | none =>
        dsimp only
        cases e3 : qLast G (qCnt (G.pp p).end_ t (G.ky f).time (G.ky b).time) none (f :: l) with
        | none => exact hf
        | some d => exact key _ d e3
      | some d => exact key t b e1
theorem qRg_w (j : Nat) : -10000 ≤ (qRg j).1 ∧ (qRg j).2 ≤ 10000 ∧ (qRg j).2 - (qRg j).1 ≤ 10000 := by
  unfold qRg
  by_cases h1 : j < 2
  · rw [if_pos h1]; decide
  · rw [if_neg h1]
    by_cases h2 : j = 2
    · rw [if_pos h2]; decide
    · rw [if_neg h2]; decide
theorem qI.vl (I : qI G) (ha : G.N a) {j : Nat} (hj : j < 4) (t : Int32) : (qRg j).1 ≤ (G.vl a j t).toInt ∧ (G.vl a j t).toInt ≤ (qRg j).2 := by
  obtain ⟨w1, w2, w3⟩ := qRg_w j
  obtain ⟨d1, d2, d3, d4⟩ := I.D a j ha hj
  have k := I.K.on _ (I.Y.pP a j ha hj)
  refine qAt_rg w1 w2 w3 ⟨d3, d4⟩ _ k.ch I.K.kt (fun b hb => ?_) t
  have := k.vl b hb
  rw [d1, d2] at this
  exact this
theorem qI.odm (I : qI G) : (qVs G).Nodup ∧ ∀ b, b ∈ qVs G ↔ G.Lv b := by
  obtain ⟨d, hd, q⟩ := I.B.dp G.wh I.B.wl
  cases d with
  | succ d =>
    obtain ⟨-, p, e, -⟩ := q
    rw [I.B.wp] at e
    cases e
  | zero =>
    refine ⟨qLay_nodup I.B.tk q, fun b => ⟨fun hb => ?_, fun lb => ?_⟩⟩
    · obtain ⟨n, -, -, q2⟩ := qLay_mem I.B.tk q hb
      exact q2.lv
    · obtain ⟨e, he, q2⟩ := I.B.dp b lb
      exact qLay_all I.B.tk q2 (by omega)
theorem qI.V (I : qI G) : qV G := by
  obtain ⟨n1, n2⟩ := I.odm
  refine ⟨I.B.wl, I.Y.px, I.Y.pP, I.E.fr, I.E.ct, fun p hp => ?_, I.K.kt, fun a la => ?_, ⟨I.C.ch, ?_, fun a ha => ?_⟩, fun a t ha => ?_, ?_, I.T.tk.1, I.T.tk.2, I.T.tr⟩
  · have k := I.K.on p hp
    exact ⟨k.ch, by have := k.le; omega⟩
  · obtain ⟨d, hd, -, c, l⟩ := I.up la
    exact ⟨c.mono (fun _ z => z.1), by omega⟩
  · rw [I.C.od, List.length_reverse]
    exact I.len n1 (fun b hb => ((n2 b).mp hb).1)
  · rw [I.C.od, List.mem_reverse] at ha
    exact (n2 a).mp ha
  · exact I.vl ha (j := 2) (by decide) t
  · obtain ⟨a1, a2⟩ := I.A.ad
    refine ⟨by omega, a2, fun i hi => ?_⟩
    obtain ⟨a, e, ha, -⟩ := I.A.no i hi
    exact ⟨a, e, ha⟩
end INV
