/-! The law's own object: its cells, reads and writes. -/
section LOOM0
def lS : Type := (((((Nat × Nat) × (Nat × Nat)) × ((Nat × Nat) × (Nat × Nat))) × (((Nat × Int32) × (Int32 × Int32)) × ((Int32 × Int32) × ((Nat → Nat) × (Nat → Nat → Int32))))) × (((((Nat → Nat) × (Nat → Nat → Int32)) × ((Nat → Int32) × (Nat → Int32))) × (((Nat → Option Nat) × (Nat → Nat)) × ((Nat → Nat → Int32) × (Nat → Nat)))) × ((((Nat → Nat) × (Nat → Nat → Int32)) × (Nat × Nat)) × (((Nat → Int32) × Nat) × (Nat × (Nat × (Nat → Nat × Nat)))))))
def lS.lm (q : lS) : Nat := q.1.1.1.1.1
def lS.a1 (q : lS) : Nat := q.1.1.1.1.2
def lS.a2 (q : lS) : Nat := q.1.1.1.2.1
def lS.a3 (q : lS) : Nat := q.1.1.1.2.2
def lS.a4 (q : lS) : Nat := q.1.1.2.1.1
def lS.a5 (q : lS) : Nat := q.1.1.2.1.2
def lS.a6 (q : lS) : Nat := q.1.1.2.2.1
def lS.a7 (q : lS) : Nat := q.1.1.2.2.2
def lS.sc (q : lS) : Nat := q.1.2.1.1.1
def lS.draws (q : lS) : Int32 := q.1.2.1.1.2
def lS.added (q : lS) : Int32 := q.1.2.1.2.1
def lS.hangs (q : lS) : Int32 := q.1.2.1.2.2
def lS.tracks (q : lS) : Int32 := q.1.2.2.1.1
def lS.time (q : lS) : Int32 := q.1.2.2.1.2
def lS.nR (q : lS) : Nat → Nat := q.1.2.2.2.1
def lS.nV (q : lS) : Nat → Nat → Int32 := q.1.2.2.2.2
def lS.oR (q : lS) : Nat → Nat := q.2.1.1.1.1
def lS.oV (q : lS) : Nat → Nat → Int32 := q.2.1.1.1.2
def lS.g3 (q : lS) : Nat → Int32 := q.2.1.1.2.1
def lS.g4 (q : lS) : Nat → Int32 := q.2.1.1.2.2
def lS.cR (q : lS) : Nat → Option Nat := q.2.1.2.1.1
def lS.tR (q : lS) : Nat → Nat := q.2.1.2.1.2
def lS.tV (q : lS) : Nat → Nat → Int32 := q.2.1.2.2.1
def lS.kR (q : lS) : Nat → Nat := q.2.1.2.2.2
def lS.kN (q : lS) : Nat → Nat := q.2.2.1.1.1
def lS.kV (q : lS) : Nat → Nat → Int32 := q.2.2.1.1.2
def lS.bR (q : lS) : Nat := q.2.2.1.2.1
def lS.bN (q : lS) : Nat := q.2.2.1.2.2
def lS.bV (q : lS) : Nat → Int32 := q.2.2.2.1.1
def lS.v1 (q : lS) : Nat := q.2.2.2.1.2
def lS.v2 (q : lS) : Nat := q.2.2.2.2.1
def lS.v6 (q : lS) : Nat := q.2.2.2.2.2.1
def lS.tg (q : lS) : Nat → Nat × Nat := q.2.2.2.2.2.2
def lS.s_lm (q : lS) (v : Nat) : lS := (((((v, q.1.1.1.1.2), q.1.1.1.2), q.1.1.2), q.1.2), q.2)
def lS.s_a1 (q : lS) (v : Nat) : lS := (((((q.1.1.1.1.1, v), q.1.1.1.2), q.1.1.2), q.1.2), q.2)
def lS.s_a2 (q : lS) (v : Nat) : lS := ((((q.1.1.1.1, (v, q.1.1.1.2.2)), q.1.1.2), q.1.2), q.2)
def lS.s_a3 (q : lS) (v : Nat) : lS := ((((q.1.1.1.1, (q.1.1.1.2.1, v)), q.1.1.2), q.1.2), q.2)
def lS.s_a4 (q : lS) (v : Nat) : lS := (((q.1.1.1, ((v, q.1.1.2.1.2), q.1.1.2.2)), q.1.2), q.2)
def lS.s_a5 (q : lS) (v : Nat) : lS := (((q.1.1.1, ((q.1.1.2.1.1, v), q.1.1.2.2)), q.1.2), q.2)
def lS.s_a6 (q : lS) (v : Nat) : lS := (((q.1.1.1, (q.1.1.2.1, (v, q.1.1.2.2.2))), q.1.2), q.2)
def lS.s_a7 (q : lS) (v : Nat) : lS := (((q.1.1.1, (q.1.1.2.1, (q.1.1.2.2.1, v))), q.1.2), q.2)
def lS.s_sc (q : lS) (v : Nat) : lS := ((q.1.1, (((v, q.1.2.1.1.2), q.1.2.1.2), q.1.2.2)), q.2)
def lS.s_draws (q : lS) (v : Int32) : lS := ((q.1.1, (((q.1.2.1.1.1, v), q.1.2.1.2), q.1.2.2)), q.2)
def lS.s_added (q : lS) (v : Int32) : lS := ((q.1.1, ((q.1.2.1.1, (v, q.1.2.1.2.2)), q.1.2.2)), q.2)
def lS.s_hangs (q : lS) (v : Int32) : lS := ((q.1.1, ((q.1.2.1.1, (q.1.2.1.2.1, v)), q.1.2.2)), q.2)
def lS.s_tracks (q : lS) (v : Int32) : lS := ((q.1.1, (q.1.2.1, ((v, q.1.2.2.1.2), q.1.2.2.2))), q.2)
def lS.s_time (q : lS) (v : Int32) : lS := ((q.1.1, (q.1.2.1, ((q.1.2.2.1.1, v), q.1.2.2.2))), q.2)
def lS.s_nR (q : lS) (v : Nat → Nat) : lS := ((q.1.1, (q.1.2.1, (q.1.2.2.1, (v, q.1.2.2.2.2)))), q.2)
def lS.s_nV (q : lS) (v : Nat → Nat → Int32) : lS := ((q.1.1, (q.1.2.1, (q.1.2.2.1, (q.1.2.2.2.1, v)))), q.2)
def lS.s_oR (q : lS) (v : Nat → Nat) : lS := (q.1, ((((v, q.2.1.1.1.2), q.2.1.1.2), q.2.1.2), q.2.2))
def lS.s_oV (q : lS) (v : Nat → Nat → Int32) : lS := (q.1, ((((q.2.1.1.1.1, v), q.2.1.1.2), q.2.1.2), q.2.2))
def lS.s_g3 (q : lS) (v : Nat → Int32) : lS := (q.1, (((q.2.1.1.1, (v, q.2.1.1.2.2)), q.2.1.2), q.2.2))
def lS.s_g4 (q : lS) (v : Nat → Int32) : lS := (q.1, (((q.2.1.1.1, (q.2.1.1.2.1, v)), q.2.1.2), q.2.2))
def lS.s_cR (q : lS) (v : Nat → Option Nat) : lS := (q.1, ((q.2.1.1, ((v, q.2.1.2.1.2), q.2.1.2.2)), q.2.2))
def lS.s_tR (q : lS) (v : Nat → Nat) : lS := (q.1, ((q.2.1.1, ((q.2.1.2.1.1, v), q.2.1.2.2)), q.2.2))
def lS.s_tV (q : lS) (v : Nat → Nat → Int32) : lS := (q.1, ((q.2.1.1, (q.2.1.2.1, (v, q.2.1.2.2.2))), q.2.2))
def lS.s_kR (q : lS) (v : Nat → Nat) : lS := (q.1, ((q.2.1.1, (q.2.1.2.1, (q.2.1.2.2.1, v))), q.2.2))
def lS.s_kN (q : lS) (v : Nat → Nat) : lS := (q.1, (q.2.1, (((v, q.2.2.1.1.2), q.2.2.1.2), q.2.2.2)))
def lS.s_kV (q : lS) (v : Nat → Nat → Int32) : lS := (q.1, (q.2.1, (((q.2.2.1.1.1, v), q.2.2.1.2), q.2.2.2)))
def lS.s_bR (q : lS) (v : Nat) : lS := (q.1, (q.2.1, ((q.2.2.1.1, (v, q.2.2.1.2.2)), q.2.2.2)))
def lS.s_bN (q : lS) (v : Nat) : lS := (q.1, (q.2.1, ((q.2.2.1.1, (q.2.2.1.2.1, v)), q.2.2.2)))
def lS.s_bV (q : lS) (v : Nat → Int32) : lS := (q.1, (q.2.1, (q.2.2.1, ((v, q.2.2.2.1.2), q.2.2.2.2))))
def lS.s_v1 (q : lS) (v : Nat) : lS := (q.1, (q.2.1, (q.2.2.1, ((q.2.2.2.1.1, v), q.2.2.2.2))))
def lS.s_v2 (q : lS) (v : Nat) : lS := (q.1, (q.2.1, (q.2.2.1, (q.2.2.2.1, (v, q.2.2.2.2.2)))))
def lS.s_v6 (q : lS) (v : Nat) : lS := (q.1, (q.2.1, (q.2.2.1, (q.2.2.2.1, (q.2.2.2.2.1, (v, q.2.2.2.2.2.2))))))
def lS.s_tg (q : lS) (v : Nat → Nat × Nat) : lS := (q.1, (q.2.1, (q.2.2.1, (q.2.2.2.1, (q.2.2.2.2.1, (q.2.2.2.2.2.1, v))))))
def lS.mk (v0 : Nat) (v1 : Nat) (v2 : Nat) (v3 : Nat) (v4 : Nat) (v5 : Nat) (v6 : Nat) (v7 : Nat) (v8 : Nat) (v9 : Int32) (v10 : Int32) (v11 : Int32) (v12 : Int32) (v13 : Int32) (v14 : Nat → Nat) (v15 : Nat → Nat → Int32) (v16 : Nat → Nat) (v17 : Nat → Nat → Int32) (v18 : Nat → Int32) (v19 : Nat → Int32) (v20 : Nat → Option Nat) (v21 : Nat → Nat) (v22 : Nat → Nat → Int32) (v23 : Nat → Nat) (v24 : Nat → Nat) (v25 : Nat → Nat → Int32) (v26 : Nat) (v27 : Nat) (v28 : Nat → Int32) (v29 : Nat) (v30 : Nat) (v31 : Nat) (v32 : Nat → Nat × Nat) : lS := (((((v0, v1), (v2, v3)), ((v4, v5), (v6, v7))), (((v8, v9), (v10, v11)), ((v12, v13), (v14, v15)))), ((((v16, v17), (v18, v19)), ((v20, v21), (v22, v23))), (((v24, v25), (v26, v27)), ((v28, v29), (v30, (v31, v32))))))
/-- the object's cell -/
def lS.c (S : lS) (z : Nat) : fCe := .inl (8, [.ref z, .ref S.sc, .int S.draws, .int S.added, .ref S.a1, .ref S.a2, .ref S.a3, .ref S.a4, .ref S.a5, .int S.hangs, .int S.tracks, .ref S.a6, .ref S.a7, .int S.time])
def ro (n : Nat) (f : Nat → Option Nat) : fCe := .inr (4, n, .inr (.inr (.inr (.inr f))))
def ri (n : Nat) (f : Nat → Int32) : fCe := .inr (0, n, .inl f)
def rb (n : Nat) (f : Nat → Int32) : fCe := .inr (1, n, .inl f)
def lF (S : lS) (F : Nat → Option fCe) (z : Nat) : Prop :=
  (F S.lm = some (S.c z)) ∧
  (∃ f, F S.a1 = some (ro 30 f) ∧ ∀ i : Nat, i < S.v1 → f i = some (S.nR i)) ∧
  (∀ i : Nat, i < S.v1 → F (S.nR i) = some (ri 8 (S.nV i)) ∧ S.tg (S.nR i) = (0, i)) ∧
  (∃ f, F S.a2 = some (ro 30 f) ∧ ∀ i : Nat, i < S.v2 → f i = some (S.oR i)) ∧
  (∀ i : Nat, i < S.v2 → F (S.oR i) = some (ri 4 (S.oV i)) ∧ S.tg (S.oR i) = (1, i)) ∧
  (F S.a3 = some (rb 30 S.g3)) ∧
  (F S.a4 = some (rb 30 S.g4)) ∧
  (F S.a5 = some (ro 30 S.cR)) ∧
  (∃ f, F S.a6 = some (ro 12 f) ∧ ∀ i : Nat, i < S.v6 → f i = some (S.tR i)) ∧
  (∀ i : Nat, i < S.v6 → F (S.tR i) = some (ri 4 (S.tV i)) ∧ S.tg (S.tR i) = (2, i)) ∧
  (∃ f, F S.a7 = some (ro 12 f) ∧ ∀ i : Nat, i < 12 → f i = some (S.kR i)) ∧
  (∀ i : Nat, i < 12 → F (S.kR i) = some (ri (S.kN i) (S.kV i)) ∧ S.tg (S.kR i) = (3, i)) ∧
  (S.bN = 0 ∨ (F S.bR = some (rb S.bN S.bV) ∧ S.tg S.bR = (4, 0))) ∧
  (S.tg S.lm = (5, 0) ∧ S.tg S.a1 = (6, 0) ∧ S.tg S.a2 = (7, 0) ∧ S.tg S.a3 = (8, 0) ∧ S.tg S.a4 = (9, 0) ∧ S.tg S.a5 = (10, 0) ∧ S.tg S.a6 = (11, 0) ∧ S.tg S.a7 = (12, 0)) ∧
  (1 ≤ S.added.toInt ∧ S.added.toInt ≤ S.v1 ∧ S.v1 ≤ 30 ∧ S.added.toInt ≤ S.v2 ∧ S.v2 ≤ 30) ∧
  (0 ≤ S.tracks.toInt ∧ S.tracks.toInt ≤ S.v6 ∧ S.v6 ≤ 12)
theorem lF.ob {S : lS}{F : Nat → Option fCe}{z : Nat} (hq0 : lF S F z) : F S.lm = some (S.c z) := hq0.1
theorem lF.f1 {S : lS}{F : Nat → Option fCe}{z : Nat} (hq0 : lF S F z) : ∃ f, F S.a1 = some (ro 30 f) ∧ ∀ i : Nat, i < S.v1 → f i = some (S.nR i) := hq0.2.1
theorem lF.n1 {S : lS}{F : Nat → Option fCe}{z : Nat} (hq0 : lF S F z) : ∀ i : Nat, i < S.v1 → F (S.nR i) = some (ri 8 (S.nV i)) ∧ S.tg (S.nR i) = (0, i) := hq0.2.2.1
theorem lF.f2 {S : lS}{F : Nat → Option fCe}{z : Nat} (hq0 : lF S F z) : ∃ f, F S.a2 = some (ro 30 f) ∧ ∀ i : Nat, i < S.v2 → f i = some (S.oR i) := hq0.2.2.2.1
theorem lF.n2 {S : lS}{F : Nat → Option fCe}{z : Nat} (hq0 : lF S F z) : ∀ i : Nat, i < S.v2 → F (S.oR i) = some (ri 4 (S.oV i)) ∧ S.tg (S.oR i) = (1, i) := hq0.2.2.2.2.1
theorem lF.e3 {S : lS}{F : Nat → Option fCe}{z : Nat} (hq0 : lF S F z) : F S.a3 = some (rb 30 S.g3) := hq0.2.2.2.2.2.1
theorem lF.e4 {S : lS}{F : Nat → Option fCe}{z : Nat} (hq0 : lF S F z) : F S.a4 = some (rb 30 S.g4) := hq0.2.2.2.2.2.2.1
theorem lF.e5 {S : lS}{F : Nat → Option fCe}{z : Nat} (hq0 : lF S F z) : F S.a5 = some (ro 30 S.cR) := hq0.2.2.2.2.2.2.2.1
theorem lF.f6 {S : lS}{F : Nat → Option fCe}{z : Nat} (hq0 : lF S F z) : ∃ f, F S.a6 = some (ro 12 f) ∧ ∀ i : Nat, i < S.v6 → f i = some (S.tR i) := hq0.2.2.2.2.2.2.2.2.1
theorem lF.n6 {S : lS}{F : Nat → Option fCe}{z : Nat} (hq0 : lF S F z) : ∀ i : Nat, i < S.v6 → F (S.tR i) = some (ri 4 (S.tV i)) ∧ S.tg (S.tR i) = (2, i) := hq0.2.2.2.2.2.2.2.2.2.1
theorem lF.f7 {S : lS}{F : Nat → Option fCe}{z : Nat} (hq0 : lF S F z) : ∃ f, F S.a7 = some (ro 12 f) ∧ ∀ i : Nat, i < 12 → f i = some (S.kR i) := hq0.2.2.2.2.2.2.2.2.2.2.1
theorem lF.n7 {S : lS}{F : Nat → Option fCe}{z : Nat} (hq0 : lF S F z) : ∀ i : Nat, i < 12 → F (S.kR i) = some (ri (S.kN i) (S.kV i)) ∧ S.tg (S.kR i) = (3, i) := hq0.2.2.2.2.2.2.2.2.2.2.2.1
theorem lF.bb {S : lS}{F : Nat → Option fCe}{z : Nat} (hq0 : lF S F z) : S.bN = 0 ∨ (F S.bR = some (rb S.bN S.bV) ∧ S.tg S.bR = (4, 0)) := hq0.2.2.2.2.2.2.2.2.2.2.2.2.1
theorem lF.tl {S : lS}{F : Nat → Option fCe}{z : Nat} (hq0 : lF S F z) : S.tg S.lm = (5, 0) ∧ S.tg S.a1 = (6, 0) ∧ S.tg S.a2 = (7, 0) ∧ S.tg S.a3 = (8, 0) ∧ S.tg S.a4 = (9, 0) ∧ S.tg S.a5 = (10, 0) ∧ S.tg S.a6 = (11, 0) ∧ S.tg S.a7 = (12, 0) := hq0.2.2.2.2.2.2.2.2.2.2.2.2.2.1
theorem lF.ad {S : lS}{F : Nat → Option fCe}{z : Nat} (hq0 : lF S F z) : 1 ≤ S.added.toInt ∧ S.added.toInt ≤ S.v1 ∧ S.v1 ≤ 30 ∧ S.added.toInt ≤ S.v2 ∧ S.v2 ≤ 30 := hq0.2.2.2.2.2.2.2.2.2.2.2.2.2.2.1
theorem lF.tr {S : lS}{F : Nat → Option fCe}{z : Nat} (hq0 : lF S F z) : 0 ≤ S.tracks.toInt ∧ S.tracks.toInt ≤ S.v6 ∧ S.v6 ≤ 12 := hq0.2.2.2.2.2.2.2.2.2.2.2.2.2.2.2
theorem tgn {a b c d : Nat} (h : a ≠ c) : (a, b) ≠ (c, d) := fun w => h (congrArg Prod.fst w)
theorem tgm {a b c d : Nat} (h : b ≠ d) : (a, b) ≠ (c, d) := fun w => h (congrArg Prod.snd w)
theorem tgq {tg : Nat → Nat × Nat} {y m b t c : Nat} (e : tg y = (m, b)) (h : m ≠ t) : tg y ≠ (t, c) := by rw [e]; exact tgn h
theorem tgr {tg : Nat → Nat × Nat} {y m b c : Nat} (e : tg y = (m, b)) (h : b ≠ c) : tg y ≠ (m, c) := by rw [e]; exact tgm h
end LOOM0
section LOOM
variable {G : qS} {F : Nat → Option fCe} {X : Nat × Nat × (Nat → Int32)} {k : Nat} {h : fSt} {a z : Nat} {S : lS}
theorem oL (R : qR G F X k h) (L : lF S F z) : fobj h (some S.lm) 8 = some S.lm := fobj_C (R.lo _ _ L.ob).2
theorem gL_sc_ (R : qR G F X k h) (L : lF S F z) : fgR h (some S.lm) 8 0 = some (some z) := fgR_C (R.lo _ _ L.ob).2 rfl
theorem gL_scr (R : qR G F X k h) (L : lF S F z) : fgR h (some S.lm) 8 1 = some (some S.sc) := fgR_C (R.lo _ _ L.ob).2 rfl
theorem gL_draws (R : qR G F X k h) (L : lF S F z) : fgI h (some S.lm) 8 2 = some S.draws := fgI_C (R.lo _ _ L.ob).2 rfl
theorem gL_added (R : qR G F X k h) (L : lF S F z) : fgI h (some S.lm) 8 3 = some S.added := fgI_C (R.lo _ _ L.ob).2 rfl
theorem gL_a1 (R : qR G F X k h) (L : lF S F z) : fgR h (some S.lm) 8 4 = some (some S.a1) := fgR_C (R.lo _ _ L.ob).2 rfl
theorem gL_a2 (R : qR G F X k h) (L : lF S F z) : fgR h (some S.lm) 8 5 = some (some S.a2) := fgR_C (R.lo _ _ L.ob).2 rfl
theorem gL_a3 (R : qR G F X k h) (L : lF S F z) : fgR h (some S.lm) 8 6 = some (some S.a3) := fgR_C (R.lo _ _ L.ob).2 rfl
theorem gL_a4 (R : qR G F X k h) (L : lF S F z) : fgR h (some S.lm) 8 7 = some (some S.a4) := fgR_C (R.lo _ _ L.ob).2 rfl
theorem gL_a5 (R : qR G F X k h) (L : lF S F z) : fgR h (some S.lm) 8 8 = some (some S.a5) := fgR_C (R.lo _ _ L.ob).2 rfl
theorem gL_hangs (R : qR G F X k h) (L : lF S F z) : fgI h (some S.lm) 8 9 = some S.hangs := fgI_C (R.lo _ _ L.ob).2 rfl
theorem gL_tracks (R : qR G F X k h) (L : lF S F z) : fgI h (some S.lm) 8 10 = some S.tracks := fgI_C (R.lo _ _ L.ob).2 rfl
theorem gL_a6 (R : qR G F X k h) (L : lF S F z) : fgR h (some S.lm) 8 11 = some (some S.a6) := fgR_C (R.lo _ _ L.ob).2 rfl
theorem gL_a7 (R : qR G F X k h) (L : lF S F z) : fgR h (some S.lm) 8 12 = some (some S.a7) := fgR_C (R.lo _ _ L.ob).2 rfl
theorem gL_time (R : qR G F X k h) (L : lF S F z) : fgI h (some S.lm) 8 13 = some S.time := fgI_C (R.lo _ _ L.ob).2 rfl
theorem wL_draws (R : qR G F X k h) (L : lF S F z) (v : Int32) : ∃ h2, fput h (some S.lm) 8 2 (.int v) = some h2 ∧ qR G (qu F S.lm (some ((S.s_draws v).c z))) X k h2 ∧ lF (S.s_draws v) (qu F S.lm (some ((S.s_draws v).c z))) z := by
  have ne : ∀ {v : Option fCe} (y : Nat), S.tg y ≠ (5, 0) → qu F S.lm v y = F y := fun y q => qu_ne (fun w => q (by rw [w]; exact L.tl.1))
  exact ⟨_, fput_C (R.lo _ _ L.ob).2 (Nat.le_of_ble_eq_true rfl), R.setF L.ob (Or.inl rfl), ⟨qu_eq, (by obtain ⟨f, e, q⟩ := L.f1; exact ⟨f, ((ne _ (tgq L.tl.2.1 (by decide))).trans e), q⟩), fun i hi => ⟨(ne _ (tgq (L.n1 i hi).2 (by decide))).trans (L.n1 i hi).1, (L.n1 i hi).2⟩, (by obtain ⟨f, e, q⟩ := L.f2; exact ⟨f, ((ne _ (tgq L.tl.2.2.1 (by decide))).trans e), q⟩), fun i hi => ⟨(ne _ (tgq (L.n2 i hi).2 (by decide))).trans (L.n2 i hi).1, (L.n2 i hi).2⟩, ((ne _ (tgq L.tl.2.2.2.1 (by decide))).trans L.e3), ((ne _ (tgq L.tl.2.2.2.2.1 (by decide))).trans L.e4), ((ne _ (tgq L.tl.2.2.2.2.2.1 (by decide))).trans L.e5), (by obtain ⟨f, e, q⟩ := L.f6; exact ⟨f, ((ne _ (tgq L.tl.2.2.2.2.2.2.1 (by decide))).trans e), q⟩), fun i hi => ⟨(ne _ (tgq (L.n6 i hi).2 (by decide))).trans (L.n6 i hi).1, (L.n6 i hi).2⟩, (by obtain ⟨f, e, q⟩ := L.f7; exact ⟨f, ((ne _ (tgq L.tl.2.2.2.2.2.2.2 (by decide))).trans e), q⟩), fun i hi => ⟨(ne _ (tgq (L.n7 i hi).2 (by decide))).trans (L.n7 i hi).1, (L.n7 i hi).2⟩, L.bb.imp id (fun q => ⟨(ne _ (tgq q.2 (by decide))).trans q.1, q.2⟩), L.tl, L.ad, L.tr⟩⟩
theorem wL_hangs (R : qR G F X k h) (L : lF S F z) (v : Int32) : ∃ h2, fput h (some S.lm) 8 9 (.int v) = some h2 ∧ qR G (qu F S.lm (some ((S.s_hangs v).c z))) X k h2 ∧ lF (S.s_hangs v) (qu F S.lm (some ((S.s_hangs v).c z))) z := by
  have ne : ∀ {v : Option fCe} (y : Nat), S.tg y ≠ (5, 0) → qu F S.lm v y = F y := fun y q => qu_ne (fun w => q (by rw [w]; exact L.tl.1))
  exact ⟨_, fput_C (R.lo _ _ L.ob).2 (Nat.le_of_ble_eq_true rfl), R.setF L.ob (Or.inl rfl), ⟨qu_eq, (by obtain ⟨f, e, q⟩ := L.f1; exact ⟨f, ((ne _ (tgq L.tl.2.1 (by decide))).trans e), q⟩), fun i hi => ⟨(ne _ (tgq (L.n1 i hi).2 (by decide))).trans (L.n1 i hi).1, (L.n1 i hi).2⟩, (by obtain ⟨f, e, q⟩ := L.f2; exact ⟨f, ((ne _ (tgq L.tl.2.2.1 (by decide))).trans e), q⟩), fun i hi => ⟨(ne _ (tgq (L.n2 i hi).2 (by decide))).trans (L.n2 i hi).1, (L.n2 i hi).2⟩, ((ne _ (tgq L.tl.2.2.2.1 (by decide))).trans L.e3), ((ne _ (tgq L.tl.2.2.2.2.1 (by decide))).trans L.e4), ((ne _ (tgq L.tl.2.2.2.2.2.1 (by decide))).trans L.e5), (by obtain ⟨f, e, q⟩ := L.f6; exact ⟨f, ((ne _ (tgq L.tl.2.2.2.2.2.2.1 (by decide))).trans e), q⟩), fun i hi => ⟨(ne _ (tgq (L.n6 i hi).2 (by decide))).trans (L.n6 i hi).1, (L.n6 i hi).2⟩, (by obtain ⟨f, e, q⟩ := L.f7; exact ⟨f, ((ne _ (tgq L.tl.2.2.2.2.2.2.2 (by decide))).trans e), q⟩), fun i hi => ⟨(ne _ (tgq (L.n7 i hi).2 (by decide))).trans (L.n7 i hi).1, (L.n7 i hi).2⟩, L.bb.imp id (fun q => ⟨(ne _ (tgq q.2 (by decide))).trans q.1, q.2⟩), L.tl, L.ad, L.tr⟩⟩
theorem wL_time (R : qR G F X k h) (L : lF S F z) (v : Int32) : ∃ h2, fput h (some S.lm) 8 13 (.int v) = some h2 ∧ qR G (qu F S.lm (some ((S.s_time v).c z))) X k h2 ∧ lF (S.s_time v) (qu F S.lm (some ((S.s_time v).c z))) z := by
  have ne : ∀ {v : Option fCe} (y : Nat), S.tg y ≠ (5, 0) → qu F S.lm v y = F y := fun y q => qu_ne (fun w => q (by rw [w]; exact L.tl.1))
  exact ⟨_, fput_C (R.lo _ _ L.ob).2 (Nat.le_of_ble_eq_true rfl), R.setF L.ob (Or.inl rfl), ⟨qu_eq, (by obtain ⟨f, e, q⟩ := L.f1; exact ⟨f, ((ne _ (tgq L.tl.2.1 (by decide))).trans e), q⟩), fun i hi => ⟨(ne _ (tgq (L.n1 i hi).2 (by decide))).trans (L.n1 i hi).1, (L.n1 i hi).2⟩, (by obtain ⟨f, e, q⟩ := L.f2; exact ⟨f, ((ne _ (tgq L.tl.2.2.1 (by decide))).trans e), q⟩), fun i hi => ⟨(ne _ (tgq (L.n2 i hi).2 (by decide))).trans (L.n2 i hi).1, (L.n2 i hi).2⟩, ((ne _ (tgq L.tl.2.2.2.1 (by decide))).trans L.e3), ((ne _ (tgq L.tl.2.2.2.2.1 (by decide))).trans L.e4), ((ne _ (tgq L.tl.2.2.2.2.2.1 (by decide))).trans L.e5), (by obtain ⟨f, e, q⟩ := L.f6; exact ⟨f, ((ne _ (tgq L.tl.2.2.2.2.2.2.1 (by decide))).trans e), q⟩), fun i hi => ⟨(ne _ (tgq (L.n6 i hi).2 (by decide))).trans (L.n6 i hi).1, (L.n6 i hi).2⟩, (by obtain ⟨f, e, q⟩ := L.f7; exact ⟨f, ((ne _ (tgq L.tl.2.2.2.2.2.2.2 (by decide))).trans e), q⟩), fun i hi => ⟨(ne _ (tgq (L.n7 i hi).2 (by decide))).trans (L.n7 i hi).1, (L.n7 i hi).2⟩, L.bb.imp id (fun q => ⟨(ne _ (tgq q.2 (by decide))).trans q.1, q.2⟩), L.tl, L.ad, L.tr⟩⟩
theorem wL_added (R : qR G F X k h) (L : lF S F z) {v : Int32} (h1 : 1 ≤ v.toInt ∧ v.toInt ≤ S.v1 ∧ v.toInt ≤ S.v2) : ∃ h2, fput h (some S.lm) 8 3 (.int v) = some h2 ∧ qR G (qu F S.lm (some ((S.s_added v).c z))) X k h2 ∧ lF (S.s_added v) (qu F S.lm (some ((S.s_added v).c z))) z := by
  have ne : ∀ {v : Option fCe} (y : Nat), S.tg y ≠ (5, 0) → qu F S.lm v y = F y := fun y q => qu_ne (fun w => q (by rw [w]; exact L.tl.1))
  exact ⟨_, fput_C (R.lo _ _ L.ob).2 (Nat.le_of_ble_eq_true rfl), R.setF L.ob (Or.inl rfl), ⟨qu_eq, (by obtain ⟨f, e, q⟩ := L.f1; exact ⟨f, ((ne _ (tgq L.tl.2.1 (by decide))).trans e), q⟩), fun i hi => ⟨(ne _ (tgq (L.n1 i hi).2 (by decide))).trans (L.n1 i hi).1, (L.n1 i hi).2⟩, (by obtain ⟨f, e, q⟩ := L.f2; exact ⟨f, ((ne _ (tgq L.tl.2.2.1 (by decide))).trans e), q⟩), fun i hi => ⟨(ne _ (tgq (L.n2 i hi).2 (by decide))).trans (L.n2 i hi).1, (L.n2 i hi).2⟩, ((ne _ (tgq L.tl.2.2.2.1 (by decide))).trans L.e3), ((ne _ (tgq L.tl.2.2.2.2.1 (by decide))).trans L.e4), ((ne _ (tgq L.tl.2.2.2.2.2.1 (by decide))).trans L.e5), (by obtain ⟨f, e, q⟩ := L.f6; exact ⟨f, ((ne _ (tgq L.tl.2.2.2.2.2.2.1 (by decide))).trans e), q⟩), fun i hi => ⟨(ne _ (tgq (L.n6 i hi).2 (by decide))).trans (L.n6 i hi).1, (L.n6 i hi).2⟩, (by obtain ⟨f, e, q⟩ := L.f7; exact ⟨f, ((ne _ (tgq L.tl.2.2.2.2.2.2.2 (by decide))).trans e), q⟩), fun i hi => ⟨(ne _ (tgq (L.n7 i hi).2 (by decide))).trans (L.n7 i hi).1, (L.n7 i hi).2⟩, L.bb.imp id (fun q => ⟨(ne _ (tgq q.2 (by decide))).trans q.1, q.2⟩), L.tl, ⟨h1.1, h1.2.1, L.ad.2.2.1, h1.2.2, L.ad.2.2.2.2⟩, L.tr⟩⟩
theorem wL_tracks (R : qR G F X k h) (L : lF S F z) {v : Int32} (h1 : 0 ≤ v.toInt ∧ v.toInt ≤ S.v6) : ∃ h2, fput h (some S.lm) 8 10 (.int v) = some h2 ∧ qR G (qu F S.lm (some ((S.s_tracks v).c z))) X k h2 ∧ lF (S.s_tracks v) (qu F S.lm (some ((S.s_tracks v).c z))) z := by
  have ne : ∀ {v : Option fCe} (y : Nat), S.tg y ≠ (5, 0) → qu F S.lm v y = F y := fun y q => qu_ne (fun w => q (by rw [w]; exact L.tl.1))
  exact ⟨_, fput_C (R.lo _ _ L.ob).2 (Nat.le_of_ble_eq_true rfl), R.setF L.ob (Or.inl rfl), ⟨qu_eq, (by obtain ⟨f, e, q⟩ := L.f1; exact ⟨f, ((ne _ (tgq L.tl.2.1 (by decide))).trans e), q⟩), fun i hi => ⟨(ne _ (tgq (L.n1 i hi).2 (by decide))).trans (L.n1 i hi).1, (L.n1 i hi).2⟩, (by obtain ⟨f, e, q⟩ := L.f2; exact ⟨f, ((ne _ (tgq L.tl.2.2.1 (by decide))).trans e), q⟩), fun i hi => ⟨(ne _ (tgq (L.n2 i hi).2 (by decide))).trans (L.n2 i hi).1, (L.n2 i hi).2⟩, ((ne _ (tgq L.tl.2.2.2.1 (by decide))).trans L.e3), ((ne _ (tgq L.tl.2.2.2.2.1 (by decide))).trans L.e4), ((ne _ (tgq L.tl.2.2.2.2.2.1 (by decide))).trans L.e5), (by obtain ⟨f, e, q⟩ := L.f6; exact ⟨f, ((ne _ (tgq L.tl.2.2.2.2.2.2.1 (by decide))).trans e), q⟩), fun i hi => ⟨(ne _ (tgq (L.n6 i hi).2 (by decide))).trans (L.n6 i hi).1, (L.n6 i hi).2⟩, (by obtain ⟨f, e, q⟩ := L.f7; exact ⟨f, ((ne _ (tgq L.tl.2.2.2.2.2.2.2 (by decide))).trans e), q⟩), fun i hi => ⟨(ne _ (tgq (L.n7 i hi).2 (by decide))).trans (L.n7 i hi).1, (L.n7 i hi).2⟩, L.bb.imp id (fun q => ⟨(ne _ (tgq q.2 (by decide))).trans q.1, q.2⟩), L.tl, L.ad, ⟨h1.1, h1.2, L.tr.2.2⟩⟩⟩
theorem cl_of {i : Int32} {m n : Nat} (h0 : 0 ≤ i.toInt) (h1 : i.toInt < m) (hm : m ≤ n) : ¬ (i < 0 ∨ n ≤ i.toNatClampNeg) := i32_cl h0 (by omega)
theorem rN (R : qR G F X k h) (L : lF S F z) {i : Int32} (h0 : 0 ≤ i.toInt) (h1 : i.toInt < S.v1) : faR h (some S.a1) 4 i = some (some (S.nR i.toNatClampNeg)) := by
  obtain ⟨f, e, q⟩ := L.f1
  have nx := i32_nat h0
  rw [faR_C (R.lo _ _ e).2 (cl_of h0 h1 L.ad.2.2.1), q _ (by omega)]
theorem rO (R : qR G F X k h) (L : lF S F z) {i : Int32} (h0 : 0 ≤ i.toInt) (h1 : i.toInt < S.v2) : faR h (some S.a2) 4 i = some (some (S.oR i.toNatClampNeg)) := by
  obtain ⟨f, e, q⟩ := L.f2
  have nx := i32_nat h0
  rw [faR_C (R.lo _ _ e).2 (cl_of h0 h1 L.ad.2.2.2.2), q _ (by omega)]
theorem rT (R : qR G F X k h) (L : lF S F z) {i : Int32} (h0 : 0 ≤ i.toInt) (h1 : i.toInt < S.v6) : faR h (some S.a6) 4 i = some (some (S.tR i.toNatClampNeg)) := by
  obtain ⟨f, e, q⟩ := L.f6
  have nx := i32_nat h0
  rw [faR_C (R.lo _ _ e).2 (cl_of h0 h1 L.tr.2.2), q _ (by omega)]
theorem rK (R : qR G F X k h) (L : lF S F z) {i : Int32} (h0 : 0 ≤ i.toInt) (h1 : i.toInt < 12) : faR h (some S.a7) 4 i = some (some (S.kR i.toNatClampNeg)) := by
  obtain ⟨f, e, q⟩ := L.f7
  have nx := i32_nat h0
  rw [faR_C (R.lo _ _ e).2 (cl_of (m := 12) h0 h1 (Nat.le_refl _)), q _ (by omega)]
theorem rC (R : qR G F X k h) (L : lF S F z) {i : Int32} (h0 : 0 ≤ i.toInt) (h1 : i.toInt < 30) : faR h (some S.a5) 4 i = some (S.cR i.toNatClampNeg) := faR_C (R.lo _ _ L.e5).2 (cl_of (m := 30) h0 h1 (Nat.le_refl _))
theorem v3 (R : qR G F X k h) (L : lF S F z) {i : Int32} (h0 : 0 ≤ i.toInt) (h1 : i.toInt < 30) : faI h (some S.a3) 1 i = some (S.g3 i.toNatClampNeg) := faI_C (R.lo _ _ L.e3).2 (cl_of (m := 30) h0 h1 (Nat.le_refl _))
theorem v4 (R : qR G F X k h) (L : lF S F z) {i : Int32} (h0 : 0 ≤ i.toInt) (h1 : i.toInt < 30) : faI h (some S.a4) 1 i = some (S.g4 i.toNatClampNeg) := faI_C (R.lo _ _ L.e4).2 (cl_of (m := 30) h0 h1 (Nat.le_refl _))
theorem vN (R : qR G F X k h) (L : lF S F z) {i : Nat} (hi : i < S.v1) {j : Int32} (h0 : 0 ≤ j.toInt) (h1 : j.toInt < 8) : faI h (some (S.nR i)) 0 j = some (S.nV i j.toNatClampNeg) := faI_C (R.lo _ _ (L.n1 i hi).1).2 (cl_of (m := 8) h0 h1 (Nat.le_refl _))
theorem vO (R : qR G F X k h) (L : lF S F z) {i : Nat} (hi : i < S.v2) {j : Int32} (h0 : 0 ≤ j.toInt) (h1 : j.toInt < 4) : faI h (some (S.oR i)) 0 j = some (S.oV i j.toNatClampNeg) := faI_C (R.lo _ _ (L.n2 i hi).1).2 (cl_of (m := 4) h0 h1 (Nat.le_refl _))
theorem vT (R : qR G F X k h) (L : lF S F z) {i : Nat} (hi : i < S.v6) {j : Int32} (h0 : 0 ≤ j.toInt) (h1 : j.toInt < 4) : faI h (some (S.tR i)) 0 j = some (S.tV i j.toNatClampNeg) := faI_C (R.lo _ _ (L.n6 i hi).1).2 (cl_of (m := 4) h0 h1 (Nat.le_refl _))
theorem vK (R : qR G F X k h) (L : lF S F z) {i : Nat} (hi : i < 12) {j : Int32} (h0 : 0 ≤ j.toInt) (h1 : j.toInt < S.kN i) : faI h (some (S.kR i)) 0 j = some (S.kV i j.toNatClampNeg) := faI_C (R.lo _ _ (L.n7 i hi).1).2 (cl_of h0 h1 (Nat.le_refl _))
theorem lK (R : qR G F X k h) (L : lF S F z) {i : Nat} (hi : i < 12) : flen h (some (S.kR i)) 0 = some (nI (S.kN i)) := flen_C (R.lo _ _ (L.n7 i hi).1).2
theorem vB (R : qR G F X k h) (L : lF S F z) {j : Int32} (h0 : 0 ≤ j.toInt) (h1 : j.toInt < S.bN) : faI h (some S.bR) 1 j = some (S.bV j.toNatClampNeg) := faI_C (R.lo _ _ (L.bb.resolve_left (by omega)).1).2 (cl_of h0 h1 (Nat.le_refl _))
theorem wN (R : qR G F X k h) (L : lF S F z) {i : Nat} (hi : i < S.v1) {j : Int32} (h0 : 0 ≤ j.toInt) (h1 : j.toInt < 8) (x : Int32) : ∃ h2, fsI h (some (S.nR i)) 0 j x = some h2 ∧ qR G (qu F (S.nR i) (some (ri 8 (upd (S.nV i) j.toNatClampNeg x)))) X k h2 ∧ lF (S.s_nV (qu S.nV i (upd (S.nV i) j.toNatClampNeg x))) (qu F (S.nR i) (some (ri 8 (upd (S.nV i) j.toNatClampNeg x)))) z := by
  have ne : ∀ {v : Option fCe} (y : Nat), S.tg y ≠ (0, i) → qu F (S.nR i) v y = F y := fun y q => qu_ne (fun w => q (by rw [w]; exact (L.n1 i hi).2))
  exact ⟨_, fsI_C (R.lo _ _ (L.n1 i hi).1).2 (cl_of (m := 8) h0 h1 (Nat.le_refl _)), R.setF (L.n1 i hi).1 (Or.inr (Or.inl rfl)), ⟨((ne _ (tgq L.tl.1 (by decide))).trans L.ob), (by obtain ⟨f, e, q⟩ := L.f1; exact ⟨f, ((ne _ (tgq L.tl.2.1 (by decide))).trans e), q⟩), fun b hb => (by by_cases q : b = i; (subst q; exact ⟨(by show qu F (S.nR b) _ (S.nR b) = some (ri 8 (qu S.nV b _ b)); rw [qu_eq, qu_eq]), (L.n1 b hb).2⟩); exact ⟨(by show qu F (S.nR i) _ (S.nR b) = some (ri 8 (qu S.nV i _ b)); rw [qu_ne q]; exact (ne _ (tgr ((L.n1 b hb).2) q)).trans (L.n1 b hb).1), (L.n1 b hb).2⟩), (by obtain ⟨f, e, q⟩ := L.f2; exact ⟨f, ((ne _ (tgq L.tl.2.2.1 (by decide))).trans e), q⟩), fun i hi => ⟨(ne _ (tgq (L.n2 i hi).2 (by decide))).trans (L.n2 i hi).1, (L.n2 i hi).2⟩, ((ne _ (tgq L.tl.2.2.2.1 (by decide))).trans L.e3), ((ne _ (tgq L.tl.2.2.2.2.1 (by decide))).trans L.e4), ((ne _ (tgq L.tl.2.2.2.2.2.1 (by decide))).trans L.e5), (by obtain ⟨f, e, q⟩ := L.f6; exact ⟨f, ((ne _ (tgq L.tl.2.2.2.2.2.2.1 (by decide))).trans e), q⟩), fun i hi => ⟨(ne _ (tgq (L.n6 i hi).2 (by decide))).trans (L.n6 i hi).1, (L.n6 i hi).2⟩, (by obtain ⟨f, e, q⟩ := L.f7; exact ⟨f, ((ne _ (tgq L.tl.2.2.2.2.2.2.2 (by decide))).trans e), q⟩), fun i hi => ⟨(ne _ (tgq (L.n7 i hi).2 (by decide))).trans (L.n7 i hi).1, (L.n7 i hi).2⟩, L.bb.imp id (fun q => ⟨(ne _ (tgq q.2 (by decide))).trans q.1, q.2⟩), L.tl, L.ad, L.tr⟩⟩
theorem wO (R : qR G F X k h) (L : lF S F z) {i : Nat} (hi : i < S.v2) {j : Int32} (h0 : 0 ≤ j.toInt) (h1 : j.toInt < 4) (x : Int32) : ∃ h2, fsI h (some (S.oR i)) 0 j x = some h2 ∧ qR G (qu F (S.oR i) (some (ri 4 (upd (S.oV i) j.toNatClampNeg x)))) X k h2 ∧ lF (S.s_oV (qu S.oV i (upd (S.oV i) j.toNatClampNeg x))) (qu F (S.oR i) (some (ri 4 (upd (S.oV i) j.toNatClampNeg x)))) z := by
  have ne : ∀ {v : Option fCe} (y : Nat), S.tg y ≠ (1, i) → qu F (S.oR i) v y = F y := fun y q => qu_ne (fun w => q (by rw [w]; exact (L.n2 i hi).2))
  exact ⟨_, fsI_C (R.lo _ _ (L.n2 i hi).1).2 (cl_of (m := 4) h0 h1 (Nat.le_refl _)), R.setF (L.n2 i hi).1 (Or.inr (Or.inl rfl)), ⟨((ne _ (tgq L.tl.1 (by decide))).trans L.ob), (by obtain ⟨f, e, q⟩ := L.f1; exact ⟨f, ((ne _ (tgq L.tl.2.1 (by decide))).trans e), q⟩), fun i hi => ⟨(ne _ (tgq (L.n1 i hi).2 (by decide))).trans (L.n1 i hi).1, (L.n1 i hi).2⟩, (by obtain ⟨f, e, q⟩ := L.f2; exact ⟨f, ((ne _ (tgq L.tl.2.2.1 (by decide))).trans e), q⟩), fun b hb => (by by_cases q : b = i; (subst q; exact ⟨(by show qu F (S.oR b) _ (S.oR b) = some (ri 4 (qu S.oV b _ b)); rw [qu_eq, qu_eq]), (L.n2 b hb).2⟩); exact ⟨(by show qu F (S.oR i) _ (S.oR b) = some (ri 4 (qu S.oV i _ b)); rw [qu_ne q]; exact (ne _ (tgr ((L.n2 b hb).2) q)).trans (L.n2 b hb).1), (L.n2 b hb).2⟩), ((ne _ (tgq L.tl.2.2.2.1 (by decide))).trans L.e3), ((ne _ (tgq L.tl.2.2.2.2.1 (by decide))).trans L.e4), ((ne _ (tgq L.tl.2.2.2.2.2.1 (by decide))).trans L.e5), (by obtain ⟨f, e, q⟩ := L.f6; exact ⟨f, ((ne _ (tgq L.tl.2.2.2.2.2.2.1 (by decide))).trans e), q⟩), fun i hi => ⟨(ne _ (tgq (L.n6 i hi).2 (by decide))).trans (L.n6 i hi).1, (L.n6 i hi).2⟩, (by obtain ⟨f, e, q⟩ := L.f7; exact ⟨f, ((ne _ (tgq L.tl.2.2.2.2.2.2.2 (by decide))).trans e), q⟩), fun i hi => ⟨(ne _ (tgq (L.n7 i hi).2 (by decide))).trans (L.n7 i hi).1, (L.n7 i hi).2⟩, L.bb.imp id (fun q => ⟨(ne _ (tgq q.2 (by decide))).trans q.1, q.2⟩), L.tl, L.ad, L.tr⟩⟩
theorem wK (R : qR G F X k h) (L : lF S F z) {i : Nat} (hi : i < 12) {j : Int32} (h0 : 0 ≤ j.toInt) (h1 : j.toInt < S.kN i) (x : Int32) : ∃ h2, fsI h (some (S.kR i)) 0 j x = some h2 ∧ qR G (qu F (S.kR i) (some (ri (S.kN i) (upd (S.kV i) j.toNatClampNeg x)))) X k h2 ∧ lF (S.s_kV (qu S.kV i (upd (S.kV i) j.toNatClampNeg x))) (qu F (S.kR i) (some (ri (S.kN i) (upd (S.kV i) j.toNatClampNeg x)))) z := by
  have ne : ∀ {v : Option fCe} (y : Nat), S.tg y ≠ (3, i) → qu F (S.kR i) v y = F y := fun y q => qu_ne (fun w => q (by rw [w]; exact (L.n7 i hi).2))
  exact ⟨_, fsI_C (R.lo _ _ (L.n7 i hi).1).2 (cl_of h0 h1 (Nat.le_refl _)), R.setF (L.n7 i hi).1 (Or.inr (Or.inl rfl)), ⟨((ne _ (tgq L.tl.1 (by decide))).trans L.ob), (by obtain ⟨f, e, q⟩ := L.f1; exact ⟨f, ((ne _ (tgq L.tl.2.1 (by decide))).trans e), q⟩), fun i hi => ⟨(ne _ (tgq (L.n1 i hi).2 (by decide))).trans (L.n1 i hi).1, (L.n1 i hi).2⟩, (by obtain ⟨f, e, q⟩ := L.f2; exact ⟨f, ((ne _ (tgq L.tl.2.2.1 (by decide))).trans e), q⟩), fun i hi => ⟨(ne _ (tgq (L.n2 i hi).2 (by decide))).trans (L.n2 i hi).1, (L.n2 i hi).2⟩, ((ne _ (tgq L.tl.2.2.2.1 (by decide))).trans L.e3), ((ne _ (tgq L.tl.2.2.2.2.1 (by decide))).trans L.e4), ((ne _ (tgq L.tl.2.2.2.2.2.1 (by decide))).trans L.e5), (by obtain ⟨f, e, q⟩ := L.f6; exact ⟨f, ((ne _ (tgq L.tl.2.2.2.2.2.2.1 (by decide))).trans e), q⟩), fun i hi => ⟨(ne _ (tgq (L.n6 i hi).2 (by decide))).trans (L.n6 i hi).1, (L.n6 i hi).2⟩, (by obtain ⟨f, e, q⟩ := L.f7; exact ⟨f, ((ne _ (tgq L.tl.2.2.2.2.2.2.2 (by decide))).trans e), q⟩), fun b hb => (by by_cases q : b = i; (subst q; exact ⟨(by show qu F (S.kR b) _ (S.kR b) = some (ri (S.kN b) (qu S.kV b _ b)); rw [qu_eq, qu_eq]), (L.n7 b hb).2⟩); exact ⟨(by show qu F (S.kR i) _ (S.kR b) = some (ri (S.kN b) (qu S.kV i _ b)); rw [qu_ne q]; exact (ne _ (tgr ((L.n7 b hb).2) q)).trans (L.n7 b hb).1), (L.n7 b hb).2⟩), L.bb.imp id (fun q => ⟨(ne _ (tgq q.2 (by decide))).trans q.1, q.2⟩), L.tl, L.ad, L.tr⟩⟩
theorem w3 (R : qR G F X k h) (L : lF S F z) {j : Int32} (h0 : 0 ≤ j.toInt) (h1 : j.toInt < 30) (x : Int32) : ∃ h2, fsI h (some S.a3) 1 j x = some h2 ∧ qR G (qu F S.a3 (some (rb 30 (upd S.g3 j.toNatClampNeg x)))) X k h2 ∧ lF (S.s_g3 (upd S.g3 j.toNatClampNeg x)) (qu F S.a3 (some (rb 30 (upd S.g3 j.toNatClampNeg x)))) z := by
  have ne : ∀ {v : Option fCe} (y : Nat), S.tg y ≠ (8, 0) → qu F S.a3 v y = F y := fun y q => qu_ne (fun w => q (by rw [w]; exact L.tl.2.2.2.1))
  exact ⟨_, fsI_C (R.lo _ _ L.e3).2 (cl_of (m := 30) h0 h1 (Nat.le_refl _)), R.setF L.e3 (Or.inr (Or.inr (Or.inl rfl))), ⟨((ne _ (tgq L.tl.1 (by decide))).trans L.ob), (by obtain ⟨f, e, q⟩ := L.f1; exact ⟨f, ((ne _ (tgq L.tl.2.1 (by decide))).trans e), q⟩), fun i hi => ⟨(ne _ (tgq (L.n1 i hi).2 (by decide))).trans (L.n1 i hi).1, (L.n1 i hi).2⟩, (by obtain ⟨f, e, q⟩ := L.f2; exact ⟨f, ((ne _ (tgq L.tl.2.2.1 (by decide))).trans e), q⟩), fun i hi => ⟨(ne _ (tgq (L.n2 i hi).2 (by decide))).trans (L.n2 i hi).1, (L.n2 i hi).2⟩, qu_eq, ((ne _ (tgq L.tl.2.2.2.2.1 (by decide))).trans L.e4), ((ne _ (tgq L.tl.2.2.2.2.2.1 (by decide))).trans L.e5), (by obtain ⟨f, e, q⟩ := L.f6; exact ⟨f, ((ne _ (tgq L.tl.2.2.2.2.2.2.1 (by decide))).trans e), q⟩), fun i hi => ⟨(ne _ (tgq (L.n6 i hi).2 (by decide))).trans (L.n6 i hi).1, (L.n6 i hi).2⟩, (by obtain ⟨f, e, q⟩ := L.f7; exact ⟨f, ((ne _ (tgq L.tl.2.2.2.2.2.2.2 (by decide))).trans e), q⟩), fun i hi => ⟨(ne _ (tgq (L.n7 i hi).2 (by decide))).trans (L.n7 i hi).1, (L.n7 i hi).2⟩, L.bb.imp id (fun q => ⟨(ne _ (tgq q.2 (by decide))).trans q.1, q.2⟩), L.tl, L.ad, L.tr⟩⟩
theorem w4 (R : qR G F X k h) (L : lF S F z) {j : Int32} (h0 : 0 ≤ j.toInt) (h1 : j.toInt < 30) (x : Int32) : ∃ h2, fsI h (some S.a4) 1 j x = some h2 ∧ qR G (qu F S.a4 (some (rb 30 (upd S.g4 j.toNatClampNeg x)))) X k h2 ∧ lF (S.s_g4 (upd S.g4 j.toNatClampNeg x)) (qu F S.a4 (some (rb 30 (upd S.g4 j.toNatClampNeg x)))) z := by
  have ne : ∀ {v : Option fCe} (y : Nat), S.tg y ≠ (9, 0) → qu F S.a4 v y = F y := fun y q => qu_ne (fun w => q (by rw [w]; exact L.tl.2.2.2.2.1))
  exact ⟨_, fsI_C (R.lo _ _ L.e4).2 (cl_of (m := 30) h0 h1 (Nat.le_refl _)), R.setF L.e4 (Or.inr (Or.inr (Or.inl rfl))), ⟨((ne _ (tgq L.tl.1 (by decide))).trans L.ob), (by obtain ⟨f, e, q⟩ := L.f1; exact ⟨f, ((ne _ (tgq L.tl.2.1 (by decide))).trans e), q⟩), fun i hi => ⟨(ne _ (tgq (L.n1 i hi).2 (by decide))).trans (L.n1 i hi).1, (L.n1 i hi).2⟩, (by obtain ⟨f, e, q⟩ := L.f2; exact ⟨f, ((ne _ (tgq L.tl.2.2.1 (by decide))).trans e), q⟩), fun i hi => ⟨(ne _ (tgq (L.n2 i hi).2 (by decide))).trans (L.n2 i hi).1, (L.n2 i hi).2⟩, ((ne _ (tgq L.tl.2.2.2.1 (by decide))).trans L.e3), qu_eq, ((ne _ (tgq L.tl.2.2.2.2.2.1 (by decide))).trans L.e5), (by obtain ⟨f, e, q⟩ := L.f6; exact ⟨f, ((ne _ (tgq L.tl.2.2.2.2.2.2.1 (by decide))).trans e), q⟩), fun i hi => ⟨(ne _ (tgq (L.n6 i hi).2 (by decide))).trans (L.n6 i hi).1, (L.n6 i hi).2⟩, (by obtain ⟨f, e, q⟩ := L.f7; exact ⟨f, ((ne _ (tgq L.tl.2.2.2.2.2.2.2 (by decide))).trans e), q⟩), fun i hi => ⟨(ne _ (tgq (L.n7 i hi).2 (by decide))).trans (L.n7 i hi).1, (L.n7 i hi).2⟩, L.bb.imp id (fun q => ⟨(ne _ (tgq q.2 (by decide))).trans q.1, q.2⟩), L.tl, L.ad, L.tr⟩⟩
theorem wB (R : qR G F X k h) (L : lF S F z) {j : Int32} (h0 : 0 ≤ j.toInt) (h1 : j.toInt < S.bN) (x : Int32) : ∃ h2, fsI h (some S.bR) 1 j x = some h2 ∧ qR G (qu F S.bR (some (rb S.bN (upd S.bV j.toNatClampNeg x)))) X k h2 ∧ lF (S.s_bV (upd S.bV j.toNatClampNeg x)) (qu F S.bR (some (rb S.bN (upd S.bV j.toNatClampNeg x)))) z := by
  obtain ⟨b1, b2⟩ := L.bb.resolve_left (by omega)
  have ne : ∀ {v : Option fCe} (y : Nat), S.tg y ≠ (4, 0) → qu F S.bR v y = F y := fun y q => qu_ne (fun w => q (by rw [w]; exact b2))
  exact ⟨_, fsI_C (R.lo _ _ b1).2 (cl_of h0 h1 (Nat.le_refl _)), R.setF b1 (Or.inr (Or.inr (Or.inl rfl))), ⟨((ne _ (tgq L.tl.1 (by decide))).trans L.ob), (by obtain ⟨f, e, q⟩ := L.f1; exact ⟨f, ((ne _ (tgq L.tl.2.1 (by decide))).trans e), q⟩), fun i hi => ⟨(ne _ (tgq (L.n1 i hi).2 (by decide))).trans (L.n1 i hi).1, (L.n1 i hi).2⟩, (by obtain ⟨f, e, q⟩ := L.f2; exact ⟨f, ((ne _ (tgq L.tl.2.2.1 (by decide))).trans e), q⟩), fun i hi => ⟨(ne _ (tgq (L.n2 i hi).2 (by decide))).trans (L.n2 i hi).1, (L.n2 i hi).2⟩, ((ne _ (tgq L.tl.2.2.2.1 (by decide))).trans L.e3), ((ne _ (tgq L.tl.2.2.2.2.1 (by decide))).trans L.e4), ((ne _ (tgq L.tl.2.2.2.2.2.1 (by decide))).trans L.e5), (by obtain ⟨f, e, q⟩ := L.f6; exact ⟨f, ((ne _ (tgq L.tl.2.2.2.2.2.2.1 (by decide))).trans e), q⟩), fun i hi => ⟨(ne _ (tgq (L.n6 i hi).2 (by decide))).trans (L.n6 i hi).1, (L.n6 i hi).2⟩, (by obtain ⟨f, e, q⟩ := L.f7; exact ⟨f, ((ne _ (tgq L.tl.2.2.2.2.2.2.2 (by decide))).trans e), q⟩), fun i hi => ⟨(ne _ (tgq (L.n7 i hi).2 (by decide))).trans (L.n7 i hi).1, (L.n7 i hi).2⟩, Or.inr ⟨qu_eq, b2⟩, L.tl, L.ad, L.tr⟩⟩
/-- a new loose cell -/
theorem lF.fresh (L : lF S F z) {r : Nat} (hr : F r = none) (c : fCe) (e : Nat) : lF (S.s_tg (qu S.tg r (13, e))) (qu F r (some c)) z := by
  have nr : ∀ {y : Nat} {d : fCe}, F y = some d → y ≠ r := fun hy w => by rw [w, hr] at hy; cases hy
  exact ⟨((qu_ne (nr L.ob)).trans L.ob), (by obtain ⟨f, e, q⟩ := L.f1; exact ⟨f, ((qu_ne (nr e)).trans e), q⟩), fun i hi => ⟨(qu_ne (nr (L.n1 i hi).1)).trans (L.n1 i hi).1, (qu_ne (nr (L.n1 i hi).1)).trans (L.n1 i hi).2⟩, (by obtain ⟨f, e, q⟩ := L.f2; exact ⟨f, ((qu_ne (nr e)).trans e), q⟩), fun i hi => ⟨(qu_ne (nr (L.n2 i hi).1)).trans (L.n2 i hi).1, (qu_ne (nr (L.n2 i hi).1)).trans (L.n2 i hi).2⟩, ((qu_ne (nr L.e3)).trans L.e3), ((qu_ne (nr L.e4)).trans L.e4), ((qu_ne (nr L.e5)).trans L.e5), (by obtain ⟨f, e, q⟩ := L.f6; exact ⟨f, ((qu_ne (nr e)).trans e), q⟩), fun i hi => ⟨(qu_ne (nr (L.n6 i hi).1)).trans (L.n6 i hi).1, (qu_ne (nr (L.n6 i hi).1)).trans (L.n6 i hi).2⟩, (by obtain ⟨f, e, q⟩ := L.f7; exact ⟨f, ((qu_ne (nr e)).trans e), q⟩), fun i hi => ⟨(qu_ne (nr (L.n7 i hi).1)).trans (L.n7 i hi).1, (qu_ne (nr (L.n7 i hi).1)).trans (L.n7 i hi).2⟩, L.bb.imp id (fun q => ⟨(qu_ne (nr q.1)).trans q.1, (qu_ne (nr q.1)).trans q.2⟩), (by obtain ⟨f1, e1, -⟩ := L.f1; obtain ⟨f2, e2, -⟩ := L.f2; obtain ⟨f6, e6, -⟩ := L.f6; obtain ⟨f7, e7, -⟩ := L.f7; exact ⟨(qu_ne (nr L.ob)).trans L.tl.1, (qu_ne (nr e1)).trans L.tl.2.1, (qu_ne (nr e2)).trans L.tl.2.2.1, (qu_ne (nr L.e3)).trans L.tl.2.2.2.1, (qu_ne (nr L.e4)).trans L.tl.2.2.2.2.1, (qu_ne (nr L.e5)).trans L.tl.2.2.2.2.2.1, (qu_ne (nr e6)).trans L.tl.2.2.2.2.2.2.1, (qu_ne (nr e7)).trans L.tl.2.2.2.2.2.2.2⟩), L.ad, L.tr⟩
/-- a loose cell written -/
theorem lF.loose (L : lF S F z) {r e : Nat} (hr : S.tg r = (13, e)) (c : fCe) : lF S (qu F r (some c)) z := by
  have ne : ∀ {v : Option fCe} (y : Nat), S.tg y ≠ (13, e) → qu F r v y = F y := fun y q => qu_ne (fun w => q (by rw [w]; exact hr))
  exact ⟨((ne _ (tgq L.tl.1 (by decide))).trans L.ob), (by obtain ⟨f, e, q⟩ := L.f1; exact ⟨f, ((ne _ (tgq L.tl.2.1 (by decide))).trans e), q⟩), fun i hi => ⟨(ne _ (tgq (L.n1 i hi).2 (by decide))).trans (L.n1 i hi).1, (L.n1 i hi).2⟩, (by obtain ⟨f, e, q⟩ := L.f2; exact ⟨f, ((ne _ (tgq L.tl.2.2.1 (by decide))).trans e), q⟩), fun i hi => ⟨(ne _ (tgq (L.n2 i hi).2 (by decide))).trans (L.n2 i hi).1, (L.n2 i hi).2⟩, ((ne _ (tgq L.tl.2.2.2.1 (by decide))).trans L.e3), ((ne _ (tgq L.tl.2.2.2.2.1 (by decide))).trans L.e4), ((ne _ (tgq L.tl.2.2.2.2.2.1 (by decide))).trans L.e5), (by obtain ⟨f, e, q⟩ := L.f6; exact ⟨f, ((ne _ (tgq L.tl.2.2.2.2.2.2.1 (by decide))).trans e), q⟩), fun i hi => ⟨(ne _ (tgq (L.n6 i hi).2 (by decide))).trans (L.n6 i hi).1, (L.n6 i hi).2⟩, (by obtain ⟨f, e, q⟩ := L.f7; exact ⟨f, ((ne _ (tgq L.tl.2.2.2.2.2.2.2 (by decide))).trans e), q⟩), fun i hi => ⟨(ne _ (tgq (L.n7 i hi).2 (by decide))).trans (L.n7 i hi).1, (L.n7 i hi).2⟩, L.bb.imp id (fun q => ⟨(ne _ (tgq q.2 (by decide))).trans q.1, q.2⟩), L.tl, L.ad, L.tr⟩
/-- a new boolean array, to be used -/
theorem lF.freshB (L : lF S F z) {r : Nat} (hr : F r = none) (n : Nat) (g : Nat → Int32) : lF ((((S.s_tg (qu S.tg r (4, 0))).s_bR r).s_bN n).s_bV g) (qu F r (some (rb n g))) z := by
  have nr : ∀ {y : Nat} {d : fCe}, F y = some d → y ≠ r := fun hy w => by rw [w, hr] at hy; cases hy
  exact ⟨((qu_ne (nr L.ob)).trans L.ob), (by obtain ⟨f, e, q⟩ := L.f1; exact ⟨f, ((qu_ne (nr e)).trans e), q⟩), fun i hi => ⟨(qu_ne (nr (L.n1 i hi).1)).trans (L.n1 i hi).1, (qu_ne (nr (L.n1 i hi).1)).trans (L.n1 i hi).2⟩, (by obtain ⟨f, e, q⟩ := L.f2; exact ⟨f, ((qu_ne (nr e)).trans e), q⟩), fun i hi => ⟨(qu_ne (nr (L.n2 i hi).1)).trans (L.n2 i hi).1, (qu_ne (nr (L.n2 i hi).1)).trans (L.n2 i hi).2⟩, ((qu_ne (nr L.e3)).trans L.e3), ((qu_ne (nr L.e4)).trans L.e4), ((qu_ne (nr L.e5)).trans L.e5), (by obtain ⟨f, e, q⟩ := L.f6; exact ⟨f, ((qu_ne (nr e)).trans e), q⟩), fun i hi => ⟨(qu_ne (nr (L.n6 i hi).1)).trans (L.n6 i hi).1, (qu_ne (nr (L.n6 i hi).1)).trans (L.n6 i hi).2⟩, (by obtain ⟨f, e, q⟩ := L.f7; exact ⟨f, ((qu_ne (nr e)).trans e), q⟩), fun i hi => ⟨(qu_ne (nr (L.n7 i hi).1)).trans (L.n7 i hi).1, (qu_ne (nr (L.n7 i hi).1)).trans (L.n7 i hi).2⟩, Or.inr ⟨qu_eq, qu_eq⟩, (by obtain ⟨f1, e1, -⟩ := L.f1; obtain ⟨f2, e2, -⟩ := L.f2; obtain ⟨f6, e6, -⟩ := L.f6; obtain ⟨f7, e7, -⟩ := L.f7; exact ⟨(qu_ne (nr L.ob)).trans L.tl.1, (qu_ne (nr e1)).trans L.tl.2.1, (qu_ne (nr e2)).trans L.tl.2.2.1, (qu_ne (nr L.e3)).trans L.tl.2.2.2.1, (qu_ne (nr L.e4)).trans L.tl.2.2.2.2.1, (qu_ne (nr L.e5)).trans L.tl.2.2.2.2.2.1, (qu_ne (nr e6)).trans L.tl.2.2.2.2.2.2.1, (qu_ne (nr e7)).trans L.tl.2.2.2.2.2.2.2⟩), L.ad, L.tr⟩
/-- a loose row stored -/
theorem stN (R : qR G F X k h) (L : lF S F z) {r e : Nat} {g : Nat → Int32} {i : Int32} (hr : S.tg r = (13, e)) (hg : F r = some (ri 8 g)) (hi : i.toInt = S.v1) (hv : S.v1 < 30) : ∃ h2 c, fsA h (some S.a1) 4 0 i (some r) = some h2 ∧ qR G (qu F S.a1 (some c)) X k h2 ∧ lF ((((S.s_tg (qu S.tg r (0, S.v1))).s_nR (qu S.nR S.v1 r)).s_nV (qu S.nV S.v1 g)).s_v1 (S.v1 + 1)) (qu F S.a1 (some c)) z := by
  obtain ⟨f, fe, fq⟩ := L.f1
  have nx := i32_nat (i := i) (by omega)
  have ne : ∀ {v : Option fCe} (y : Nat), S.tg y ≠ (6, 0) → qu F S.a1 v y = F y := fun y q => qu_ne (fun w => q (by rw [w]; exact L.tl.2.1))
  have ar : r ≠ S.a1 := fun w => by rw [w, fe] at hg; exact absurd (congrArg qT (Option.some.inj hg)) (show (104 : Nat) ≠ 100 by decide)
  have tr : ∀ {y : Nat}, S.tg y ≠ (13, e) → qu S.tg r (0, S.v1) y = S.tg y := fun q => qu_ne (fun w => q (by rw [w]; exact hr))
  exact ⟨_, _, fsA_C (R.lo _ _ fe).2 (i32_cl (by omega) (by omega)) (R.lo _ _ hg).2, R.setF fe (Or.inr (Or.inr (Or.inr rfl))), ⟨((ne _ (tgq L.tl.1 (by decide))).trans L.ob), ⟨va_up f i.toNatClampNeg (some r), qu_eq, fun b hb => (by show va_up f i.toNatClampNeg (some r) b = some (qu S.nR S.v1 r b); have hb : b < S.v1 + 1 := hb; by_cases q : b = S.v1; (rw [q, qu_eq]; exact if_pos (by omega)); rw [qu_ne q]; exact (if_neg (by omega)).trans (fq b (by omega)))⟩, fun b hb => (by show qu F S.a1 _ (qu S.nR S.v1 r b) = some (ri 8 (qu S.nV S.v1 g b)) ∧ qu S.tg r (0, S.v1) (qu S.nR S.v1 r b) = (0, b); have hb : b < S.v1 + 1 := hb; by_cases q : b = S.v1; (rw [q, qu_eq, qu_eq, qu_ne ar]; exact ⟨hg, qu_eq⟩); rw [qu_ne q, qu_ne q]; exact ⟨(ne _ (tgq ((L.n1 b (by omega)).2) (by decide))).trans (L.n1 b (by omega)).1, (tr (tgq ((L.n1 b (by omega)).2) (by decide))).trans (L.n1 b (by omega)).2⟩), (by obtain ⟨f, e, q⟩ := L.f2; exact ⟨f, ((ne _ (tgq L.tl.2.2.1 (by decide))).trans e), q⟩), fun i hi => ⟨(ne _ (tgq (L.n2 i hi).2 (by decide))).trans (L.n2 i hi).1, (tr (tgq (L.n2 i hi).2 (by decide))).trans (L.n2 i hi).2⟩, ((ne _ (tgq L.tl.2.2.2.1 (by decide))).trans L.e3), ((ne _ (tgq L.tl.2.2.2.2.1 (by decide))).trans L.e4), ((ne _ (tgq L.tl.2.2.2.2.2.1 (by decide))).trans L.e5), (by obtain ⟨f, e, q⟩ := L.f6; exact ⟨f, ((ne _ (tgq L.tl.2.2.2.2.2.2.1 (by decide))).trans e), q⟩), fun i hi => ⟨(ne _ (tgq (L.n6 i hi).2 (by decide))).trans (L.n6 i hi).1, (tr (tgq (L.n6 i hi).2 (by decide))).trans (L.n6 i hi).2⟩, (by obtain ⟨f, e, q⟩ := L.f7; exact ⟨f, ((ne _ (tgq L.tl.2.2.2.2.2.2.2 (by decide))).trans e), q⟩), fun i hi => ⟨(ne _ (tgq (L.n7 i hi).2 (by decide))).trans (L.n7 i hi).1, (tr (tgq (L.n7 i hi).2 (by decide))).trans (L.n7 i hi).2⟩, L.bb.imp id (fun q => ⟨(ne _ (tgq q.2 (by decide))).trans q.1, (tr (tgq q.2 (by decide))).trans q.2⟩), ⟨((tr (tgq L.tl.1 (by decide))).trans L.tl.1), ((tr (tgq L.tl.2.1 (by decide))).trans L.tl.2.1), ((tr (tgq L.tl.2.2.1 (by decide))).trans L.tl.2.2.1), ((tr (tgq L.tl.2.2.2.1 (by decide))).trans L.tl.2.2.2.1), ((tr (tgq L.tl.2.2.2.2.1 (by decide))).trans L.tl.2.2.2.2.1), ((tr (tgq L.tl.2.2.2.2.2.1 (by decide))).trans L.tl.2.2.2.2.2.1), ((tr (tgq L.tl.2.2.2.2.2.2.1 (by decide))).trans L.tl.2.2.2.2.2.2.1), ((tr (tgq L.tl.2.2.2.2.2.2.2 (by decide))).trans L.tl.2.2.2.2.2.2.2)⟩, (by obtain ⟨d1, d2, d3, d4, d5⟩ := L.ad; refine ⟨d1, ?_, ?_, d4, d5⟩; (show S.added.toInt ≤ ((S.v1 + 1 : Nat) : Int); omega); show S.v1 + 1 ≤ 30; omega), L.tr⟩⟩
/-- a loose row stored -/
theorem stO (R : qR G F X k h) (L : lF S F z) {r e : Nat} {g : Nat → Int32} {i : Int32} (hr : S.tg r = (13, e)) (hg : F r = some (ri 4 g)) (hi : i.toInt = S.v2) (hv : S.v2 < 30) : ∃ h2 c, fsA h (some S.a2) 4 0 i (some r) = some h2 ∧ qR G (qu F S.a2 (some c)) X k h2 ∧ lF ((((S.s_tg (qu S.tg r (1, S.v2))).s_oR (qu S.oR S.v2 r)).s_oV (qu S.oV S.v2 g)).s_v2 (S.v2 + 1)) (qu F S.a2 (some c)) z := by
  obtain ⟨f, fe, fq⟩ := L.f2
  have nx := i32_nat (i := i) (by omega)
  have ne : ∀ {v : Option fCe} (y : Nat), S.tg y ≠ (7, 0) → qu F S.a2 v y = F y := fun y q => qu_ne (fun w => q (by rw [w]; exact L.tl.2.2.1))
  have ar : r ≠ S.a2 := fun w => by rw [w, fe] at hg; exact absurd (congrArg qT (Option.some.inj hg)) (show (104 : Nat) ≠ 100 by decide)
  have tr : ∀ {y : Nat}, S.tg y ≠ (13, e) → qu S.tg r (1, S.v2) y = S.tg y := fun q => qu_ne (fun w => q (by rw [w]; exact hr))
  exact ⟨_, _, fsA_C (R.lo _ _ fe).2 (i32_cl (by omega) (by omega)) (R.lo _ _ hg).2, R.setF fe (Or.inr (Or.inr (Or.inr rfl))), ⟨((ne _ (tgq L.tl.1 (by decide))).trans L.ob), (by obtain ⟨f, e, q⟩ := L.f1; exact ⟨f, ((ne _ (tgq L.tl.2.1 (by decide))).trans e), q⟩), fun i hi => ⟨(ne _ (tgq (L.n1 i hi).2 (by decide))).trans (L.n1 i hi).1, (tr (tgq (L.n1 i hi).2 (by decide))).trans (L.n1 i hi).2⟩, ⟨va_up f i.toNatClampNeg (some r), qu_eq, fun b hb => (by show va_up f i.toNatClampNeg (some r) b = some (qu S.oR S.v2 r b); have hb : b < S.v2 + 1 := hb; by_cases q : b = S.v2; (rw [q, qu_eq]; exact if_pos (by omega)); rw [qu_ne q]; exact (if_neg (by omega)).trans (fq b (by omega)))⟩, fun b hb => (by show qu F S.a2 _ (qu S.oR S.v2 r b) = some (ri 4 (qu S.oV S.v2 g b)) ∧ qu S.tg r (1, S.v2) (qu S.oR S.v2 r b) = (1, b); have hb : b < S.v2 + 1 := hb; by_cases q : b = S.v2; (rw [q, qu_eq, qu_eq, qu_ne ar]; exact ⟨hg, qu_eq⟩); rw [qu_ne q, qu_ne q]; exact ⟨(ne _ (tgq ((L.n2 b (by omega)).2) (by decide))).trans (L.n2 b (by omega)).1, (tr (tgq ((L.n2 b (by omega)).2) (by decide))).trans (L.n2 b (by omega)).2⟩), ((ne _ (tgq L.tl.2.2.2.1 (by decide))).trans L.e3), ((ne _ (tgq L.tl.2.2.2.2.1 (by decide))).trans L.e4), ((ne _ (tgq L.tl.2.2.2.2.2.1 (by decide))).trans L.e5), (by obtain ⟨f, e, q⟩ := L.f6; exact ⟨f, ((ne _ (tgq L.tl.2.2.2.2.2.2.1 (by decide))).trans e), q⟩), fun i hi => ⟨(ne _ (tgq (L.n6 i hi).2 (by decide))).trans (L.n6 i hi).1, (tr (tgq (L.n6 i hi).2 (by decide))).trans (L.n6 i hi).2⟩, (by obtain ⟨f, e, q⟩ := L.f7; exact ⟨f, ((ne _ (tgq L.tl.2.2.2.2.2.2.2 (by decide))).trans e), q⟩), fun i hi => ⟨(ne _ (tgq (L.n7 i hi).2 (by decide))).trans (L.n7 i hi).1, (tr (tgq (L.n7 i hi).2 (by decide))).trans (L.n7 i hi).2⟩, L.bb.imp id (fun q => ⟨(ne _ (tgq q.2 (by decide))).trans q.1, (tr (tgq q.2 (by decide))).trans q.2⟩), ⟨((tr (tgq L.tl.1 (by decide))).trans L.tl.1), ((tr (tgq L.tl.2.1 (by decide))).trans L.tl.2.1), ((tr (tgq L.tl.2.2.1 (by decide))).trans L.tl.2.2.1), ((tr (tgq L.tl.2.2.2.1 (by decide))).trans L.tl.2.2.2.1), ((tr (tgq L.tl.2.2.2.2.1 (by decide))).trans L.tl.2.2.2.2.1), ((tr (tgq L.tl.2.2.2.2.2.1 (by decide))).trans L.tl.2.2.2.2.2.1), ((tr (tgq L.tl.2.2.2.2.2.2.1 (by decide))).trans L.tl.2.2.2.2.2.2.1), ((tr (tgq L.tl.2.2.2.2.2.2.2 (by decide))).trans L.tl.2.2.2.2.2.2.2)⟩, (by obtain ⟨d1, d2, d3, d4, d5⟩ := L.ad; refine ⟨d1, d2, d3, ?_, ?_⟩; (show S.added.toInt ≤ ((S.v2 + 1 : Nat) : Int); omega); show S.v2 + 1 ≤ 30; omega), L.tr⟩⟩
/-- a loose row stored -/
theorem stT (R : qR G F X k h) (L : lF S F z) {r e : Nat} {g : Nat → Int32} {i : Int32} (hr : S.tg r = (13, e)) (hg : F r = some (ri 4 g)) (hi : i.toInt = S.v6) (hv : S.v6 < 12) : ∃ h2 c, fsA h (some S.a6) 4 0 i (some r) = some h2 ∧ qR G (qu F S.a6 (some c)) X k h2 ∧ lF ((((S.s_tg (qu S.tg r (2, S.v6))).s_tR (qu S.tR S.v6 r)).s_tV (qu S.tV S.v6 g)).s_v6 (S.v6 + 1)) (qu F S.a6 (some c)) z := by
  obtain ⟨f, fe, fq⟩ := L.f6
  have nx := i32_nat (i := i) (by omega)
  have ne : ∀ {v : Option fCe} (y : Nat), S.tg y ≠ (11, 0) → qu F S.a6 v y = F y := fun y q => qu_ne (fun w => q (by rw [w]; exact L.tl.2.2.2.2.2.2.1))
  have ar : r ≠ S.a6 := fun w => by rw [w, fe] at hg; exact absurd (congrArg qT (Option.some.inj hg)) (show (104 : Nat) ≠ 100 by decide)
  have tr : ∀ {y : Nat}, S.tg y ≠ (13, e) → qu S.tg r (2, S.v6) y = S.tg y := fun q => qu_ne (fun w => q (by rw [w]; exact hr))
  exact ⟨_, _, fsA_C (R.lo _ _ fe).2 (i32_cl (by omega) (by omega)) (R.lo _ _ hg).2, R.setF fe (Or.inr (Or.inr (Or.inr rfl))), ⟨((ne _ (tgq L.tl.1 (by decide))).trans L.ob), (by obtain ⟨f, e, q⟩ := L.f1; exact ⟨f, ((ne _ (tgq L.tl.2.1 (by decide))).trans e), q⟩), fun i hi => ⟨(ne _ (tgq (L.n1 i hi).2 (by decide))).trans (L.n1 i hi).1, (tr (tgq (L.n1 i hi).2 (by decide))).trans (L.n1 i hi).2⟩, (by obtain ⟨f, e, q⟩ := L.f2; exact ⟨f, ((ne _ (tgq L.tl.2.2.1 (by decide))).trans e), q⟩), fun i hi => ⟨(ne _ (tgq (L.n2 i hi).2 (by decide))).trans (L.n2 i hi).1, (tr (tgq (L.n2 i hi).2 (by decide))).trans (L.n2 i hi).2⟩, ((ne _ (tgq L.tl.2.2.2.1 (by decide))).trans L.e3), ((ne _ (tgq L.tl.2.2.2.2.1 (by decide))).trans L.e4), ((ne _ (tgq L.tl.2.2.2.2.2.1 (by decide))).trans L.e5), ⟨va_up f i.toNatClampNeg (some r), qu_eq, fun b hb => (by show va_up f i.toNatClampNeg (some r) b = some (qu S.tR S.v6 r b); have hb : b < S.v6 + 1 := hb; by_cases q : b = S.v6; (rw [q, qu_eq]; exact if_pos (by omega)); rw [qu_ne q]; exact (if_neg (by omega)).trans (fq b (by omega)))⟩, fun b hb => (by show qu F S.a6 _ (qu S.tR S.v6 r b) = some (ri 4 (qu S.tV S.v6 g b)) ∧ qu S.tg r (2, S.v6) (qu S.tR S.v6 r b) = (2, b); have hb : b < S.v6 + 1 := hb; by_cases q : b = S.v6; (rw [q, qu_eq, qu_eq, qu_ne ar]; exact ⟨hg, qu_eq⟩); rw [qu_ne q, qu_ne q]; exact ⟨(ne _ (tgq ((L.n6 b (by omega)).2) (by decide))).trans (L.n6 b (by omega)).1, (tr (tgq ((L.n6 b (by omega)).2) (by decide))).trans (L.n6 b (by omega)).2⟩), (by obtain ⟨f, e, q⟩ := L.f7; exact ⟨f, ((ne _ (tgq L.tl.2.2.2.2.2.2.2 (by decide))).trans e), q⟩), fun i hi => ⟨(ne _ (tgq (L.n7 i hi).2 (by decide))).trans (L.n7 i hi).1, (tr (tgq (L.n7 i hi).2 (by decide))).trans (L.n7 i hi).2⟩, L.bb.imp id (fun q => ⟨(ne _ (tgq q.2 (by decide))).trans q.1, (tr (tgq q.2 (by decide))).trans q.2⟩), ⟨((tr (tgq L.tl.1 (by decide))).trans L.tl.1), ((tr (tgq L.tl.2.1 (by decide))).trans L.tl.2.1), ((tr (tgq L.tl.2.2.1 (by decide))).trans L.tl.2.2.1), ((tr (tgq L.tl.2.2.2.1 (by decide))).trans L.tl.2.2.2.1), ((tr (tgq L.tl.2.2.2.2.1 (by decide))).trans L.tl.2.2.2.2.1), ((tr (tgq L.tl.2.2.2.2.2.1 (by decide))).trans L.tl.2.2.2.2.2.1), ((tr (tgq L.tl.2.2.2.2.2.2.1 (by decide))).trans L.tl.2.2.2.2.2.2.1), ((tr (tgq L.tl.2.2.2.2.2.2.2 (by decide))).trans L.tl.2.2.2.2.2.2.2)⟩, L.ad, (by obtain ⟨d1, d2, d3⟩ := L.tr; refine ⟨d1, ?_, ?_⟩; (show S.tracks.toInt ≤ ((S.v6 + 1 : Nat) : Int); omega); show S.v6 + 1 ≤ 12; omega)⟩⟩
/-- a row of keys put anew -/
theorem stK (R : qR G F X k h) (L : lF S F z) {r e n : Nat} {g : Nat → Int32} {i : Int32} (hr : S.tg r = (13, e)) (hg : F r = some (ri n g)) (h0 : 0 ≤ i.toInt) (h1 : i.toInt < 12) : ∃ h2 c, fsA h (some S.a7) 4 0 i (some r) = some h2 ∧ qR G (qu F S.a7 (some c)) X k h2 ∧ lF ((((S.s_tg (qu (qu S.tg (S.kR i.toNatClampNeg) (14, 0)) r (3, i.toNatClampNeg))).s_kR (qu S.kR i.toNatClampNeg r)).s_kN (qu S.kN i.toNatClampNeg n)).s_kV (qu S.kV i.toNatClampNeg g)) (qu F S.a7 (some c)) z := by
  obtain ⟨f, fe, fq⟩ := L.f7
  have nx := i32_nat h0
  generalize hT : i.toNatClampNeg = t at nx ⊢
  have ne : ∀ {v : Option fCe} (y : Nat), S.tg y ≠ (12, 0) → qu F S.a7 v y = F y := fun y q => qu_ne (fun w => q (by rw [w]; exact L.tl.2.2.2.2.2.2.2))
  have ar : r ≠ S.a7 := fun w => by rw [w, fe] at hg; exact absurd (congrArg qT (Option.some.inj hg)) (show (104 : Nat) ≠ 100 by decide)
  have tk := (L.n7 t (by omega)).2
  have tr : ∀ {y : Nat}, S.tg y ≠ (13, e) → S.tg y ≠ (3, t) → qu (qu S.tg (S.kR t) (14, 0)) r (3, t) y = S.tg y := fun q q2 => by rw [qu_ne (fun w => q (by rw [w]; exact hr)), qu_ne (fun w => q2 (by rw [w]; exact tk))]
  exact ⟨_, ro 12 (va_up f t (some r)), (fsA_C (R.lo _ _ fe).2 (i32_cl h0 h1) (R.lo _ _ hg).2).trans (by rw [hT]; rfl), R.setF fe (Or.inr (Or.inr (Or.inr rfl))), ⟨((ne _ (tgq L.tl.1 (by decide))).trans L.ob), (by obtain ⟨f, e, q⟩ := L.f1; exact ⟨f, ((ne _ (tgq L.tl.2.1 (by decide))).trans e), q⟩), fun i hi => ⟨(ne _ (tgq (L.n1 i hi).2 (by decide))).trans (L.n1 i hi).1, (tr (tgq (L.n1 i hi).2 (by decide)) (tgq (L.n1 i hi).2 (by decide))).trans (L.n1 i hi).2⟩, (by obtain ⟨f, e, q⟩ := L.f2; exact ⟨f, ((ne _ (tgq L.tl.2.2.1 (by decide))).trans e), q⟩), fun i hi => ⟨(ne _ (tgq (L.n2 i hi).2 (by decide))).trans (L.n2 i hi).1, (tr (tgq (L.n2 i hi).2 (by decide)) (tgq (L.n2 i hi).2 (by decide))).trans (L.n2 i hi).2⟩, ((ne _ (tgq L.tl.2.2.2.1 (by decide))).trans L.e3), ((ne _ (tgq L.tl.2.2.2.2.1 (by decide))).trans L.e4), ((ne _ (tgq L.tl.2.2.2.2.2.1 (by decide))).trans L.e5), (by obtain ⟨f, e, q⟩ := L.f6; exact ⟨f, ((ne _ (tgq L.tl.2.2.2.2.2.2.1 (by decide))).trans e), q⟩), fun i hi => ⟨(ne _ (tgq (L.n6 i hi).2 (by decide))).trans (L.n6 i hi).1, (tr (tgq (L.n6 i hi).2 (by decide)) (tgq (L.n6 i hi).2 (by decide))).trans (L.n6 i hi).2⟩, ⟨va_up f t (some r), qu_eq, fun b hb => (by show va_up f t (some r) b = some (qu S.kR t r b); by_cases q : b = t; (rw [q, qu_eq]; exact if_pos rfl); rw [qu_ne q]; exact (if_neg q).trans (fq b hb))⟩, fun b hb => (by show qu F S.a7 _ (qu S.kR t r b) = some (ri (qu S.kN t n b) (qu S.kV t g b)) ∧ qu (qu S.tg (S.kR t) (14, 0)) r (3, t) (qu S.kR t r b) = (3, b); by_cases q : b = t; (rw [q, qu_eq, qu_eq, qu_eq, qu_ne ar]; exact ⟨hg, qu_eq⟩); rw [qu_ne q, qu_ne q, qu_ne q]; exact ⟨(ne _ (tgq (L.n7 b hb).2 (by decide))).trans (L.n7 b hb).1, (tr (tgq (L.n7 b hb).2 (by decide)) (tgr ((L.n7 b hb).2) q)).trans (L.n7 b hb).2⟩), L.bb.imp id (fun q => ⟨(ne _ (tgq q.2 (by decide))).trans q.1, (tr (tgq q.2 (by decide)) (tgq q.2 (by decide))).trans q.2⟩), ⟨((tr (tgq L.tl.1 (by decide)) (tgq L.tl.1 (by decide))).trans L.tl.1), ((tr (tgq L.tl.2.1 (by decide)) (tgq L.tl.2.1 (by decide))).trans L.tl.2.1), ((tr (tgq L.tl.2.2.1 (by decide)) (tgq L.tl.2.2.1 (by decide))).trans L.tl.2.2.1), ((tr (tgq L.tl.2.2.2.1 (by decide)) (tgq L.tl.2.2.2.1 (by decide))).trans L.tl.2.2.2.1), ((tr (tgq L.tl.2.2.2.2.1 (by decide)) (tgq L.tl.2.2.2.2.1 (by decide))).trans L.tl.2.2.2.2.1), ((tr (tgq L.tl.2.2.2.2.2.1 (by decide)) (tgq L.tl.2.2.2.2.2.1 (by decide))).trans L.tl.2.2.2.2.2.1), ((tr (tgq L.tl.2.2.2.2.2.2.1 (by decide)) (tgq L.tl.2.2.2.2.2.2.1 (by decide))).trans L.tl.2.2.2.2.2.2.1), ((tr (tgq L.tl.2.2.2.2.2.2.2 (by decide)) (tgq L.tl.2.2.2.2.2.2.2 (by decide))).trans L.tl.2.2.2.2.2.2.2)⟩, L.ad, L.tr⟩⟩
theorem stC (R : qR G F X k h) (L : lF S F z) {r n : Nat} {g : Nat → Int32} {i : Int32} (hg : F r = some (ri n g)) (h0 : 0 ≤ i.toInt) (h1 : i.toInt < 30) : ∃ h2 c, fsA h (some S.a5) 4 0 i (some r) = some h2 ∧ qR G (qu F S.a5 (some c)) X k h2 ∧ lF (S.s_cR (va_up S.cR i.toNatClampNeg (some r))) (qu F S.a5 (some c)) z := by
  have ne : ∀ {v : Option fCe} (y : Nat), S.tg y ≠ (10, 0) → qu F S.a5 v y = F y := fun y q => qu_ne (fun w => q (by rw [w]; exact L.tl.2.2.2.2.2.1))
  exact ⟨_, _, fsA_C (R.lo _ _ L.e5).2 (i32_cl h0 h1) (R.lo _ _ hg).2, R.setF L.e5 (Or.inr (Or.inr (Or.inr rfl))), ⟨((ne _ (tgq L.tl.1 (by decide))).trans L.ob), (by obtain ⟨f, e, q⟩ := L.f1; exact ⟨f, ((ne _ (tgq L.tl.2.1 (by decide))).trans e), q⟩), fun i hi => ⟨(ne _ (tgq (L.n1 i hi).2 (by decide))).trans (L.n1 i hi).1, (L.n1 i hi).2⟩, (by obtain ⟨f, e, q⟩ := L.f2; exact ⟨f, ((ne _ (tgq L.tl.2.2.1 (by decide))).trans e), q⟩), fun i hi => ⟨(ne _ (tgq (L.n2 i hi).2 (by decide))).trans (L.n2 i hi).1, (L.n2 i hi).2⟩, ((ne _ (tgq L.tl.2.2.2.1 (by decide))).trans L.e3), ((ne _ (tgq L.tl.2.2.2.2.1 (by decide))).trans L.e4), qu_eq, (by obtain ⟨f, e, q⟩ := L.f6; exact ⟨f, ((ne _ (tgq L.tl.2.2.2.2.2.2.1 (by decide))).trans e), q⟩), fun i hi => ⟨(ne _ (tgq (L.n6 i hi).2 (by decide))).trans (L.n6 i hi).1, (L.n6 i hi).2⟩, (by obtain ⟨f, e, q⟩ := L.f7; exact ⟨f, ((ne _ (tgq L.tl.2.2.2.2.2.2.2 (by decide))).trans e), q⟩), fun i hi => ⟨(ne _ (tgq (L.n7 i hi).2 (by decide))).trans (L.n7 i hi).1, (L.n7 i hi).2⟩, L.bb.imp id (fun q => ⟨(ne _ (tgq q.2 (by decide))).trans q.1, q.2⟩), L.tl, L.ad, L.tr⟩⟩
theorem stC0 (R : qR G F X k h) (L : lF S F z) {i : Int32} (h0 : 0 ≤ i.toInt) (h1 : i.toInt < 30) : ∃ h2 c, fsA h (some S.a5) 4 0 i none = some h2 ∧ qR G (qu F S.a5 (some c)) X k h2 ∧ lF (S.s_cR (va_up S.cR i.toNatClampNeg none)) (qu F S.a5 (some c)) z := by
  have ne : ∀ {v : Option fCe} (y : Nat), S.tg y ≠ (10, 0) → qu F S.a5 v y = F y := fun y q => qu_ne (fun w => q (by rw [w]; exact L.tl.2.2.2.2.2.1))
  exact ⟨_, _, fsA_N (R.lo _ _ L.e5).2 (i32_cl h0 h1), R.setF L.e5 (Or.inr (Or.inr (Or.inr rfl))), ⟨((ne _ (tgq L.tl.1 (by decide))).trans L.ob), (by obtain ⟨f, e, q⟩ := L.f1; exact ⟨f, ((ne _ (tgq L.tl.2.1 (by decide))).trans e), q⟩), fun i hi => ⟨(ne _ (tgq (L.n1 i hi).2 (by decide))).trans (L.n1 i hi).1, (L.n1 i hi).2⟩, (by obtain ⟨f, e, q⟩ := L.f2; exact ⟨f, ((ne _ (tgq L.tl.2.2.1 (by decide))).trans e), q⟩), fun i hi => ⟨(ne _ (tgq (L.n2 i hi).2 (by decide))).trans (L.n2 i hi).1, (L.n2 i hi).2⟩, ((ne _ (tgq L.tl.2.2.2.1 (by decide))).trans L.e3), ((ne _ (tgq L.tl.2.2.2.2.1 (by decide))).trans L.e4), qu_eq, (by obtain ⟨f, e, q⟩ := L.f6; exact ⟨f, ((ne _ (tgq L.tl.2.2.2.2.2.2.1 (by decide))).trans e), q⟩), fun i hi => ⟨(ne _ (tgq (L.n6 i hi).2 (by decide))).trans (L.n6 i hi).1, (L.n6 i hi).2⟩, (by obtain ⟨f, e, q⟩ := L.f7; exact ⟨f, ((ne _ (tgq L.tl.2.2.2.2.2.2.2 (by decide))).trans e), q⟩), fun i hi => ⟨(ne _ (tgq (L.n7 i hi).2 (by decide))).trans (L.n7 i hi).1, (L.n7 i hi).2⟩, L.bb.imp id (fun q => ⟨(ne _ (tgq q.2 (by decide))).trans q.1, q.2⟩), L.tl, L.ad, L.tr⟩⟩
/-! small numbers -/
theorem cell_or {L : Nat} {xs : Nat → Int32} {i : Int32} (q : 0 ≤ i.toInt ∧ i.toInt ≤ 1000) (hL : L ≤ 260) (hX : fX h = (X.1, L, xs)) : ∃ v, f_L_cell (some X.1) i h = some (v, h) := by
  have nx := i32_nat q.1
  unfold f_L_cell f_L_cell_L0 f_L_cell_L18
  have e1 : fxl h (some X.1) = some (Int32.ofNat L) := by
    unfold fxl
    rw [hX, if_pos rfl]
  rw [e1, Option.bind_some]
  by_cases z : Int32.ofNat L ≤ i
  · rw [if_pos z]
    exact ⟨_, rfl⟩
  · have e2 : fxI h (some X.1) i = some (xs i.toNatClampNeg) := by
      unfold fxI
      rw [hX, if_pos rfl]
      dsimp only
      have lt : i.toInt < (nI L).toInt := by
        have := mt Int32.le_iff_toInt_le.mpr z
        exact Int.not_le.mp this
      rw [nI_toInt (by omega)] at lt
      rw [if_neg (i32_cl q.1 lt)]
    rw [if_neg z, e2, Option.bind_some]
    exact ⟨_, rfl⟩
theorem i32_div {a b : Int32} (h1 : -1000000000 ≤ a.toInt.tdiv b.toInt) (h2 : a.toInt.tdiv b.toInt ≤ 1000000000) : (a / b).toInt = a.toInt.tdiv b.toInt := by
  rw [Int32.toInt_div]
  exact Int.bmod_eq_of_le (by omega) (by omega)
/-- a remainder of a number that isn't below 0 -/
theorem i32_rem {a b : Int32} (h0 : 0 ≤ a.toInt) (hb : 0 < b.toInt) : (a - a / b * b).toInt = a.toInt % b.toInt := by
  have hb2 := Int32.toInt_lt b
  have ha2 := Int32.toInt_lt a
  have e := Int.tdiv_eq_ediv_of_nonneg (b := b.toInt) h0
  have d0 : 0 ≤ a.toInt / b.toInt := Int.ediv_nonneg h0 (Int.le_of_lt hb)
  have d1 : a.toInt / b.toInt ≤ a.toInt := Int.ediv_le_self _ h0
  have m1 := Int.emod_add_mul_ediv a.toInt b.toInt
  have m2 := Int.emod_nonneg a.toInt (Int.ne_of_gt hb)
  have m3 := Int.emod_lt_of_pos a.toInt hb
  have c1 : a.toInt / b.toInt * b.toInt = b.toInt * (a.toInt / b.toInt) := Int.mul_comm _ _
  have r1 : (a / b).toInt = a.toInt / b.toInt := by
    rw [Int32.toInt_div, e]
    exact Int.bmod_eq_of_le (by omega) (by omega)
  have r2 : (a / b * b).toInt = a.toInt / b.toInt * b.toInt := by
    rw [Int32.toInt_mul, r1]
    exact Int.bmod_eq_of_le (by omega) (by omega)
  rw [Int32.toInt_sub, r2]
  rw [Int.bmod_eq_of_le (by omega) (by omega)]
  omega
theorem below_or {v n : Int32} (hn : 0 < n.toInt) : ∃ r, f_L_below v n h = some (r, h) ∧ 0 ≤ r.toInt ∧ r.toInt < n.toInt := by
  unfold f_L_below f_L_below_L0
  have h0 : 0 ≤ (v &&& (2147483647 : Int32)).toInt := by
    have b : (v &&& (2147483647 : Int32)).toBitVec.msb = false := by
      rw [Int32.toBitVec_and, BitVec.msb_and, show ((2147483647 : Int32).toBitVec).msb = false by decide, Bool.and_false]
    rw [← Int32.toInt_toBitVec, BitVec.toInt_eq_msb_cond, b, if_neg (by decide)]
    exact Int.natCast_nonneg _
  rw [if_neg (i32_0 (by omega))]
  refine ⟨_, rfl, ?_⟩
  rw [i32_rem h0 hn]
  exact ⟨Int.emod_nonneg _ (Int.ne_of_gt hn), Int.emod_lt_of_pos _ hn⟩
/-- a draw -/
theorem l_draw (R : qR G F X k h) (L : lF S F z) (sx : S.sc = X.1) (hL : X.2.1 ≤ 260) (hd : 0 ≤ S.draws.toInt ∧ S.draws.toInt ≤ 1000000) {n : Int32} (hn : 0 < n.toInt) : ∃ r h2, f_X8_draw S.lm n h = some (r, h2) ∧ (0 ≤ r.toInt ∧ r.toInt < n.toInt) ∧ qR G (qu F S.lm (some ((S.s_draws (S.draws + 1)).c z))) X k h2 ∧ lF (S.s_draws (S.draws + 1)) (qu F S.lm (some ((S.s_draws (S.draws + 1)).c z))) z := by
  have e24 : (24 : Int32).toInt = 24 := by decide
  have rm := i32_rem (a := S.draws) (b := 24) hd.1 (by decide)
  have m2 := Int.emod_nonneg S.draws.toInt (show (24 : Int) ≠ 0 by decide)
  have m3 := Int.emod_lt_of_pos S.draws.toInt (show (0 : Int) < 24 by decide)
  obtain ⟨v, fv⟩ := cell_or (h := h) (X := X) (L := X.2.1) (xs := X.2.2) (i := S.draws - S.draws / 24 * 24) (by rw [rm, e24]; omega) hL R.xx
  obtain ⟨r, fr, r1⟩ := below_or (h := h) (v := (v >>> (((S.draws / (24 : Int32)) - (S.draws / (24 : Int32)) / (8 : Int32) * (8 : Int32)) &&& 31)) + ((89 : Int32) * S.draws)) (n := n) hn
  obtain ⟨h2, w2, R2, L2⟩ := wL_draws R L (S.draws + 1)
  refine ⟨r, h2, ?_, r1, R2, L2⟩
  unfold f_X8_draw f_X8_draw_L0
  rw [gL_scr R L, Option.bind_some, gL_draws R L, Option.bind_some, sx, fv, Option.bind_some]
  dsimp only
  rw [gL_draws R L, Option.bind_some, Option.bind_some, fr, Option.bind_some]
  dsimp only
  rw [gL_draws R L, Option.bind_some, w2, Option.bind_some]
end LOOM
