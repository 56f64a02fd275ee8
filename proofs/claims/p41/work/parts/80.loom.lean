/-! The law's own object: what it holds, and its small questions. -/
section LOOM
variable {G : qS} {F : Nat → Option fCe} {X : Nat × Nat × (Nat → Int32)} {k : Nat} {h : fSt} {a : Nat}
def lS : Type := ((((Nat × Nat) × (Nat × (Nat × Nat))) × ((Nat × (Nat × Nat)) × (Nat × (Int32 × Int32)))) × (((Int32 × (Int32 × Int32)) × ((Nat → Option Nat) × ((Nat → Option Nat) × (Nat → Option Nat)))) × (((Nat → Option Nat) × ((Nat → Option Nat) × (Nat → Int32))) × ((Nat → Int32) × ((Nat → Nat × (Nat → Int32)) × (Nat → Nat × Nat))))))
def lS.lm (q : lS) : Nat := q.1.1.1.1
def lS.a1 (q : lS) : Nat := q.1.1.1.2
def lS.a2 (q : lS) : Nat := q.1.1.2.1
def lS.a3 (q : lS) : Nat := q.1.1.2.2.1
def lS.a4 (q : lS) : Nat := q.1.1.2.2.2
def lS.a5 (q : lS) : Nat := q.1.2.1.1
def lS.a6 (q : lS) : Nat := q.1.2.1.2.1
def lS.a7 (q : lS) : Nat := q.1.2.1.2.2
def lS.sc (q : lS) : Nat := q.1.2.2.1
def lS.draws (q : lS) : Int32 := q.1.2.2.2.1
def lS.added (q : lS) : Int32 := q.1.2.2.2.2
def lS.hangs (q : lS) : Int32 := q.2.1.1.1
def lS.tracks (q : lS) : Int32 := q.2.1.1.2.1
def lS.time (q : lS) : Int32 := q.2.1.1.2.2
def lS.f1 (q : lS) : Nat → Option Nat := q.2.1.2.1
def lS.f2 (q : lS) : Nat → Option Nat := q.2.1.2.2.1
def lS.f5 (q : lS) : Nat → Option Nat := q.2.1.2.2.2
def lS.f6 (q : lS) : Nat → Option Nat := q.2.2.1.1
def lS.f7 (q : lS) : Nat → Option Nat := q.2.2.1.2.1
def lS.g3 (q : lS) : Nat → Int32 := q.2.2.1.2.2
def lS.g4 (q : lS) : Nat → Int32 := q.2.2.2.1
def lS.rw_ (q : lS) : Nat → Nat × (Nat → Int32) := q.2.2.2.2.1
def lS.tg (q : lS) : Nat → Nat × Nat := q.2.2.2.2.2
def lS.s_lm (q : lS) (v : Nat) : lS := ((((v, q.1.1.1.2), q.1.1.2), q.1.2), q.2)
def lS.s_a1 (q : lS) (v : Nat) : lS := ((((q.1.1.1.1, v), q.1.1.2), q.1.2), q.2)
def lS.s_a2 (q : lS) (v : Nat) : lS := (((q.1.1.1, (v, q.1.1.2.2)), q.1.2), q.2)
def lS.s_a3 (q : lS) (v : Nat) : lS := (((q.1.1.1, (q.1.1.2.1, (v, q.1.1.2.2.2))), q.1.2), q.2)
def lS.s_a4 (q : lS) (v : Nat) : lS := (((q.1.1.1, (q.1.1.2.1, (q.1.1.2.2.1, v))), q.1.2), q.2)
def lS.s_a5 (q : lS) (v : Nat) : lS := ((q.1.1, ((v, q.1.2.1.2), q.1.2.2)), q.2)
def lS.s_a6 (q : lS) (v : Nat) : lS := ((q.1.1, ((q.1.2.1.1, (v, q.1.2.1.2.2)), q.1.2.2)), q.2)
def lS.s_a7 (q : lS) (v : Nat) : lS := ((q.1.1, ((q.1.2.1.1, (q.1.2.1.2.1, v)), q.1.2.2)), q.2)
def lS.s_sc (q : lS) (v : Nat) : lS := ((q.1.1, (q.1.2.1, (v, q.1.2.2.2))), q.2)
def lS.s_draws (q : lS) (v : Int32) : lS := ((q.1.1, (q.1.2.1, (q.1.2.2.1, (v, q.1.2.2.2.2)))), q.2)
def lS.s_added (q : lS) (v : Int32) : lS := ((q.1.1, (q.1.2.1, (q.1.2.2.1, (q.1.2.2.2.1, v)))), q.2)
def lS.s_hangs (q : lS) (v : Int32) : lS := (q.1, (((v, q.2.1.1.2), q.2.1.2), q.2.2))
def lS.s_tracks (q : lS) (v : Int32) : lS := (q.1, (((q.2.1.1.1, (v, q.2.1.1.2.2)), q.2.1.2), q.2.2))
def lS.s_time (q : lS) (v : Int32) : lS := (q.1, (((q.2.1.1.1, (q.2.1.1.2.1, v)), q.2.1.2), q.2.2))
def lS.s_f1 (q : lS) (v : Nat → Option Nat) : lS := (q.1, ((q.2.1.1, (v, q.2.1.2.2)), q.2.2))
def lS.s_f2 (q : lS) (v : Nat → Option Nat) : lS := (q.1, ((q.2.1.1, (q.2.1.2.1, (v, q.2.1.2.2.2))), q.2.2))
def lS.s_f5 (q : lS) (v : Nat → Option Nat) : lS := (q.1, ((q.2.1.1, (q.2.1.2.1, (q.2.1.2.2.1, v))), q.2.2))
def lS.s_f6 (q : lS) (v : Nat → Option Nat) : lS := (q.1, (q.2.1, ((v, q.2.2.1.2), q.2.2.2)))
def lS.s_f7 (q : lS) (v : Nat → Option Nat) : lS := (q.1, (q.2.1, ((q.2.2.1.1, (v, q.2.2.1.2.2)), q.2.2.2)))
def lS.s_g3 (q : lS) (v : Nat → Int32) : lS := (q.1, (q.2.1, ((q.2.2.1.1, (q.2.2.1.2.1, v)), q.2.2.2)))
def lS.s_g4 (q : lS) (v : Nat → Int32) : lS := (q.1, (q.2.1, (q.2.2.1, (v, q.2.2.2.2))))
def lS.s_rw_ (q : lS) (v : Nat → Nat × (Nat → Int32)) : lS := (q.1, (q.2.1, (q.2.2.1, (q.2.2.2.1, (v, q.2.2.2.2.2)))))
def lS.s_tg (q : lS) (v : Nat → Nat × Nat) : lS := (q.1, (q.2.1, (q.2.2.1, (q.2.2.2.1, (q.2.2.2.2.1, v)))))
def lS.mk (v0 : Nat) (v1 : Nat) (v2 : Nat) (v3 : Nat) (v4 : Nat) (v5 : Nat) (v6 : Nat) (v7 : Nat) (v8 : Nat) (v9 : Int32) (v10 : Int32) (v11 : Int32) (v12 : Int32) (v13 : Int32) (v14 : Nat → Option Nat) (v15 : Nat → Option Nat) (v16 : Nat → Option Nat) (v17 : Nat → Option Nat) (v18 : Nat → Option Nat) (v19 : Nat → Int32) (v20 : Nat → Int32) (v21 : Nat → Nat × (Nat → Int32)) (v22 : Nat → Nat × Nat) : lS := ((((v0, v1), (v2, (v3, v4))), ((v5, (v6, v7)), (v8, (v9, v10)))), (((v11, (v12, v13)), (v14, (v15, v16))), ((v17, (v18, v19)), (v20, (v21, v22)))))
/-- the object's cell -/
def lS.c (S : lS) (z : Nat) : fCe := .inl (8, [.ref z, .ref S.sc, .int S.draws, .int S.added, .ref S.a1, .ref S.a2, .ref S.a3, .ref S.a4, .ref S.a5, .int S.hangs, .int S.tracks, .ref S.a6, .ref S.a7, .int S.time])
/-- the row of a number in an array of rows: there, and this array's own -/
def lW (F : Nat → Option fCe) (S : lS) (f : Nat → Option Nat) (t i : Nat) (r n : Nat) (g : Nat → Int32) : Prop := f i = some r ∧ F r = some (.inr (0, n, .inl g)) ∧ S.tg r = (t, i)
def lR (G : qS) (F : Nat → Option fCe) (X : Nat × Nat × (Nat → Int32)) (S : lS) : Prop :=
  (F S.lm = some (S.c G.z)) ∧
  (F S.a1 = some (.inr (4, 30, .inr (.inr (.inr (.inr S.f1)))))) ∧
  (F S.a2 = some (.inr (4, 30, .inr (.inr (.inr (.inr S.f2)))))) ∧
  (F S.a3 = some (.inr (1, 30, .inl S.g3))) ∧
  (F S.a4 = some (.inr (1, 30, .inl S.g4))) ∧
  (F S.a5 = some (.inr (4, 30, .inr (.inr (.inr (.inr S.f5)))))) ∧
  (F S.a6 = some (.inr (4, 12, .inr (.inr (.inr (.inr S.f6)))))) ∧
  (F S.a7 = some (.inr (4, 12, .inr (.inr (.inr (.inr S.f7)))))) ∧
  (S.sc = X.1) ∧
  (0 ≤ S.draws.toInt) ∧
  (1 ≤ S.added.toInt ∧ S.added.toInt ≤ 30) ∧
  (0 ≤ S.tracks.toInt ∧ S.tracks.toInt ≤ 12)
theorem lR.ob {G : qS}{F : Nat → Option fCe}{X : Nat × Nat × (Nat → Int32)}{S : lS} (hq0 : lR G F X S) : F S.lm = some (S.c G.z) := hq0.1
theorem lR.e1 {G : qS}{F : Nat → Option fCe}{X : Nat × Nat × (Nat → Int32)}{S : lS} (hq0 : lR G F X S) : F S.a1 = some (.inr (4, 30, .inr (.inr (.inr (.inr S.f1))))) := hq0.2.1
theorem lR.e2 {G : qS}{F : Nat → Option fCe}{X : Nat × Nat × (Nat → Int32)}{S : lS} (hq0 : lR G F X S) : F S.a2 = some (.inr (4, 30, .inr (.inr (.inr (.inr S.f2))))) := hq0.2.2.1
theorem lR.e3 {G : qS}{F : Nat → Option fCe}{X : Nat × Nat × (Nat → Int32)}{S : lS} (hq0 : lR G F X S) : F S.a3 = some (.inr (1, 30, .inl S.g3)) := hq0.2.2.2.1
theorem lR.e4 {G : qS}{F : Nat → Option fCe}{X : Nat × Nat × (Nat → Int32)}{S : lS} (hq0 : lR G F X S) : F S.a4 = some (.inr (1, 30, .inl S.g4)) := hq0.2.2.2.2.1
theorem lR.e5 {G : qS}{F : Nat → Option fCe}{X : Nat × Nat × (Nat → Int32)}{S : lS} (hq0 : lR G F X S) : F S.a5 = some (.inr (4, 30, .inr (.inr (.inr (.inr S.f5))))) := hq0.2.2.2.2.2.1
theorem lR.e6 {G : qS}{F : Nat → Option fCe}{X : Nat × Nat × (Nat → Int32)}{S : lS} (hq0 : lR G F X S) : F S.a6 = some (.inr (4, 12, .inr (.inr (.inr (.inr S.f6))))) := hq0.2.2.2.2.2.2.1
theorem lR.e7 {G : qS}{F : Nat → Option fCe}{X : Nat × Nat × (Nat → Int32)}{S : lS} (hq0 : lR G F X S) : F S.a7 = some (.inr (4, 12, .inr (.inr (.inr (.inr S.f7))))) := hq0.2.2.2.2.2.2.2.1
theorem lR.sx {G : qS}{F : Nat → Option fCe}{X : Nat × Nat × (Nat → Int32)}{S : lS} (hq0 : lR G F X S) : S.sc = X.1 := hq0.2.2.2.2.2.2.2.2.1
theorem lR.dr {G : qS}{F : Nat → Option fCe}{X : Nat × Nat × (Nat → Int32)}{S : lS} (hq0 : lR G F X S) : 0 ≤ S.draws.toInt := hq0.2.2.2.2.2.2.2.2.2.1
theorem lR.ad {G : qS}{F : Nat → Option fCe}{X : Nat × Nat × (Nat → Int32)}{S : lS} (hq0 : lR G F X S) : 1 ≤ S.added.toInt ∧ S.added.toInt ≤ 30 := hq0.2.2.2.2.2.2.2.2.2.2.1
theorem lR.tr {G : qS}{F : Nat → Option fCe}{X : Nat × Nat × (Nat → Int32)}{S : lS} (hq0 : lR G F X S) : 0 ≤ S.tracks.toInt ∧ S.tracks.toInt ≤ 12 := hq0.2.2.2.2.2.2.2.2.2.2.2
theorem cell_or {L : Nat} {xs : Nat → Int32} {i : Int32} (q : 0 ≤ i.toInt ∧ i.toInt ≤ 1000) (hL : L ≤ 260) (hX : fX h = (X.1, L, xs)) : ∃ v, f_L_cell (some X.1) i h = some (v, h) := by
  have nx := i32_nat q.1
  unfold f_L_cell f_L_cell_L0 f_L_cell_L18
  have e1 : fxl h (some X.1) = some (Int32.ofNat L) := by
    unfold fxl
    rw [hX, if_pos rfl]
  rw [e1, Option.bind_some]
  by_cases z : Int32.ofNat L ≤ i
  · rw [if_pos z]
    exact ⟨_, rfl⟩
  · have e2 : fxI h (some X.1) i = some (xs i.toNatClampNeg) := by
      unfold fxI
      rw [hX, if_pos rfl]
      dsimp only
      have lt : i.toInt < (nI L).toInt := by
        have := mt Int32.le_iff_toInt_le.mpr z
        exact Int.not_le.mp this
      rw [nI_toInt (by omega)] at lt
      rw [if_neg (i32_cl q.1 lt)]
    rw [if_neg z, e2, Option.bind_some]
    exact ⟨_, rfl⟩
theorem i32_div {a b : Int32} (h1 : -1000000000 ≤ a.toInt.tdiv b.toInt) (h2 : a.toInt.tdiv b.toInt ≤ 1000000000) : (a / b).toInt = a.toInt.tdiv b.toInt := by
  rw [Int32.toInt_div]
  exact Int.bmod_eq_of_le (by omega) (by omega)
/-- a remainder of a number that isn't below 0 -/
theorem i32_rem {a b : Int32} (h0 : 0 ≤ a.toInt) (hb : 0 < b.toInt) : (a - a / b * b).toInt = a.toInt % b.toInt := by
  have hb2 := Int32.toInt_lt b
  have ha2 := Int32.toInt_lt a
  have e := Int.tdiv_eq_ediv_of_nonneg (b := b.toInt) h0
  have d0 : 0 ≤ a.toInt / b.toInt := Int.ediv_nonneg h0 (Int.le_of_lt hb)
  have d1 : a.toInt / b.toInt ≤ a.toInt := Int.ediv_le_self _ h0
  have m1 := Int.emod_add_mul_ediv a.toInt b.toInt
  have m2 := Int.emod_nonneg a.toInt (Int.ne_of_gt hb)
  have m3 := Int.emod_lt_of_pos a.toInt hb
  have c1 : a.toInt / b.toInt * b.toInt = b.toInt * (a.toInt / b.toInt) := Int.mul_comm _ _
  have r1 : (a / b).toInt = a.toInt / b.toInt := by
    rw [Int32.toInt_div, e]
    exact Int.bmod_eq_of_le (by omega) (by omega)
  have r2 : (a / b * b).toInt = a.toInt / b.toInt * b.toInt := by
    rw [Int32.toInt_mul, r1]
    exact Int.bmod_eq_of_le (by omega) (by omega)
  rw [Int32.toInt_sub, r2]
  rw [Int.bmod_eq_of_le (by omega) (by omega)]
  omega
theorem below_or {v n : Int32} (hn : 0 < n.toInt) : ∃ r, f_L_below v n h = some (r, h) ∧ 0 ≤ r.toInt ∧ r.toInt < n.toInt := by
  unfold f_L_below f_L_below_L0
  have h0 : 0 ≤ (v &&& (2147483647 : Int32)).toInt := by
    have b : (v &&& (2147483647 : Int32)).toBitVec.msb = false := by
      rw [Int32.toBitVec_and, BitVec.msb_and, show ((2147483647 : Int32).toBitVec).msb = false by decide, Bool.and_false]
    rw [← Int32.toInt_toBitVec, BitVec.toInt_eq_msb_cond, b, if_neg (by decide)]
    exact Int.natCast_nonneg _
  rw [if_neg (i32_0 (by omega))]
  refine ⟨_, rfl, ?_⟩
  rw [i32_rem h0 hn]
  exact ⟨Int.emod_nonneg _ (Int.ne_of_gt hn), Int.emod_lt_of_pos _ hn⟩
end LOOM
