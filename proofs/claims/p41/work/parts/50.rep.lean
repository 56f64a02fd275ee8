/-! The class's heap, typed: every object of the class a record at its address; what is the law's lies in F. -/
section REP
theorem fF_set_eq {h : fSt} {a : Nat} {e : fCe} : fF (fSet h a e) a = some e := if_pos rfl
theorem fF_set_ne {h : fSt} {a b : Nat} {e : fCe} (n : b ≠ a) : fF (fSet h a e) b = fF h b := if_neg n
theorem fF_push_ne {h : fSt} {b n : Nat} {e : fCe} (q : b ≠ fZ h) : fF (fPush h e n) b = fF h b := if_neg q
theorem fF_push_eq {h : fSt} {n : Nat} {e : fCe} : fF (fPush h e n) (fZ h) = some e := if_pos rfl
theorem fSt_ext {h1 h2 : fSt} (a : ∀ b, fF h1 b = fF h2 b) (e : h1.2 = h2.2) : h1 = h2 := Prod.ext (funext a) e
theorem fSet_fSet {h : fSt} {a : Nat} {e1 e2 : fCe} : fSet (fSet h a e1) a e2 = fSet h a e2 := by
  refine fSt_ext (fun b => ?_) rfl
  by_cases q : b = a
  · subst q; rw [fF_set_eq, fF_set_eq]
  · rw [fF_set_ne q, fF_set_ne q, fF_set_ne q]
theorem fput_C {h : fSt} {a ci k : Nat} {v : Value} {fs : List Value} (e : fF h a = some (.inl (ci, fs))) (hk : k < fs.length) : fput h (some a) ci k v = some (fSet h a (.inl (ci, fs.set k v))) := by
  simp only [fput, e]
  rw [if_pos ⟨trivial, hk⟩]
theorem fget_C {h : fSt} {a ci k : Nat} {fs : List Value} (e : fF h a = some (.inl (ci, fs))) : fget h (some a) ci k = fs[k]? := by
  simp only [fget, e]
  rw [if_pos trivial]
theorem fgI_C {h : fSt} {a ci k : Nat} {fs : List Value} {x : Int32} (e : fF h a = some (.inl (ci, fs))) (hk : fs[k]? = some (.int x)) : fgI h (some a) ci k = some x := by
  unfold fgI; rw [fget_C e, hk]
theorem fgJ_C {h : fSt} {a ci k : Nat} {fs : List Value} {x : Int64} (e : fF h a = some (.inl (ci, fs))) (hk : fs[k]? = some (.long x)) : fgJ h (some a) ci k = some x := by
  unfold fgJ; rw [fget_C e, hk]
theorem fgR_C {h : fSt} {a ci k : Nat} {fs : List Value} {x : Option Nat} (e : fF h a = some (.inl (ci, fs))) (hk : fs[k]? = some (va_rf x)) : fgR h (some a) ci k = some x := by
  unfold fgR; rw [fget_C e, hk]; cases x <;> rfl
theorem fobj_C {h : fSt} {a ci : Nat} {fs : List Value} (e : fF h a = some (.inl (ci, fs))) : fobj h (some a) ci = some a := by
  simp only [fobj, e]
  rw [if_pos trivial]
theorem farr_C {h : fSt} {a t : Nat} {x : vp_A} (e : fF h a = some (.inr (t, x))) : farr h (some a) t = some x := by
  simp only [farr, e]
  rw [if_pos trivial]
theorem faR_C {h : fSt} {a t n : Nat} {f : Nat → Option Nat} {i : Int32} (e : fF h a = some (.inr (t, n, .inr (.inr (.inr (.inr f)))))) (hi : ¬ (i < 0 ∨ n ≤ i.toNatClampNeg)) : faR h (some a) t i = some (f i.toNatClampNeg) := by
  simp only [faR, farr_C e]
  rw [if_neg hi]
theorem faI_C {h : fSt} {a t n : Nat} {f : Nat → Int32} {i : Int32} (e : fF h a = some (.inr (t, n, .inl f))) (hi : ¬ (i < 0 ∨ n ≤ i.toNatClampNeg)) : faI h (some a) t i = some (f i.toNatClampNeg) := by
  simp only [faI, farr_C e]
  rw [if_neg hi]
theorem fsI_C {h : fSt} {a t n : Nat} {f : Nat → Int32} {i x : Int32} (e : fF h a = some (.inr (t, n, .inl f))) (hi : ¬ (i < 0 ∨ n ≤ i.toNatClampNeg)) : fsI h (some a) t i x = some (fSet h a (.inr (t, n, .inl (upd f i.toNatClampNeg x)))) := by
  simp only [fsI, farr_C e]
  rw [if_neg hi]
theorem fsR_C {h : fSt} {a t n ci v : Nat} {f : Nat → Option Nat} {fs : List Value} {i : Int32} (e : fF h a = some (.inr (t, n, .inr (.inr (.inr (.inr f)))))) (hi : ¬ (i < 0 ∨ n ≤ i.toNatClampNeg)) (ev : fF h v = some (.inl (ci, fs))) : fsR h (some a) t ci i (some v) = some (fSet h a (.inr (t, n, .inr (.inr (.inr (.inr (va_up f i.toNatClampNeg (some v)))))))) := by
  simp only [fsR, farr_C e, ev]
  rw [if_pos trivial, if_neg hi]
theorem fsA_C {h : fSt} {a t t0 n v : Nat} {f : Nat → Option Nat} {y : vp_A} {i : Int32} (e : fF h a = some (.inr (t, n, .inr (.inr (.inr (.inr f)))))) (hi : ¬ (i < 0 ∨ n ≤ i.toNatClampNeg)) (ev : fF h v = some (.inr (t0, y))) : fsA h (some a) t t0 i (some v) = some (fSet h a (.inr (t, n, .inr (.inr (.inr (.inr (va_up f i.toNatClampNeg (some v)))))))) := by
  simp only [fsA, farr_C e, ev]
  rw [if_neg hi, if_pos trivial]
theorem fsA_N {h : fSt} {a t t0 n : Nat} {f : Nat → Option Nat} {i : Int32} (e : fF h a = some (.inr (t, n, .inr (.inr (.inr (.inr f)))))) (hi : ¬ (i < 0 ∨ n ≤ i.toNatClampNeg)) : fsA h (some a) t t0 i none = some (fSet h a (.inr (t, n, .inr (.inr (.inr (.inr (va_up f i.toNatClampNeg none))))))) := by
  simp only [fsA, farr_C e]
  rw [if_neg hi]
theorem flen_C {h : fSt} {a t n : Nat} {y : _} (e : fF h a = some (.inr (t, n, y))) : flen h (some a) t = some (Int32.ofNat n) := by
  simp only [flen, farr_C e]; rfl
theorem fnew_C {h : fSt} {e : fCe} {n : Nat} (h1 : fZ h + 1 ≤ fCB h) (h2 : fL h + n ≤ fLB h) : fnew h e n = some (fZ h, fPush h e n) := by
  unfold fnew; rw [if_pos ⟨h1, h2⟩]
theorem fthr_C {h : fSt} (h1 : fZ h + 1 ≤ fCB h) (h2 : fL h + 6 ≤ fLB h) : fthr h = some (fF h, fZ h + 1, fL h + 6, fCB h, fLB h, fX h) := by
  unfold fthr; rw [if_pos ⟨h1, h2⟩]
/-- the kind of a cell -/
def qT (c : fCe) : Nat := match c with
  | .inl q => q.1
  | .inr q => 100 + q.1
/-- a cell of the law's -/
def qL (c : fCe) : Prop := qT c = 8 ∨ qT c = 100 ∨ qT c = 101 ∨ qT c = 104
theorem fs_ne {h : fSt} {a b : Nat} {c1 c2 e : fCe} (e1 : fF h a = some c1) (e2 : fF h b = some c2) (d : qT c1 ≠ qT c2) : fF (fSet h a e) b = some c2 := by
  rw [fF_set_ne, e2]
  intro q
  subst q
  rw [e1] at e2
  exact d (congrArg qT (Option.some.inj e2))
theorem fp_ne {h : fSt} {b n : Nat} {c2 e : fCe} (e2 : fF h b = some c2) (d : ∀ a, fF h a ≠ none → a < fZ h) : fF (fPush h e n) b = some c2 := by
  rw [fF_push_ne, e2]
  intro q
  have := d b (by rw [e2]; exact fun z => nomatch z)
  omega
def qu {α : Type} (f : Nat → α) (a : Nat) (v : α) : Nat → α := fun b => if b = a then v else f b
theorem qu_eq {α : Type} {f : Nat → α} {a : Nat} {v : α} : qu f a v a = v := if_pos rfl
theorem qu_qu {α : Type} {f : Nat → α} {a : Nat} {v w : α} : qu (qu f a v) a w = qu f a w := by
  funext b
  by_cases n : b = a
  · subst n; rw [qu_eq, qu_eq]
  · unfold qu; rw [if_neg n, if_neg n, if_neg n]
theorem qu_ne {α : Type} {f : Nat → α} {a b : Nat} {v : α} (n : b ≠ a) : qu f a v b = f b := if_neg n
def qN : Type := ((((Int32 × Int32) × (Option Nat × Option Nat)) × ((Option Nat × Option Nat) × (Option Nat × (Int32 × Int32)))) × (((Int32 × Int32) × (Int32 × (Option Nat × Int32))) × ((Option Nat × Option Nat) × (Option Nat × (Option Nat × Int32)))))
def qN.number (q : qN) : Int32 := q.1.1.1.1
def qN.kind (q : qN) : Int32 := q.1.1.1.2
def qN.frame (q : qN) : Option Nat := q.1.1.2.1
def qN.x (q : qN) : Option Nat := q.1.1.2.2
def qN.y (q : qN) : Option Nat := q.1.2.1.1
def qN.turns (q : qN) : Option Nat := q.1.2.1.2
def qN.opac (q : qN) : Option Nat := q.1.2.2.1
def qN.over (q : qN) : Int32 := q.1.2.2.2.1
def qN.under (q : qN) : Int32 := q.1.2.2.2.2
def qN.mir (q : qN) : Int32 := q.2.1.1.1
def qN.layer (q : qN) : Int32 := q.2.1.1.2
def qN.hid (q : qN) : Int32 := q.2.1.2.1
def qN.cut (q : qN) : Option Nat := q.2.1.2.2.1
def qN.gone (q : qN) : Int32 := q.2.1.2.2.2
def qN.par (q : qN) : Option Nat := q.2.2.1.1
def qN.fst (q : qN) : Option Nat := q.2.2.1.2
def qN.nxt (q : qN) : Option Nat := q.2.2.2.1
def qN.bef (q : qN) : Option Nat := q.2.2.2.2.1
def qN.place (q : qN) : Int32 := q.2.2.2.2.2
def qN.s_number (q : qN) (v : Int32) : qN := ((((v, q.1.1.1.2), q.1.1.2), q.1.2), q.2)
def qN.s_kind (q : qN) (v : Int32) : qN := ((((q.1.1.1.1, v), q.1.1.2), q.1.2), q.2)
def qN.s_frame (q : qN) (v : Option Nat) : qN := (((q.1.1.1, (v, q.1.1.2.2)), q.1.2), q.2)
def qN.s_x (q : qN) (v : Option Nat) : qN := (((q.1.1.1, (q.1.1.2.1, v)), q.1.2), q.2)
def qN.s_y (q : qN) (v : Option Nat) : qN := ((q.1.1, ((v, q.1.2.1.2), q.1.2.2)), q.2)
def qN.s_turns (q : qN) (v : Option Nat) : qN := ((q.1.1, ((q.1.2.1.1, v), q.1.2.2)), q.2)
def qN.s_opac (q : qN) (v : Option Nat) : qN := ((q.1.1, (q.1.2.1, (v, q.1.2.2.2))), q.2)
def qN.s_over (q : qN) (v : Int32) : qN := ((q.1.1, (q.1.2.1, (q.1.2.2.1, (v, q.1.2.2.2.2)))), q.2)
def qN.s_under (q : qN) (v : Int32) : qN := ((q.1.1, (q.1.2.1, (q.1.2.2.1, (q.1.2.2.2.1, v)))), q.2)
def qN.s_mir (q : qN) (v : Int32) : qN := (q.1, (((v, q.2.1.1.2), q.2.1.2), q.2.2))
def qN.s_layer (q : qN) (v : Int32) : qN := (q.1, (((q.2.1.1.1, v), q.2.1.2), q.2.2))
def qN.s_hid (q : qN) (v : Int32) : qN := (q.1, ((q.2.1.1, (v, q.2.1.2.2)), q.2.2))
def qN.s_cut (q : qN) (v : Option Nat) : qN := (q.1, ((q.2.1.1, (q.2.1.2.1, (v, q.2.1.2.2.2))), q.2.2))
def qN.s_gone (q : qN) (v : Int32) : qN := (q.1, ((q.2.1.1, (q.2.1.2.1, (q.2.1.2.2.1, v))), q.2.2))
def qN.s_par (q : qN) (v : Option Nat) : qN := (q.1, (q.2.1, ((v, q.2.2.1.2), q.2.2.2)))
def qN.s_fst (q : qN) (v : Option Nat) : qN := (q.1, (q.2.1, ((q.2.2.1.1, v), q.2.2.2)))
def qN.s_nxt (q : qN) (v : Option Nat) : qN := (q.1, (q.2.1, (q.2.2.1, (v, q.2.2.2.2))))
def qN.s_bef (q : qN) (v : Option Nat) : qN := (q.1, (q.2.1, (q.2.2.1, (q.2.2.2.1, (v, q.2.2.2.2.2)))))
def qN.s_place (q : qN) (v : Int32) : qN := (q.1, (q.2.1, (q.2.2.1, (q.2.2.2.1, (q.2.2.2.2.1, v)))))
def qN.mk (v0 : Int32) (v1 : Int32) (v2 : Option Nat) (v3 : Option Nat) (v4 : Option Nat) (v5 : Option Nat) (v6 : Option Nat) (v7 : Int32) (v8 : Int32) (v9 : Int32) (v10 : Int32) (v11 : Int32) (v12 : Option Nat) (v13 : Int32) (v14 : Option Nat) (v15 : Option Nat) (v16 : Option Nat) (v17 : Option Nat) (v18 : Int32) : qN := ((((v0, v1), (v2, v3)), ((v4, v5), (v6, (v7, v8)))), (((v9, v10), (v11, (v12, v13))), ((v14, v15), (v16, (v17, v18)))))
def qN.c (q : qN) : fCe := .inl (4, [.int q.number, .int q.kind, va_rf q.frame, va_rf q.x, va_rf q.y, va_rf q.turns, va_rf q.opac, .int q.over, .int q.under, .int q.mir, .int q.layer, .int q.hid, va_rf q.cut, .int q.gone, va_rf q.par, va_rf q.fst, va_rf q.nxt, va_rf q.bef, .int q.place])
theorem qN.t (q : qN) : qT q.c = 4 := rfl
def qP : Type := (((Int32 × Int32) × (Int32 × Int32)) × ((Int32 × Int32) × (Int32 × (Option Nat × Int32))))
def qP.least (q : qP) : Int32 := q.1.1.1
def qP.most (q : qP) : Int32 := q.1.1.2
def qP.own (q : qP) : Int32 := q.1.2.1
def qP.trk (q : qP) : Int32 := q.1.2.2
def qP.done (q : qP) : Int32 := q.2.1.1
def qP.ease (q : qP) : Int32 := q.2.1.2
def qP.end_ (q : qP) : Int32 := q.2.2.1
def qP.fk (q : qP) : Option Nat := q.2.2.2.1
def qP.cnt (q : qP) : Int32 := q.2.2.2.2
def qP.s_least (q : qP) (v : Int32) : qP := (((v, q.1.1.2), q.1.2), q.2)
def qP.s_most (q : qP) (v : Int32) : qP := (((q.1.1.1, v), q.1.2), q.2)
def qP.s_own (q : qP) (v : Int32) : qP := ((q.1.1, (v, q.1.2.2)), q.2)
def qP.s_trk (q : qP) (v : Int32) : qP := ((q.1.1, (q.1.2.1, v)), q.2)
def qP.s_done (q : qP) (v : Int32) : qP := (q.1, ((v, q.2.1.2), q.2.2))
def qP.s_ease (q : qP) (v : Int32) : qP := (q.1, ((q.2.1.1, v), q.2.2))
def qP.s_end_ (q : qP) (v : Int32) : qP := (q.1, (q.2.1, (v, q.2.2.2)))
def qP.s_fk (q : qP) (v : Option Nat) : qP := (q.1, (q.2.1, (q.2.2.1, (v, q.2.2.2.2))))
def qP.s_cnt (q : qP) (v : Int32) : qP := (q.1, (q.2.1, (q.2.2.1, (q.2.2.2.1, v))))
def qP.mk (v0 : Int32) (v1 : Int32) (v2 : Int32) (v3 : Int32) (v4 : Int32) (v5 : Int32) (v6 : Int32) (v7 : Option Nat) (v8 : Int32) : qP := (((v0, v1), (v2, v3)), ((v4, v5), (v6, (v7, v8))))
def qP.c (q : qP) : fCe := .inl (6, [.int q.least, .int q.most, .int q.own, .int q.trk, .int q.done, .int q.ease, .int q.end_, va_rf q.fk, .int q.cnt])
theorem qP.t (q : qP) : qT q.c = 6 := rfl
def qK : Type := (Int32 × (Int32 × Option Nat))
def qK.time (q : qK) : Int32 := q.1
def qK.value (q : qK) : Int32 := q.2.1
def qK.next (q : qK) : Option Nat := q.2.2
def qK.s_time (q : qK) (v : Int32) : qK := (v, q.2)
def qK.s_value (q : qK) (v : Int32) : qK := (q.1, (v, q.2.2))
def qK.s_next (q : qK) (v : Option Nat) : qK := (q.1, (q.2.1, v))
def qK.mk (v0 : Int32) (v1 : Int32) (v2 : Option Nat) : qK := (v0, (v1, v2))
def qK.c (q : qK) : fCe := .inl (3, [.int q.time, .int q.value, va_rf q.next])
theorem qK.t (q : qK) : qT q.c = 3 := rfl
def qM : Type := (Int32 × (Int32 × (Int32 × Int32)))
def qM.left (q : qM) : Int32 := q.1
def qM.top (q : qM) : Int32 := q.2.1
def qM.right (q : qM) : Int32 := q.2.2.1
def qM.bot (q : qM) : Int32 := q.2.2.2
def qM.s_left (q : qM) (v : Int32) : qM := (v, q.2)
def qM.s_top (q : qM) (v : Int32) : qM := (q.1, (v, q.2.2))
def qM.s_right (q : qM) (v : Int32) : qM := (q.1, (q.2.1, (v, q.2.2.2)))
def qM.s_bot (q : qM) (v : Int32) : qM := (q.1, (q.2.1, (q.2.2.1, v)))
def qM.mk (v0 : Int32) (v1 : Int32) (v2 : Int32) (v3 : Int32) : qM := (v0, (v1, (v2, v3)))
def qM.c (q : qM) : fCe := .inl (2, [.int q.left, .int q.top, .int q.right, .int q.bot])
theorem qM.t (q : qM) : qT q.c = 2 := rfl
/-- the class's state, typed -/
def qS : Type := ((((Nat × (Nat × Nat)) × ((Nat × Nat) × (Nat × Nat))) × (((Nat × Nat) × (Nat × Int32)) × ((Int32 × Int32) × (Option Nat × Int32)))) × ((((Nat → Option Nat) × ((Nat → Option Nat) × (Nat → Prop))) × (((Nat → Prop) × (Nat → Prop)) × ((Nat → Prop) × (Nat → qN)))) × ((((Nat → qP) × (Nat → qK)) × ((Nat → qM) × (Nat → Nat → Nat))) × (((Nat → Nat) × (Nat → List Nat)) × ((Nat → List Nat) × List Nat)))))
def qS.z (q : qS) : Nat := q.1.1.1.1
def qS.na (q : qS) : Nat := q.1.1.1.2.1
def qS.ta (q : qS) : Nat := q.1.1.1.2.2
def qS.wh (q : qS) : Nat := q.1.1.2.1.1
def qS.pt (q : qS) : Nat := q.1.1.2.1.2
def qS.bo (q : qS) : Nat := q.1.1.2.2.1
def qS.f0 (q : qS) : Nat := q.1.1.2.2.2
def qS.f1 (q : qS) : Nat := q.1.2.1.1.1
def qS.f2 (q : qS) : Nat := q.1.2.1.1.2
def qS.f3 (q : qS) : Nat := q.1.2.1.2.1
def qS.added (q : qS) : Int32 := q.1.2.1.2.2
def qS.tracked (q : qS) : Int32 := q.1.2.2.1.1
def qS.time (q : qS) : Int32 := q.1.2.2.1.2
def qS.last (q : qS) : Option Nat := q.1.2.2.2.1
def qS.ord (q : qS) : Int32 := q.1.2.2.2.2
def qS.no (q : qS) : Nat → Option Nat := q.2.1.1.1
def qS.tr (q : qS) : Nat → Option Nat := q.2.1.1.2.1
def qS.N (q : qS) : Nat → Prop := q.2.1.1.2.2
def qS.P (q : qS) : Nat → Prop := q.2.1.2.1.1
def qS.K (q : qS) : Nat → Prop := q.2.1.2.1.2
def qS.M (q : qS) : Nat → Prop := q.2.1.2.2.1
def qS.nd (q : qS) : Nat → qN := q.2.1.2.2.2
def qS.pp (q : qS) : Nat → qP := q.2.2.1.1.1
def qS.ky (q : qS) : Nat → qK := q.2.2.1.1.2
def qS.fm (q : qS) : Nat → qM := q.2.2.1.2.1
def qS.pr (q : qS) : Nat → Nat → Nat := q.2.2.1.2.2
def qS.fr (q : qS) : Nat → Nat := q.2.2.2.1.1
def qS.kl (q : qS) : Nat → List Nat := q.2.2.2.1.2
def qS.kd (q : qS) : Nat → List Nat := q.2.2.2.2.1
def qS.od (q : qS) : List Nat := q.2.2.2.2.2
def qS.s_z (q : qS) (v : Nat) : qS := ((((v, q.1.1.1.2), q.1.1.2), q.1.2), q.2)
def qS.s_na (q : qS) (v : Nat) : qS := ((((q.1.1.1.1, (v, q.1.1.1.2.2)), q.1.1.2), q.1.2), q.2)
def qS.s_ta (q : qS) (v : Nat) : qS := ((((q.1.1.1.1, (q.1.1.1.2.1, v)), q.1.1.2), q.1.2), q.2)
def qS.s_wh (q : qS) (v : Nat) : qS := (((q.1.1.1, ((v, q.1.1.2.1.2), q.1.1.2.2)), q.1.2), q.2)
def qS.s_pt (q : qS) (v : Nat) : qS := (((q.1.1.1, ((q.1.1.2.1.1, v), q.1.1.2.2)), q.1.2), q.2)
def qS.s_bo (q : qS) (v : Nat) : qS := (((q.1.1.1, (q.1.1.2.1, (v, q.1.1.2.2.2))), q.1.2), q.2)
def qS.s_f0 (q : qS) (v : Nat) : qS := (((q.1.1.1, (q.1.1.2.1, (q.1.1.2.2.1, v))), q.1.2), q.2)
def qS.s_f1 (q : qS) (v : Nat) : qS := ((q.1.1, (((v, q.1.2.1.1.2), q.1.2.1.2), q.1.2.2)), q.2)
def qS.s_f2 (q : qS) (v : Nat) : qS := ((q.1.1, (((q.1.2.1.1.1, v), q.1.2.1.2), q.1.2.2)), q.2)
def qS.s_f3 (q : qS) (v : Nat) : qS := ((q.1.1, ((q.1.2.1.1, (v, q.1.2.1.2.2)), q.1.2.2)), q.2)
def qS.s_added (q : qS) (v : Int32) : qS := ((q.1.1, ((q.1.2.1.1, (q.1.2.1.2.1, v)), q.1.2.2)), q.2)
def qS.s_tracked (q : qS) (v : Int32) : qS := ((q.1.1, (q.1.2.1, ((v, q.1.2.2.1.2), q.1.2.2.2))), q.2)
def qS.s_time (q : qS) (v : Int32) : qS := ((q.1.1, (q.1.2.1, ((q.1.2.2.1.1, v), q.1.2.2.2))), q.2)
def qS.s_last (q : qS) (v : Option Nat) : qS := ((q.1.1, (q.1.2.1, (q.1.2.2.1, (v, q.1.2.2.2.2)))), q.2)
def qS.s_ord (q : qS) (v : Int32) : qS := ((q.1.1, (q.1.2.1, (q.1.2.2.1, (q.1.2.2.2.1, v)))), q.2)
def qS.s_no (q : qS) (v : Nat → Option Nat) : qS := (q.1, (((v, q.2.1.1.2), q.2.1.2), q.2.2))
def qS.s_tr (q : qS) (v : Nat → Option Nat) : qS := (q.1, (((q.2.1.1.1, (v, q.2.1.1.2.2)), q.2.1.2), q.2.2))
def qS.s_N (q : qS) (v : Nat → Prop) : qS := (q.1, (((q.2.1.1.1, (q.2.1.1.2.1, v)), q.2.1.2), q.2.2))
def qS.s_P (q : qS) (v : Nat → Prop) : qS := (q.1, ((q.2.1.1, ((v, q.2.1.2.1.2), q.2.1.2.2)), q.2.2))
def qS.s_K (q : qS) (v : Nat → Prop) : qS := (q.1, ((q.2.1.1, ((q.2.1.2.1.1, v), q.2.1.2.2)), q.2.2))
def qS.s_M (q : qS) (v : Nat → Prop) : qS := (q.1, ((q.2.1.1, (q.2.1.2.1, (v, q.2.1.2.2.2))), q.2.2))
def qS.s_nd (q : qS) (v : Nat → qN) : qS := (q.1, ((q.2.1.1, (q.2.1.2.1, (q.2.1.2.2.1, v))), q.2.2))
def qS.s_pp (q : qS) (v : Nat → qP) : qS := (q.1, (q.2.1, (((v, q.2.2.1.1.2), q.2.2.1.2), q.2.2.2)))
def qS.s_ky (q : qS) (v : Nat → qK) : qS := (q.1, (q.2.1, (((q.2.2.1.1.1, v), q.2.2.1.2), q.2.2.2)))
def qS.s_fm (q : qS) (v : Nat → qM) : qS := (q.1, (q.2.1, ((q.2.2.1.1, (v, q.2.2.1.2.2)), q.2.2.2)))
def qS.s_pr (q : qS) (v : Nat → Nat → Nat) : qS := (q.1, (q.2.1, ((q.2.2.1.1, (q.2.2.1.2.1, v)), q.2.2.2)))
def qS.s_fr (q : qS) (v : Nat → Nat) : qS := (q.1, (q.2.1, (q.2.2.1, ((v, q.2.2.2.1.2), q.2.2.2.2))))
def qS.s_kl (q : qS) (v : Nat → List Nat) : qS := (q.1, (q.2.1, (q.2.2.1, ((q.2.2.2.1.1, v), q.2.2.2.2))))
def qS.s_kd (q : qS) (v : Nat → List Nat) : qS := (q.1, (q.2.1, (q.2.2.1, (q.2.2.2.1, (v, q.2.2.2.2.2)))))
def qS.s_od (q : qS) (v : List Nat) : qS := (q.1, (q.2.1, (q.2.2.1, (q.2.2.2.1, (q.2.2.2.2.1, v)))))
def qS.mk (v0 : Nat) (v1 : Nat) (v2 : Nat) (v3 : Nat) (v4 : Nat) (v5 : Nat) (v6 : Nat) (v7 : Nat) (v8 : Nat) (v9 : Nat) (v10 : Int32) (v11 : Int32) (v12 : Int32) (v13 : Option Nat) (v14 : Int32) (v15 : Nat → Option Nat) (v16 : Nat → Option Nat) (v17 : Nat → Prop) (v18 : Nat → Prop) (v19 : Nat → Prop) (v20 : Nat → Prop) (v21 : Nat → qN) (v22 : Nat → qP) (v23 : Nat → qK) (v24 : Nat → qM) (v25 : Nat → Nat → Nat) (v26 : Nat → Nat) (v27 : Nat → List Nat) (v28 : Nat → List Nat) (v29 : List Nat) : qS := ((((v0, (v1, v2)), ((v3, v4), (v5, v6))), (((v7, v8), (v9, v10)), ((v11, v12), (v13, v14)))), (((v15, (v16, v17)), ((v18, v19), (v20, v21))), (((v22, v23), (v24, v25)), ((v26, v27), (v28, v29)))))
def qS.c (G : qS) : fCe := .inl (7, [.ref G.na, .ref G.ta, .ref G.wh, .ref G.pt, .ref G.bo, .int G.added, .int G.tracked, .int G.time, va_rf G.last, .int G.ord])
theorem qS.t (G : qS) : qT G.c = 7 := rfl
def qS.setN (G : qS) (a : Nat) (q : qN) : qS := ((G).s_nd (qu G.nd a q))
def qS.addN (G : qS) (a : Nat) (q : qN) : qS := (((G).s_N (fun b => b = a ∨ G.N b)).s_nd (qu G.nd a q))
def qS.setP (G : qS) (a : Nat) (q : qP) : qS := ((G).s_pp (qu G.pp a q))
def qS.addP (G : qS) (a : Nat) (q : qP) : qS := (((G).s_P (fun b => b = a ∨ G.P b)).s_pp (qu G.pp a q))
def qS.setK (G : qS) (a : Nat) (q : qK) : qS := ((G).s_ky (qu G.ky a q))
def qS.addK (G : qS) (a : Nat) (q : qK) : qS := (((G).s_K (fun b => b = a ∨ G.K b)).s_ky (qu G.ky a q))
def qS.setM (G : qS) (a : Nat) (q : qM) : qS := ((G).s_fm (qu G.fm a q))
def qS.addM (G : qS) (a : Nat) (q : qM) : qS := (((G).s_M (fun b => b = a ∨ G.M b)).s_fm (qu G.fm a q))
def qR (G : qS) (F : Nat → Option fCe) (X : Nat × Nat × (Nat → Int32)) (k : Nat) (h : fSt) : Prop :=
  (fF h G.z = some G.c) ∧
  (fF h G.na = some (.inr (2, 30, .inr (.inr (.inr (.inr G.no)))))) ∧
  (fF h G.ta = some (.inr (3, 12, .inr (.inr (.inr (.inr G.tr)))))) ∧
  (∃ x y u c, fF h G.pt = some (.inl (5, [.long x, .long y, .long u, .int c]))) ∧
  (fF h G.bo = some (.inl (0, [.ref G.f0, .ref G.f1, .ref G.f2, .ref G.f3]))) ∧
  (∃ x y, fF h G.f0 = some (.inl (1, [.long x, .long y]))) ∧
  (∃ x y, fF h G.f1 = some (.inl (1, [.long x, .long y]))) ∧
  (∃ x y, fF h G.f2 = some (.inl (1, [.long x, .long y]))) ∧
  (∃ x y, fF h G.f3 = some (.inl (1, [.long x, .long y]))) ∧
  (∀ a, G.N a → fF h a = some (G.nd a).c) ∧
  (∀ a, G.P a → fF h a = some (G.pp a).c) ∧
  (∀ a, G.K a → fF h a = some (G.ky a).c) ∧
  (∀ a, G.M a → fF h a = some (G.fm a).c) ∧
  (∀ a c, F a = some c → qL c ∧ fF h a = some c) ∧
  (fZ h + k ≤ fCB h ∧ fL h + 20 * k ≤ fLB h) ∧
  (fX h = X) ∧
  (∀ a, fF h a ≠ none → a < fZ h)
theorem qR.sc {G : qS}{F : Nat → Option fCe}{X : Nat × Nat × (Nat → Int32)}{k : Nat}{h : fSt} (hq0 : qR G F X k h) : fF h G.z = some G.c := hq0.1
theorem qR.na {G : qS}{F : Nat → Option fCe}{X : Nat × Nat × (Nat → Int32)}{k : Nat}{h : fSt} (hq0 : qR G F X k h) : fF h G.na = some (.inr (2, 30, .inr (.inr (.inr (.inr G.no))))) := hq0.2.1
theorem qR.ta {G : qS}{F : Nat → Option fCe}{X : Nat × Nat × (Nat → Int32)}{k : Nat}{h : fSt} (hq0 : qR G F X k h) : fF h G.ta = some (.inr (3, 12, .inr (.inr (.inr (.inr G.tr))))) := hq0.2.2.1
theorem qR.pt {G : qS}{F : Nat → Option fCe}{X : Nat × Nat × (Nat → Int32)}{k : Nat}{h : fSt} (hq0 : qR G F X k h) : ∃ x y u c, fF h G.pt = some (.inl (5, [.long x, .long y, .long u, .int c])) := hq0.2.2.2.1
theorem qR.bo {G : qS}{F : Nat → Option fCe}{X : Nat × Nat × (Nat → Int32)}{k : Nat}{h : fSt} (hq0 : qR G F X k h) : fF h G.bo = some (.inl (0, [.ref G.f0, .ref G.f1, .ref G.f2, .ref G.f3])) := hq0.2.2.2.2.1
theorem qR.f0 {G : qS}{F : Nat → Option fCe}{X : Nat × Nat × (Nat → Int32)}{k : Nat}{h : fSt} (hq0 : qR G F X k h) : ∃ x y, fF h G.f0 = some (.inl (1, [.long x, .long y])) := hq0.2.2.2.2.2.1
theorem qR.f1 {G : qS}{F : Nat → Option fCe}{X : Nat × Nat × (Nat → Int32)}{k : Nat}{h : fSt} (hq0 : qR G F X k h) : ∃ x y, fF h G.f1 = some (.inl (1, [.long x, .long y])) := hq0.2.2.2.2.2.2.1
theorem qR.f2 {G : qS}{F : Nat → Option fCe}{X : Nat × Nat × (Nat → Int32)}{k : Nat}{h : fSt} (hq0 : qR G F X k h) : ∃ x y, fF h G.f2 = some (.inl (1, [.long x, .long y])) := hq0.2.2.2.2.2.2.2.1
theorem qR.f3 {G : qS}{F : Nat → Option fCe}{X : Nat × Nat × (Nat → Int32)}{k : Nat}{h : fSt} (hq0 : qR G F X k h) : ∃ x y, fF h G.f3 = some (.inl (1, [.long x, .long y])) := hq0.2.2.2.2.2.2.2.2.1
theorem qR.nd {G : qS}{F : Nat → Option fCe}{X : Nat × Nat × (Nat → Int32)}{k : Nat}{h : fSt} (hq0 : qR G F X k h) : ∀ a, G.N a → fF h a = some (G.nd a).c := hq0.2.2.2.2.2.2.2.2.2.1
theorem qR.pp {G : qS}{F : Nat → Option fCe}{X : Nat × Nat × (Nat → Int32)}{k : Nat}{h : fSt} (hq0 : qR G F X k h) : ∀ a, G.P a → fF h a = some (G.pp a).c := hq0.2.2.2.2.2.2.2.2.2.2.1
theorem qR.ky {G : qS}{F : Nat → Option fCe}{X : Nat × Nat × (Nat → Int32)}{k : Nat}{h : fSt} (hq0 : qR G F X k h) : ∀ a, G.K a → fF h a = some (G.ky a).c := hq0.2.2.2.2.2.2.2.2.2.2.2.1
theorem qR.fm {G : qS}{F : Nat → Option fCe}{X : Nat × Nat × (Nat → Int32)}{k : Nat}{h : fSt} (hq0 : qR G F X k h) : ∀ a, G.M a → fF h a = some (G.fm a).c := hq0.2.2.2.2.2.2.2.2.2.2.2.2.1
theorem qR.lo {G : qS}{F : Nat → Option fCe}{X : Nat × Nat × (Nat → Int32)}{k : Nat}{h : fSt} (hq0 : qR G F X k h) : ∀ a c, F a = some c → qL c ∧ fF h a = some c := hq0.2.2.2.2.2.2.2.2.2.2.2.2.2.1
theorem qR.rm {G : qS}{F : Nat → Option fCe}{X : Nat × Nat × (Nat → Int32)}{k : Nat}{h : fSt} (hq0 : qR G F X k h) : fZ h + k ≤ fCB h ∧ fL h + 20 * k ≤ fLB h := hq0.2.2.2.2.2.2.2.2.2.2.2.2.2.2.1
theorem qR.xx {G : qS}{F : Nat → Option fCe}{X : Nat × Nat × (Nat → Int32)}{k : Nat}{h : fSt} (hq0 : qR G F X k h) : fX h = X := hq0.2.2.2.2.2.2.2.2.2.2.2.2.2.2.2.1
theorem qR.bd {G : qS}{F : Nat → Option fCe}{X : Nat × Nat × (Nat → Int32)}{k : Nat}{h : fSt} (hq0 : qR G F X k h) : ∀ a, fF h a ≠ none → a < fZ h := hq0.2.2.2.2.2.2.2.2.2.2.2.2.2.2.2.2
variable {G : qS} {F : Nat → Option fCe} {X : Nat × Nat × (Nat → Int32)} {k j : Nat} {h : fSt} {a : Nat}
theorem qR.le (R : qR G F X k h) (e : j ≤ k) : qR G F X j h := ⟨R.sc, R.na, R.ta, R.pt, R.bo, R.f0, R.f1, R.f2, R.f3, R.nd, R.pp, R.ky, R.fm, R.lo, ⟨by have := R.rm.1; omega, by have := R.rm.2; omega⟩, R.xx, R.bd⟩
theorem qL.d {c : fCe} {n : Nat} (q : qL c) (e : n ≠ 8 ∧ n ≠ 100 ∧ n ≠ 101 ∧ n ≠ 104) : n ≠ qT c := by
  intro z
  rcases q with q | q | q | q <;> rw [q] at z <;> omega
theorem bd_set {e : fCe} (d : ∀ a, fF h a ≠ none → a < fZ h) {b : Nat} (hb : fF h b ≠ none) : ∀ a, fF (fSet h b e) a ≠ none → a < fZ (fSet h b e) := by
  intro a q
  by_cases z : a = b
  · subst z; exact d a hb
  · rw [fF_set_ne z] at q; exact d a q
theorem bd_push {e : fCe} {n : Nat} (d : ∀ a, fF h a ≠ none → a < fZ h) : ∀ a, fF (fPush h e n) a ≠ none → a < fZ (fPush h e n) := by
  intro a q
  show a < fZ h + 1
  by_cases z : a = fZ h
  · omega
  · rw [fF_push_ne z] at q
    exact Nat.lt_succ_of_lt (d a q)
theorem nn {c : fCe} (e : fF h a = some c) : fF h a ≠ none := by rw [e]; exact fun z => nomatch z
theorem qR.setN (R : qR G F X k h) (ha : G.N a) (q : qN) : qR (G.setN a q) F X k (fSet h a q.c) := by
  obtain ⟨p1, p2, p3, p4, p5⟩ := R.pt
  obtain ⟨x0, y0, e0⟩ := R.f0
  obtain ⟨x1, y1, e1⟩ := R.f1
  obtain ⟨x2, y2, e2⟩ := R.f2
  obtain ⟨x3, y3, e3⟩ := R.f3
  refine ⟨fs_ne (R.nd a ha) (R.sc) (show (4 : Nat) ≠ 7 by decide), fs_ne (R.nd a ha) (R.na) (show (4 : Nat) ≠ 102 by decide), fs_ne (R.nd a ha) (R.ta) (show (4 : Nat) ≠ 103 by decide), ⟨p1, p2, p3, p4, fs_ne (R.nd a ha) (p5) (show (4 : Nat) ≠ 5 by decide)⟩, fs_ne (R.nd a ha) (R.bo) (show (4 : Nat) ≠ 0 by decide), ⟨x0, y0, fs_ne (R.nd a ha) (e0) (show (4 : Nat) ≠ 1 by decide)⟩, ⟨x1, y1, fs_ne (R.nd a ha) (e1) (show (4 : Nat) ≠ 1 by decide)⟩, ⟨x2, y2, fs_ne (R.nd a ha) (e2) (show (4 : Nat) ≠ 1 by decide)⟩, ⟨x3, y3, fs_ne (R.nd a ha) (e3) (show (4 : Nat) ≠ 1 by decide)⟩, fun b hb => ?_, fun b hb => fs_ne (R.nd a ha) (R.pp b hb) (show (4 : Nat) ≠ 6 by decide), fun b hb => fs_ne (R.nd a ha) (R.ky b hb) (show (4 : Nat) ≠ 3 by decide), fun b hb => fs_ne (R.nd a ha) (R.fm b hb) (show (4 : Nat) ≠ 2 by decide), fun b c hb => ⟨(R.lo b c hb).1, fs_ne (R.nd a ha) (R.lo b c hb).2 ((R.lo b c hb).1.d (show (4 : Nat) ≠ 8 ∧ (4 : Nat) ≠ 100 ∧ (4 : Nat) ≠ 101 ∧ (4 : Nat) ≠ 104 by decide))⟩, R.rm, R.xx, bd_set R.bd (nn (R.nd a ha))⟩
  by_cases z : b = a
  · subst z
    rw [fF_set_eq]
    show _ = some (qu G.nd b q b).c
    rw [qu_eq]
  · rw [fF_set_ne z]
    show _ = some (qu G.nd a q b).c
    rw [qu_ne z]
    exact R.nd b hb
theorem qR.setP (R : qR G F X k h) (ha : G.P a) (q : qP) : qR (G.setP a q) F X k (fSet h a q.c) := by
  obtain ⟨p1, p2, p3, p4, p5⟩ := R.pt
  obtain ⟨x0, y0, e0⟩ := R.f0
  obtain ⟨x1, y1, e1⟩ := R.f1
  obtain ⟨x2, y2, e2⟩ := R.f2
  obtain ⟨x3, y3, e3⟩ := R.f3
  refine ⟨fs_ne (R.pp a ha) (R.sc) (show (6 : Nat) ≠ 7 by decide), fs_ne (R.pp a ha) (R.na) (show (6 : Nat) ≠ 102 by decide), fs_ne (R.pp a ha) (R.ta) (show (6 : Nat) ≠ 103 by decide), ⟨p1, p2, p3, p4, fs_ne (R.pp a ha) (p5) (show (6 : Nat) ≠ 5 by decide)⟩, fs_ne (R.pp a ha) (R.bo) (show (6 : Nat) ≠ 0 by decide), ⟨x0, y0, fs_ne (R.pp a ha) (e0) (show (6 : Nat) ≠ 1 by decide)⟩, ⟨x1, y1, fs_ne (R.pp a ha) (e1) (show (6 : Nat) ≠ 1 by decide)⟩, ⟨x2, y2, fs_ne (R.pp a ha) (e2) (show (6 : Nat) ≠ 1 by decide)⟩, ⟨x3, y3, fs_ne (R.pp a ha) (e3) (show (6 : Nat) ≠ 1 by decide)⟩, fun b hb => fs_ne (R.pp a ha) (R.nd b hb) (show (6 : Nat) ≠ 4 by decide), fun b hb => ?_, fun b hb => fs_ne (R.pp a ha) (R.ky b hb) (show (6 : Nat) ≠ 3 by decide), fun b hb => fs_ne (R.pp a ha) (R.fm b hb) (show (6 : Nat) ≠ 2 by decide), fun b c hb => ⟨(R.lo b c hb).1, fs_ne (R.pp a ha) (R.lo b c hb).2 ((R.lo b c hb).1.d (show (6 : Nat) ≠ 8 ∧ (6 : Nat) ≠ 100 ∧ (6 : Nat) ≠ 101 ∧ (6 : Nat) ≠ 104 by decide))⟩, R.rm, R.xx, bd_set R.bd (nn (R.pp a ha))⟩
  by_cases z : b = a
  · subst z
    rw [fF_set_eq]
    show _ = some (qu G.pp b q b).c
    rw [qu_eq]
  · rw [fF_set_ne z]
    show _ = some (qu G.pp a q b).c
    rw [qu_ne z]
    exact R.pp b hb
theorem qR.setK (R : qR G F X k h) (ha : G.K a) (q : qK) : qR (G.setK a q) F X k (fSet h a q.c) := by
  obtain ⟨p1, p2, p3, p4, p5⟩ := R.pt
  obtain ⟨x0, y0, e0⟩ := R.f0
  obtain ⟨x1, y1, e1⟩ := R.f1
  obtain ⟨x2, y2, e2⟩ := R.f2
  obtain ⟨x3, y3, e3⟩ := R.f3
  refine ⟨fs_ne (R.ky a ha) (R.sc) (show (3 : Nat) ≠ 7 by decide), fs_ne (R.ky a ha) (R.na) (show (3 : Nat) ≠ 102 by decide), fs_ne (R.ky a ha) (R.ta) (show (3 : Nat) ≠ 103 by decide), ⟨p1, p2, p3, p4, fs_ne (R.ky a ha) (p5) (show (3 : Nat) ≠ 5 by decide)⟩, fs_ne (R.ky a ha) (R.bo) (show (3 : Nat) ≠ 0 by decide), ⟨x0, y0, fs_ne (R.ky a ha) (e0) (show (3 : Nat) ≠ 1 by decide)⟩, ⟨x1, y1, fs_ne (R.ky a ha) (e1) (show (3 : Nat) ≠ 1 by decide)⟩, ⟨x2, y2, fs_ne (R.ky a ha) (e2) (show (3 : Nat) ≠ 1 by decide)⟩, ⟨x3, y3, fs_ne (R.ky a ha) (e3) (show (3 : Nat) ≠ 1 by decide)⟩, fun b hb => fs_ne (R.ky a ha) (R.nd b hb) (show (3 : Nat) ≠ 4 by decide), fun b hb => fs_ne (R.ky a ha) (R.pp b hb) (show (3 : Nat) ≠ 6 by decide), fun b hb => ?_, fun b hb => fs_ne (R.ky a ha) (R.fm b hb) (show (3 : Nat) ≠ 2 by decide), fun b c hb => ⟨(R.lo b c hb).1, fs_ne (R.ky a ha) (R.lo b c hb).2 ((R.lo b c hb).1.d (show (3 : Nat) ≠ 8 ∧ (3 : Nat) ≠ 100 ∧ (3 : Nat) ≠ 101 ∧ (3 : Nat) ≠ 104 by decide))⟩, R.rm, R.xx, bd_set R.bd (nn (R.ky a ha))⟩
  by_cases z : b = a
  · subst z
    rw [fF_set_eq]
    show _ = some (qu G.ky b q b).c
    rw [qu_eq]
  · rw [fF_set_ne z]
    show _ = some (qu G.ky a q b).c
    rw [qu_ne z]
    exact R.ky b hb
theorem qR.setM (R : qR G F X k h) (ha : G.M a) (q : qM) : qR (G.setM a q) F X k (fSet h a q.c) := by
  obtain ⟨p1, p2, p3, p4, p5⟩ := R.pt
  obtain ⟨x0, y0, e0⟩ := R.f0
  obtain ⟨x1, y1, e1⟩ := R.f1
  obtain ⟨x2, y2, e2⟩ := R.f2
  obtain ⟨x3, y3, e3⟩ := R.f3
  refine ⟨fs_ne (R.fm a ha) (R.sc) (show (2 : Nat) ≠ 7 by decide), fs_ne (R.fm a ha) (R.na) (show (2 : Nat) ≠ 102 by decide), fs_ne (R.fm a ha) (R.ta) (show (2 : Nat) ≠ 103 by decide), ⟨p1, p2, p3, p4, fs_ne (R.fm a ha) (p5) (show (2 : Nat) ≠ 5 by decide)⟩, fs_ne (R.fm a ha) (R.bo) (show (2 : Nat) ≠ 0 by decide), ⟨x0, y0, fs_ne (R.fm a ha) (e0) (show (2 : Nat) ≠ 1 by decide)⟩, ⟨x1, y1, fs_ne (R.fm a ha) (e1) (show (2 : Nat) ≠ 1 by decide)⟩, ⟨x2, y2, fs_ne (R.fm a ha) (e2) (show (2 : Nat) ≠ 1 by decide)⟩, ⟨x3, y3, fs_ne (R.fm a ha) (e3) (show (2 : Nat) ≠ 1 by decide)⟩, fun b hb => fs_ne (R.fm a ha) (R.nd b hb) (show (2 : Nat) ≠ 4 by decide), fun b hb => fs_ne (R.fm a ha) (R.pp b hb) (show (2 : Nat) ≠ 6 by decide), fun b hb => fs_ne (R.fm a ha) (R.ky b hb) (show (2 : Nat) ≠ 3 by decide), fun b hb => ?_, fun b c hb => ⟨(R.lo b c hb).1, fs_ne (R.fm a ha) (R.lo b c hb).2 ((R.lo b c hb).1.d (show (2 : Nat) ≠ 8 ∧ (2 : Nat) ≠ 100 ∧ (2 : Nat) ≠ 101 ∧ (2 : Nat) ≠ 104 by decide))⟩, R.rm, R.xx, bd_set R.bd (nn (R.fm a ha))⟩
  by_cases z : b = a
  · subst z
    rw [fF_set_eq]
    show _ = some (qu G.fm b q b).c
    rw [qu_eq]
  · rw [fF_set_ne z]
    show _ = some (qu G.fm a q b).c
    rw [qu_ne z]
    exact R.fm b hb
theorem qR.s_added (R : qR G F X k h) (v : Int32) : qR ((G).s_added (v)) F X k (fSet h G.z (((G).s_added (v)) : qS).c) := by
  obtain ⟨p1, p2, p3, p4, p5⟩ := R.pt
  obtain ⟨x0, y0, e0⟩ := R.f0
  obtain ⟨x1, y1, e1⟩ := R.f1
  obtain ⟨x2, y2, e2⟩ := R.f2
  obtain ⟨x3, y3, e3⟩ := R.f3
  exact ⟨fF_set_eq, fs_ne R.sc (R.na) (show (7 : Nat) ≠ 102 by decide), fs_ne R.sc (R.ta) (show (7 : Nat) ≠ 103 by decide), ⟨p1, p2, p3, p4, fs_ne R.sc (p5) (show (7 : Nat) ≠ 5 by decide)⟩, fs_ne R.sc (R.bo) (show (7 : Nat) ≠ 0 by decide), ⟨x0, y0, fs_ne R.sc (e0) (show (7 : Nat) ≠ 1 by decide)⟩, ⟨x1, y1, fs_ne R.sc (e1) (show (7 : Nat) ≠ 1 by decide)⟩, ⟨x2, y2, fs_ne R.sc (e2) (show (7 : Nat) ≠ 1 by decide)⟩, ⟨x3, y3, fs_ne R.sc (e3) (show (7 : Nat) ≠ 1 by decide)⟩, fun b hb => fs_ne R.sc (R.nd b hb) (show (7 : Nat) ≠ 4 by decide), fun b hb => fs_ne R.sc (R.pp b hb) (show (7 : Nat) ≠ 6 by decide), fun b hb => fs_ne R.sc (R.ky b hb) (show (7 : Nat) ≠ 3 by decide), fun b hb => fs_ne R.sc (R.fm b hb) (show (7 : Nat) ≠ 2 by decide), fun b c hb => ⟨(R.lo b c hb).1, fs_ne R.sc (R.lo b c hb).2 ((R.lo b c hb).1.d (show (7 : Nat) ≠ 8 ∧ (7 : Nat) ≠ 100 ∧ (7 : Nat) ≠ 101 ∧ (7 : Nat) ≠ 104 by decide))⟩, R.rm, R.xx, bd_set R.bd (nn R.sc)⟩
theorem qR.s_tracked (R : qR G F X k h) (v : Int32) : qR ((G).s_tracked (v)) F X k (fSet h G.z (((G).s_tracked (v)) : qS).c) := by
  obtain ⟨p1, p2, p3, p4, p5⟩ := R.pt
  obtain ⟨x0, y0, e0⟩ := R.f0
  obtain ⟨x1, y1, e1⟩ := R.f1
  obtain ⟨x2, y2, e2⟩ := R.f2
  obtain ⟨x3, y3, e3⟩ := R.f3
  exact ⟨fF_set_eq, fs_ne R.sc (R.na) (show (7 : Nat) ≠ 102 by decide), fs_ne R.sc (R.ta) (show (7 : Nat) ≠ 103 by decide), ⟨p1, p2, p3, p4, fs_ne R.sc (p5) (show (7 : Nat) ≠ 5 by decide)⟩, fs_ne R.sc (R.bo) (show (7 : Nat) ≠ 0 by decide), ⟨x0, y0, fs_ne R.sc (e0) (show (7 : Nat) ≠ 1 by decide)⟩, ⟨x1, y1, fs_ne R.sc (e1) (show (7 : Nat) ≠ 1 by decide)⟩, ⟨x2, y2, fs_ne R.sc (e2) (show (7 : Nat) ≠ 1 by decide)⟩, ⟨x3, y3, fs_ne R.sc (e3) (show (7 : Nat) ≠ 1 by decide)⟩, fun b hb => fs_ne R.sc (R.nd b hb) (show (7 : Nat) ≠ 4 by decide), fun b hb => fs_ne R.sc (R.pp b hb) (show (7 : Nat) ≠ 6 by decide), fun b hb => fs_ne R.sc (R.ky b hb) (show (7 : Nat) ≠ 3 by decide), fun b hb => fs_ne R.sc (R.fm b hb) (show (7 : Nat) ≠ 2 by decide), fun b c hb => ⟨(R.lo b c hb).1, fs_ne R.sc (R.lo b c hb).2 ((R.lo b c hb).1.d (show (7 : Nat) ≠ 8 ∧ (7 : Nat) ≠ 100 ∧ (7 : Nat) ≠ 101 ∧ (7 : Nat) ≠ 104 by decide))⟩, R.rm, R.xx, bd_set R.bd (nn R.sc)⟩
theorem qR.s_time (R : qR G F X k h) (v : Int32) : qR ((G).s_time (v)) F X k (fSet h G.z (((G).s_time (v)) : qS).c) := by
  obtain ⟨p1, p2, p3, p4, p5⟩ := R.pt
  obtain ⟨x0, y0, e0⟩ := R.f0
  obtain ⟨x1, y1, e1⟩ := R.f1
  obtain ⟨x2, y2, e2⟩ := R.f2
  obtain ⟨x3, y3, e3⟩ := R.f3
  exact ⟨fF_set_eq, fs_ne R.sc (R.na) (show (7 : Nat) ≠ 102 by decide), fs_ne R.sc (R.ta) (show (7 : Nat) ≠ 103 by decide), ⟨p1, p2, p3, p4, fs_ne R.sc (p5) (show (7 : Nat) ≠ 5 by decide)⟩, fs_ne R.sc (R.bo) (show (7 : Nat) ≠ 0 by decide), ⟨x0, y0, fs_ne R.sc (e0) (show (7 : Nat) ≠ 1 by decide)⟩, ⟨x1, y1, fs_ne R.sc (e1) (show (7 : Nat) ≠ 1 by decide)⟩, ⟨x2, y2, fs_ne R.sc (e2) (show (7 : Nat) ≠ 1 by decide)⟩, ⟨x3, y3, fs_ne R.sc (e3) (show (7 : Nat) ≠ 1 by decide)⟩, fun b hb => fs_ne R.sc (R.nd b hb) (show (7 : Nat) ≠ 4 by decide), fun b hb => fs_ne R.sc (R.pp b hb) (show (7 : Nat) ≠ 6 by decide), fun b hb => fs_ne R.sc (R.ky b hb) (show (7 : Nat) ≠ 3 by decide), fun b hb => fs_ne R.sc (R.fm b hb) (show (7 : Nat) ≠ 2 by decide), fun b c hb => ⟨(R.lo b c hb).1, fs_ne R.sc (R.lo b c hb).2 ((R.lo b c hb).1.d (show (7 : Nat) ≠ 8 ∧ (7 : Nat) ≠ 100 ∧ (7 : Nat) ≠ 101 ∧ (7 : Nat) ≠ 104 by decide))⟩, R.rm, R.xx, bd_set R.bd (nn R.sc)⟩
theorem qR.s_last (R : qR G F X k h) (v : Option Nat) : qR ((G).s_last (v)) F X k (fSet h G.z (((G).s_last (v)) : qS).c) := by
  obtain ⟨p1, p2, p3, p4, p5⟩ := R.pt
  obtain ⟨x0, y0, e0⟩ := R.f0
  obtain ⟨x1, y1, e1⟩ := R.f1
  obtain ⟨x2, y2, e2⟩ := R.f2
  obtain ⟨x3, y3, e3⟩ := R.f3
  exact ⟨fF_set_eq, fs_ne R.sc (R.na) (show (7 : Nat) ≠ 102 by decide), fs_ne R.sc (R.ta) (show (7 : Nat) ≠ 103 by decide), ⟨p1, p2, p3, p4, fs_ne R.sc (p5) (show (7 : Nat) ≠ 5 by decide)⟩, fs_ne R.sc (R.bo) (show (7 : Nat) ≠ 0 by decide), ⟨x0, y0, fs_ne R.sc (e0) (show (7 : Nat) ≠ 1 by decide)⟩, ⟨x1, y1, fs_ne R.sc (e1) (show (7 : Nat) ≠ 1 by decide)⟩, ⟨x2, y2, fs_ne R.sc (e2) (show (7 : Nat) ≠ 1 by decide)⟩, ⟨x3, y3, fs_ne R.sc (e3) (show (7 : Nat) ≠ 1 by decide)⟩, fun b hb => fs_ne R.sc (R.nd b hb) (show (7 : Nat) ≠ 4 by decide), fun b hb => fs_ne R.sc (R.pp b hb) (show (7 : Nat) ≠ 6 by decide), fun b hb => fs_ne R.sc (R.ky b hb) (show (7 : Nat) ≠ 3 by decide), fun b hb => fs_ne R.sc (R.fm b hb) (show (7 : Nat) ≠ 2 by decide), fun b c hb => ⟨(R.lo b c hb).1, fs_ne R.sc (R.lo b c hb).2 ((R.lo b c hb).1.d (show (7 : Nat) ≠ 8 ∧ (7 : Nat) ≠ 100 ∧ (7 : Nat) ≠ 101 ∧ (7 : Nat) ≠ 104 by decide))⟩, R.rm, R.xx, bd_set R.bd (nn R.sc)⟩
theorem qR.s_ord (R : qR G F X k h) (v : Int32) : qR ((G).s_ord (v)) F X k (fSet h G.z (((G).s_ord (v)) : qS).c) := by
  obtain ⟨p1, p2, p3, p4, p5⟩ := R.pt
  obtain ⟨x0, y0, e0⟩ := R.f0
  obtain ⟨x1, y1, e1⟩ := R.f1
  obtain ⟨x2, y2, e2⟩ := R.f2
  obtain ⟨x3, y3, e3⟩ := R.f3
  exact ⟨fF_set_eq, fs_ne R.sc (R.na) (show (7 : Nat) ≠ 102 by decide), fs_ne R.sc (R.ta) (show (7 : Nat) ≠ 103 by decide), ⟨p1, p2, p3, p4, fs_ne R.sc (p5) (show (7 : Nat) ≠ 5 by decide)⟩, fs_ne R.sc (R.bo) (show (7 : Nat) ≠ 0 by decide), ⟨x0, y0, fs_ne R.sc (e0) (show (7 : Nat) ≠ 1 by decide)⟩, ⟨x1, y1, fs_ne R.sc (e1) (show (7 : Nat) ≠ 1 by decide)⟩, ⟨x2, y2, fs_ne R.sc (e2) (show (7 : Nat) ≠ 1 by decide)⟩, ⟨x3, y3, fs_ne R.sc (e3) (show (7 : Nat) ≠ 1 by decide)⟩, fun b hb => fs_ne R.sc (R.nd b hb) (show (7 : Nat) ≠ 4 by decide), fun b hb => fs_ne R.sc (R.pp b hb) (show (7 : Nat) ≠ 6 by decide), fun b hb => fs_ne R.sc (R.ky b hb) (show (7 : Nat) ≠ 3 by decide), fun b hb => fs_ne R.sc (R.fm b hb) (show (7 : Nat) ≠ 2 by decide), fun b c hb => ⟨(R.lo b c hb).1, fs_ne R.sc (R.lo b c hb).2 ((R.lo b c hb).1.d (show (7 : Nat) ≠ 8 ∧ (7 : Nat) ≠ 100 ∧ (7 : Nat) ≠ 101 ∧ (7 : Nat) ≠ 104 by decide))⟩, R.rm, R.xx, bd_set R.bd (nn R.sc)⟩
theorem qR.s_no (R : qR G F X k h) (f : Nat → Option Nat) : qR ((G).s_no (f)) F X k (fSet h G.na (.inr (2, 30, .inr (.inr (.inr (.inr f)))))) := by
  obtain ⟨p1, p2, p3, p4, p5⟩ := R.pt
  obtain ⟨x0, y0, e0⟩ := R.f0
  obtain ⟨x1, y1, e1⟩ := R.f1
  obtain ⟨x2, y2, e2⟩ := R.f2
  obtain ⟨x3, y3, e3⟩ := R.f3
  exact ⟨fs_ne R.na (R.sc) (show (102 : Nat) ≠ 7 by decide), fF_set_eq, fs_ne R.na (R.ta) (show (102 : Nat) ≠ 103 by decide), ⟨p1, p2, p3, p4, fs_ne R.na (p5) (show (102 : Nat) ≠ 5 by decide)⟩, fs_ne R.na (R.bo) (show (102 : Nat) ≠ 0 by decide), ⟨x0, y0, fs_ne R.na (e0) (show (102 : Nat) ≠ 1 by decide)⟩, ⟨x1, y1, fs_ne R.na (e1) (show (102 : Nat) ≠ 1 by decide)⟩, ⟨x2, y2, fs_ne R.na (e2) (show (102 : Nat) ≠ 1 by decide)⟩, ⟨x3, y3, fs_ne R.na (e3) (show (102 : Nat) ≠ 1 by decide)⟩, fun b hb => fs_ne R.na (R.nd b hb) (show (102 : Nat) ≠ 4 by decide), fun b hb => fs_ne R.na (R.pp b hb) (show (102 : Nat) ≠ 6 by decide), fun b hb => fs_ne R.na (R.ky b hb) (show (102 : Nat) ≠ 3 by decide), fun b hb => fs_ne R.na (R.fm b hb) (show (102 : Nat) ≠ 2 by decide), fun b c hb => ⟨(R.lo b c hb).1, fs_ne R.na (R.lo b c hb).2 ((R.lo b c hb).1.d (show (102 : Nat) ≠ 8 ∧ (102 : Nat) ≠ 100 ∧ (102 : Nat) ≠ 101 ∧ (102 : Nat) ≠ 104 by decide))⟩, R.rm, R.xx, bd_set R.bd (nn R.na)⟩
theorem qR.s_tr (R : qR G F X k h) (f : Nat → Option Nat) : qR ((G).s_tr (f)) F X k (fSet h G.ta (.inr (3, 12, .inr (.inr (.inr (.inr f)))))) := by
  obtain ⟨p1, p2, p3, p4, p5⟩ := R.pt
  obtain ⟨x0, y0, e0⟩ := R.f0
  obtain ⟨x1, y1, e1⟩ := R.f1
  obtain ⟨x2, y2, e2⟩ := R.f2
  obtain ⟨x3, y3, e3⟩ := R.f3
  exact ⟨fs_ne R.ta (R.sc) (show (103 : Nat) ≠ 7 by decide), fs_ne R.ta (R.na) (show (103 : Nat) ≠ 102 by decide), fF_set_eq, ⟨p1, p2, p3, p4, fs_ne R.ta (p5) (show (103 : Nat) ≠ 5 by decide)⟩, fs_ne R.ta (R.bo) (show (103 : Nat) ≠ 0 by decide), ⟨x0, y0, fs_ne R.ta (e0) (show (103 : Nat) ≠ 1 by decide)⟩, ⟨x1, y1, fs_ne R.ta (e1) (show (103 : Nat) ≠ 1 by decide)⟩, ⟨x2, y2, fs_ne R.ta (e2) (show (103 : Nat) ≠ 1 by decide)⟩, ⟨x3, y3, fs_ne R.ta (e3) (show (103 : Nat) ≠ 1 by decide)⟩, fun b hb => fs_ne R.ta (R.nd b hb) (show (103 : Nat) ≠ 4 by decide), fun b hb => fs_ne R.ta (R.pp b hb) (show (103 : Nat) ≠ 6 by decide), fun b hb => fs_ne R.ta (R.ky b hb) (show (103 : Nat) ≠ 3 by decide), fun b hb => fs_ne R.ta (R.fm b hb) (show (103 : Nat) ≠ 2 by decide), fun b c hb => ⟨(R.lo b c hb).1, fs_ne R.ta (R.lo b c hb).2 ((R.lo b c hb).1.d (show (103 : Nat) ≠ 8 ∧ (103 : Nat) ≠ 100 ∧ (103 : Nat) ≠ 101 ∧ (103 : Nat) ≠ 104 by decide))⟩, R.rm, R.xx, bd_set R.bd (nn R.ta)⟩
/-- the point's cell -/
def PT (p : Nat) (x y u : Int64) (c : Int32) (h : fSt) : fSt := fSet h p (.inl (5, [.long x, .long y, .long u, .int c]))
def FR (p : Nat) (x y : Int64) (h : fSt) : fSt := fSet h p (.inl (1, [.long x, .long y]))
theorem qR.s_pt (R : qR G F X k h) (x y u : Int64) (c : Int32) : qR G F X k (PT G.pt x y u c h) := by
  obtain ⟨p1, p2, p3, p4, p5⟩ := R.pt
  obtain ⟨x0, y0, e0⟩ := R.f0
  obtain ⟨x1, y1, e1⟩ := R.f1
  obtain ⟨x2, y2, e2⟩ := R.f2
  obtain ⟨x3, y3, e3⟩ := R.f3
  exact ⟨fs_ne p5 (R.sc) (show (5 : Nat) ≠ 7 by decide), fs_ne p5 (R.na) (show (5 : Nat) ≠ 102 by decide), fs_ne p5 (R.ta) (show (5 : Nat) ≠ 103 by decide), ⟨x, y, u, c, fF_set_eq⟩, fs_ne p5 (R.bo) (show (5 : Nat) ≠ 0 by decide), ⟨x0, y0, fs_ne p5 (e0) (show (5 : Nat) ≠ 1 by decide)⟩, ⟨x1, y1, fs_ne p5 (e1) (show (5 : Nat) ≠ 1 by decide)⟩, ⟨x2, y2, fs_ne p5 (e2) (show (5 : Nat) ≠ 1 by decide)⟩, ⟨x3, y3, fs_ne p5 (e3) (show (5 : Nat) ≠ 1 by decide)⟩, fun b hb => fs_ne p5 (R.nd b hb) (show (5 : Nat) ≠ 4 by decide), fun b hb => fs_ne p5 (R.pp b hb) (show (5 : Nat) ≠ 6 by decide), fun b hb => fs_ne p5 (R.ky b hb) (show (5 : Nat) ≠ 3 by decide), fun b hb => fs_ne p5 (R.fm b hb) (show (5 : Nat) ≠ 2 by decide), fun b c hb => ⟨(R.lo b c hb).1, fs_ne p5 (R.lo b c hb).2 ((R.lo b c hb).1.d (show (5 : Nat) ≠ 8 ∧ (5 : Nat) ≠ 100 ∧ (5 : Nat) ≠ 101 ∧ (5 : Nat) ≠ 104 by decide))⟩, R.rm, R.xx, bd_set R.bd (nn p5)⟩
theorem qR.s_f0 (R : qR G F X k h) (x y : Int64) : qR G F X k (FR G.f0 x y h) := by
  obtain ⟨p1, p2, p3, p4, p5⟩ := R.pt
  obtain ⟨x0, y0, e0⟩ := R.f0
  obtain ⟨x1, y1, e1⟩ := R.f1
  obtain ⟨x2, y2, e2⟩ := R.f2
  obtain ⟨x3, y3, e3⟩ := R.f3
  exact ⟨fs_ne e0 (R.sc) (show (1 : Nat) ≠ 7 by decide), fs_ne e0 (R.na) (show (1 : Nat) ≠ 102 by decide), fs_ne e0 (R.ta) (show (1 : Nat) ≠ 103 by decide), ⟨p1, p2, p3, p4, fs_ne e0 (p5) (show (1 : Nat) ≠ 5 by decide)⟩, fs_ne e0 (R.bo) (show (1 : Nat) ≠ 0 by decide), ⟨x, y, fF_set_eq⟩, by
    by_cases z : G.f1 = G.f0
    · rw [z]; exact ⟨x, y, fF_set_eq⟩
    · exact ⟨x1, y1, (fF_set_ne z).trans e1⟩, by
    by_cases z : G.f2 = G.f0
    · rw [z]; exact ⟨x, y, fF_set_eq⟩
    · exact ⟨x2, y2, (fF_set_ne z).trans e2⟩, by
    by_cases z : G.f3 = G.f0
    · rw [z]; exact ⟨x, y, fF_set_eq⟩
    · exact ⟨x3, y3, (fF_set_ne z).trans e3⟩, fun b hb => fs_ne e0 (R.nd b hb) (show (1 : Nat) ≠ 4 by decide), fun b hb => fs_ne e0 (R.pp b hb) (show (1 : Nat) ≠ 6 by decide), fun b hb => fs_ne e0 (R.ky b hb) (show (1 : Nat) ≠ 3 by decide), fun b hb => fs_ne e0 (R.fm b hb) (show (1 : Nat) ≠ 2 by decide), fun b c hb => ⟨(R.lo b c hb).1, fs_ne e0 (R.lo b c hb).2 ((R.lo b c hb).1.d (show (1 : Nat) ≠ 8 ∧ (1 : Nat) ≠ 100 ∧ (1 : Nat) ≠ 101 ∧ (1 : Nat) ≠ 104 by decide))⟩, R.rm, R.xx, bd_set R.bd (nn e0)⟩
theorem qR.s_f1 (R : qR G F X k h) (x y : Int64) : qR G F X k (FR G.f1 x y h) := by
  obtain ⟨p1, p2, p3, p4, p5⟩ := R.pt
  obtain ⟨x0, y0, e0⟩ := R.f0
  obtain ⟨x1, y1, e1⟩ := R.f1
  obtain ⟨x2, y2, e2⟩ := R.f2
  obtain ⟨x3, y3, e3⟩ := R.f3
  exact ⟨fs_ne e1 (R.sc) (show (1 : Nat) ≠ 7 by decide), fs_ne e1 (R.na) (show (1 : Nat) ≠ 102 by decide), fs_ne e1 (R.ta) (show (1 : Nat) ≠ 103 by decide), ⟨p1, p2, p3, p4, fs_ne e1 (p5) (show (1 : Nat) ≠ 5 by decide)⟩, fs_ne e1 (R.bo) (show (1 : Nat) ≠ 0 by decide), by
    by_cases z : G.f0 = G.f1
    · rw [z]; exact ⟨x, y, fF_set_eq⟩
    · exact ⟨x0, y0, (fF_set_ne z).trans e0⟩, ⟨x, y, fF_set_eq⟩, by
    by_cases z : G.f2 = G.f1
    · rw [z]; exact ⟨x, y, fF_set_eq⟩
    · exact ⟨x2, y2, (fF_set_ne z).trans e2⟩, by
    by_cases z : G.f3 = G.f1
    · rw [z]; exact ⟨x, y, fF_set_eq⟩
    · exact ⟨x3, y3, (fF_set_ne z).trans e3⟩, fun b hb => fs_ne e1 (R.nd b hb) (show (1 : Nat) ≠ 4 by decide), fun b hb => fs_ne e1 (R.pp b hb) (show (1 : Nat) ≠ 6 by decide), fun b hb => fs_ne e1 (R.ky b hb) (show (1 : Nat) ≠ 3 by decide), fun b hb => fs_ne e1 (R.fm b hb) (show (1 : Nat) ≠ 2 by decide), fun b c hb => ⟨(R.lo b c hb).1, fs_ne e1 (R.lo b c hb).2 ((R.lo b c hb).1.d (show (1 : Nat) ≠ 8 ∧ (1 : Nat) ≠ 100 ∧ (1 : Nat) ≠ 101 ∧ (1 : Nat) ≠ 104 by decide))⟩, R.rm, R.xx, bd_set R.bd (nn e1)⟩
theorem qR.s_f2 (R : qR G F X k h) (x y : Int64) : qR G F X k (FR G.f2 x y h) := by
  obtain ⟨p1, p2, p3, p4, p5⟩ := R.pt
  obtain ⟨x0, y0, e0⟩ := R.f0
  obtain ⟨x1, y1, e1⟩ := R.f1
  obtain ⟨x2, y2, e2⟩ := R.f2
  obtain ⟨x3, y3, e3⟩ := R.f3
  exact ⟨fs_ne e2 (R.sc) (show (1 : Nat) ≠ 7 by decide), fs_ne e2 (R.na) (show (1 : Nat) ≠ 102 by decide), fs_ne e2 (R.ta) (show (1 : Nat) ≠ 103 by decide), ⟨p1, p2, p3, p4, fs_ne e2 (p5) (show (1 : Nat) ≠ 5 by decide)⟩, fs_ne e2 (R.bo) (show (1 : Nat) ≠ 0 by decide), by
    by_cases z : G.f0 = G.f2
    · rw [z]; exact ⟨x, y, fF_set_eq⟩
    · exact ⟨x0, y0, (fF_set_ne z).trans e0⟩, by
    by_cases z : G.f1 = G.f2
    · rw [z]; exact ⟨x, y, fF_set_eq⟩
    · exact ⟨x1, y1, (fF_set_ne z).trans e1⟩, ⟨x, y, fF_set_eq⟩, by
    by_cases z : G.f3 = G.f2
    · rw [z]; exact ⟨x, y, fF_set_eq⟩
    · exact ⟨x3, y3, (fF_set_ne z).trans e3⟩, fun b hb => fs_ne e2 (R.nd b hb) (show (1 : Nat) ≠ 4 by decide), fun b hb => fs_ne e2 (R.pp b hb) (show (1 : Nat) ≠ 6 by decide), fun b hb => fs_ne e2 (R.ky b hb) (show (1 : Nat) ≠ 3 by decide), fun b hb => fs_ne e2 (R.fm b hb) (show (1 : Nat) ≠ 2 by decide), fun b c hb => ⟨(R.lo b c hb).1, fs_ne e2 (R.lo b c hb).2 ((R.lo b c hb).1.d (show (1 : Nat) ≠ 8 ∧ (1 : Nat) ≠ 100 ∧ (1 : Nat) ≠ 101 ∧ (1 : Nat) ≠ 104 by decide))⟩, R.rm, R.xx, bd_set R.bd (nn e2)⟩
theorem qR.s_f3 (R : qR G F X k h) (x y : Int64) : qR G F X k (FR G.f3 x y h) := by
  obtain ⟨p1, p2, p3, p4, p5⟩ := R.pt
  obtain ⟨x0, y0, e0⟩ := R.f0
  obtain ⟨x1, y1, e1⟩ := R.f1
  obtain ⟨x2, y2, e2⟩ := R.f2
  obtain ⟨x3, y3, e3⟩ := R.f3
  exact ⟨fs_ne e3 (R.sc) (show (1 : Nat) ≠ 7 by decide), fs_ne e3 (R.na) (show (1 : Nat) ≠ 102 by decide), fs_ne e3 (R.ta) (show (1 : Nat) ≠ 103 by decide), ⟨p1, p2, p3, p4, fs_ne e3 (p5) (show (1 : Nat) ≠ 5 by decide)⟩, fs_ne e3 (R.bo) (show (1 : Nat) ≠ 0 by decide), by
    by_cases z : G.f0 = G.f3
    · rw [z]; exact ⟨x, y, fF_set_eq⟩
    · exact ⟨x0, y0, (fF_set_ne z).trans e0⟩, by
    by_cases z : G.f1 = G.f3
    · rw [z]; exact ⟨x, y, fF_set_eq⟩
    · exact ⟨x1, y1, (fF_set_ne z).trans e1⟩, by
    by_cases z : G.f2 = G.f3
    · rw [z]; exact ⟨x, y, fF_set_eq⟩
    · exact ⟨x2, y2, (fF_set_ne z).trans e2⟩, ⟨x, y, fF_set_eq⟩, fun b hb => fs_ne e3 (R.nd b hb) (show (1 : Nat) ≠ 4 by decide), fun b hb => fs_ne e3 (R.pp b hb) (show (1 : Nat) ≠ 6 by decide), fun b hb => fs_ne e3 (R.ky b hb) (show (1 : Nat) ≠ 3 by decide), fun b hb => fs_ne e3 (R.fm b hb) (show (1 : Nat) ≠ 2 by decide), fun b c hb => ⟨(R.lo b c hb).1, fs_ne e3 (R.lo b c hb).2 ((R.lo b c hb).1.d (show (1 : Nat) ≠ 8 ∧ (1 : Nat) ≠ 100 ∧ (1 : Nat) ≠ 101 ∧ (1 : Nat) ≠ 104 by decide))⟩, R.rm, R.xx, bd_set R.bd (nn e3)⟩
theorem qR.setF (R : qR G F X k h) {c0 : fCe} (ha : F a = some c0) {c : fCe} (hc : qL c) : qR G (qu F a (some c)) X k (fSet h a c) := by
  obtain ⟨p1, p2, p3, p4, p5⟩ := R.pt
  obtain ⟨l0, l1⟩ := R.lo a c0 ha
  have d : ∀ {n : Nat}, (n ≠ 8 ∧ n ≠ 100 ∧ n ≠ 101 ∧ n ≠ 104) → qT c0 ≠ n := fun e => (l0.d e).symm
  obtain ⟨x0, y0, e0⟩ := R.f0
  obtain ⟨x1, y1, e1⟩ := R.f1
  obtain ⟨x2, y2, e2⟩ := R.f2
  obtain ⟨x3, y3, e3⟩ := R.f3
  refine ⟨fs_ne l1 (R.sc) (d (show (7 : Nat) ≠ 8 ∧ (7 : Nat) ≠ 100 ∧ (7 : Nat) ≠ 101 ∧ (7 : Nat) ≠ 104 by decide)), fs_ne l1 (R.na) (d (show (102 : Nat) ≠ 8 ∧ (102 : Nat) ≠ 100 ∧ (102 : Nat) ≠ 101 ∧ (102 : Nat) ≠ 104 by decide)), fs_ne l1 (R.ta) (d (show (103 : Nat) ≠ 8 ∧ (103 : Nat) ≠ 100 ∧ (103 : Nat) ≠ 101 ∧ (103 : Nat) ≠ 104 by decide)), ⟨p1, p2, p3, p4, fs_ne l1 (p5) (d (show (5 : Nat) ≠ 8 ∧ (5 : Nat) ≠ 100 ∧ (5 : Nat) ≠ 101 ∧ (5 : Nat) ≠ 104 by decide))⟩, fs_ne l1 (R.bo) (d (show (0 : Nat) ≠ 8 ∧ (0 : Nat) ≠ 100 ∧ (0 : Nat) ≠ 101 ∧ (0 : Nat) ≠ 104 by decide)), ⟨x0, y0, fs_ne l1 (e0) (d (show (1 : Nat) ≠ 8 ∧ (1 : Nat) ≠ 100 ∧ (1 : Nat) ≠ 101 ∧ (1 : Nat) ≠ 104 by decide))⟩, ⟨x1, y1, fs_ne l1 (e1) (d (show (1 : Nat) ≠ 8 ∧ (1 : Nat) ≠ 100 ∧ (1 : Nat) ≠ 101 ∧ (1 : Nat) ≠ 104 by decide))⟩, ⟨x2, y2, fs_ne l1 (e2) (d (show (1 : Nat) ≠ 8 ∧ (1 : Nat) ≠ 100 ∧ (1 : Nat) ≠ 101 ∧ (1 : Nat) ≠ 104 by decide))⟩, ⟨x3, y3, fs_ne l1 (e3) (d (show (1 : Nat) ≠ 8 ∧ (1 : Nat) ≠ 100 ∧ (1 : Nat) ≠ 101 ∧ (1 : Nat) ≠ 104 by decide))⟩, fun b hb => fs_ne l1 (R.nd b hb) (d (show (4 : Nat) ≠ 8 ∧ (4 : Nat) ≠ 100 ∧ (4 : Nat) ≠ 101 ∧ (4 : Nat) ≠ 104 by decide)), fun b hb => fs_ne l1 (R.pp b hb) (d (show (6 : Nat) ≠ 8 ∧ (6 : Nat) ≠ 100 ∧ (6 : Nat) ≠ 101 ∧ (6 : Nat) ≠ 104 by decide)), fun b hb => fs_ne l1 (R.ky b hb) (d (show (3 : Nat) ≠ 8 ∧ (3 : Nat) ≠ 100 ∧ (3 : Nat) ≠ 101 ∧ (3 : Nat) ≠ 104 by decide)), fun b hb => fs_ne l1 (R.fm b hb) (d (show (2 : Nat) ≠ 8 ∧ (2 : Nat) ≠ 100 ∧ (2 : Nat) ≠ 101 ∧ (2 : Nat) ≠ 104 by decide)), fun b c2 hb => ?_, R.rm, R.xx, bd_set R.bd (nn l1)⟩
  by_cases z : b = a
  · subst z
    rw [qu_eq] at hb
    cases hb
    exact ⟨hc, fF_set_eq⟩
  · rw [qu_ne z] at hb
    rw [fF_set_ne z]
    exact R.lo b c2 hb
theorem qR.newN (R : qR G F X (k + 1) h) (q : qN) {n : Nat} (hn : n ≤ 20) : qR (G.addN (fZ h) q) F X k (fPush h q.c n) := by
  obtain ⟨p1, p2, p3, p4, p5⟩ := R.pt
  obtain ⟨x0, y0, e0⟩ := R.f0
  obtain ⟨x1, y1, e1⟩ := R.f1
  obtain ⟨x2, y2, e2⟩ := R.f2
  obtain ⟨x3, y3, e3⟩ := R.f3
  refine ⟨fp_ne (R.sc) R.bd, fp_ne (R.na) R.bd, fp_ne (R.ta) R.bd, ⟨p1, p2, p3, p4, fp_ne (p5) R.bd⟩, fp_ne (R.bo) R.bd, ⟨x0, y0, fp_ne (e0) R.bd⟩, ⟨x1, y1, fp_ne (e1) R.bd⟩, ⟨x2, y2, fp_ne (e2) R.bd⟩, ⟨x3, y3, fp_ne (e3) R.bd⟩, fun b hb => ?_, fun b hb => fp_ne (R.pp b hb) R.bd, fun b hb => fp_ne (R.ky b hb) R.bd, fun b hb => fp_ne (R.fm b hb) R.bd, fun b c2 hb => ⟨(R.lo b c2 hb).1, fp_ne ((R.lo b c2 hb).2) R.bd⟩, ⟨by have := R.rm.1; show fZ h + 1 + k ≤ fCB h; omega, by have := R.rm.2; show fL h + n + 20 * k ≤ fLB h; omega⟩, R.xx, bd_push R.bd⟩
  by_cases z : b = fZ h
  · subst z
    rw [fF_push_eq]
    show _ = some (qu G.nd (fZ h) q (fZ h)).c
    rw [qu_eq]
  · rw [fF_push_ne z]
    show _ = some (qu G.nd (fZ h) q b).c
    rw [qu_ne z]
    exact R.nd b (hb.resolve_left z)
theorem qR.newP (R : qR G F X (k + 1) h) (q : qP) {n : Nat} (hn : n ≤ 20) : qR (G.addP (fZ h) q) F X k (fPush h q.c n) := by
  obtain ⟨p1, p2, p3, p4, p5⟩ := R.pt
  obtain ⟨x0, y0, e0⟩ := R.f0
  obtain ⟨x1, y1, e1⟩ := R.f1
  obtain ⟨x2, y2, e2⟩ := R.f2
  obtain ⟨x3, y3, e3⟩ := R.f3
  refine ⟨fp_ne (R.sc) R.bd, fp_ne (R.na) R.bd, fp_ne (R.ta) R.bd, ⟨p1, p2, p3, p4, fp_ne (p5) R.bd⟩, fp_ne (R.bo) R.bd, ⟨x0, y0, fp_ne (e0) R.bd⟩, ⟨x1, y1, fp_ne (e1) R.bd⟩, ⟨x2, y2, fp_ne (e2) R.bd⟩, ⟨x3, y3, fp_ne (e3) R.bd⟩, fun b hb => fp_ne (R.nd b hb) R.bd, fun b hb => ?_, fun b hb => fp_ne (R.ky b hb) R.bd, fun b hb => fp_ne (R.fm b hb) R.bd, fun b c2 hb => ⟨(R.lo b c2 hb).1, fp_ne ((R.lo b c2 hb).2) R.bd⟩, ⟨by have := R.rm.1; show fZ h + 1 + k ≤ fCB h; omega, by have := R.rm.2; show fL h + n + 20 * k ≤ fLB h; omega⟩, R.xx, bd_push R.bd⟩
  by_cases z : b = fZ h
  · subst z
    rw [fF_push_eq]
    show _ = some (qu G.pp (fZ h) q (fZ h)).c
    rw [qu_eq]
  · rw [fF_push_ne z]
    show _ = some (qu G.pp (fZ h) q b).c
    rw [qu_ne z]
    exact R.pp b (hb.resolve_left z)
theorem qR.newK (R : qR G F X (k + 1) h) (q : qK) {n : Nat} (hn : n ≤ 20) : qR (G.addK (fZ h) q) F X k (fPush h q.c n) := by
  obtain ⟨p1, p2, p3, p4, p5⟩ := R.pt
  obtain ⟨x0, y0, e0⟩ := R.f0
  obtain ⟨x1, y1, e1⟩ := R.f1
  obtain ⟨x2, y2, e2⟩ := R.f2
  obtain ⟨x3, y3, e3⟩ := R.f3
  refine ⟨fp_ne (R.sc) R.bd, fp_ne (R.na) R.bd, fp_ne (R.ta) R.bd, ⟨p1, p2, p3, p4, fp_ne (p5) R.bd⟩, fp_ne (R.bo) R.bd, ⟨x0, y0, fp_ne (e0) R.bd⟩, ⟨x1, y1, fp_ne (e1) R.bd⟩, ⟨x2, y2, fp_ne (e2) R.bd⟩, ⟨x3, y3, fp_ne (e3) R.bd⟩, fun b hb => fp_ne (R.nd b hb) R.bd, fun b hb => fp_ne (R.pp b hb) R.bd, fun b hb => ?_, fun b hb => fp_ne (R.fm b hb) R.bd, fun b c2 hb => ⟨(R.lo b c2 hb).1, fp_ne ((R.lo b c2 hb).2) R.bd⟩, ⟨by have := R.rm.1; show fZ h + 1 + k ≤ fCB h; omega, by have := R.rm.2; show fL h + n + 20 * k ≤ fLB h; omega⟩, R.xx, bd_push R.bd⟩
  by_cases z : b = fZ h
  · subst z
    rw [fF_push_eq]
    show _ = some (qu G.ky (fZ h) q (fZ h)).c
    rw [qu_eq]
  · rw [fF_push_ne z]
    show _ = some (qu G.ky (fZ h) q b).c
    rw [qu_ne z]
    exact R.ky b (hb.resolve_left z)
theorem qR.newM (R : qR G F X (k + 1) h) (q : qM) {n : Nat} (hn : n ≤ 20) : qR (G.addM (fZ h) q) F X k (fPush h q.c n) := by
  obtain ⟨p1, p2, p3, p4, p5⟩ := R.pt
  obtain ⟨x0, y0, e0⟩ := R.f0
  obtain ⟨x1, y1, e1⟩ := R.f1
  obtain ⟨x2, y2, e2⟩ := R.f2
  obtain ⟨x3, y3, e3⟩ := R.f3
  refine ⟨fp_ne (R.sc) R.bd, fp_ne (R.na) R.bd, fp_ne (R.ta) R.bd, ⟨p1, p2, p3, p4, fp_ne (p5) R.bd⟩, fp_ne (R.bo) R.bd, ⟨x0, y0, fp_ne (e0) R.bd⟩, ⟨x1, y1, fp_ne (e1) R.bd⟩, ⟨x2, y2, fp_ne (e2) R.bd⟩, ⟨x3, y3, fp_ne (e3) R.bd⟩, fun b hb => fp_ne (R.nd b hb) R.bd, fun b hb => fp_ne (R.pp b hb) R.bd, fun b hb => fp_ne (R.ky b hb) R.bd, fun b hb => ?_, fun b c2 hb => ⟨(R.lo b c2 hb).1, fp_ne ((R.lo b c2 hb).2) R.bd⟩, ⟨by have := R.rm.1; show fZ h + 1 + k ≤ fCB h; omega, by have := R.rm.2; show fL h + n + 20 * k ≤ fLB h; omega⟩, R.xx, bd_push R.bd⟩
  by_cases z : b = fZ h
  · subst z
    rw [fF_push_eq]
    show _ = some (qu G.fm (fZ h) q (fZ h)).c
    rw [qu_eq]
  · rw [fF_push_ne z]
    show _ = some (qu G.fm (fZ h) q b).c
    rw [qu_ne z]
    exact R.fm b (hb.resolve_left z)
theorem qR.newF (R : qR G F X (k + 1) h) {c : fCe} (hc : qL c) {n : Nat} (hn : n ≤ 20) : qR G (qu F (fZ h) (some c)) X k (fPush h c n) := by
  obtain ⟨p1, p2, p3, p4, p5⟩ := R.pt
  obtain ⟨x0, y0, e0⟩ := R.f0
  obtain ⟨x1, y1, e1⟩ := R.f1
  obtain ⟨x2, y2, e2⟩ := R.f2
  obtain ⟨x3, y3, e3⟩ := R.f3
  refine ⟨fp_ne (R.sc) R.bd, fp_ne (R.na) R.bd, fp_ne (R.ta) R.bd, ⟨p1, p2, p3, p4, fp_ne (p5) R.bd⟩, fp_ne (R.bo) R.bd, ⟨x0, y0, fp_ne (e0) R.bd⟩, ⟨x1, y1, fp_ne (e1) R.bd⟩, ⟨x2, y2, fp_ne (e2) R.bd⟩, ⟨x3, y3, fp_ne (e3) R.bd⟩, fun b hb => fp_ne (R.nd b hb) R.bd, fun b hb => fp_ne (R.pp b hb) R.bd, fun b hb => fp_ne (R.ky b hb) R.bd, fun b hb => fp_ne (R.fm b hb) R.bd, fun b c2 hb => ?_, ⟨by have := R.rm.1; show fZ h + 1 + k ≤ fCB h; omega, by have := R.rm.2; show fL h + n + 20 * k ≤ fLB h; omega⟩, R.xx, bd_push R.bd⟩
  by_cases z : b = fZ h
  · subst z
    rw [qu_eq] at hb
    cases hb
    exact ⟨hc, fF_push_eq⟩
  · rw [qu_ne z] at hb
    rw [fF_push_ne z]
    exact R.lo b c2 hb
theorem setN_setN {q1 q2 : qN} : (G.setN a q1).setN a q2 = G.setN a q2 := by
  show G.s_nd (qu (qu G.nd a q1) a q2) = _
  rw [qu_qu]
  rfl
theorem addN_setN {q1 q2 : qN} : (G.addN a q1).setN a q2 = G.addN a q2 := by
  show (G.s_N (fun b => b = a ∨ G.N b)).s_nd (qu (qu G.nd a q1) a q2) = _
  rw [qu_qu]
  rfl
theorem at_setN {q : qN} : (G.setN a q).nd a = q := qu_eq
theorem at_addN {q : qN} : (G.addN a q).nd a = q := qu_eq
theorem setP_setP {q1 q2 : qP} : (G.setP a q1).setP a q2 = G.setP a q2 := by
  show G.s_pp (qu (qu G.pp a q1) a q2) = _
  rw [qu_qu]
  rfl
theorem addP_setP {q1 q2 : qP} : (G.addP a q1).setP a q2 = G.addP a q2 := by
  show (G.s_P (fun b => b = a ∨ G.P b)).s_pp (qu (qu G.pp a q1) a q2) = _
  rw [qu_qu]
  rfl
theorem at_setP {q : qP} : (G.setP a q).pp a = q := qu_eq
theorem at_addP {q : qP} : (G.addP a q).pp a = q := qu_eq
theorem setK_setK {q1 q2 : qK} : (G.setK a q1).setK a q2 = G.setK a q2 := by
  show G.s_ky (qu (qu G.ky a q1) a q2) = _
  rw [qu_qu]
  rfl
theorem addK_setK {q1 q2 : qK} : (G.addK a q1).setK a q2 = G.addK a q2 := by
  show (G.s_K (fun b => b = a ∨ G.K b)).s_ky (qu (qu G.ky a q1) a q2) = _
  rw [qu_qu]
  rfl
theorem at_setK {q : qK} : (G.setK a q).ky a = q := qu_eq
theorem at_addK {q : qK} : (G.addK a q).ky a = q := qu_eq
theorem setM_setM {q1 q2 : qM} : (G.setM a q1).setM a q2 = G.setM a q2 := by
  show G.s_fm (qu (qu G.fm a q1) a q2) = _
  rw [qu_qu]
  rfl
theorem addM_setM {q1 q2 : qM} : (G.addM a q1).setM a q2 = G.addM a q2 := by
  show (G.s_M (fun b => b = a ∨ G.M b)).s_fm (qu (qu G.fm a q1) a q2) = _
  rw [qu_qu]
  rfl
theorem at_setM {q : qM} : (G.setM a q).fm a = q := qu_eq
theorem at_addM {q : qM} : (G.addM a q).fm a = q := qu_eq
theorem addN_setP {b : Nat} {q1 : qN} {q2 : qP} : (G.addN b q1).setP a q2 = (G.setP a q2).addN b q1 := rfl
theorem addN_setK {b : Nat} {q1 : qN} {q2 : qK} : (G.addN b q1).setK a q2 = (G.setK a q2).addN b q1 := rfl
theorem addN_setM {b : Nat} {q1 : qN} {q2 : qM} : (G.addN b q1).setM a q2 = (G.setM a q2).addN b q1 := rfl
theorem addP_setN {b : Nat} {q1 : qP} {q2 : qN} : (G.addP b q1).setN a q2 = (G.setN a q2).addP b q1 := rfl
theorem addP_setK {b : Nat} {q1 : qP} {q2 : qK} : (G.addP b q1).setK a q2 = (G.setK a q2).addP b q1 := rfl
theorem addP_setM {b : Nat} {q1 : qP} {q2 : qM} : (G.addP b q1).setM a q2 = (G.setM a q2).addP b q1 := rfl
theorem addK_setN {b : Nat} {q1 : qK} {q2 : qN} : (G.addK b q1).setN a q2 = (G.setN a q2).addK b q1 := rfl
theorem addK_setP {b : Nat} {q1 : qK} {q2 : qP} : (G.addK b q1).setP a q2 = (G.setP a q2).addK b q1 := rfl
theorem addK_setM {b : Nat} {q1 : qK} {q2 : qM} : (G.addK b q1).setM a q2 = (G.setM a q2).addK b q1 := rfl
theorem addM_setN {b : Nat} {q1 : qM} {q2 : qN} : (G.addM b q1).setN a q2 = (G.setN a q2).addM b q1 := rfl
theorem addM_setP {b : Nat} {q1 : qM} {q2 : qP} : (G.addM b q1).setP a q2 = (G.setP a q2).addM b q1 := rfl
theorem addM_setK {b : Nat} {q1 : qM} {q2 : qK} : (G.addM b q1).setK a q2 = (G.setK a q2).addM b q1 := rfl
theorem qR.thr (R : qR G F X (k + 1) h) : ∃ h', fthr h = some h' ∧ qR G F X k h' := by
  refine ⟨_, fthr_C (by have := R.rm.1; omega) (by have := R.rm.2; omega), ?_⟩
  exact ⟨R.sc, R.na, R.ta, R.pt, R.bo, R.f0, R.f1, R.f2, R.f3, R.nd, R.pp, R.ky, R.fm, R.lo, ⟨by have := R.rm.1; show fZ h + 1 + k ≤ fCB h; omega, by have := R.rm.2; show fL h + 6 + 20 * k ≤ fLB h; omega⟩, R.xx, fun a q => Nat.lt_succ_of_lt (R.bd a q)⟩
theorem qR.fresh (R : qR G F X k h) : ¬ G.N (fZ h) ∧ ¬ G.P (fZ h) ∧ ¬ G.K (fZ h) ∧ ¬ G.M (fZ h) ∧ F (fZ h) = none := by
  have q : ∀ c, ¬ fF h (fZ h) = some c := fun c e => Nat.lt_irrefl _ (R.bd _ (nn e))
  refine ⟨fun z => q _ (R.nd _ z), fun z => q _ (R.pp _ z), fun z => q _ (R.ky _ z), fun z => q _ (R.fm _ z), ?_⟩
  cases e : F (fZ h) with
  | none => rfl
  | some c => exact absurd (R.lo _ _ e).2 (q c)
theorem gN_number (R : qR G F X k h) (ha : G.N a) : fgI h (some a) 4 0 = some (G.nd a).number := fgI_C (R.nd a ha) rfl
theorem wN_number (R : qR G F X k h) (ha : G.N a) {d : qN} (e : G.nd a = d) (v : Int32) : ∃ h2, fput h (some a) 4 0 (.int v) = some h2 ∧ qR (G.setN a (d.s_number v)) F X k h2 := by
  subst e
  exact ⟨_, fput_C (R.nd a ha) (Nat.le_of_ble_eq_true rfl), R.setN ha ((G.nd a).s_number v)⟩
theorem gN_kind (R : qR G F X k h) (ha : G.N a) : fgI h (some a) 4 1 = some (G.nd a).kind := fgI_C (R.nd a ha) rfl
theorem wN_kind (R : qR G F X k h) (ha : G.N a) {d : qN} (e : G.nd a = d) (v : Int32) : ∃ h2, fput h (some a) 4 1 (.int v) = some h2 ∧ qR (G.setN a (d.s_kind v)) F X k h2 := by
  subst e
  exact ⟨_, fput_C (R.nd a ha) (Nat.le_of_ble_eq_true rfl), R.setN ha ((G.nd a).s_kind v)⟩
theorem gN_frame (R : qR G F X k h) (ha : G.N a) : fgR h (some a) 4 2 = some (G.nd a).frame := fgR_C (R.nd a ha) rfl
theorem wN_frame (R : qR G F X k h) (ha : G.N a) {d : qN} (e : G.nd a = d) (v : Option Nat) : ∃ h2, fput h (some a) 4 2 (va_rf v) = some h2 ∧ qR (G.setN a (d.s_frame v)) F X k h2 := by
  subst e
  exact ⟨_, fput_C (R.nd a ha) (Nat.le_of_ble_eq_true rfl), R.setN ha ((G.nd a).s_frame v)⟩
theorem gN_x (R : qR G F X k h) (ha : G.N a) : fgR h (some a) 4 3 = some (G.nd a).x := fgR_C (R.nd a ha) rfl
theorem wN_x (R : qR G F X k h) (ha : G.N a) {d : qN} (e : G.nd a = d) (v : Option Nat) : ∃ h2, fput h (some a) 4 3 (va_rf v) = some h2 ∧ qR (G.setN a (d.s_x v)) F X k h2 := by
  subst e
  exact ⟨_, fput_C (R.nd a ha) (Nat.le_of_ble_eq_true rfl), R.setN ha ((G.nd a).s_x v)⟩
theorem gN_y (R : qR G F X k h) (ha : G.N a) : fgR h (some a) 4 4 = some (G.nd a).y := fgR_C (R.nd a ha) rfl
theorem wN_y (R : qR G F X k h) (ha : G.N a) {d : qN} (e : G.nd a = d) (v : Option Nat) : ∃ h2, fput h (some a) 4 4 (va_rf v) = some h2 ∧ qR (G.setN a (d.s_y v)) F X k h2 := by
  subst e
  exact ⟨_, fput_C (R.nd a ha) (Nat.le_of_ble_eq_true rfl), R.setN ha ((G.nd a).s_y v)⟩
theorem gN_turns (R : qR G F X k h) (ha : G.N a) : fgR h (some a) 4 5 = some (G.nd a).turns := fgR_C (R.nd a ha) rfl
theorem wN_turns (R : qR G F X k h) (ha : G.N a) {d : qN} (e : G.nd a = d) (v : Option Nat) : ∃ h2, fput h (some a) 4 5 (va_rf v) = some h2 ∧ qR (G.setN a (d.s_turns v)) F X k h2 := by
  subst e
  exact ⟨_, fput_C (R.nd a ha) (Nat.le_of_ble_eq_true rfl), R.setN ha ((G.nd a).s_turns v)⟩
theorem gN_opac (R : qR G F X k h) (ha : G.N a) : fgR h (some a) 4 6 = some (G.nd a).opac := fgR_C (R.nd a ha) rfl
theorem wN_opac (R : qR G F X k h) (ha : G.N a) {d : qN} (e : G.nd a = d) (v : Option Nat) : ∃ h2, fput h (some a) 4 6 (va_rf v) = some h2 ∧ qR (G.setN a (d.s_opac v)) F X k h2 := by
  subst e
  exact ⟨_, fput_C (R.nd a ha) (Nat.le_of_ble_eq_true rfl), R.setN ha ((G.nd a).s_opac v)⟩
theorem gN_over (R : qR G F X k h) (ha : G.N a) : fgI h (some a) 4 7 = some (G.nd a).over := fgI_C (R.nd a ha) rfl
theorem wN_over (R : qR G F X k h) (ha : G.N a) {d : qN} (e : G.nd a = d) (v : Int32) : ∃ h2, fput h (some a) 4 7 (.int v) = some h2 ∧ qR (G.setN a (d.s_over v)) F X k h2 := by
  subst e
  exact ⟨_, fput_C (R.nd a ha) (Nat.le_of_ble_eq_true rfl), R.setN ha ((G.nd a).s_over v)⟩
theorem gN_under (R : qR G F X k h) (ha : G.N a) : fgI h (some a) 4 8 = some (G.nd a).under := fgI_C (R.nd a ha) rfl
theorem wN_under (R : qR G F X k h) (ha : G.N a) {d : qN} (e : G.nd a = d) (v : Int32) : ∃ h2, fput h (some a) 4 8 (.int v) = some h2 ∧ qR (G.setN a (d.s_under v)) F X k h2 := by
  subst e
  exact ⟨_, fput_C (R.nd a ha) (Nat.le_of_ble_eq_true rfl), R.setN ha ((G.nd a).s_under v)⟩
theorem gN_mir (R : qR G F X k h) (ha : G.N a) : fgI h (some a) 4 9 = some (G.nd a).mir := fgI_C (R.nd a ha) rfl
theorem wN_mir (R : qR G F X k h) (ha : G.N a) {d : qN} (e : G.nd a = d) {v : Int32} (hv : v = 0 ∨ v = 1) : ∃ h2, fputZ h (some a) 4 9 v = some h2 ∧ qR (G.setN a (d.s_mir v)) F X k h2 := by
  subst e
  unfold fputZ
  rw [if_pos hv]
  exact ⟨_, fput_C (R.nd a ha) (Nat.le_of_ble_eq_true rfl), R.setN ha ((G.nd a).s_mir v)⟩
theorem gN_layer (R : qR G F X k h) (ha : G.N a) : fgI h (some a) 4 10 = some (G.nd a).layer := fgI_C (R.nd a ha) rfl
theorem wN_layer (R : qR G F X k h) (ha : G.N a) {d : qN} (e : G.nd a = d) (v : Int32) : ∃ h2, fput h (some a) 4 10 (.int v) = some h2 ∧ qR (G.setN a (d.s_layer v)) F X k h2 := by
  subst e
  exact ⟨_, fput_C (R.nd a ha) (Nat.le_of_ble_eq_true rfl), R.setN ha ((G.nd a).s_layer v)⟩
theorem gN_hid (R : qR G F X k h) (ha : G.N a) : fgI h (some a) 4 11 = some (G.nd a).hid := fgI_C (R.nd a ha) rfl
theorem wN_hid (R : qR G F X k h) (ha : G.N a) {d : qN} (e : G.nd a = d) {v : Int32} (hv : v = 0 ∨ v = 1) : ∃ h2, fputZ h (some a) 4 11 v = some h2 ∧ qR (G.setN a (d.s_hid v)) F X k h2 := by
  subst e
  unfold fputZ
  rw [if_pos hv]
  exact ⟨_, fput_C (R.nd a ha) (Nat.le_of_ble_eq_true rfl), R.setN ha ((G.nd a).s_hid v)⟩
theorem gN_cut (R : qR G F X k h) (ha : G.N a) : fgR h (some a) 4 12 = some (G.nd a).cut := fgR_C (R.nd a ha) rfl
theorem wN_cut (R : qR G F X k h) (ha : G.N a) {d : qN} (e : G.nd a = d) (v : Option Nat) : ∃ h2, fput h (some a) 4 12 (va_rf v) = some h2 ∧ qR (G.setN a (d.s_cut v)) F X k h2 := by
  subst e
  exact ⟨_, fput_C (R.nd a ha) (Nat.le_of_ble_eq_true rfl), R.setN ha ((G.nd a).s_cut v)⟩
theorem gN_gone (R : qR G F X k h) (ha : G.N a) : fgI h (some a) 4 13 = some (G.nd a).gone := fgI_C (R.nd a ha) rfl
theorem wN_gone (R : qR G F X k h) (ha : G.N a) {d : qN} (e : G.nd a = d) {v : Int32} (hv : v = 0 ∨ v = 1) : ∃ h2, fputZ h (some a) 4 13 v = some h2 ∧ qR (G.setN a (d.s_gone v)) F X k h2 := by
  subst e
  unfold fputZ
  rw [if_pos hv]
  exact ⟨_, fput_C (R.nd a ha) (Nat.le_of_ble_eq_true rfl), R.setN ha ((G.nd a).s_gone v)⟩
theorem gN_par (R : qR G F X k h) (ha : G.N a) : fgR h (some a) 4 14 = some (G.nd a).par := fgR_C (R.nd a ha) rfl
theorem wN_par (R : qR G F X k h) (ha : G.N a) {d : qN} (e : G.nd a = d) (v : Option Nat) : ∃ h2, fput h (some a) 4 14 (va_rf v) = some h2 ∧ qR (G.setN a (d.s_par v)) F X k h2 := by
  subst e
  exact ⟨_, fput_C (R.nd a ha) (Nat.le_of_ble_eq_true rfl), R.setN ha ((G.nd a).s_par v)⟩
theorem gN_fst (R : qR G F X k h) (ha : G.N a) : fgR h (some a) 4 15 = some (G.nd a).fst := fgR_C (R.nd a ha) rfl
theorem wN_fst (R : qR G F X k h) (ha : G.N a) {d : qN} (e : G.nd a = d) (v : Option Nat) : ∃ h2, fput h (some a) 4 15 (va_rf v) = some h2 ∧ qR (G.setN a (d.s_fst v)) F X k h2 := by
  subst e
  exact ⟨_, fput_C (R.nd a ha) (Nat.le_of_ble_eq_true rfl), R.setN ha ((G.nd a).s_fst v)⟩
theorem gN_nxt (R : qR G F X k h) (ha : G.N a) : fgR h (some a) 4 16 = some (G.nd a).nxt := fgR_C (R.nd a ha) rfl
theorem wN_nxt (R : qR G F X k h) (ha : G.N a) {d : qN} (e : G.nd a = d) (v : Option Nat) : ∃ h2, fput h (some a) 4 16 (va_rf v) = some h2 ∧ qR (G.setN a (d.s_nxt v)) F X k h2 := by
  subst e
  exact ⟨_, fput_C (R.nd a ha) (Nat.le_of_ble_eq_true rfl), R.setN ha ((G.nd a).s_nxt v)⟩
theorem gN_bef (R : qR G F X k h) (ha : G.N a) : fgR h (some a) 4 17 = some (G.nd a).bef := fgR_C (R.nd a ha) rfl
theorem wN_bef (R : qR G F X k h) (ha : G.N a) {d : qN} (e : G.nd a = d) (v : Option Nat) : ∃ h2, fput h (some a) 4 17 (va_rf v) = some h2 ∧ qR (G.setN a (d.s_bef v)) F X k h2 := by
  subst e
  exact ⟨_, fput_C (R.nd a ha) (Nat.le_of_ble_eq_true rfl), R.setN ha ((G.nd a).s_bef v)⟩
theorem gN_place (R : qR G F X k h) (ha : G.N a) : fgI h (some a) 4 18 = some (G.nd a).place := fgI_C (R.nd a ha) rfl
theorem wN_place (R : qR G F X k h) (ha : G.N a) {d : qN} (e : G.nd a = d) (v : Int32) : ∃ h2, fput h (some a) 4 18 (.int v) = some h2 ∧ qR (G.setN a (d.s_place v)) F X k h2 := by
  subst e
  exact ⟨_, fput_C (R.nd a ha) (Nat.le_of_ble_eq_true rfl), R.setN ha ((G.nd a).s_place v)⟩
theorem oN (R : qR G F X k h) (ha : G.N a) : fobj h (some a) 4 = some a := fobj_C (R.nd a ha)
theorem gP_least (R : qR G F X k h) (ha : G.P a) : fgI h (some a) 6 0 = some (G.pp a).least := fgI_C (R.pp a ha) rfl
theorem wP_least (R : qR G F X k h) (ha : G.P a) {d : qP} (e : G.pp a = d) (v : Int32) : ∃ h2, fput h (some a) 6 0 (.int v) = some h2 ∧ qR (G.setP a (d.s_least v)) F X k h2 := by
  subst e
  exact ⟨_, fput_C (R.pp a ha) (Nat.le_of_ble_eq_true rfl), R.setP ha ((G.pp a).s_least v)⟩
theorem gP_most (R : qR G F X k h) (ha : G.P a) : fgI h (some a) 6 1 = some (G.pp a).most := fgI_C (R.pp a ha) rfl
theorem wP_most (R : qR G F X k h) (ha : G.P a) {d : qP} (e : G.pp a = d) (v : Int32) : ∃ h2, fput h (some a) 6 1 (.int v) = some h2 ∧ qR (G.setP a (d.s_most v)) F X k h2 := by
  subst e
  exact ⟨_, fput_C (R.pp a ha) (Nat.le_of_ble_eq_true rfl), R.setP ha ((G.pp a).s_most v)⟩
theorem gP_own (R : qR G F X k h) (ha : G.P a) : fgI h (some a) 6 2 = some (G.pp a).own := fgI_C (R.pp a ha) rfl
theorem wP_own (R : qR G F X k h) (ha : G.P a) {d : qP} (e : G.pp a = d) (v : Int32) : ∃ h2, fput h (some a) 6 2 (.int v) = some h2 ∧ qR (G.setP a (d.s_own v)) F X k h2 := by
  subst e
  exact ⟨_, fput_C (R.pp a ha) (Nat.le_of_ble_eq_true rfl), R.setP ha ((G.pp a).s_own v)⟩
theorem gP_trk (R : qR G F X k h) (ha : G.P a) : fgI h (some a) 6 3 = some (G.pp a).trk := fgI_C (R.pp a ha) rfl
theorem wP_trk (R : qR G F X k h) (ha : G.P a) {d : qP} (e : G.pp a = d) {v : Int32} (hv : v = 0 ∨ v = 1) : ∃ h2, fputZ h (some a) 6 3 v = some h2 ∧ qR (G.setP a (d.s_trk v)) F X k h2 := by
  subst e
  unfold fputZ
  rw [if_pos hv]
  exact ⟨_, fput_C (R.pp a ha) (Nat.le_of_ble_eq_true rfl), R.setP ha ((G.pp a).s_trk v)⟩
theorem gP_done (R : qR G F X k h) (ha : G.P a) : fgI h (some a) 6 4 = some (G.pp a).done := fgI_C (R.pp a ha) rfl
theorem wP_done (R : qR G F X k h) (ha : G.P a) {d : qP} (e : G.pp a = d) {v : Int32} (hv : v = 0 ∨ v = 1) : ∃ h2, fputZ h (some a) 6 4 v = some h2 ∧ qR (G.setP a (d.s_done v)) F X k h2 := by
  subst e
  unfold fputZ
  rw [if_pos hv]
  exact ⟨_, fput_C (R.pp a ha) (Nat.le_of_ble_eq_true rfl), R.setP ha ((G.pp a).s_done v)⟩
theorem gP_ease (R : qR G F X k h) (ha : G.P a) : fgI h (some a) 6 5 = some (G.pp a).ease := fgI_C (R.pp a ha) rfl
theorem wP_ease (R : qR G F X k h) (ha : G.P a) {d : qP} (e : G.pp a = d) (v : Int32) : ∃ h2, fput h (some a) 6 5 (.int v) = some h2 ∧ qR (G.setP a (d.s_ease v)) F X k h2 := by
  subst e
  exact ⟨_, fput_C (R.pp a ha) (Nat.le_of_ble_eq_true rfl), R.setP ha ((G.pp a).s_ease v)⟩
theorem gP_end_ (R : qR G F X k h) (ha : G.P a) : fgI h (some a) 6 6 = some (G.pp a).end_ := fgI_C (R.pp a ha) rfl
theorem wP_end_ (R : qR G F X k h) (ha : G.P a) {d : qP} (e : G.pp a = d) (v : Int32) : ∃ h2, fput h (some a) 6 6 (.int v) = some h2 ∧ qR (G.setP a (d.s_end_ v)) F X k h2 := by
  subst e
  exact ⟨_, fput_C (R.pp a ha) (Nat.le_of_ble_eq_true rfl), R.setP ha ((G.pp a).s_end_ v)⟩
theorem gP_fk (R : qR G F X k h) (ha : G.P a) : fgR h (some a) 6 7 = some (G.pp a).fk := fgR_C (R.pp a ha) rfl
theorem wP_fk (R : qR G F X k h) (ha : G.P a) {d : qP} (e : G.pp a = d) (v : Option Nat) : ∃ h2, fput h (some a) 6 7 (va_rf v) = some h2 ∧ qR (G.setP a (d.s_fk v)) F X k h2 := by
  subst e
  exact ⟨_, fput_C (R.pp a ha) (Nat.le_of_ble_eq_true rfl), R.setP ha ((G.pp a).s_fk v)⟩
theorem gP_cnt (R : qR G F X k h) (ha : G.P a) : fgI h (some a) 6 8 = some (G.pp a).cnt := fgI_C (R.pp a ha) rfl
theorem wP_cnt (R : qR G F X k h) (ha : G.P a) {d : qP} (e : G.pp a = d) (v : Int32) : ∃ h2, fput h (some a) 6 8 (.int v) = some h2 ∧ qR (G.setP a (d.s_cnt v)) F X k h2 := by
  subst e
  exact ⟨_, fput_C (R.pp a ha) (Nat.le_of_ble_eq_true rfl), R.setP ha ((G.pp a).s_cnt v)⟩
theorem oP (R : qR G F X k h) (ha : G.P a) : fobj h (some a) 6 = some a := fobj_C (R.pp a ha)
theorem gK_time (R : qR G F X k h) (ha : G.K a) : fgI h (some a) 3 0 = some (G.ky a).time := fgI_C (R.ky a ha) rfl
theorem wK_time (R : qR G F X k h) (ha : G.K a) {d : qK} (e : G.ky a = d) (v : Int32) : ∃ h2, fput h (some a) 3 0 (.int v) = some h2 ∧ qR (G.setK a (d.s_time v)) F X k h2 := by
  subst e
  exact ⟨_, fput_C (R.ky a ha) (Nat.le_of_ble_eq_true rfl), R.setK ha ((G.ky a).s_time v)⟩
theorem gK_value (R : qR G F X k h) (ha : G.K a) : fgI h (some a) 3 1 = some (G.ky a).value := fgI_C (R.ky a ha) rfl
theorem wK_value (R : qR G F X k h) (ha : G.K a) {d : qK} (e : G.ky a = d) (v : Int32) : ∃ h2, fput h (some a) 3 1 (.int v) = some h2 ∧ qR (G.setK a (d.s_value v)) F X k h2 := by
  subst e
  exact ⟨_, fput_C (R.ky a ha) (Nat.le_of_ble_eq_true rfl), R.setK ha ((G.ky a).s_value v)⟩
theorem gK_next (R : qR G F X k h) (ha : G.K a) : fgR h (some a) 3 2 = some (G.ky a).next := fgR_C (R.ky a ha) rfl
theorem wK_next (R : qR G F X k h) (ha : G.K a) {d : qK} (e : G.ky a = d) (v : Option Nat) : ∃ h2, fput h (some a) 3 2 (va_rf v) = some h2 ∧ qR (G.setK a (d.s_next v)) F X k h2 := by
  subst e
  exact ⟨_, fput_C (R.ky a ha) (Nat.le_of_ble_eq_true rfl), R.setK ha ((G.ky a).s_next v)⟩
theorem oK (R : qR G F X k h) (ha : G.K a) : fobj h (some a) 3 = some a := fobj_C (R.ky a ha)
theorem gM_left (R : qR G F X k h) (ha : G.M a) : fgI h (some a) 2 0 = some (G.fm a).left := fgI_C (R.fm a ha) rfl
theorem wM_left (R : qR G F X k h) (ha : G.M a) {d : qM} (e : G.fm a = d) (v : Int32) : ∃ h2, fput h (some a) 2 0 (.int v) = some h2 ∧ qR (G.setM a (d.s_left v)) F X k h2 := by
  subst e
  exact ⟨_, fput_C (R.fm a ha) (Nat.le_of_ble_eq_true rfl), R.setM ha ((G.fm a).s_left v)⟩
theorem gM_top (R : qR G F X k h) (ha : G.M a) : fgI h (some a) 2 1 = some (G.fm a).top := fgI_C (R.fm a ha) rfl
theorem wM_top (R : qR G F X k h) (ha : G.M a) {d : qM} (e : G.fm a = d) (v : Int32) : ∃ h2, fput h (some a) 2 1 (.int v) = some h2 ∧ qR (G.setM a (d.s_top v)) F X k h2 := by
  subst e
  exact ⟨_, fput_C (R.fm a ha) (Nat.le_of_ble_eq_true rfl), R.setM ha ((G.fm a).s_top v)⟩
theorem gM_right (R : qR G F X k h) (ha : G.M a) : fgI h (some a) 2 2 = some (G.fm a).right := fgI_C (R.fm a ha) rfl
theorem wM_right (R : qR G F X k h) (ha : G.M a) {d : qM} (e : G.fm a = d) (v : Int32) : ∃ h2, fput h (some a) 2 2 (.int v) = some h2 ∧ qR (G.setM a (d.s_right v)) F X k h2 := by
  subst e
  exact ⟨_, fput_C (R.fm a ha) (Nat.le_of_ble_eq_true rfl), R.setM ha ((G.fm a).s_right v)⟩
theorem gM_bot (R : qR G F X k h) (ha : G.M a) : fgI h (some a) 2 3 = some (G.fm a).bot := fgI_C (R.fm a ha) rfl
theorem wM_bot (R : qR G F X k h) (ha : G.M a) {d : qM} (e : G.fm a = d) (v : Int32) : ∃ h2, fput h (some a) 2 3 (.int v) = some h2 ∧ qR (G.setM a (d.s_bot v)) F X k h2 := by
  subst e
  exact ⟨_, fput_C (R.fm a ha) (Nat.le_of_ble_eq_true rfl), R.setM ha ((G.fm a).s_bot v)⟩
theorem oM (R : qR G F X k h) (ha : G.M a) : fobj h (some a) 2 = some a := fobj_C (R.fm a ha)
theorem gS_na (R : qR G F X k h) : fgR h (some G.z) 7 0 = some (some G.na) := fgR_C R.sc rfl
theorem gS_ta (R : qR G F X k h) : fgR h (some G.z) 7 1 = some (some G.ta) := fgR_C R.sc rfl
theorem gS_wh (R : qR G F X k h) : fgR h (some G.z) 7 2 = some (some G.wh) := fgR_C R.sc rfl
theorem gS_pt (R : qR G F X k h) : fgR h (some G.z) 7 3 = some (some G.pt) := fgR_C R.sc rfl
theorem gS_bo (R : qR G F X k h) : fgR h (some G.z) 7 4 = some (some G.bo) := fgR_C R.sc rfl
theorem gS_added (R : qR G F X k h) : fgI h (some G.z) 7 5 = some G.added := fgI_C R.sc rfl
theorem wS_added (R : qR G F X k h) (v : Int32) : ∃ h2, fput h (some G.z) 7 5 (.int v) = some h2 ∧ qR ((G).s_added (v)) F X k h2 := ⟨_, fput_C R.sc (Nat.le_of_ble_eq_true rfl), R.s_added v⟩
theorem gS_tracked (R : qR G F X k h) : fgI h (some G.z) 7 6 = some G.tracked := fgI_C R.sc rfl
theorem wS_tracked (R : qR G F X k h) (v : Int32) : ∃ h2, fput h (some G.z) 7 6 (.int v) = some h2 ∧ qR ((G).s_tracked (v)) F X k h2 := ⟨_, fput_C R.sc (Nat.le_of_ble_eq_true rfl), R.s_tracked v⟩
theorem gS_time (R : qR G F X k h) : fgI h (some G.z) 7 7 = some G.time := fgI_C R.sc rfl
theorem wS_time (R : qR G F X k h) (v : Int32) : ∃ h2, fput h (some G.z) 7 7 (.int v) = some h2 ∧ qR ((G).s_time (v)) F X k h2 := ⟨_, fput_C R.sc (Nat.le_of_ble_eq_true rfl), R.s_time v⟩
theorem gS_last (R : qR G F X k h) : fgR h (some G.z) 7 8 = some G.last := fgR_C R.sc rfl
theorem wS_last (R : qR G F X k h) (v : Option Nat) : ∃ h2, fput h (some G.z) 7 8 (va_rf v) = some h2 ∧ qR ((G).s_last (v)) F X k h2 := ⟨_, fput_C R.sc (Nat.le_of_ble_eq_true rfl), R.s_last v⟩
theorem gS_ord (R : qR G F X k h) : fgI h (some G.z) 7 9 = some G.ord := fgI_C R.sc rfl
theorem wS_ord (R : qR G F X k h) (v : Int32) : ∃ h2, fput h (some G.z) 7 9 (.int v) = some h2 ∧ qR ((G).s_ord (v)) F X k h2 := ⟨_, fput_C R.sc (Nat.le_of_ble_eq_true rfl), R.s_ord v⟩
theorem oS (R : qR G F X k h) : fobj h (some G.z) 7 = some G.z := fobj_C R.sc
theorem oB (R : qR G F X k h) : fobj h (some G.bo) 0 = some G.bo := fobj_C R.bo
theorem oPt (R : qR G F X k h) : fobj h (some G.pt) 5 = some G.pt := by
  obtain ⟨x, y, u, c, e⟩ := R.pt
  exact fobj_C e
theorem gB_0 (R : qR G F X k h) : fgR h (some G.bo) 0 0 = some (some G.f0) := fgR_C R.bo rfl
theorem oF_0 (R : qR G F X k h) : fobj h (some G.f0) 1 = some G.f0 := by
  obtain ⟨x, y, e⟩ := R.f0
  exact fobj_C e
theorem gB_1 (R : qR G F X k h) : fgR h (some G.bo) 0 1 = some (some G.f1) := fgR_C R.bo rfl
theorem oF_1 (R : qR G F X k h) : fobj h (some G.f1) 1 = some G.f1 := by
  obtain ⟨x, y, e⟩ := R.f1
  exact fobj_C e
theorem gB_2 (R : qR G F X k h) : fgR h (some G.bo) 0 2 = some (some G.f2) := fgR_C R.bo rfl
theorem oF_2 (R : qR G F X k h) : fobj h (some G.f2) 1 = some G.f2 := by
  obtain ⟨x, y, e⟩ := R.f2
  exact fobj_C e
theorem gB_3 (R : qR G F X k h) : fgR h (some G.bo) 0 3 = some (some G.f3) := fgR_C R.bo rfl
theorem oF_3 (R : qR G F X k h) : fobj h (some G.f3) 1 = some G.f3 := by
  obtain ⟨x, y, e⟩ := R.f3
  exact fobj_C e
theorem lna (R : qR G F X k h) : flen h (some G.na) 2 = some (30 : Int32) := flen_C R.na
theorem lta (R : qR G F X k h) : flen h (some G.ta) 3 = some (12 : Int32) := flen_C R.ta
theorem rna (R : qR G F X k h) {i : Int32} (hi : ¬ (i < 0 ∨ 30 ≤ i.toNatClampNeg)) : faR h (some G.na) 2 i = some (G.no i.toNatClampNeg) := faR_C R.na hi
theorem rta (R : qR G F X k h) {i : Int32} (hi : ¬ (i < 0 ∨ 12 ≤ i.toNatClampNeg)) : faR h (some G.ta) 3 i = some (G.tr i.toNatClampNeg) := faR_C R.ta hi
theorem sna (R : qR G F X k h) {i : Int32} (hi : ¬ (i < 0 ∨ 30 ≤ i.toNatClampNeg)) {v : Nat} (hv : G.N v) : ∃ h2, fsR h (some G.na) 2 4 i (some v) = some h2 ∧ qR ((G).s_no (va_up G.no i.toNatClampNeg (some v))) F X k h2 := ⟨_, fsR_C R.na hi (R.nd v hv), R.s_no _⟩
theorem sta (R : qR G F X k h) {i : Int32} (hi : ¬ (i < 0 ∨ 12 ≤ i.toNatClampNeg)) {v : Nat} (hv : G.P v) : ∃ h2, fsR h (some G.ta) 3 6 i (some v) = some h2 ∧ qR ((G).s_tr (va_up G.tr i.toNatClampNeg (some v))) F X k h2 := ⟨_, fsR_C R.ta hi (R.pp v hv), R.s_tr _⟩
theorem PT_PT {p : Nat} {x y u x2 y2 u2 : Int64} {c c2 : Int32} : PT p x y u c (PT p x2 y2 u2 c2 h) = PT p x y u c h := fSet_fSet
theorem gP0 {p : Nat} {x y u : Int64} {c : Int32} : fgJ (PT p x y u c h) (some p) 5 0 = some x := fgJ_C fF_set_eq rfl
theorem gP1 {p : Nat} {x y u : Int64} {c : Int32} : fgJ (PT p x y u c h) (some p) 5 1 = some y := fgJ_C fF_set_eq rfl
theorem gP2 {p : Nat} {x y u : Int64} {c : Int32} : fgJ (PT p x y u c h) (some p) 5 2 = some u := fgJ_C fF_set_eq rfl
theorem gP3 {p : Nat} {x y u : Int64} {c : Int32} : fgI (PT p x y u c h) (some p) 5 3 = some c := fgI_C fF_set_eq rfl
theorem wP0 {p : Nat} {x y u v : Int64} {c : Int32} : fput (PT p x y u c h) (some p) 5 0 (.long v) = some (PT p v y u c h) := by
  exact (fput_C fF_set_eq (Nat.le_of_ble_eq_true rfl)).trans (congrArg some fSet_fSet)
theorem wP1 {p : Nat} {x y u v : Int64} {c : Int32} : fput (PT p x y u c h) (some p) 5 1 (.long v) = some (PT p x v u c h) := by
  exact (fput_C fF_set_eq (Nat.le_of_ble_eq_true rfl)).trans (congrArg some fSet_fSet)
theorem wP2 {p : Nat} {x y u v : Int64} {c : Int32} : fput (PT p x y u c h) (some p) 5 2 (.long v) = some (PT p x y v c h) := by
  exact (fput_C fF_set_eq (Nat.le_of_ble_eq_true rfl)).trans (congrArg some fSet_fSet)
theorem wP3 {p : Nat} {x y u : Int64} {c v : Int32} (hv : v = 0 ∨ v = 1) : fputZ (PT p x y u c h) (some p) 5 3 v = some (PT p x y u v h) := by
  unfold fputZ
  rw [if_pos hv]
  exact (fput_C fF_set_eq (Nat.le_of_ble_eq_true rfl)).trans (congrArg some fSet_fSet)
theorem oP_PT {p : Nat} {x y u : Int64} {c : Int32} : fobj (PT p x y u c h) (some p) 5 = some p := fobj_C fF_set_eq
theorem FR_FR {p : Nat} {x y x2 y2 : Int64} : FR p x y (FR p x2 y2 h) = FR p x y h := fSet_fSet
theorem gF0 {p : Nat} {x y : Int64} : fgJ (FR p x y h) (some p) 1 0 = some x := fgJ_C fF_set_eq rfl
theorem gF1 {p : Nat} {x y : Int64} : fgJ (FR p x y h) (some p) 1 1 = some y := fgJ_C fF_set_eq rfl
theorem wF0 {p : Nat} {x y v : Int64} : fput (FR p x y h) (some p) 1 0 (.long v) = some (FR p v y h) := by
  exact (fput_C fF_set_eq (Nat.le_of_ble_eq_true rfl)).trans (congrArg some fSet_fSet)
theorem wF1 {p : Nat} {x y v : Int64} : fput (FR p x y h) (some p) 1 1 (.long v) = some (FR p x v h) := by
  exact (fput_C fF_set_eq (Nat.le_of_ble_eq_true rfl)).trans (congrArg some fSet_fSet)
/-- a heap whose point is known is one with that point set -/
theorem PT_self {p : Nat} {x y u : Int64} {c : Int32} (e : fF h p = some (.inl (5, [.long x, .long y, .long u, .int c]))) : PT p x y u c h = h := by
  refine fSt_ext (fun b => ?_) rfl
  by_cases q : b = p
  · subst q; exact fF_set_eq.trans e.symm
  · exact fF_set_ne q
theorem FR_self {p : Nat} {x y : Int64} (e : fF h p = some (.inl (1, [.long x, .long y]))) : FR p x y h = h := by
  refine fSt_ext (fun b => ?_) rfl
  by_cases q : b = p
  · subst q; exact fF_set_eq.trans e.symm
  · exact fF_set_ne q
end REP
