/-! The law puts a key. -/
section LKEY
variable {G : qS} {F : Nat → Option fCe} {X : Nat × Nat × (Nat → Int32)} {k : Nat} {h : fSt} {a c z : Nat} {S : lS}
theorem split_uq {t : Int32} : ∀ {A A2 B B2 : List Int32}, A ++ B = A2 ++ B2 → (∀ x, x ∈ A → x.toInt < t.toInt) → (∀ x, x ∈ A2 → x.toInt < t.toInt) → (∀ x l, B = x :: l → t.toInt ≤ x.toInt) → (∀ x l, B2 = x :: l → t.toInt ≤ x.toInt) → A = A2 ∧ B = B2
  | [], [], _, _, e, _, _, _, _ => ⟨rfl, e⟩
  | [], a :: A2, B, B2, e, _, h2, h3, _ => by
    have h1 := h2 a List.mem_cons_self
    have := h3 a (A2 ++ B2) e
    omega
  | a :: A, [], B, B2, e, h1, _, _, h4 => by
    have h2 := h1 a List.mem_cons_self
    have := h4 a (A ++ B) e.symm
    omega
  | a :: A, a2 :: A2, B, B2, e, h1, h2, h3, h4 => by
    have e1 := List.cons.inj e
    obtain ⟨p, q⟩ := split_uq e1.2 (fun x hx => h1 x (List.mem_cons_of_mem _ hx)) (fun x hx => h2 x (List.mem_cons_of_mem _ hx)) h3 h4
    exact ⟨by rw [e1.1, p], q⟩
theorem tm_uq {t : Int32} {L X1 X2 : List Int32} (h1 : qTmI t L X1) (h2 : qTmI t L X2) : X1 = X2 := by
  obtain ⟨A, B, e, hA, hB⟩ := h1
  obtain ⟨A2, B2, e2, hA2, hB2⟩ := h2
  have hd : ∀ {B X1 A : List Int32}, ((∃ C, B = t :: C ∧ X1 = L) ∨ ((∀ x, x ∈ B → t.toInt < x.toInt) ∧ X1 = A ++ t :: B)) → ∀ x l, B = x :: l → t.toInt ≤ x.toInt := by
    intro B X1 A hB x l ex
    rcases hB with ⟨C, z, -⟩ | ⟨z, -⟩
    · rw [z] at ex
      rw [(List.cons.inj ex).1]
      exact Int.le_refl _
    · exact Int.le_of_lt (z x (by rw [ex]; exact List.mem_cons_self))
  obtain ⟨p, q⟩ := split_uq (e.symm.trans e2) hA hA2 (hd hB) (hd hB2)
  subst p; subst q
  rcases hB with ⟨C, z, w⟩ | ⟨z, w⟩
  · rcases hB2 with ⟨C2, z2, w2⟩ | ⟨z2, w2⟩
    · rw [w, w2]
    · have := z2 t (by rw [z]; exact List.mem_cons_self)
      omega
  · rcases hB2 with ⟨C2, z2, w2⟩ | ⟨z2, w2⟩
    · have := z t (by rw [z2]; exact List.mem_cons_self)
      omega
    · rw [w, w2]
theorem fcpy_C {t a1 b1 n0 n1 : Nat} {f g : Nat → Int32} {sp dp n : Int32} (e1 : fF h a1 = some (.inr (t, n0, .inl f))) (e2 : fF h b1 = some (.inr (t, n1, .inl g))) (hh : ¬ sp < 0 ∧ ¬ dp < 0 ∧ ¬ n < 0 ∧ sp.toNatClampNeg + n.toNatClampNeg ≤ n0 ∧ dp.toNatClampNeg + n.toNatClampNeg ≤ n1) : fcpy h (some a1) sp (some b1) dp n t = some (fSet h b1 (.inr (t, n1, .inl (va_cpy f g sp.toNatClampNeg dp.toNatClampNeg n.toNatClampNeg)))) := by
  unfold fcpy
  rw [farr_C e1, farr_C e2]
  exact if_pos hh
theorem nI_nat {n : Nat} (h : n < 2 ^ 31) : (nI n).toNatClampNeg = n := by
  show (nI n).toInt.toNat = n
  rw [nI_toInt h]
  exact Int.toNat_natCast n
theorem nI_inj {m n : Nat} (hm : m < 1000) (hn : n < 1000) (e : nI m = nI n) : m = n := by
  have := congrArg Int32.toInt e
  rw [nI_toInt (by omega), nI_toInt (by omega)] at this
  omega
theorem nI_add2 {m n : Nat} (hm : m < 1000) (hn : n < 1000) : nI m + nI n = nI (m + n) := by
  apply Int32.toInt_inj.mp
  rw [i32_add (by rw [nI_toInt (by omega), nI_toInt (by omega)]; omega) (by rw [nI_toInt (by omega), nI_toInt (by omega)]; omega), nI_toInt (by omega), nI_toInt (by omega), nI_toInt (by omega)]
  omega
theorem nI_sub {m n : Nat} (hm : m < 1000) (hn : n ≤ m) : nI m - nI n = nI (m - n) := by
  apply Int32.toInt_inj.mp
  rw [i32_sub (by rw [nI_toInt (by omega), nI_toInt (by omega)]; omega) (by rw [nI_toInt (by omega), nI_toInt (by omega)]; omega), nI_toInt (by omega), nI_toInt (by omega), nI_toInt (by omega)]
  omega
theorem nI_nn {n : Nat} (h : n < 1000) : ¬ nI n < 0 := fun z => by
  have := Int32.lt_iff_toInt_lt.mp z
  rw [nI_toInt (by omega)] at this
  have e0 : (0 : Int32).toInt = 0 := by decide
  omega
/-- the search for a key's place -/
theorem x_srch (R : qR G F X k h) (L : lF S F z) {i at_ v : Int32} (h0 : 0 ≤ i.toInt) (h1 : i.toInt < 12) {A B : List Int32} (hk : S.kN i.toNatClampNeg = 2 * (A ++ B).length) (hl : (A ++ B).length ≤ 8) (hv : ∀ (j : Nat) (x : Int32), (A ++ B)[j]? = some x → S.kV i.toNatClampNeg (2 * j) = x) (hA : ∀ x, x ∈ A → x.toInt < at_.toInt) (hB : ∀ x l, B = x :: l → at_.toInt ≤ x.toInt) : ∀ (m n d : Nat), d + m = A.length → m < n → f_X8_key_L90 n (some S.lm) i at_ v (nI (2 * d)) h = f_X8_key_L121 (some S.lm) i at_ v (nI (2 * A.length)) h
  | 0, n + 1, d, e, hn => by
    have nx := i32_nat h0
    have ee : d = A.length := by omega
    subst ee
    rw [List.length_append] at hl hk
    rw [st_X8_key_L90, gL_a7 R L, Option.bind_some, rK R L h0 h1, Option.bind_some, lK R L (by omega), Option.bind_some, hk]
    by_cases q : nI (2 * (A.length + B.length)) ≤ nI (2 * A.length)
    · rw [if_pos q]
    · rw [if_neg q]
      cases hb : B with
      | nil =>
        exfalso
        rw [hb] at q
        exact q (i32_le (Int.le_refl _))
      | cons b B2 =>
        have e2 : S.kV i.toNatClampNeg (2 * A.length) = b := hv A.length b (by rw [hb]; simp)
        have rd := vK R L (i := i.toNatClampNeg) (by omega) (j := nI (2 * A.length)) (by rw [nI_toInt (by omega)]; omega) (by rw [nI_toInt (by omega), hk, hb, List.length_cons]; omega)
        rw [nI_nat (by omega), e2] at rd
        rw [Option.bind_some, rK R L h0 h1, Option.bind_some, rd, Option.bind_some, if_pos (i32_le (hB b B2 hb))]
  | m + 1, n + 1, d, e, hn => by
    have nx := i32_nat h0
    have dl : d < A.length := by omega
    obtain ⟨x, hx⟩ : ∃ x, A[d]? = some x := ⟨_, List.getElem?_eq_getElem dl⟩
    have e2 : S.kV i.toNatClampNeg (2 * d) = x := hv d x (by rw [List.getElem?_append_left dl]; exact hx)
    have hl2 := hl
    have hk2 := hk
    rw [List.length_append] at hl2 hk2
    have rd := vK R L (i := i.toNatClampNeg) (by omega) (j := nI (2 * d)) (by rw [nI_toInt (by omega)]; omega) (by rw [nI_toInt (by omega), hk2]; omega)
    rw [nI_nat (by omega), e2] at rd
    have xl := hA x (List.mem_of_getElem? hx)
    rw [st_X8_key_L90, gL_a7 R L, Option.bind_some, rK R L h0 h1, Option.bind_some, lK R L (by omega), Option.bind_some, hk2, if_neg (i32_nle (by rw [nI_toInt (by omega), nI_toInt (by omega)]; omega)), Option.bind_some, rK R L h0 h1, Option.bind_some, rd, Option.bind_some, if_neg (i32_nle xl)]
    rw [show (2 : Int32) = nI 2 from rfl, nI_add2 (by omega) (by omega), show 2 * d + 2 = 2 * (d + 1) by omega]
    exact x_srch R L h0 h1 hk hl hv hA hB m n (d + 1) (by omega) (by omega)
/-- the rows of keys of the law after a key is put: the times of L2 -/
def lKp (S : lS) (S2 : lS) (t : Nat) (L2 : List Int32) : Prop :=
  (lKr S2 t L2) ∧
  (∀ u, u ≠ t → S2.kN u = S.kN u ∧ S2.kV u = S.kV u) ∧
  (S2.lm = S.lm ∧ S2.added = S.added ∧ S2.tracks = S.tracks ∧ S2.time = S.time ∧ S2.draws = S.draws ∧ S2.sc = S.sc ∧ S2.cR = S.cR ∧ S2.tV = S.tV ∧ S2.nV = S.nV ∧ S2.oV = S.oV ∧ S2.v1 = S.v1 ∧ S2.v2 = S.v2 ∧ S2.v6 = S.v6)
theorem lKp.n {S : lS}{S2 : lS}{t : Nat}{L2 : List Int32} (hq0 : lKp S S2 t L2) : lKr S2 t L2 := hq0.1
theorem lKp.o {S : lS}{S2 : lS}{t : Nat}{L2 : List Int32} (hq0 : lKp S S2 t L2) : ∀ u, u ≠ t → S2.kN u = S.kN u ∧ S2.kV u = S.kV u := hq0.2.1
theorem lKp.s {S : lS}{S2 : lS}{t : Nat}{L2 : List Int32} (hq0 : lKp S S2 t L2) : S2.lm = S.lm ∧ S2.added = S.added ∧ S2.tracks = S.tracks ∧ S2.time = S.time ∧ S2.draws = S.draws ∧ S2.sc = S.sc ∧ S2.cR = S.cR ∧ S2.tV = S.tV ∧ S2.nV = S.nV ∧ S2.oV = S.oV ∧ S2.v1 = S.v1 ∧ S2.v2 = S.v2 ∧ S2.v6 = S.v6 := hq0.2.2
theorem x_key121 (R : qR G F X (k + 1) h) (L : lF S F z) {i at_ v : Int32} (h0 : 0 ≤ i.toInt) (h1 : i.toInt < 12) {A B : List Int32} (hk : S.kN i.toNatClampNeg = 2 * (A ++ B).length) (hl : (A ++ B).length ≤ 7) (hv : ∀ (j : Nat) (x : Int32), (A ++ B)[j]? = some x → S.kV i.toNatClampNeg (2 * j) = x) (hB : (∃ C, B = at_ :: C) ∨ ∀ x, x ∈ B → at_.toInt < x.toInt) : ∃ L2 S2 F2 h2, f_X8_key_L121 (some S.lm) i at_ v (nI (2 * A.length)) h = f_X8_key_L238 (some S.lm) i at_ v h2 ∧ qR G F2 X k h2 ∧ lF S2 F2 z ∧ ((∃ C, B = at_ :: C ∧ L2 = A ++ B) ∨ ((∀ x, x ∈ B → at_.toInt < x.toInt) ∧ L2 = A ++ at_ :: B)) ∧ lKp S S2 i.toNatClampNeg L2 := by
  have nx := i32_nat h0
  have hl2 := hl
  have hk2 := hk
  rw [List.length_append] at hl2 hk2
  generalize hT : i.toNatClampNeg = t at *
  have rk : faR h (some S.a7) 4 i = some (some (S.kR t)) := by rw [← hT]; exact rK R L h0 h1
  have ga := gL_a7 R L
  unfold f_X8_key_L121
  rw [ga, Option.bind_some, rk, Option.bind_some, lK R L (by omega), Option.bind_some, hk2]
  -- a key of this time there
  by_cases q : ∃ C, B = at_ :: C
  · obtain ⟨C, hC⟩ := q
    have e2 : S.kV t (2 * A.length) = at_ := hv A.length at_ (by rw [hC]; simp)
    have rd := vK R L (i := t) (by omega) (j := nI (2 * A.length)) (by rw [nI_toInt (by omega)]; omega) (by rw [nI_toInt (by omega), hk2, hC, List.length_cons]; omega)
    rw [nI_nat (by omega), e2] at rd
    have p1 : nI (2 * A.length) + 1 = nI (2 * A.length + 1) := (nI_succ _).symm
    obtain ⟨h2, w2, R2, L2⟩ := wK R L (i := t) (by omega) (j := nI (2 * A.length + 1)) (by rw [nI_toInt (by omega)]; omega) (by rw [nI_toInt (by omega), hk2, hC, List.length_cons]; omega) v
    refine ⟨A ++ B, _, _, h2, ?_, R2.le (Nat.le_succ k), L2, Or.inl ⟨C, hC, rfl⟩, ⟨hk, fun j x hx => ?_⟩, fun u hu => ⟨rfl, qu_ne hu⟩, rfl, rfl, rfl, rfl, rfl, rfl, rfl, rfl, rfl, rfl, rfl, rfl, rfl⟩
    · rw [if_neg (i32_nle (by rw [nI_toInt (by omega), nI_toInt (by omega), hC, List.length_cons]; omega)), Option.bind_some, rk, Option.bind_some, rd, Option.bind_some, if_pos rfl, Option.bind_some, rk, Option.bind_some, p1, w2, Option.bind_some]
    · show qu S.kV t (upd (S.kV t) (nI (2 * A.length + 1)).toNatClampNeg v) t (2 * j) = x
      rw [qu_eq, nI_nat (by omega)]
      exact (if_neg (by omega)).trans (hv j x hx)
  · have hB2 : ∀ x, x ∈ B → at_.toInt < x.toInt := hB.resolve_left q
    have s161 : (if nI (2 * (A.length + B.length)) ≤ nI (2 * A.length) then f_X8_key_L161 (some S.lm) i at_ v (nI (2 * A.length)) h else (some (some S.a7)).bind fun x60 => (faR h x60 4 i).bind fun x62 => (faI h x62 0 (nI (2 * A.length))).bind fun x64 => (if x64 = at_ then (some (some S.a7)).bind fun x67 => (faR h x67 4 i).bind fun x69 => (fsI h x69 0 (nI (2 * A.length) + (1 : Int32)) v).bind fun h71 => f_X8_key_L238 (some S.lm) i at_ v h71 else f_X8_key_L161 (some S.lm) i at_ v (nI (2 * A.length)) h)) = f_X8_key_L161 (some S.lm) i at_ v (nI (2 * A.length)) h := by
      by_cases w : nI (2 * (A.length + B.length)) ≤ nI (2 * A.length)
      · rw [if_pos w]
      · rw [if_neg w]
        cases hb : B with
        | nil =>
          exfalso
          rw [hb] at w
          exact w (i32_le (Int.le_refl _))
        | cons b B3 =>
          have e2 : S.kV t (2 * A.length) = b := hv A.length b (by rw [hb]; simp)
          have rd := vK R L (i := t) (by omega) (j := nI (2 * A.length)) (by rw [nI_toInt (by omega)]; omega) (by rw [nI_toInt (by omega), hk2, hb, List.length_cons]; omega)
          rw [nI_nat (by omega), e2] at rd
          have nb : b ≠ at_ := fun y => q ⟨B3, by rw [hb, y]⟩
          rw [Option.bind_some, rk, Option.bind_some, rd, Option.bind_some, if_neg nb]
    -- a new row
    obtain ⟨r, g0, F0, n0, R0, L0, e0, fr, o0⟩ := x_ln (k := k) R L (2 * (A.length + B.length) + 2) 0 (by omega)
    obtain ⟨S0, eS0⟩ : ∃ S0, S0 = S.s_tg (qu S.tg r (13, 0)) := ⟨_, rfl⟩
    rw [← eS0] at L0
    have tr : S0.tg r = (13, 0) := by
      rw [eS0]
      show qu S.tg r (13, 0) r = (13, 0)
      exact qu_eq
    have q0 : S0.lm = S.lm ∧ S0.a7 = S.a7 ∧ S0.kR = S.kR ∧ S0.kN = S.kN ∧ S0.kV = S.kV := by rw [eS0]; exact ⟨rfl, rfl, rfl, rfl, rfl⟩
    have q1 : S0.lm = S.lm ∧ S0.added = S.added ∧ S0.tracks = S.tracks ∧ S0.time = S.time ∧ S0.draws = S.draws ∧ S0.sc = S.sc ∧ S0.cR = S.cR ∧ S0.tV = S.tV ∧ S0.nV = S.nV ∧ S0.oV = S.oV ∧ S0.v1 = S.v1 ∧ S0.v2 = S.v2 ∧ S0.v6 = S.v6 := by rw [eS0]; exact ⟨rfl, rfl, rfl, rfl, rfl, rfl, rfl, rfl, rfl, rfl, rfl, rfl, rfl⟩
    clear eS0
    have rk_ : ∀ {F : Nat → Option fCe} {h : fSt} {k : Nat}, qR G F X k h → lF S0 F z → fgR h (some S.lm) 8 12 = some (some S.a7) ∧ faR h (some S.a7) 4 i = some (some (S.kR t)) ∧ fF h (S.kR t) = some (ri (2 * (A.length + B.length)) (S.kV t)) ∧ flen h (some (S.kR t)) 0 = some (nI (2 * (A.length + B.length))) := by
      intro F h k R L
      have b1 := gL_a7 R L
      have b2 := rK R L h0 h1
      have b3 := (R.lo _ _ (L.n7 t (by omega)).1).2
      have b4 := lK R L (i := t) (by omega)
      rw [q0.1, q0.2.1] at b1
      rw [q0.2.1, hT, q0.2.2.1] at b2
      rw [q0.2.2.1, q0.2.2.2.1, q0.2.2.2.2, hk2] at b3
      rw [q0.2.2.1, q0.2.2.2.1, hk2] at b4
      exact ⟨b1, b2, b3, b4⟩
    have tp : (nI (2 * A.length)).toNatClampNeg = 2 * A.length := nI_nat (by omega)
    have z0 : (0 : Int32).toNatClampNeg = 0 := by decide
    -- the part ahead
    obtain ⟨b1, b2, b3, b4⟩ := rk_ R0 L0
    have w1 := fcpy_C (sp := 0) (dp := 0) (n := nI (2 * A.length)) b3 (R0.lo _ _ e0).2 ⟨by decide, by decide, nI_nn (by omega), by rw [z0, tp]; omega, by rw [z0, tp]; omega⟩
    have R1 := R0.setF e0 (Or.inr (Or.inl rfl)) (c := ri (2 * (A.length + B.length) + 2) (va_cpy (S.kV t) (fun _ => 0) 0 0 (2 * A.length)))
    have L1 := L0.loose tr (ri (2 * (A.length + B.length) + 2) (va_cpy (S.kV t) (fun _ => 0) 0 0 (2 * A.length)))
    rw [z0, tp] at w1
    have e1 : qu F0 r (some (ri (2 * (A.length + B.length) + 2) (va_cpy (S.kV t) (fun _ => 0) 0 0 (2 * A.length)))) r = some _ := qu_eq
    generalize hh1 : fSet g0 r (.inr (0, 2 * (A.length + B.length) + 2, .inl (va_cpy (S.kV t) (fun _ => 0) 0 0 (2 * A.length)))) = h1' at w1
    rw [show fSet g0 r (ri (2 * (A.length + B.length) + 2) (va_cpy (S.kV t) (fun _ => 0) 0 0 (2 * A.length))) = h1' from hh1] at R1
    obtain ⟨h2', F2', w2, R2, L2, e2, o2⟩ := x_ls R1 L1 tr e1 (j := nI (2 * A.length)) (by rw [nI_toInt (by omega)]; omega) (by rw [nI_toInt (by omega)]; omega) at_
    obtain ⟨h3', F3', w3, R3, L3, e3, o3⟩ := x_ls R2 L2 tr e2 (j := nI (2 * A.length + 1)) (by rw [nI_toInt (by omega)]; omega) (by rw [nI_toInt (by omega)]; omega) v
    rw [tp] at e2 e3
    rw [nI_nat (n := 2 * A.length + 1) (by omega)] at e3
    obtain ⟨c1, c2, c3, c4⟩ := rk_ R3 L3
    have tq : (nI (2 * A.length) + 2).toNatClampNeg = 2 * A.length + 2 := by
      rw [show (2 : Int32) = nI 2 from rfl, nI_add2 (by omega) (by omega), nI_nat (by omega)]
    have tn : nI (2 * (A.length + B.length)) - nI (2 * A.length) = nI (2 * B.length) := by
      rw [nI_sub (by omega) (by omega), show 2 * (A.length + B.length) - 2 * A.length = 2 * B.length by omega]
    have w4 := fcpy_C (sp := nI (2 * A.length)) (dp := nI (2 * A.length) + 2) (n := nI (2 * B.length)) c3 (R3.lo _ _ e3).2 ⟨nI_nn (by omega), by rw [show (2 : Int32) = nI 2 from rfl, nI_add2 (by omega) (by omega)]; exact nI_nn (by omega), nI_nn (by omega), by rw [tp, nI_nat (by omega)]; omega, by rw [tq, nI_nat (by omega)]; omega⟩
    rw [tp, tq, nI_nat (n := 2 * B.length) (by omega)] at w4
    obtain ⟨gN, eN⟩ : ∃ g, g = va_cpy (S.kV t) (upd (upd (va_cpy (S.kV t) (fun _ => 0) 0 0 (2 * A.length)) (2 * A.length) at_) (2 * A.length + 1) v) (2 * A.length) (2 * A.length + 2) (2 * B.length) := ⟨_, rfl⟩
    rw [← eN] at w4
    have R4 := R3.setF e3 (Or.inr (Or.inl rfl)) (c := ri (2 * (A.length + B.length) + 2) gN)
    have L4 := L3.loose tr (ri (2 * (A.length + B.length) + 2) gN)
    have e4 : qu F3' r (some (ri (2 * (A.length + B.length) + 2) gN)) r = some (ri (2 * (A.length + B.length) + 2) gN) := qu_eq
    generalize hh4 : fSet h3' r (.inr (0, 2 * (A.length + B.length) + 2, .inl gN)) = h4' at w4
    rw [show fSet h3' r (ri (2 * (A.length + B.length) + 2) gN) = h4' from hh4] at R4
    obtain ⟨d1, d2, d3, d4⟩ := rk_ R4 L4
    obtain ⟨h5, c5, w5, R5, L5⟩ := stK R4 L4 (i := i) tr e4 h0 h1
    rw [hT] at L5
    rw [q0.2.1] at w5
    refine ⟨A ++ at_ :: B, _, _, h5, ?_, R5, L5, Or.inr ⟨hB2, rfl⟩, ⟨?_, fun j x hx => ?_⟩, fun u hu => ⟨?_, ?_⟩, q1⟩
    · refine s161.trans ?_
      unfold f_X8_key_L161
      have sz : (nI (2 * (A.length + B.length)) + 2) = nI (2 * (A.length + B.length) + 2) := by rw [show (2 : Int32) = nI 2 from rfl, nI_add2 (by omega) (by omega)]
      rw [ga, Option.bind_some, rk, Option.bind_some, lK R L (by omega), Option.bind_some, hk2, sz, nI_nat (by omega), if_neg (by rintro (y | y); (exact nI_nn (by omega) y); omega), n0, Option.bind_some]
      dsimp only
      rw [b1, Option.bind_some, b2, Option.bind_some, w1, Option.bind_some, w2, Option.bind_some, ← nI_succ, w3, Option.bind_some, c1, Option.bind_some, c2, Option.bind_some, Option.bind_some, c2, Option.bind_some, c4, Option.bind_some, tn, w4, Option.bind_some, d1, Option.bind_some, w5, Option.bind_some]
    · show qu S0.kN t (2 * (A.length + B.length) + 2) t = _
      rw [qu_eq]
      simp only [List.length_append, List.length_cons]
      omega
    · show qu S0.kV t gN t (2 * j) = x
      rw [qu_eq, eN]
      unfold va_cpy
      have jl : j < A.length + B.length + 1 := by
        have := (List.getElem?_eq_some_iff.mp hx).1
        simp only [List.length_append, List.length_cons] at this
        omega
      by_cases j1 : j < A.length
      · rw [if_neg (by omega)]
        rw [List.getElem?_append_left j1] at hx
        refine (if_neg (by omega)).trans ((if_neg (by omega)).trans ?_)
        refine (if_pos (by omega)).trans ?_
        rw [show 0 + (2 * j - 0) = 2 * j by omega]
        exact hv j x (by rw [List.getElem?_append_left j1]; exact hx)
      · by_cases j2 : j = A.length
        · subst j2
          rw [if_neg (by omega)]
          have ex : at_ = x := by simpa using hx
          refine (if_neg (by omega)).trans ((if_pos rfl).trans ex)
        · rw [if_pos (by omega), show 2 * A.length + (2 * j - (2 * A.length + 2)) = 2 * (j - 1) by omega]
          refine hv (j - 1) x ?_
          rw [List.getElem?_append_right (by omega)] at hx ⊢
          obtain ⟨d, hd⟩ : ∃ d, j - A.length = d + 1 := ⟨j - A.length - 1, by omega⟩
          rw [hd, List.getElem?_cons_succ] at hx
          rw [show j - 1 - A.length = d by omega]
          exact hx
    · show qu S0.kN t _ u = _
      rw [qu_ne hu, q0.2.2.2.1]
    · show qu S0.kV t _ u = _
      rw [qu_ne hu, q0.2.2.2.2]
end LKEY
