/-! THE CONSTRUCTORS: the heap as a list of cells from z on, over what lies below z. -/
section INIT
def gk : List (Option fCe) → Nat → Option fCe
  | [], _ => none
  | c :: _, 0 => c
  | _ :: l, k + 1 => gk l k
def sk : List (Option fCe) → Nat → fCe → List (Option fCe)
  | [], _, _ => []
  | _ :: l, 0, e => some e :: l
  | c :: l, k + 1, e => c :: sk l k e
theorem gk0 {c : Option fCe} {l : List (Option fCe)} : gk (c :: l) 0 = c := rfl
theorem gk1 {c : Option fCe} {l : List (Option fCe)} {k : Nat} : gk (c :: l) (k + 1) = gk l k := rfl
theorem sk0 {c : Option fCe} {l : List (Option fCe)} {e : fCe} : sk (c :: l) 0 e = some e :: l := rfl
theorem sk1 {c : Option fCe} {l : List (Option fCe)} {k : Nat} {e : fCe} : sk (c :: l) (k + 1) e = c :: sk l k e := rfl
theorem sk_len (l : List (Option fCe)) : ∀ (k : Nat) (e : fCe), (sk l k e).length = l.length := by
  induction l with
  | nil => intro k e; rfl
  | cons c l ih =>
    intro k e
    cases k with
    | zero => rfl
    | succ k => show (sk l k e).length + 1 = l.length + 1; rw [ih]
theorem gk_sk (l : List (Option fCe)) : ∀ (k : Nat) (e : fCe) (j : Nat), k < l.length → gk (sk l k e) j = if j = k then some e else gk l j := by
  induction l with
  | nil => intro k e j h; exact absurd h (Nat.not_lt_zero _)
  | cons c l ih =>
    intro k e j h
    cases k with
    | zero => cases j with
      | zero => rfl
      | succ j => rw [if_neg (by omega)]; rfl
    | succ k => cases j with
      | zero => rw [if_neg (by omega)]; rfl
      | succ j =>
        show gk (sk l k e) j = _
        rw [ih k e j (by simpa using h)]
        by_cases q : j = k
        · rw [if_pos q, if_pos (by omega)]
        · rw [if_neg q, if_neg (by omega)]; rfl
theorem gk_app (l : List (Option fCe)) : ∀ (x : Option fCe) (j : Nat), gk (l ++ [x]) j = if j = l.length then x else gk l j := by
  induction l with
  | nil => intro x j; cases j with
    | zero => rfl
    | succ j => rw [if_neg (by simp)]; rfl
  | cons c l ih =>
    intro x j
    cases j with
    | zero => rw [if_neg (by simp)]; rfl
    | succ j =>
      show gk (l ++ [x]) j = _
      rw [ih x j]
      by_cases q : j = l.length
      · rw [if_pos q, if_pos (by simp [q])]
      · rw [if_neg q, if_neg (by simp [q])]; rfl
theorem gk_len (l : List (Option fCe)) : ∀ (j : Nat), l.length ≤ j → gk l j = none := by
  induction l with
  | nil => intro j _; rfl
  | cons c l ih =>
    intro j h
    cases j with
    | zero => simp at h
    | succ j => exact ih j (by simpa using h)
def hp (g : Nat → Option fCe) (z : Nat) (cs : List (Option fCe)) (l k c b : Nat) (x : Nat × Nat × (Nat → Int32)) : fSt := (fun a => if z ≤ a then gk cs (a - z) else g a, z + cs.length, l + k, c, b, x)
variable {g : Nat → Option fCe} {z l kk c b : Nat} {x : Nat × Nat × (Nat → Int32)} {cs : List (Option fCe)}
theorem hp_F {k : Nat} : fF (hp g z cs l kk c b x) (z + k) = gk cs k := by
  show (if z ≤ z + k then gk cs (z + k - z) else g (z + k)) = _
  rw [if_pos (Nat.le_add_right _ _), Nat.add_sub_cancel_left]
theorem hp_F0 : fF (hp g z cs l kk c b x) z = gk cs 0 := hp_F (k := 0)
theorem hp_set {k : Nat} {e : fCe} (h : k < cs.length) : fSet (hp g z cs l kk c b x) (z + k) e = hp g z (sk cs k e) l kk c b x := by
  unfold fSet hp
  refine Prod.ext ?_ (Prod.ext ?_ rfl)
  · funext a
    show (if a = z + k then some e else (if z ≤ a then gk cs (a - z) else g a)) = if z ≤ a then gk (sk cs k e) (a - z) else g a
    by_cases q : z ≤ a
    · rw [if_pos q, if_pos q, gk_sk _ _ _ _ h]
      by_cases q2 : a = z + k
      · rw [if_pos q2, if_pos (by omega)]
      · rw [if_neg q2, if_neg (by omega)]
    · rw [if_neg q, if_neg q, if_neg (by omega)]
  · show z + cs.length = z + (sk cs k e).length
    rw [sk_len]
theorem hp_set0 {e : fCe} (h : 0 < cs.length) : fSet (hp g z cs l kk c b x) z e = hp g z (sk cs 0 e) l kk c b x := hp_set (k := 0) h
theorem hp_push {n : Nat} {e : fCe} : fPush (hp g z cs l kk c b x) e n = hp g z (cs ++ [some e]) l (kk + n) c b x := by
  unfold fPush hp
  refine Prod.ext ?_ (Prod.ext ?_ (Prod.ext ?_ rfl))
  · funext a
    show (if a = z + cs.length then some e else (if z ≤ a then gk cs (a - z) else g a)) = if z ≤ a then gk (cs ++ [some e]) (a - z) else g a
    by_cases q : z ≤ a
    · rw [if_pos q, if_pos q, gk_app]
      by_cases q2 : a = z + cs.length
      · rw [if_pos q2, if_pos (by omega)]
      · rw [if_neg q2, if_neg (by omega)]
    · rw [if_neg q, if_neg q, if_neg (by omega)]
  · show z + cs.length + 1 = z + (cs ++ [some e]).length
    simp
    omega
  · show l + kk + n = l + (kk + n)
    omega
theorem hp_new (h1 : z + 100 ≤ c) (h2 : l + 1000 ≤ b) {n : Nat} {e : fCe} (h3 : cs.length + 1 ≤ 100) (h4 : kk + n ≤ 1000) : fnew (hp g z cs l kk c b x) e n = some (z + cs.length, hp g z (cs ++ [some e]) l (kk + n) c b x) := by
  unfold fnew
  rw [hp_push]
  exact if_pos ⟨by show z + cs.length + 1 ≤ c; omega, by show l + kk + n ≤ b; omega⟩
def rws (f : Nat → Option Nat) (n i : Nat) : List (Option fCe) := some (.inr (4, n, .inr (.inr (.inr (.inr f))))) :: List.replicate i (some (.inr (0, 0, .inl (fun _ => 0))))
theorem sk_app (l1 : List (Option fCe)) (d : Option fCe) (l2 : List (Option fCe)) (e : fCe) : sk (l1 ++ d :: l2) l1.length e = l1 ++ some e :: l2 := by
  induction l1 with
  | nil => rfl
  | cons a l ih => show a :: sk (l ++ d :: l2) l.length e = _; rw [ih]; rfl
theorem hp_mul (n : Nat) : ∀ i, fmul (hp g z cs l kk c b x) n i = hp g z (cs ++ rws (muF (z + cs.length) i) n i) l (kk + n) c b x
  | 0 => by
    unfold fmul
    rw [hp_push]
    rfl
  | i + 1 => by
    unfold fmul
    rw [hp_mul n i, hp_push]
    show fSet _ (z + cs.length) _ = _
    rw [hp_set (by simp [rws])]
    have e : sk (cs ++ rws (muF (z + cs.length) i) n i ++ [some (.inr (0, 0, .inl (fun _ => 0)))]) cs.length (.inr (4, n, .inr (.inr (.inr (.inr (muF (z + cs.length) (i + 1))))))) = cs ++ rws (muF (z + cs.length) (i + 1)) n (i + 1) := by
      unfold rws
      rw [List.append_assoc, List.cons_append, sk_app, List.replicate_succ']
    rw [show fZ (hp g z cs l kk c b x) = z + cs.length from rfl, e]
    rfl
theorem hp_mula (h1 : z + 100 ≤ c) (h2 : l + 1000 ≤ b) {n : Nat} (h3 : cs.length + 1 + n ≤ 100) (h4 : kk + n ≤ 1000) : fmula (hp g z cs l kk c b x) n = some (z + cs.length, hp g z (cs ++ rws (muF (z + cs.length) n) n n) l (kk + n) c b x) := by
  unfold fmula
  rw [hp_mul]
  exact if_pos ⟨by show z + cs.length + 1 + n ≤ c; omega, by show l + kk + n ≤ b; omega⟩
theorem rws12 (f : Nat → Option Nat) : rws f 12 12 = [some (.inr (4, 12, .inr (.inr (.inr (.inr f))))), some (.inr (0, 0, .inl (fun _ => 0))), some (.inr (0, 0, .inl (fun _ => 0))), some (.inr (0, 0, .inl (fun _ => 0))), some (.inr (0, 0, .inl (fun _ => 0))), some (.inr (0, 0, .inl (fun _ => 0))), some (.inr (0, 0, .inl (fun _ => 0))), some (.inr (0, 0, .inl (fun _ => 0))), some (.inr (0, 0, .inl (fun _ => 0))), some (.inr (0, 0, .inl (fun _ => 0))), some (.inr (0, 0, .inl (fun _ => 0))), some (.inr (0, 0, .inl (fun _ => 0))), some (.inr (0, 0, .inl (fun _ => 0)))] := rfl
theorem rf1 {a : Nat} : va_rf (some a) = .ref a := rfl
theorem rf0 : va_rf none = .null := rfl
def c80 : fCe := .inl (8, [.null, .null, .int 0, .int 0, .null, .null, .null, .null, .null, .int 0, .int 0, .null, .null, .int 0])
def CSI (z sc : Nat) (dr : Int32) : List (Option fCe) := [some (.inl (8, [.ref (z + 1), .ref sc, .int dr, .int 1, .ref (z + 16), .ref (z + 17), .ref (z + 18), .ref (z + 19), .ref (z + 20), .int 1, .int 0, .ref (z + 21), .ref (z + 22), .int 0])), some (.inl (7, [.ref (z + 2), .ref (z + 3), .ref (z + 4), .ref (z + 10), .ref (z + 11), .int 1, .int 0, .int 0, .ref (z + 4), .int 1])), some (.inr (2, 30, .inr (.inr (.inr (.inr (va_up (fun _ => none) 0 (some (z + 4)))))))), some (.inr (3, 12, .inr (.inr (.inr (.inr (fun _ => none)))))), some (.inl (4, [.int 0, .int 0, .ref (z + 9), .ref (z + 5), .ref (z + 6), .ref (z + 7), .ref (z + 8), .int 1, .int 1, .int 0, .int 0, .int 0, .null, .int 0, .null, .null, .null, .null, .int 0])), some (.inl (6, [.int (-200), .int 200, .int 0, .int 0, .int 0, .int 0, .int 0, .null, .int 0])), some (.inl (6, [.int (-200), .int 200, .int 0, .int 0, .int 0, .int 0, .int 0, .null, .int 0])), some (.inl (6, [.int 0, .int 3, .int 0, .int 0, .int 0, .int 0, .int 0, .null, .int 0])), some (.inl (6, [.int 0, .int 100, .int 100, .int 0, .int 0, .int 0, .int 0, .null, .int 0])), some (.inl (2, [.int 0, .int 0, .int 0, .int 0])), some (.inl (5, [.long 0, .long 0, .long 1, .int 0])), some (.inl (0, [.ref (z + 12), .ref (z + 13), .ref (z + 14), .ref (z + 15)])), some (.inl (1, [.long 0, .long 0])), some (.inl (1, [.long 0, .long 0])), some (.inl (1, [.long 0, .long 0])), some (.inl (1, [.long 0, .long 0])), some (.inr (4, 30, .inr (.inr (.inr (.inr (va_up (fun _ => none) 0 (some (z + 35)))))))), some (.inr (4, 30, .inr (.inr (.inr (.inr (va_up (fun _ => none) 0 (some (z + 36)))))))), some (.inr (1, 30, .inl (fun _ => 0))), some (.inr (1, 30, .inl (fun _ => 0))), some (.inr (4, 30, .inr (.inr (.inr (.inr (fun _ => none)))))), some (.inr (4, 12, .inr (.inr (.inr (.inr (fun _ => none)))))), some (.inr (4, 12, .inr (.inr (.inr (.inr (muF (z + 22) 12)))))), some (.inr (0, 0, .inl (fun _ => 0))), some (.inr (0, 0, .inl (fun _ => 0))), some (.inr (0, 0, .inl (fun _ => 0))), some (.inr (0, 0, .inl (fun _ => 0))), some (.inr (0, 0, .inl (fun _ => 0))), some (.inr (0, 0, .inl (fun _ => 0))), some (.inr (0, 0, .inl (fun _ => 0))), some (.inr (0, 0, .inl (fun _ => 0))), some (.inr (0, 0, .inl (fun _ => 0))), some (.inr (0, 0, .inl (fun _ => 0))), some (.inr (0, 0, .inl (fun _ => 0))), some (.inr (0, 0, .inl (fun _ => 0))), some (.inr (0, 8, .inl (upd (upd (upd (upd (upd (upd (upd (upd (fun _ => 0) 0 (-1)) 1 0) 2 0) 3 0) 4 1) 5 1) 6 0) 7 0))), some (.inr (0, 4, .inl (upd (upd (upd (upd (fun _ => 0) 0 0) 1 0) 2 0) 3 100)))]
theorem tc : ((0 : Int32).toNatClampNeg = 0) ∧ ((1 : Int32).toNatClampNeg = 1) ∧ ((2 : Int32).toNatClampNeg = 2) ∧ ((3 : Int32).toNatClampNeg = 3) ∧ ((4 : Int32).toNatClampNeg = 4) ∧ ((5 : Int32).toNatClampNeg = 5) ∧ ((6 : Int32).toNatClampNeg = 6) ∧ ((7 : Int32).toNatClampNeg = 7) ∧ ((8 : Int32).toNatClampNeg = 8) ∧ ((12 : Int32).toNatClampNeg = 12) ∧ ((30 : Int32).toNatClampNeg = 30) := by decide
set_option maxHeartbeats 4000000 in
set_option maxRecDepth 100000 in
theorem in_X8 (h1 : z + 100 ≤ c) (h2 : l + 1000 ≤ b) {sc : Nat} {dr : Int32} : f_X8_init z (some sc) dr (hp g z [some c80] l 14 c b x) = some ((), hp g z (CSI z sc dr) l 327 c b x) := by
  obtain ⟨t0, t1, t2, t3, t4, t5, t6, t7, t8, t12, t30⟩ := tc
  unfold c80
  simp +decide only [f_X8_init, f_X8_init_L0, f_X8_put, f_X8_put_L0, f_X7_init, f_X7_init_L0, f_X4_init, f_X4_init_L0, f_X6_init, f_X6_init_L0, f_X2_init, f_X2_init_L0, f_X5_init, f_X5_init_L0, f_X0_init, f_X0_init_L0, f_X1_init, f_X1_init_L0, t0, t1, t2, t3, t4, t5, t6, t7, t8, t12, t30, fgR, fgI, fget, fput, fobj, fsI, fsR, fsA, farr, hp_F, hp_F0, hp_set, hp_set0, hp_new h1 h2, hp_mula h1 h2, rws12, gk0, gk1, sk0, sk1, rf1, rf0, List.length_cons, List.length_nil, List.cons_append, List.nil_append, List.set_cons_zero, List.set_cons_succ, List.getElem?_cons_zero, List.getElem?_cons_succ, Option.bind_some, if_true, if_false, true_and, and_true, and_self, reduceIte, Nat.reduceAdd, Nat.reduceLT, Nat.reduceLeDiff, Nat.reduceEqDiff, Nat.zero_add, Nat.lt_add_left_iff_pos, Nat.zero_lt_succ, Nat.add_zero]
  rfl
end INIT
