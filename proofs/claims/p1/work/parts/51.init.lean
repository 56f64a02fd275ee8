/-! THE CONSTRUCTORS: the heap as a list of cells from z on. -/
section INIT
def gk : List (Option fCe) → Nat → Option fCe
  | [], _ => none
  | c :: _, 0 => c
  | _ :: l, k + 1 => gk l k
def sk : List (Option fCe) → Nat → fCe → List (Option fCe)
  | [], _, _ => []
  | _ :: l, 0, e => some e :: l
  | c :: l, k + 1, e => c :: sk l k e
theorem gk0 {c : Option fCe} {l : List (Option fCe)} : gk (c :: l) 0 = c := rfl
theorem gk1 {c : Option fCe} {l : List (Option fCe)} {k : Nat} : gk (c :: l) (k + 1) = gk l k := rfl
theorem sk0 {c : Option fCe} {l : List (Option fCe)} {e : fCe} : sk (c :: l) 0 e = some e :: l := rfl
theorem sk1 {c : Option fCe} {l : List (Option fCe)} {k : Nat} {e : fCe} : sk (c :: l) (k + 1) e = c :: sk l k e := rfl
theorem sk_len (l : List (Option fCe)) : ∀ (k : Nat) (e : fCe), (sk l k e).length = l.length := by
  induction l with
  | nil => intro k e; rfl
  | cons c l ih =>
    intro k e
    cases k with
    | zero => rfl
    | succ k => show (sk l k e).length + 1 = l.length + 1; rw [ih]
theorem gk_sk (l : List (Option fCe)) : ∀ (k : Nat) (e : fCe) (j : Nat), k < l.length → gk (sk l k e) j = if j = k then some e else gk l j := by
  induction l with
  | nil => intro k e j h; exact absurd h (Nat.not_lt_zero _)
  | cons c l ih =>
    intro k e j h
    cases k with
    | zero => cases j with
      | zero => rfl
      | succ j => rw [if_neg (by omega)]; rfl
    | succ k => cases j with
      | zero => rw [if_neg (by omega)]; rfl
      | succ j =>
        show gk (sk l k e) j = _
        rw [ih k e j (by simpa using h)]
        by_cases q : j = k
        · rw [if_pos q, if_pos (by omega)]
        · rw [if_neg q, if_neg (by omega)]; rfl
theorem gk_app (l : List (Option fCe)) : ∀ (x : Option fCe) (j : Nat), gk (l ++ [x]) j = if j = l.length then x else gk l j := by
  induction l with
  | nil => intro x j; cases j with
    | zero => rfl
    | succ j => rw [if_neg (by simp)]; rfl
  | cons c l ih =>
    intro x j
    cases j with
    | zero => rw [if_neg (by simp)]; rfl
    | succ j =>
      show gk (l ++ [x]) j = _
      rw [ih x j]
      by_cases q : j = l.length
      · rw [if_pos q, if_pos (by simp [q])]
      · rw [if_neg q, if_neg (by simp [q])]; rfl
theorem gk_len (l : List (Option fCe)) : ∀ (j : Nat), l.length ≤ j → gk l j = none := by
  induction l with
  | nil => intro j _; rfl
  | cons c l ih =>
    intro j h
    cases j with
    | zero => simp at h
    | succ j => exact ih j (by simpa using h)
def hp (z : Nat) (cs : List (Option fCe)) (l c b : Nat) : fSt := (fun a => if z ≤ a then gk cs (a - z) else none, z + cs.length, l, c, b)
theorem hp_F {z : Nat} {cs : List (Option fCe)} {l c b k : Nat} : fF (hp z cs l c b) (z + k) = gk cs k := by
  show (if z ≤ z + k then gk cs (z + k - z) else none) = _
  rw [if_pos (Nat.le_add_right _ _), Nat.add_sub_cancel_left]
theorem hp_F0 {z : Nat} {cs : List (Option fCe)} {l c b : Nat} : fF (hp z cs l c b) z = gk cs 0 := hp_F (k := 0)
theorem hp_set {z : Nat} {cs : List (Option fCe)} {l c b k : Nat} {e : fCe} (h : k < cs.length) : fSet (hp z cs l c b) (z + k) e = hp z (sk cs k e) l c b := by
  unfold fSet hp
  refine Prod.ext ?_ (Prod.ext ?_ rfl)
  · funext a
    show (if a = z + k then some e else (if z ≤ a then gk cs (a - z) else none)) = if z ≤ a then gk (sk cs k e) (a - z) else none
    by_cases q : z ≤ a
    · rw [if_pos q, if_pos q, gk_sk _ _ _ _ h]
      by_cases q2 : a = z + k
      · rw [if_pos q2, if_pos (by omega)]
      · rw [if_neg q2, if_neg (by omega)]
    · rw [if_neg q, if_neg q, if_neg (by omega)]
  · show z + cs.length = z + (sk cs k e).length
    rw [sk_len]
theorem hp_set0 {z : Nat} {cs : List (Option fCe)} {l c b : Nat} {e : fCe} (h : 0 < cs.length) : fSet (hp z cs l c b) z e = hp z (sk cs 0 e) l c b := hp_set (k := 0) h
theorem hp_push {z : Nat} {cs : List (Option fCe)} {l c b n : Nat} {e : fCe} : fPush (hp z cs l c b) e n = hp z (cs ++ [some e]) (l + n) c b := by
  unfold fPush hp
  refine Prod.ext ?_ (Prod.ext ?_ rfl)
  · funext a
    show (if a = z + cs.length then some e else (if z ≤ a then gk cs (a - z) else none)) = if z ≤ a then gk (cs ++ [some e]) (a - z) else none
    by_cases q : z ≤ a
    · rw [if_pos q, if_pos q, gk_app]
      by_cases q2 : a = z + cs.length
      · rw [if_pos q2, if_pos (by omega)]
      · rw [if_neg q2, if_neg (by omega)]
    · rw [if_neg q, if_neg q, if_neg (by omega)]
  · show z + cs.length + 1 = z + (cs ++ [some e]).length
    simp
    omega
theorem hp_new {z : Nat} {cs : List (Option fCe)} {l C b n : Nat} {e : fCe} : fnew (hp z cs l (z + C) b) e n = if cs.length + 1 ≤ C ∧ l + n ≤ b then some (z + cs.length, hp z (cs ++ [some e]) (l + n) (z + C) b) else none := by
  unfold fnew
  rw [hp_push]
  show (if z + cs.length + 1 ≤ z + C ∧ l + n ≤ b then some (z + cs.length, _) else none) = _
  by_cases q : cs.length + 1 ≤ C ∧ l + n ≤ b
  · rw [if_pos q, if_pos ⟨by omega, q.2⟩]
  · rw [if_neg q, if_neg (fun y => q ⟨by omega, y.2⟩)]
theorem hp_0 {z c b : Nat} : st_0 z c b = hp z [] 0 (z + c) b := by
  unfold st_0 hp
  refine Prod.ext ?_ rfl
  funext a
  show none = if z ≤ a then gk [] (a - z) else none
  by_cases q : z ≤ a
  · rw [if_pos q]; rfl
  · rw [if_neg q]
theorem rf1 {a : Nat} : va_rf (some a) = .ref a := rfl
theorem rf0 : va_rf none = .null := rfl
set_option maxHeartbeats 4000000 in
set_option maxRecDepth 100000 in
theorem in_X7 {z : Nat} : f_X7_init z (hp z [some (.inl (7, [.null, .null, .null, .null, .null, .int 0, .int 0, .int 0, .null, .int 0]))] 10 (z + 754925) 6837462) = some ((), hp z ([some (.inl (7, [.ref (z + 1), .ref (z + 2), .ref (z + 3), .ref (z + 9), .ref (z + 10), .int 1, .int 0, .int 0, .ref (z + 3), .int 1])), some (.inr (4, 30, .inr (.inr (.inr (.inr (va_up (fun _ => none) 0 (some (z + 3)))))))), some (.inr (5, 12, .inr (.inr (.inr (.inr (fun _ => none)))))), some (.inl (4, [.int 0, .int 0, .ref (z + 8), .ref (z + 4), .ref (z + 5), .ref (z + 6), .ref (z + 7), .int 1, .int 1, .int 0, .int 0, .int 0, .null, .int 0, .null, .null, .null, .null, .int 0])), some (.inl (6, [.int (-200), .int 200, .int 0, .int 0, .int 0, .int 0, .int 0, .null, .int 0])), some (.inl (6, [.int (-200), .int 200, .int 0, .int 0, .int 0, .int 0, .int 0, .null, .int 0])), some (.inl (6, [.int (0), .int 3, .int 0, .int 0, .int 0, .int 0, .int 0, .null, .int 0])), some (.inl (6, [.int (0), .int 100, .int 100, .int 0, .int 0, .int 0, .int 0, .null, .int 0])), some (.inl (2, [.int 0, .int 0, .int 0, .int 0])), some (.inl (5, [.long 0, .long 0, .long 1, .int 0])), some (.inl (0, [.ref (z + 11), .ref (z + 12), .ref (z + 13), .ref (z + 14)])), some (.inl (1, [.long 0, .long 0])), some (.inl (1, [.long 0, .long 0])), some (.inl (1, [.long 0, .long 0])), some (.inl (1, [.long 0, .long 0]))]) 127 (z + 754925) 6837462) := by
  simp +decide only [f_X7_init, f_X7_init_L0, f_X4_init, f_X4_init_L0, f_X6_init, f_X6_init_L0, f_X2_init, f_X2_init_L0, f_X5_init, f_X5_init_L0, f_X0_init, f_X0_init_L0, f_X1_init, f_X1_init_L0, fgR, fgI, fget, fput, fobj, fsI, fsR, farr, hp_F, hp_F0, hp_set, hp_set0, hp_new, gk0, gk1, sk0, sk1, rf1, rf0, List.length_cons, List.length_nil, List.cons_append, List.nil_append, List.set_cons_zero, List.set_cons_succ, List.getElem?_cons_zero, List.getElem?_cons_succ, Option.bind_some, if_true, if_false, true_and, and_true, and_self, reduceIte, Nat.reduceAdd, Nat.reduceLT, Nat.reduceLeDiff, Nat.reduceEqDiff, Nat.zero_add, Nat.lt_add_left_iff_pos, Nat.zero_lt_succ, Nat.add_zero]
  rfl
def CS (z : Nat) (f g o : Nat → Int32) : List (Option fCe) := [some (.inl (7, [.ref (z + 1), .ref (z + 2), .ref (z + 3), .ref (z + 9), .ref (z + 10), .int 1, .int 0, .int 0, .ref (z + 3), .int 1])), some (.inr (4, 30, .inr (.inr (.inr (.inr (va_up (fun _ => none) 0 (some (z + 3)))))))), some (.inr (5, 12, .inr (.inr (.inr (.inr (fun _ => none)))))), some (.inl (4, [.int 0, .int 0, .ref (z + 8), .ref (z + 4), .ref (z + 5), .ref (z + 6), .ref (z + 7), .int 1, .int 1, .int 0, .int 0, .int 0, .null, .int 0, .null, .null, .null, .null, .int 0])), some (.inl (6, [.int (-200), .int 200, .int 0, .int 0, .int 0, .int 0, .int 0, .null, .int 0])), some (.inl (6, [.int (-200), .int 200, .int 0, .int 0, .int 0, .int 0, .int 0, .null, .int 0])), some (.inl (6, [.int (0), .int 3, .int 0, .int 0, .int 0, .int 0, .int 0, .null, .int 0])), some (.inl (6, [.int (0), .int 100, .int 100, .int 0, .int 0, .int 0, .int 0, .null, .int 0])), some (.inl (2, [.int 0, .int 0, .int 0, .int 0])), some (.inl (5, [.long 0, .long 0, .long 1, .int 0])), some (.inl (0, [.ref (z + 11), .ref (z + 12), .ref (z + 13), .ref (z + 14)])), some (.inl (1, [.long 0, .long 0])), some (.inl (1, [.long 0, .long 0])), some (.inl (1, [.long 0, .long 0])), some (.inl (1, [.long 0, .long 0])), some (.inl (8, [.int 0, .int 1, .ref (z + 16), .ref (z + 17), .ref (z + 18), .ref (z + 19), .ref (z + 20), .ref (z + 21), .ref (z + 22), .ref (z + 23), .ref (z + 24), .ref (z + 25), .ref (z + 26), .ref (z + 27), .ref (z + 28), .ref (z + 29), .int 1, .int 0, .ref (z + 30), .ref (z + 31), .ref (z + 32), .ref (z + 33), .ref (z + 34), .ref (z + 35), .ref (z + 36), .int 0])), some (.inr (2, 30, .inl (fun _ => 0))), some (.inr (2, 30, .inl (fun _ => 0))), some (.inr (2, 30, .inl (fun _ => 0))), some (.inr (2, 30, .inl (fun _ => 0))), some (.inr (0, 30, .inl (upd (fun _ => 0) 0 (-1)))), some (.inr (0, 30, .inl (fun _ => 0))), some (.inr (0, 30, .inl (fun _ => 0))), some (.inr (0, 30, .inl (fun _ => 0))), some (.inr (0, 30, .inl (f))), some (.inr (0, 30, .inl (g))), some (.inr (0, 30, .inl (fun _ => 0))), some (.inr (0, 30, .inl (fun _ => 0))), some (.inr (0, 120, .inl (o))), some (.inr (0, 120, .inl (fun _ => 0))), some (.inr (0, 12, .inl (fun _ => 0))), some (.inr (0, 12, .inl (fun _ => 0))), some (.inr (0, 12, .inl (fun _ => 0))), some (.inr (0, 12, .inl (fun _ => 0))), some (.inr (0, 12, .inl (fun _ => 0))), some (.inr (0, 96, .inl (fun _ => 0))), some (.inr (0, 96, .inl (fun _ => 0)))]
def PI (i : Nat) (f g o : Nat → Int32) : Prop := (0 < i → f 0 = 1 ∧ g 0 = 1 ∧ o 3 = 100) ∧ o 0 = 0 ∧ o 1 = 0 ∧ o 2 = 0
theorem i30 : ∀ i, i < 30 → (¬ (30 : Int32) ≤ Int32.ofNat i) ∧ ¬ (Int32.ofNat i < 0) ∧ ¬ (Int32.ofNat i * 4 + 3 < 0) ∧ (Int32.ofNat i).toNatClampNeg = i ∧ (Int32.ofNat i * 4 + 3).toNatClampNeg = 4 * i + 3 ∧ Int32.ofNat i + 1 = Int32.ofNat (i + 1) := by decide +kernel
set_option maxRecDepth 100000 in
theorem in_L191 {z l c b : Nat} : ∀ (m n i : Nat), i + m = 30 → ∀ (f g o : Nat → Int32), PI i f g o → ∃ f2 g2 o2, f_X8_init_L191 (n + m + 1) (some (z + 15)) (Int32.ofNat i) (hp z (CS z f g o) l c b) = some ((), hp z (CS z f2 g2 o2) l c b) ∧ PI 30 f2 g2 o2 := by
  intro m
  induction m with
  | zero =>
    intro n i hi f g o hP
    obtain rfl : i = 30 := by omega
    refine ⟨f, g, o, ?_, hP⟩
    rw [st_X8_init_L191, if_pos (by decide)]
  | succ m ih =>
    intro n i hi f g o hP
    obtain ⟨e1, e2, e3, e4, e5, e6⟩ := i30 i (by omega)
    obtain ⟨f2, g2, o2, h1, h2⟩ := ih n (i + 1) (by omega) (upd f i 1) (upd g i 1) (upd o (4 * i + 3) 100) (by
      obtain ⟨p1, p2, p3, p4⟩ := hP
      refine ⟨fun _ => ?_, ?_, ?_, ?_⟩
      · by_cases q : i = 0
        · subst q; exact ⟨rfl, rfl, rfl⟩
        · obtain ⟨r1, r2, r3⟩ := p1 (by omega)
          refine ⟨?_, ?_, ?_⟩
          · show (if 0 = i then _ else _) = _; rw [if_neg (by omega)]; exact r1
          · show (if 0 = i then _ else _) = _; rw [if_neg (by omega)]; exact r2
          · show (if 3 = 4 * i + 3 then _ else _) = _; rw [if_neg (by omega)]; exact r3
      · show (if 0 = 4 * i + 3 then _ else _) = _; rw [if_neg (by omega)]; exact p2
      · show (if 1 = 4 * i + 3 then _ else _) = _; rw [if_neg (by omega)]; exact p3
      · show (if 2 = 4 * i + 3 then _ else _) = _; rw [if_neg (by omega)]; exact p4)
    refine ⟨f2, g2, o2, ?_, h2⟩
    rw [show n + (m + 1) + 1 = (n + m + 1) + 1 from rfl, st_X8_init_L191, if_neg e1, ← h1, ← e6]
    have n1 : ¬ 30 ≤ i := by omega
    have n2 : ¬ 120 ≤ 4 * i + 3 := by omega
    unfold CS
    simp +decide only [fgR, fgI, fget, fput, fobj, fsI, fsR, farr, hp_F, hp_F0, hp_set, hp_set0, hp_new, gk0, gk1, sk0, sk1, rf1, rf0, List.length_cons, List.length_nil, List.cons_append, List.nil_append, List.set_cons_zero, List.set_cons_succ, List.getElem?_cons_zero, List.getElem?_cons_succ, Option.bind_some, if_true, if_false, true_and, and_true, and_self, reduceIte, Nat.reduceAdd, Nat.reduceLT, Nat.reduceLeDiff, Nat.reduceEqDiff, Nat.zero_add, Nat.lt_add_left_iff_pos, Nat.zero_lt_succ, Nat.add_zero, e2, e3, e4, e5, n1, n2, or_self]
set_option maxHeartbeats 4000000 in
set_option maxRecDepth 100000 in
theorem in_X8 {z : Nat} : ∃ f g o, f_X8_init (z + 15) (hp z ([some (.inl (7, [.ref (z + 1), .ref (z + 2), .ref (z + 3), .ref (z + 9), .ref (z + 10), .int 1, .int 0, .int 0, .ref (z + 3), .int 1])), some (.inr (4, 30, .inr (.inr (.inr (.inr (va_up (fun _ => none) 0 (some (z + 3)))))))), some (.inr (5, 12, .inr (.inr (.inr (.inr (fun _ => none)))))), some (.inl (4, [.int 0, .int 0, .ref (z + 8), .ref (z + 4), .ref (z + 5), .ref (z + 6), .ref (z + 7), .int 1, .int 1, .int 0, .int 0, .int 0, .null, .int 0, .null, .null, .null, .null, .int 0])), some (.inl (6, [.int (-200), .int 200, .int 0, .int 0, .int 0, .int 0, .int 0, .null, .int 0])), some (.inl (6, [.int (-200), .int 200, .int 0, .int 0, .int 0, .int 0, .int 0, .null, .int 0])), some (.inl (6, [.int (0), .int 3, .int 0, .int 0, .int 0, .int 0, .int 0, .null, .int 0])), some (.inl (6, [.int (0), .int 100, .int 100, .int 0, .int 0, .int 0, .int 0, .null, .int 0])), some (.inl (2, [.int 0, .int 0, .int 0, .int 0])), some (.inl (5, [.long 0, .long 0, .long 1, .int 0])), some (.inl (0, [.ref (z + 11), .ref (z + 12), .ref (z + 13), .ref (z + 14)])), some (.inl (1, [.long 0, .long 0])), some (.inl (1, [.long 0, .long 0])), some (.inl (1, [.long 0, .long 0])), some (.inl (1, [.long 0, .long 0])), some (.inl (8, [.int 0, .int 0, .null, .null, .null, .null, .null, .null, .null, .null, .null, .null, .null, .null, .null, .null, .int 0, .int 0, .null, .null, .null, .null, .null, .null, .null, .int 0]))]) 153 (z + 754925) 6837462) = some ((), hp z (CS z f g o) 1005 (z + 754925) 6837462) ∧ PI 30 f g o := by
  obtain ⟨f, g, o, h1, h2⟩ := in_L191 (z := z) (l := 1005) (c := z + 754925) (b := 6837462) 30 4065 0 rfl (fun _ => 0) (fun _ => 0) (fun _ => 0) ⟨fun q => absurd q (by decide), rfl, rfl, rfl⟩
  refine ⟨f, g, o, ?_, h2⟩
  rw [← h1]
  unfold CS
  have tc : ((30 : Int32).toNatClampNeg = 30) ∧ ((120 : Int32).toNatClampNeg = 120) ∧ ((12 : Int32).toNatClampNeg = 12) ∧ ((96 : Int32).toNatClampNeg = 96) ∧ ((0 : Int32).toNatClampNeg = 0) := by decide
  obtain ⟨t1, t2, t3, t4, t5⟩ := tc
  simp +decide only [f_X8_init, f_X8_init_L0, t1, t2, t3, t4, t5, fgR, fgI, fget, fput, fobj, fsI, fsR, farr, hp_F, hp_F0, hp_set, hp_set0, hp_new, gk0, gk1, sk0, sk1, rf1, rf0, List.length_cons, List.length_nil, List.cons_append, List.nil_append, List.set_cons_zero, List.set_cons_succ, List.getElem?_cons_zero, List.getElem?_cons_succ, Option.bind_some, if_true, if_false, true_and, and_true, and_self, reduceIte, Nat.reduceAdd, Nat.reduceLT, Nat.reduceLeDiff, Nat.reduceEqDiff, Nat.zero_add, Nat.lt_add_left_iff_pos, Nat.zero_lt_succ, Nat.add_zero]
  rfl
end INIT
