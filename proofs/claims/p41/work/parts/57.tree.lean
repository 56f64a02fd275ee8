/-! Trees with kids by layers, laid to a list: once each, by layers before and behind. No heap here. -/
section TREE
variable {par : Nat → Option Nat} {kd : Nat → List Nat} {ly : Nat → Int32} {Lv : Nat → Prop} {rt : Nat}
def qDp (par : Nat → Option Nat) (Lv : Nat → Prop) (rt : Nat) : Nat → Nat → Prop
  | 0, a => a = rt ∧ Lv a ∧ par a = none
  | n + 1, a => Lv a ∧ ∃ p, par a = some p ∧ qDp par Lv rt n p
def qWi (par : Nat → Option Nat) : Nat → Nat → Nat → Prop
  | 0, a, b => b = a
  | n + 1, a, b => ∃ p, par b = some p ∧ qWi par n a p
theorem qDp.lv : ∀ {n a : Nat}, qDp par Lv rt n a → Lv a
  | 0, _, q => q.2.1
  | _ + 1, _, q => q.1
theorem qDp.uq : ∀ {n m a : Nat}, qDp par Lv rt n a → qDp par Lv rt m a → n = m
  | 0, 0, _, _, _ => rfl
  | 0, m + 1, a, q, r => by
    obtain ⟨-, p, e, -⟩ := r
    rw [q.2.2] at e; cases e
  | n + 1, 0, a, q, r => by
    obtain ⟨-, p, e, -⟩ := q
    rw [r.2.2] at e; cases e
  | n + 1, m + 1, a, q, r => by
    obtain ⟨-, p, e, q2⟩ := q
    obtain ⟨-, p2, e2, r2⟩ := r
    rw [e] at e2; cases e2
    rw [qDp.uq q2 r2]
theorem qWi.det : ∀ {n a a2 b : Nat}, qWi par n a b → qWi par n a2 b → a = a2
  | 0, _, _, _, q, r => q.symm.trans r
  | n + 1, _, _, _, q, r => by
    obtain ⟨p, e, q2⟩ := q
    obtain ⟨p2, e2, r2⟩ := r
    rw [e] at e2; cases e2
    exact qWi.det q2 r2
theorem qWi.dp : ∀ {n d a b : Nat}, qDp par Lv rt d a → qWi par n a b → ∀ {m : Nat}, qDp par Lv rt m b → m = d + n
  | 0, d, a, b, q, w, m, r => by
    obtain rfl : b = a := w
    exact (r.uq q)
  | n + 1, d, a, b, q, w, m, r => by
    obtain ⟨p, e, w2⟩ := w
    cases m with
    | zero => rw [r.2.2] at e; cases e
    | succ m =>
      obtain ⟨-, p2, e2, r2⟩ := r
      rw [e] at e2; cases e2
      have := qWi.dp q w2 r2
      omega
/-- one further down -/
theorem qWi.snoc : ∀ {n a k b : Nat}, par k = some a → qWi par n k b → qWi par (n + 1) a b
  | 0, a, k, b, e, w => by
    obtain rfl : b = k := w
    exact ⟨a, e, rfl⟩
  | n + 1, a, k, b, e, w => by
    obtain ⟨p, e2, w2⟩ := w
    exact ⟨p, e2, qWi.snoc e w2⟩
/-- the kid on the way down -/
theorem qWi.kid : ∀ {n a b : Nat}, qWi par (n + 1) a b → ∃ k, par k = some a ∧ qWi par n k b
  | 0, a, b, w => by
    obtain ⟨p, e, w2⟩ := w
    obtain rfl : p = a := w2
    exact ⟨b, e, rfl⟩
  | n + 1, a, b, w => by
    obtain ⟨p, e, w2⟩ := w
    obtain ⟨k, e2, w3⟩ := qWi.kid w2
    exact ⟨k, e2, p, e, w3⟩
theorem qHgL_mem {g : Nat → List Nat} {L : Int32} {b : Nat} : ∀ {ks : List Nat}, b ∈ qHgL g ly L ks → ∃ k, k ∈ ks ∧ ly k = L ∧ b ∈ g k
  | [], q => nomatch q
  | k :: ks, q => by
    rcases List.mem_append.mp q with z | z
    · by_cases e : ly k = L
      · rw [if_pos e] at z; exact ⟨k, List.mem_cons_self, e, z⟩
      · rw [if_neg e] at z; cases z
    · obtain ⟨j, j1, j2⟩ := qHgL_mem z
      exact ⟨j, List.mem_cons_of_mem _ j1, j2⟩
theorem qHg_mem {g : Nat → List Nat} {ks : List Nat} {b : Nat} : ∀ {n : Nat} {L : Int32}, b ∈ qHg g ly ks n L → -100 ≤ L.toInt → L.toInt + n ≤ 100 → ∃ k, k ∈ ks ∧ L.toInt ≤ (ly k).toInt ∧ (ly k).toInt < L.toInt + n ∧ b ∈ g k
  | 0, _, q, _, _ => nomatch q
  | n + 1, L, q, h0, h1 => by
    rcases List.mem_append.mp q with z | z
    · obtain ⟨k, k1, k2, k3⟩ := qHgL_mem z
      exact ⟨k, k1, by rw [k2]; exact Int.le_refl _, by rw [k2]; omega, k3⟩
    · have s1 := i32_s (i := L) (by omega) (by omega)
      obtain ⟨k, k1, k2, k3, k4⟩ := qHg_mem z (by omega) (by omega)
      exact ⟨k, k1, by omega, by omega, k4⟩
theorem qHgL_sub {g : Nat → List Nat} {L : Int32} {b : Nat} : ∀ {ks : List Nat}, b ∈ ks → ly b = L → (g b).Sublist (qHgL g ly L ks)
  | k :: ks, q, e => by
    unfold qHgL
    rcases List.mem_cons.mp q with z | z
    · subst z
      rw [if_pos e]
      exact List.sublist_append_left _ _
    · exact (qHgL_sub z e).trans (List.sublist_append_right _ _)
theorem qHg_sub {g : Nat → List Nat} {ks : List Nat} {b : Nat} : ∀ {n : Nat} {L : Int32}, b ∈ ks → -100 ≤ L.toInt → L.toInt + n ≤ 100 → L.toInt ≤ (ly b).toInt → (ly b).toInt < L.toInt + n → (g b).Sublist (qHg g ly ks n L)
  | 0, L, _, _, _, h2, h3 => by omega
  | n + 1, L, q, h0, h1, h2, h3 => by
    unfold qHg
    have s1 := i32_s (i := L) (by omega) (by omega)
    by_cases e : ly b = L
    · exact (qHgL_sub q e).trans (List.sublist_append_left _ _)
    · have : (ly b).toInt ≠ L.toInt := fun z => e (Int32.toInt_inj.mp z)
      exact (qHg_sub q (by omega) (by omega) (by omega) (by omega)).trans (List.sublist_append_right _ _)
/-- what the laying of a part asks of the tree -/
def qTk (par : Nat → Option Nat) (kd : Nat → List Nat) (ly : Nat → Int32) (Lv : Nat → Prop) : Prop := (∀ a, Lv a → (kd a).Nodup ∧ ∀ b, b ∈ kd a ↔ (Lv b ∧ par b = some a)) ∧ ∀ a, Lv a → -9 ≤ (ly a).toInt ∧ (ly a).toInt ≤ 9
theorem qLay_mem (T : qTk par kd ly Lv) : ∀ {f a b d : Nat}, qDp par Lv rt d a → b ∈ qLay ly kd f a → ∃ n, n < f ∧ qWi par n a b ∧ qDp par Lv rt (d + n) b
  | 0, _, _, _, _, q => nomatch q
  | f + 1, a, b, d, hd, q => by
    have kid : ∀ k, k ∈ kd a → b ∈ qLay ly kd f k → ∃ n, n < f + 1 ∧ qWi par n a b ∧ qDp par Lv rt (d + n) b := by
      intro k hk hb
      obtain ⟨lk, e⟩ := ((T.1 a hd.lv).2 k).mp hk
      have hd2 : qDp par Lv rt (d + 1) k := ⟨lk, a, e, hd⟩
      obtain ⟨n, h1, h2, h3⟩ := qLay_mem T hd2 hb
      refine ⟨n + 1, by omega, h2.snoc e, ?_⟩
      rw [show d + (n + 1) = d + 1 + n by omega]
      exact h3
    rcases List.mem_append.mp q with z | z
    · obtain ⟨k, k1, -, -, k4⟩ := qHg_mem z (by decide) (by decide)
      exact kid k k1 k4
    · rcases List.mem_cons.mp z with z | z
      · exact ⟨0, Nat.succ_pos _, z, by rw [z]; exact hd⟩
      · obtain ⟨k, k1, -, -, k4⟩ := qHg_mem z (by decide) (by decide)
        exact kid k k1 k4
theorem qLay_self {f a : Nat} : a ∈ qLay ly kd (f + 1) a := List.mem_append.mpr (Or.inr List.mem_cons_self)
theorem qLay_kid (T : qTk par kd ly Lv) {f a b : Nat} (la : Lv a) (lb : Lv b) (e : par b = some a) : (qLay ly kd f b).Sublist (qLay ly kd (f + 1) a) := by
  have hb := ((T.1 a la).2 b).mpr ⟨lb, e⟩
  obtain ⟨y1, y2⟩ := T.2 b lb
  have e9 : (-9 : Int32).toInt = -9 := by decide
  have e0 : (0 : Int32).toInt = 0 := by decide
  rw [show qLay ly kd (f + 1) a = qHg (qLay ly kd f) ly (kd a) 9 (-9) ++ a :: qHg (qLay ly kd f) ly (kd a) 10 0 from rfl]
  by_cases z : (ly b).toInt < 0
  · exact (qHg_sub (ly := ly) (L := -9) (n := 9) (g := qLay ly kd f) hb (by decide) (by decide) y1 (by omega)).trans (List.sublist_append_left _ _)
  · exact ((qHg_sub (ly := ly) (L := 0) (n := 10) (g := qLay ly kd f) hb (by decide) (by decide) (by omega) (by omega)).trans (List.sublist_cons_self _ _)).trans (List.sublist_append_right _ _)
/-- the whole way down from the root -/
theorem qLay_root (T : qTk par kd ly Lv) : ∀ {d a f : Nat}, qDp par Lv rt d a → (qLay ly kd f a).Sublist (qLay ly kd (f + d) rt)
  | 0, a, f, q => by rw [q.1]; exact List.Sublist.refl _
  | d + 1, a, f, q => by
    obtain ⟨la, p, e, q2⟩ := q
    have := qLay_root T (f := f + 1) q2
    rw [show f + (d + 1) = f + 1 + d by omega]
    exact (qLay_kid T q2.lv la e).trans this
theorem qLay_all (T : qTk par kd ly Lv) {d a m : Nat} (q : qDp par Lv rt d a) (hd : d < m) : a ∈ qLay ly kd m rt := by
  have := (qLay_root T (f := m - d) q).subset
  rw [show m - d + d = m by omega] at this
  refine this ?_
  obtain ⟨f, e⟩ : ∃ f, m - d = f + 1 := ⟨m - d - 1, by omega⟩
  rw [e]
  exact qLay_self
/-- a kid ahead of, or behind, what it hangs in -/
theorem qLay_rel (T : qTk par kd ly Lv) {d a b m : Nat} (q : qDp par Lv rt d a) (hd : d + 1 < m) (lb : Lv b) (e : par b = some a) : if (ly b).toInt < 0 then [b, a].Sublist (qLay ly kd m rt) else [a, b].Sublist (qLay ly kd m rt) := by
  have r := qLay_root T (f := m - d) q
  rw [show m - d + d = m by omega] at r
  obtain ⟨f, ef⟩ : ∃ f, m - d = f + 1 + 1 := ⟨m - d - 2, by omega⟩
  rw [ef] at r
  have hb := ((T.1 a q.lv).2 b).mpr ⟨lb, e⟩
  obtain ⟨y1, y2⟩ := T.2 b lb
  have hs : [b].Sublist (qLay ly kd (f + 1) b) := List.singleton_sublist.mpr qLay_self
  have e0 : (0 : Int32).toInt = 0 := by decide
  have e9 : (-9 : Int32).toInt = -9 := by decide
  by_cases z : (ly b).toInt < 0
  · rw [if_pos z]
    refine List.Sublist.trans ?_ r
    rw [show qLay ly kd (f + 1 + 1) a = qHg (qLay ly kd (f + 1)) ly (kd a) 9 (-9) ++ a :: qHg (qLay ly kd (f + 1)) ly (kd a) 10 0 from rfl]
    have h1 := hs.trans (qHg_sub (ly := ly) (L := -9) (n := 9) (g := qLay ly kd (f + 1)) hb (by decide) (by decide) (by omega) (by omega))
    exact List.Sublist.append h1 (List.Sublist.cons_cons a (List.nil_sublist _))
  · rw [if_neg z]
    refine List.Sublist.trans ?_ r
    rw [show qLay ly kd (f + 1 + 1) a = qHg (qLay ly kd (f + 1)) ly (kd a) 9 (-9) ++ a :: qHg (qLay ly kd (f + 1)) ly (kd a) 10 0 from rfl]
    have h1 := hs.trans (qHg_sub (ly := ly) (L := 0) (n := 10) (g := qLay ly kd (f + 1)) hb (by decide) (by decide) (by omega) (by omega))
    exact (List.Sublist.cons_cons a h1).trans (List.sublist_append_right _ _)
/-- once each -/
theorem qLay_nodup (T : qTk par kd ly Lv) : ∀ {f a d : Nat}, qDp par Lv rt d a → (qLay ly kd f a).Nodup
  | 0, _, _, _ => List.nodup_nil
  | f + 1, a, d, hd => by
    have kD : ∀ k, k ∈ kd a → qDp par Lv rt (d + 1) k := fun k hk => by
      obtain ⟨lk, e⟩ := ((T.1 a hd.lv).2 k).mp hk
      exact ⟨lk, a, e, hd⟩
    have dis : ∀ k j b, k ∈ kd a → j ∈ kd a → b ∈ qLay ly kd f k → b ∈ qLay ly kd f j → k = j := by
      intro k j b hk hj h1 h2
      obtain ⟨n, -, w1, d1⟩ := qLay_mem T (kD k hk) h1
      obtain ⟨m, -, w2, d2⟩ := qLay_mem T (kD j hj) h2
      have := d1.uq d2
      obtain rfl : n = m := by omega
      exact w1.det w2
    have own : ∀ k, k ∈ kd a → ¬ a ∈ qLay ly kd f k := by
      intro k hk h1
      obtain ⟨n, -, w1, d1⟩ := qLay_mem T (kD k hk) h1
      have := d1.uq hd
      omega
    have nL : ∀ (ks : List Nat) (L : Int32), ks.Nodup → (∀ k, k ∈ ks → k ∈ kd a) → (qHgL (qLay ly kd f) ly L ks).Nodup := by
      intro ks L
      induction ks with
      | nil => intro _ _; exact List.nodup_nil
      | cons k ks ih =>
        intro hn hs
        obtain ⟨n1, n2⟩ := List.nodup_cons.mp hn
        unfold qHgL
        refine List.nodup_append.mpr ⟨?_, ih n2 (fun j hj => hs j (List.mem_cons_of_mem _ hj)), ?_⟩
        · by_cases e : ly k = L
          · rw [if_pos e]; exact qLay_nodup T (kD k (hs k List.mem_cons_self))
          · rw [if_neg e]; exact List.nodup_nil
        · intro x hx y hy e
          subst e
          by_cases e : ly k = L
          · rw [if_pos e] at hx
            obtain ⟨j, j1, -, j3⟩ := qHgL_mem hy
            have := dis k j x (hs k List.mem_cons_self) (hs j (List.mem_cons_of_mem _ j1)) hx j3
            subst this
            exact n1 j1
          · rw [if_neg e] at hx; cases hx
    have nH : ∀ (n : Nat) (L : Int32), -100 ≤ L.toInt → L.toInt + n ≤ 100 → (qHg (qLay ly kd f) ly (kd a) n L).Nodup := by
      intro n
      induction n with
      | zero => intro _ _ _; exact List.nodup_nil
      | succ n ih =>
        intro L h0 h1
        have s1 := i32_s (i := L) (by omega) (by omega)
        unfold qHg
        refine List.nodup_append.mpr ⟨nL _ L (T.1 a hd.lv).1 (fun k hk => hk), ih (L + 1) (by omega) (by omega), ?_⟩
        intro x hx y hy e
        subst e
        obtain ⟨k, k1, k2, k3⟩ := qHgL_mem hx
        obtain ⟨j, j1, j2, j3, j4⟩ := qHg_mem hy (by omega) (by omega)
        have := dis k j x k1 j1 k3 j4
        subst this
        rw [k2] at j2
        omega
    unfold qLay
    refine List.nodup_append.mpr ⟨nH 9 (-9) (by decide) (by decide), List.nodup_cons.mpr ⟨?_, nH 10 0 (by decide) (by decide)⟩, ?_⟩
    · intro z
      obtain ⟨k, k1, -, -, k4⟩ := qHg_mem z (by decide) (by decide)
      exact own k k1 k4
    · intro x hx y hy e
      subst e
      obtain ⟨k, k1, k2, k3, k4⟩ := qHg_mem hx (by decide) (by decide)
      rcases List.mem_cons.mp hy with z | z
      · subst z; exact own k k1 k4
      · obtain ⟨j, j1, j2, j3, j4⟩ := qHg_mem z (by decide) (by decide)
        have := dis k j x k1 j1 k4 j4
        subst this
        have e0 : (0 : Int32).toInt = 0 := by decide
        have e9 : (-9 : Int32).toInt = -9 := by decide
        omega
end TREE
