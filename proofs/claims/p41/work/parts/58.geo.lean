/-! Places as whole numbers: down undoes up; what lies between stays between; the greatest divisor divides. No heap here. -/
section GEO
abbrev zP : Type := Int × Int × Int
def zRot : Nat → Int → Int → Int × Int
  | 0, x, y => (x, y)
  | n + 1, x, y => zRot n (-y) x
/-- what a node does to points: over, under, mirrored, turns, x, y -/
abbrev zN : Type := Int × Int × Bool × Nat × Int × Int
def zMi (m : Bool) (x : Int) : Int := if m then -x else x
def zLv (N : zN) (P : zP) : zP :=
  ((zRot N.2.2.2.1 (zMi N.2.2.1 (P.1 * N.1)) (P.2.1 * N.1)).1 + N.2.2.2.2.1 * (P.2.2 * N.2.1), (zRot N.2.2.2.1 (zMi N.2.2.1 (P.1 * N.1)) (P.2.1 * N.1)).2 + N.2.2.2.2.2 * (P.2.2 * N.2.1), P.2.2 * N.2.1)
def zEn (N : zN) (P : zP) : zP :=
  (zMi N.2.2.1 (zRot (4 - N.2.2.2.1) (P.1 - N.2.2.2.2.1 * P.2.2) (P.2.1 - N.2.2.2.2.2 * P.2.2)).1 * N.2.1, (zRot (4 - N.2.2.2.1) (P.1 - N.2.2.2.2.1 * P.2.2) (P.2.1 - N.2.2.2.2.2 * P.2.2)).2 * N.2.1, P.2.2 * N.1)
def zS (c : Int) (P : zP) : zP := (c * P.1, c * P.2.1, c * P.2.2)
theorem zMi_mul (m : Bool) (c x : Int) : zMi m (c * x) = c * zMi m x := by
  unfold zMi
  by_cases h : m = true
  · rw [if_pos h, if_pos h, Int.mul_neg]
  · rw [if_neg h, if_neg h]
theorem zMi_mul2 (m : Bool) (x c : Int) : zMi m (x * c) = zMi m x * c := by
  rw [Int.mul_comm, zMi_mul, Int.mul_comm]
theorem zMi_zMi (m : Bool) (x : Int) : zMi m (zMi m x) = x := by
  unfold zMi
  by_cases h : m = true
  · rw [if_pos h, if_pos h, Int.neg_neg]
  · rw [if_neg h, if_neg h]
theorem zRot_mul : ∀ (n : Nat) (c x y : Int), zRot n (c * x) (c * y) = (c * (zRot n x y).1, c * (zRot n x y).2)
  | 0, _, _, _ => rfl
  | n + 1, c, x, y => by
    show zRot n (-(c * y)) (c * x) = _
    rw [← Int.mul_neg]
    exact zRot_mul n c (-y) x
theorem zRot_4 {n : Nat} (h : n < 4) (x y : Int) : zRot (4 - n) (zRot n x y).1 (zRot n x y).2 = (x, y) := by
  match n, h with
  | 0, _ => simp [zRot]
  | 1, _ => simp [zRot]
  | 2, _ => simp [zRot]
  | 3, _ => simp [zRot]
  | n + 4, h => omega
theorem zRot_4b {n : Nat} (h : n < 4) (x y : Int) : zRot n (zRot (4 - n) x y).1 (zRot (4 - n) x y).2 = (x, y) := by
  match n, h with
  | 0, _ => simp [zRot]
  | 1, _ => simp [zRot]
  | 2, _ => simp [zRot]
  | 3, _ => simp [zRot]
  | n + 4, h => omega
theorem zLv_S (N : zN) (c : Int) (P : zP) : zLv N (zS c P) = zS c (zLv N P) := by
  obtain ⟨x, y, u⟩ := P
  obtain ⟨o, n, m, t, vx, vy⟩ := N
  unfold zLv zS
  dsimp only
  rw [Int.mul_assoc c x o, Int.mul_assoc c y o, zMi_mul, zRot_mul]
  dsimp only
  rw [Int.mul_add, Int.mul_add, Int.mul_assoc c u n, Int.mul_left_comm vx c, Int.mul_left_comm vy c]
theorem zEn_S (N : zN) (c : Int) (P : zP) : zEn N (zS c P) = zS c (zEn N P) := by
  obtain ⟨x, y, u⟩ := P
  obtain ⟨o, n, m, t, vx, vy⟩ := N
  unfold zEn zS
  dsimp only
  rw [Int.mul_left_comm vx c u, Int.mul_left_comm vy c u, ← Int.mul_sub, ← Int.mul_sub, zRot_mul]
  dsimp only
  rw [zMi_mul, Int.mul_assoc, Int.mul_assoc, Int.mul_assoc]
theorem zEnLv {N : zN} (ht : N.2.2.2.1 < 4) (P : zP) : zEn N (zLv N P) = zS (N.1 * N.2.1) P := by
  obtain ⟨x, y, u⟩ := P
  obtain ⟨o, n, m, t, vx, vy⟩ := N
  unfold zEn zLv zS
  dsimp only at ht ⊢
  rw [Int.add_sub_cancel, Int.add_sub_cancel, zRot_4 ht]
  dsimp only
  rw [zMi_zMi, Int.mul_assoc x, Int.mul_assoc y, Int.mul_comm x, Int.mul_comm y, Int.mul_assoc u, Int.mul_comm u, Int.mul_comm n o]
theorem zLvEn {N : zN} (ht : N.2.2.2.1 < 4) (P : zP) : zLv N (zEn N P) = zS (N.1 * N.2.1) P := by
  obtain ⟨x, y, u⟩ := P
  obtain ⟨o, n, m, t, vx, vy⟩ := N
  unfold zEn zLv zS
  dsimp only at ht ⊢
  rw [zMi_mul2, zMi_mul2, zMi_zMi]
  have e : ∀ a b : Int, zRot t (a * n * o) (b * n * o) = ((o * n) * (zRot t a b).1, (o * n) * (zRot t a b).2) := by
    intro a b
    have z : ∀ a : Int, a * n * o = (o * n) * a := fun a => by rw [Int.mul_assoc, Int.mul_comm a, Int.mul_comm n o]
    rw [z a, z b, zRot_mul]
  rw [e, zRot_4b ht]
  dsimp only
  have f : ∀ v w : Int, o * n * (w - v * u) + v * (u * o * n) = o * n * w := by
    intro v w
    rw [Int.mul_sub, Int.mul_assoc u, Int.mul_comm u, Int.mul_left_comm v (o * n) u]
    omega
  rw [f, f, Int.mul_assoc u, Int.mul_comm u]
/-- up the way (the node first), and down it -/
def zUp : List zN → zP → zP
  | [], P => P
  | N :: l, P => zUp l (zLv N P)
def zDn : List zN → zP → zP
  | [], P => P
  | N :: l, P => zEn N (zDn l P)
def zV : List zN → Int
  | [] => 1
  | N :: l => zV l * (N.1 * N.2.1)
theorem zS_S (c d : Int) (P : zP) : zS c (zS d P) = zS (c * d) P := by
  unfold zS
  dsimp only
  rw [Int.mul_assoc, Int.mul_assoc, Int.mul_assoc]
theorem zS_1 (P : zP) : zS 1 P = P := by
  unfold zS
  rw [Int.one_mul, Int.one_mul, Int.one_mul]
theorem zUp_S (c : Int) : ∀ (l : List zN) (P : zP), zUp l (zS c P) = zS c (zUp l P)
  | [], _ => rfl
  | N :: l, P => by
    show zUp l (zLv N (zS c P)) = _
    rw [zLv_S, zUp_S c l]
    rfl
theorem zDn_S (c : Int) : ∀ (l : List zN) (P : zP), zDn l (zS c P) = zS c (zDn l P)
  | [], _ => rfl
  | N :: l, P => by
    show zEn N (zDn l (zS c P)) = _
    rw [zDn_S c l, zEn_S]
    rfl
theorem zDnUp : ∀ (l : List zN) (P : zP), (∀ N, N ∈ l → N.2.2.2.1 < 4) → zDn l (zUp l P) = zS (zV l) P
  | [], P, _ => (zS_1 P).symm
  | N :: l, P, h => by
    show zEn N (zDn l (zUp l (zLv N P))) = _
    rw [zDnUp l _ (fun M hM => h M (List.mem_cons_of_mem _ hM)), zEn_S, zEnLv (h N List.mem_cons_self), zS_S]
    rfl
theorem zUpDn : ∀ (l : List zN) (P : zP), (∀ N, N ∈ l → N.2.2.2.1 < 4) → zUp l (zDn l P) = zS (zV l) P
  | [], P, _ => (zS_1 P).symm
  | N :: l, P, h => by
    show zUp l (zLv N (zEn N (zDn l P))) = _
    rw [zLvEn (h N List.mem_cons_self), zUp_S, zUpDn l P (fun M hM => h M (List.mem_cons_of_mem _ hM)), zS_S, Int.mul_comm]
    rfl
theorem zV_pos : ∀ (l : List zN), (∀ N, N ∈ l → 0 < N.1 ∧ 0 < N.2.1) → 0 < zV l
  | [], _ => by decide
  | N :: l, h => Int.mul_pos (zV_pos l (fun M hM => h M (List.mem_cons_of_mem _ hM))) (Int.mul_pos (h N List.mem_cons_self).1 (h N List.mem_cons_self).2)
/-! between -/
def zB (p a b : Int) : Prop := (a ≤ p ∧ p ≤ b) ∨ (b ≤ p ∧ p ≤ a)
theorem zB.neg {p a b : Int} (h : zB p a b) : zB (-p) (-a) (-b) := by
  rcases h with h | h
  · exact Or.inr (by omega)
  · exact Or.inl (by omega)
theorem zB.mul {p a b c : Int} (h : zB p a b) (hc : 0 ≤ c) : zB (p * c) (a * c) (b * c) := by
  rcases h with h | h
  · exact Or.inl ⟨Int.mul_le_mul_of_nonneg_right h.1 hc, Int.mul_le_mul_of_nonneg_right h.2 hc⟩
  · exact Or.inr ⟨Int.mul_le_mul_of_nonneg_right h.1 hc, Int.mul_le_mul_of_nonneg_right h.2 hc⟩
theorem zB.add {p a b c : Int} (h : zB p a b) : zB (p + c) (a + c) (b + c) := by
  rcases h with h | h
  · exact Or.inl (by omega)
  · exact Or.inr (by omega)
theorem zB.mi {p a b : Int} (m : Bool) (h : zB p a b) : zB (zMi m p) (zMi m a) (zMi m b) := by
  unfold zMi
  by_cases hm : m = true
  · rw [if_pos hm, if_pos hm, if_pos hm]; exact h.neg
  · rw [if_neg hm, if_neg hm, if_neg hm]; exact h
theorem zB.rot : ∀ (n : Nat) {p q a b c d : Int}, zB p a c → zB q b d → zB (zRot n p q).1 (zRot n a b).1 (zRot n c d).1 ∧ zB (zRot n p q).2 (zRot n a b).2 (zRot n c d).2
  | 0, _, _, _, _, _, _, h1, h2 => ⟨h1, h2⟩
  | n + 1, _, _, _, _, _, _, h1, h2 => zB.rot n h2.neg h1
/-- a point between two others, all over one number -/
def zBt (P A B : zP) : Prop := zB P.1 A.1 B.1 ∧ zB P.2.1 A.2.1 B.2.1 ∧ A.2.2 = P.2.2 ∧ B.2.2 = P.2.2
theorem zBt.lv {N : zN} (hN : 0 < N.1 ∧ 0 < N.2.1) {P A B : zP} (h : zBt P A B) : zBt (zLv N P) (zLv N A) (zLv N B) := by
  obtain ⟨h1, h2, h3, h4⟩ := h
  obtain ⟨r1, r2⟩ := zB.rot N.2.2.2.1 ((h1.mul (Int.le_of_lt hN.1)).mi N.2.2.1) (h2.mul (Int.le_of_lt hN.1))
  unfold zBt zLv
  dsimp only
  rw [h3, h4]
  exact ⟨r1.add, r2.add, rfl, rfl⟩
theorem zBt.up : ∀ (l : List zN) {P A B : zP}, (∀ N, N ∈ l → 0 < N.1 ∧ 0 < N.2.1) → zBt P A B → zBt (zUp l P) (zUp l A) (zUp l B)
  | [], _, _, _, _, h => h
  | N :: l, _, _, _, hl, h => zBt.up l (fun M hM => hl M (List.mem_cons_of_mem _ hM)) (h.lv (hl N List.mem_cons_self))
/-! sizes -/
theorem zRot_le : ∀ (n : Nat) {x y M : Int}, -M ≤ x ∧ x ≤ M → -M ≤ y ∧ y ≤ M → (-M ≤ (zRot n x y).1 ∧ (zRot n x y).1 ≤ M) ∧ (-M ≤ (zRot n x y).2 ∧ (zRot n x y).2 ≤ M)
  | 0, _, _, _, h1, h2 => ⟨h1, h2⟩
  | n + 1, _, _, _, h1, h2 => zRot_le n (by omega) h1
theorem zMi_le (m : Bool) {x M : Int} (h : -M ≤ x ∧ x ≤ M) : -M ≤ zMi m x ∧ zMi m x ≤ M := by
  unfold zMi
  by_cases hm : m = true
  · rw [if_pos hm]; omega
  · rw [if_neg hm]; exact h
def zOk (N : zN) : Prop := (1 ≤ N.1 ∧ N.1 ≤ 4) ∧ (1 ≤ N.2.1 ∧ N.2.1 ≤ 4) ∧ N.2.2.2.1 < 4 ∧ (-200 ≤ N.2.2.2.2.1 ∧ N.2.2.2.2.1 ≤ 200) ∧ (-200 ≤ N.2.2.2.2.2 ∧ N.2.2.2.2.2 ≤ 200)
/-- a point no greater than M, over a number of 1 to U -/
def zM (M U : Int) (P : zP) : Prop := (-M ≤ P.1 ∧ P.1 ≤ M) ∧ (-M ≤ P.2.1 ∧ P.2.1 ≤ M) ∧ 0 < P.2.2 ∧ P.2.2 ≤ U
theorem mul_rg {x c M C : Int} (hx : -M ≤ x ∧ x ≤ M) (hc : -C ≤ c ∧ c ≤ C) (hM : 0 ≤ M) (hC : 0 ≤ C) : -(M * C) ≤ x * c ∧ x * c ≤ M * C := by
  have h1 : (x * c).natAbs = x.natAbs * c.natAbs := Int.natAbs_mul x c
  have h2 : x.natAbs ≤ M.natAbs := by omega
  have h3 : c.natAbs ≤ C.natAbs := by omega
  have h4 : x.natAbs * c.natAbs ≤ M.natAbs * C.natAbs := Nat.mul_le_mul h2 h3
  have h5 : (M * C).natAbs = M.natAbs * C.natAbs := Int.natAbs_mul M C
  have h6 : 0 ≤ M * C := Int.mul_nonneg hM hC
  omega
theorem zLv_M {N : zN} (o : zOk N) {M U : Int} {P : zP} (hM : 0 ≤ M) (h : zM M U P) : zM (4 * M + 800 * U) (4 * U) (zLv N P) := by
  obtain ⟨⟨o1, o2⟩, ⟨n1, n2⟩, t1, x1, y1⟩ := o
  obtain ⟨hx, hy, u0, u1⟩ := h
  have mx := mul_rg (C := 4) hx (show -4 ≤ N.1 ∧ N.1 ≤ 4 by omega) hM (by decide)
  have my := mul_rg (C := 4) hy (show -4 ≤ N.1 ∧ N.1 ≤ 4 by omega) hM (by decide)
  have mu := mul_rg (C := 4) (show -U ≤ P.2.2 ∧ P.2.2 ≤ U by omega) (show -4 ≤ N.2.1 ∧ N.2.1 ≤ 4 by omega) (by omega) (by decide)
  have u2 : 0 < P.2.2 * N.2.1 := Int.mul_pos u0 (by omega)
  have vx := mul_rg x1 mu (by decide) (by omega)
  have vy := mul_rg y1 mu (by decide) (by omega)
  obtain ⟨r1, r2⟩ := zRot_le N.2.2.2.1 (zMi_le N.2.2.1 mx) my
  unfold zM zLv
  dsimp only
  refine ⟨by omega, by omega, u2, by omega⟩
theorem zEn_M {N : zN} (o : zOk N) {M U : Int} {P : zP} (hM : 0 ≤ M) (h : zM M U P) : zM (4 * M + 800 * U) (4 * U) (zEn N P) := by
  obtain ⟨⟨o1, o2⟩, ⟨n1, n2⟩, t1, x1, y1⟩ := o
  obtain ⟨hx, hy, u0, u1⟩ := h
  have ux := mul_rg x1 (show -U ≤ P.2.2 ∧ P.2.2 ≤ U by omega) (by decide) (by omega)
  have uy := mul_rg y1 (show -U ≤ P.2.2 ∧ P.2.2 ≤ U by omega) (by decide) (by omega)
  obtain ⟨r1, r2⟩ := zRot_le (4 - N.2.2.2.1) (M := M + 200 * U) (x := P.1 - N.2.2.2.2.1 * P.2.2) (y := P.2.1 - N.2.2.2.2.2 * P.2.2) (by omega) (by omega)
  have mx := mul_rg (C := 4) (zMi_le N.2.2.1 r1) (show -4 ≤ N.2.1 ∧ N.2.1 ≤ 4 by omega) (by omega) (by decide)
  have my := mul_rg (C := 4) r2 (show -4 ≤ N.2.1 ∧ N.2.1 ≤ 4 by omega) (by omega) (by decide)
  have mu := mul_rg (C := 4) (show -U ≤ P.2.2 ∧ P.2.2 ≤ U by omega) (show -4 ≤ N.1 ∧ N.1 ≤ 4 by omega) (by omega) (by decide)
  have u2 : 0 < P.2.2 * N.1 := Int.mul_pos u0 (by omega)
  unfold zM zEn
  dsimp only
  refine ⟨by omega, by omega, u2, by omega⟩
/-! the greatest divisor, by steps -/
def zGl : Nat → Nat → Nat → Nat
  | 0, a, _ => a
  | n + 1, a, b => if b = 0 then a else zGl n b (a % b)
theorem zGl_dvd : ∀ (j m a b : Nat), b < 2 ^ j → 2 * j + 1 ≤ m → zGl m a b ∣ a ∧ zGl m a b ∣ b
  | 0, m, a, b, hb, hm => by
    obtain rfl : b = 0 := by simpa using hb
    obtain ⟨m, rfl⟩ : ∃ q, m = q + 1 := ⟨m - 1, by omega⟩
    unfold zGl
    rw [if_pos rfl]
    exact ⟨Nat.dvd_refl _, Nat.dvd_zero _⟩
  | j + 1, m, a, b, hb, hm => by
    obtain ⟨m, rfl⟩ : ∃ q, m = q + 1 + 1 := ⟨m - 2, by omega⟩
    have step : ∀ d, d ∣ b → d ∣ a % b → d ∣ a := by
      intro d h1 h2
      have := Nat.div_add_mod a b
      rw [← this]
      exact Nat.dvd_add (Nat.dvd_trans h1 (Nat.dvd_mul_right _ _)) h2
    unfold zGl
    by_cases q : b = 0
    · rw [if_pos q, q]
      exact ⟨Nat.dvd_refl _, Nat.dvd_zero _⟩
    · rw [if_neg q]
      have r0 : a % b < b := Nat.mod_lt _ (Nat.pos_of_ne_zero q)
      unfold zGl
      by_cases q2 : a % b = 0
      · rw [if_pos q2]
        exact ⟨step b (Nat.dvd_refl _) (by rw [q2]; exact Nat.dvd_zero _), Nat.dvd_refl _⟩
      · rw [if_neg q2]
        have lt : b % (a % b) < 2 ^ j := by
          have h1 := Nat.mod_lt b (Nat.pos_of_ne_zero q2)
          have h2 := Nat.div_add_mod b (a % b)
          have h3 : 1 ≤ b / (a % b) := (Nat.le_div_iff_mul_le (Nat.pos_of_ne_zero q2)).mpr (by omega)
          have h4 : a % b * 1 ≤ a % b * (b / (a % b)) := Nat.mul_le_mul_left _ h3
          have h5 : 2 ^ (j + 1) = 2 ^ j * 2 := Nat.pow_succ _ _
          omega
        obtain ⟨d1, d2⟩ := zGl_dvd j m (a % b) (b % (a % b)) lt (by omega)
        have d3 : zGl m (a % b) (b % (a % b)) ∣ b := by
          have := Nat.div_add_mod b (a % b)
          conv => rhs; rw [← this]
          exact Nat.dvd_add (Nat.dvd_trans d1 (Nat.dvd_mul_right _ _)) d2
        exact ⟨step _ d3 d1, d3⟩
end GEO
