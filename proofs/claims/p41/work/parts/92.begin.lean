/-! A new scene and the law's new object: all that holds at the start. -/
section BEGIN
variable {X : Nat × Nat × (Nat → Int32)} {k : Nat} {h : fSt}
/-- the law's cells of a list of cells -/
def subL : List (Option fCe) → List (Option fCe) → Prop
  | [], _ => True
  | none :: l, d :: m => subL l m
  | some c :: l, d :: m => (d = some c ∧ qL c) ∧ subL l m
  | _ :: _, [] => False
theorem subL_gk : ∀ {l m : List (Option fCe)}, subL l m → ∀ (j : Nat) (c : fCe), gk l j = some c → qL c ∧ gk m j = some c
  | [], _, _, j, c, e => nomatch e
  | none :: l, d :: m, s, 0, c, e => nomatch e
  | none :: l, d :: m, s, j + 1, c, e => subL_gk (l := l) (m := m) s j c e
  | some b :: l, d :: m, s, 0, c, e => by
    have e : some b = some c := e
    cases e
    exact ⟨s.1.2, s.1.1⟩
  | some b :: l, d :: m, s, j + 1, c, e => subL_gk (l := l) (m := m) s.2 j c e
def CSF (z sc : Nat) (dr : Int32) : List (Option fCe) := [gk (CSI z sc dr) 0, none, none, none, none, none, none, none, none, none, none, none, none, none, none, none, gk (CSI z sc dr) 16, gk (CSI z sc dr) 17, gk (CSI z sc dr) 18, gk (CSI z sc dr) 19, gk (CSI z sc dr) 20, gk (CSI z sc dr) 21, gk (CSI z sc dr) 22, gk (CSI z sc dr) 23, gk (CSI z sc dr) 24, gk (CSI z sc dr) 25, gk (CSI z sc dr) 26, gk (CSI z sc dr) 27, gk (CSI z sc dr) 28, gk (CSI z sc dr) 29, gk (CSI z sc dr) 30, gk (CSI z sc dr) 31, gk (CSI z sc dr) 32, gk (CSI z sc dr) 33, gk (CSI z sc dr) 34, gk (CSI z sc dr) 35, gk (CSI z sc dr) 36]
def F00 (z sc : Nat) (dr : Int32) : Nat → Option fCe := fun a => if z ≤ a then gk (CSF z sc dr) (a - z) else none
theorem F00_at {z sc : Nat} {dr : Int32} (j : Nat) : F00 z sc dr (z + j) = gk (CSF z sc dr) j := by
  unfold F00
  rw [if_pos (Nat.le_add_right _ _), Nat.add_sub_cancel_left]
theorem subL_0 {z sc : Nat} {dr : Int32} : subL (CSF z sc dr) (CSI z sc dr) :=
  ⟨⟨rfl, Or.inl rfl⟩, ⟨rfl, Or.inr (Or.inr (Or.inr rfl))⟩, ⟨rfl, Or.inr (Or.inr (Or.inr rfl))⟩, ⟨rfl, Or.inr (Or.inr (Or.inl rfl))⟩, ⟨rfl, Or.inr (Or.inr (Or.inl rfl))⟩, ⟨rfl, Or.inr (Or.inr (Or.inr rfl))⟩, ⟨rfl, Or.inr (Or.inr (Or.inr rfl))⟩, ⟨rfl, Or.inr (Or.inr (Or.inr rfl))⟩, ⟨rfl, Or.inr (Or.inl rfl)⟩, ⟨rfl, Or.inr (Or.inl rfl)⟩, ⟨rfl, Or.inr (Or.inl rfl)⟩, ⟨rfl, Or.inr (Or.inl rfl)⟩, ⟨rfl, Or.inr (Or.inl rfl)⟩, ⟨rfl, Or.inr (Or.inl rfl)⟩, ⟨rfl, Or.inr (Or.inl rfl)⟩, ⟨rfl, Or.inr (Or.inl rfl)⟩, ⟨rfl, Or.inr (Or.inl rfl)⟩, ⟨rfl, Or.inr (Or.inl rfl)⟩, ⟨rfl, Or.inr (Or.inl rfl)⟩, ⟨rfl, Or.inr (Or.inl rfl)⟩, ⟨rfl, Or.inr (Or.inl rfl)⟩, ⟨rfl, Or.inr (Or.inl rfl)⟩, trivial⟩
def nd0 (z : Nat) : qN := qN.mk 0 0 (some (z + 9)) (some (z + 5)) (some (z + 6)) (some (z + 7)) (some (z + 8)) 1 1 0 0 0 none 0 none none none none 0
def pp0 (z : Nat) (p : Nat) : qP := if p = z + 7 then qP.mk 0 3 0 0 0 0 0 none 0 else if p = z + 8 then qP.mk 0 100 100 0 0 0 0 none 0 else qP.mk (-200) 200 0 0 0 0 0 none 0
def G00 (z : Nat) : qS := qS.mk (z + 1) (z + 2) (z + 3) (z + 4) (z + 10) (z + 11) (z + 12) (z + 13) (z + 14) (z + 15) 1 0 0 (some (z + 4)) 1 (va_up (fun _ => none) 0 (some (z + 4))) (fun _ => none) (fun a => a = z + 4) (fun p => ∃ j, j < 4 ∧ p = z + 5 + j) (fun _ => False) (fun m => m = z + 9) (fun _ => nd0 z) (pp0 z) (fun _ => qK.mk 0 0 none) (fun _ => qM.mk 0 0 0 0) (fun _ j => z + 5 + j) (fun _ => z + 9) (fun _ => []) (fun _ => []) [z + 4]
def rw8 : Nat → Int32 := upd (upd (upd (upd (upd (upd (upd (upd (fun _ => 0) 0 (-1)) 1 0) 2 0) 3 0) 4 1) 5 1) 6 0) 7 0
def rw4 : Nat → Int32 := upd (upd (upd (upd (fun _ => 0) 0 0) 1 0) 2 0) 3 100
def tg00 (z : Nat) : Nat → Nat × Nat := fun y => if y = z then (5, 0) else if y = z + 16 then (6, 0) else if y = z + 17 then (7, 0) else if y = z + 18 then (8, 0) else if y = z + 19 then (9, 0) else if y = z + 20 then (10, 0) else if y = z + 21 then (11, 0) else if y = z + 22 then (12, 0) else if y = z + 35 then (0, 0) else if y = z + 36 then (1, 0) else (3, y - (z + 23))
def S00 (z sc : Nat) (dr : Int32) : lS := lS.mk z (z + 16) (z + 17) (z + 18) (z + 19) (z + 20) (z + 21) (z + 22) sc dr 1 1 0 0 (fun _ => z + 35) (fun _ => rw8) (fun _ => z + 36) (fun _ => rw4) (fun _ => 0) (fun _ => 0) (fun _ => none) (fun _ => 0) (fun _ _ => 0) (fun t => z + 23 + t) (fun _ => 0) (fun _ _ => 0) 0 0 (fun _ => 0) 1 1 0 (tg00 z)
theorem qI_0 (z : Nat) : qI (G00 z) := by
  have pr4 : ∀ j, j < 4 → (pp0 z (z + 5 + j)).least.toInt = (qRg j).1 ∧ (pp0 z (z + 5 + j)).most.toInt = (qRg j).2 ∧ (qRg j).1 ≤ (pp0 z (z + 5 + j)).own.toInt ∧ (pp0 z (z + 5 + j)).own.toInt ≤ (qRg j).2 ∧ (pp0 z (z + 5 + j)).trk = 0 ∧ (pp0 z (z + 5 + j)).done = 0 ∧ (pp0 z (z + 5 + j)).fk = none ∧ (pp0 z (z + 5 + j)).cnt = 0 := by
    intro j hj
    rcases lt4 hj with rfl | rfl | rfl | rfl
    · have e : pp0 z (z + 5 + 0) = qP.mk (-200) 200 0 0 0 0 0 none 0 := (if_neg (by omega)).trans (if_neg (by omega))
      rw [e]; exact ⟨by decide, by decide, by decide, by decide, rfl, rfl, rfl, rfl⟩
    · have e : pp0 z (z + 5 + 1) = qP.mk (-200) 200 0 0 0 0 0 none 0 := (if_neg (by omega)).trans (if_neg (by omega))
      rw [e]; exact ⟨by decide, by decide, by decide, by decide, rfl, rfl, rfl, rfl⟩
    · have e : pp0 z (z + 5 + 2) = qP.mk 0 3 0 0 0 0 0 none 0 := if_pos (by omega)
      rw [e]; exact ⟨by decide, by decide, by decide, by decide, rfl, rfl, rfl, rfl⟩
    · have e : pp0 z (z + 5 + 3) = qP.mk 0 100 100 0 0 0 0 none 0 := (if_neg (by omega)).trans (if_pos (by omega))
      rw [e]; exact ⟨by decide, by decide, by decide, by decide, rfl, rfl, rfl, rfl⟩
  have V : qVs (G00 z) = [z + 4] := rfl
  have own : ∀ p : Nat, (∃ j, j < 4 ∧ p = z + 5 + j) → (pp0 z p).trk = 0 ∧ (pp0 z p).done = 0 ∧ (pp0 z p).fk = none ∧ (pp0 z p).cnt = 0 := by
    rintro p ⟨j, hj, rfl⟩
    exact (pr4 j hj).2.2.2.2
  refine ⟨⟨?_, ?_, fun i hi => ?_, fun a ha => ?_⟩, ⟨⟨rfl, rfl⟩, rfl, ⟨fun a la => ⟨List.nodup_nil, fun b => ⟨fun hb => (nomatch hb), fun hb => ?_⟩⟩, fun a la => ?_⟩, fun a la => rfl, fun a la => ⟨0, by omega, la.1, la, rfl⟩⟩, ⟨?_, ?_, ?_, fun j a e => ?_⟩, ⟨fun a ha => ⟨rfl, rfl, rfl, rfl⟩, fun a j ha hj => ⟨j, hj, rfl⟩, fun a b i j ha hb hi hj e => ?_, fun p hp => ?_⟩, fun a j ha hj => ?_, ⟨fun p hp => ?_, fun p q hp hq n m hm => (nomatch hm), fun a ha => ha.elim⟩, fun a j la hj => ?_, ⟨fun a ha => ?_, fun a ha => ⟨rfl, rfl⟩, fun a ha => ?_, fun a m ha e => (nomatch e)⟩, ⟨?_, fun i hi => ?_, fun p hp ht => ?_⟩, ⟨rfl, rfl, rfl, rfl, ?_, fun j hj => ?_⟩, ?_⟩
  · show 1 ≤ (1 : Int32).toInt ∧ (1 : Int32).toInt ≤ 30
    decide
  · show va_up (fun _ => none) 0 (some (z + 4)) 0 = some (z + 4)
    exact if_pos rfl
  · have hi : (i : Int) < (1 : Int32).toInt := hi
    have e1 : (1 : Int32).toInt = 1 := by decide
    obtain rfl : i = 0 := by omega
    exact ⟨z + 4, by show va_up (fun _ => none) 0 (some (z + 4)) 0 = some (z + 4); exact if_pos rfl, rfl, by show (0 : Int32).toInt = ((0 : Nat) : Int); decide⟩
  · have ha : a = z + 4 := ha
    subst ha
    refine ⟨?_, ?_, by show va_up (fun _ => none) 0 (some (z + 4)) (0 : Int32).toInt.toNat = some (z + 4); exact if_pos (by decide)⟩
    · show 0 ≤ (0 : Int32).toInt
      decide
    · show (0 : Int32).toInt < (1 : Int32).toInt
      decide
  · exact absurd hb.2 (fun w => nomatch w)
  · show -9 ≤ (0 : Int32).toInt ∧ (0 : Int32).toInt ≤ 9
    decide
  · rw [V]; rfl
  · exact ⟨rfl, rfl, rfl⟩
  · rw [V]; rfl
  · rw [V] at e
    cases j with
    | zero => show (0 : Int32) = nI 0; rfl
    | succ j => simp at e
  · have ha : a = z + 4 := ha
    have hb : b = z + 4 := hb
    have e : z + 5 + i = z + 5 + j := e
    exact ⟨by rw [ha, hb], by omega⟩
  · obtain ⟨j, hj, e⟩ := hp
    exact ⟨z + 4, j, rfl, hj, e⟩
  · obtain ⟨p1, p2, p3, p4, -⟩ := pr4 j hj
    exact ⟨p1, p2, p3, p4⟩
  · obtain ⟨-, -, o1, o2⟩ := own p hp
    exact qKk0 o1 o2
  · exact (own _ ⟨j, hj, rfl⟩).2.1
  · show (1 ≤ (1 : Int32).toInt ∧ (1 : Int32).toInt ≤ 4) ∧ 1 ≤ (1 : Int32).toInt ∧ (1 : Int32).toInt ≤ 4
    decide
  · show (0 : Int32) = 0 ∧ (0 : Int32) = 0 ∧ (0 ≤ (0 : Int32).toInt ∧ (0 : Int32).toInt ≤ 200) ∧ 0 ≤ (0 : Int32).toInt ∧ (0 : Int32).toInt ≤ 200
    decide
  · show 0 ≤ (0 : Int32).toInt ∧ (0 : Int32).toInt ≤ 12
    decide
  · have hi : (i : Int) < (0 : Int32).toInt := hi
    have e0 : (0 : Int32).toInt = 0 := by decide
    omega
  · exact absurd (own p hp).1 ht
  · have e0 : pp0 z (z + 5 + 0) = qP.mk (-200) 200 0 0 0 0 0 none 0 := (if_neg (by omega)).trans (if_neg (by omega))
    have e1 : pp0 z (z + 5 + 1) = qP.mk (-200) 200 0 0 0 0 0 none 0 := (if_neg (by omega)).trans (if_neg (by omega))
    have e2 : pp0 z (z + 5 + 2) = qP.mk 0 3 0 0 0 0 0 none 0 := if_pos (by omega)
    show (pp0 z (z + 5 + 0)).own = 0 ∧ (pp0 z (z + 5 + 1)).own = 0 ∧ (pp0 z (z + 5 + 2)).own = 0
    rw [e0, e1, e2]
    exact ⟨rfl, rfl, rfl⟩
  · exact (own _ ⟨j, hj, rfl⟩).1
  · show z + 12 ≠ z + 13 ∧ z + 12 ≠ z + 14 ∧ z + 12 ≠ z + 15 ∧ z + 13 ≠ z + 14 ∧ z + 13 ≠ z + 15 ∧ z + 14 ≠ z + 15
    omega
theorem tg_k (z t : Nat) (ht : t < 12) : tg00 z (z + 23 + t) = (3, t) := by
  unfold tg00
  rw [if_neg (by omega), if_neg (by omega), if_neg (by omega), if_neg (by omega), if_neg (by omega), if_neg (by omega), if_neg (by omega), if_neg (by omega), if_neg (by omega), if_neg (by omega), show z + 23 + t - (z + 23) = t by omega]
theorem lF_0 (z sc : Nat) (dr : Int32) : lF (S00 z sc dr) (F00 z sc dr) (z + 1) := by
  have at0 : F00 z sc dr z = gk (CSF z sc dr) 0 := F00_at 0
  refine ⟨at0, ⟨_, F00_at 16, fun i hi => ?_⟩, fun i hi => ?_, ⟨_, F00_at 17, fun i hi => ?_⟩, fun i hi => ?_, F00_at 18, F00_at 19, F00_at 20, ⟨_, F00_at 21, fun i hi => absurd hi (Nat.not_lt_zero i)⟩, fun i hi => absurd hi (Nat.not_lt_zero i), ⟨_, F00_at 22, fun i hi => ?_⟩, fun i hi => ?_, Or.inl rfl, ?_, ?_, ?_⟩
  · have hi : i < 1 := hi
    obtain rfl : i = 0 := by omega
    exact if_pos rfl
  · have hi : i < 1 := hi
    obtain rfl : i = 0 := by omega
    refine ⟨F00_at 35, ?_⟩
    show tg00 z (z + 35) = (0, 0)
    unfold tg00
    rw [if_neg (by omega), if_neg (by omega), if_neg (by omega), if_neg (by omega), if_neg (by omega), if_neg (by omega), if_neg (by omega), if_neg (by omega), if_pos rfl]
  · have hi : i < 1 := hi
    obtain rfl : i = 0 := by omega
    exact if_pos rfl
  · have hi : i < 1 := hi
    obtain rfl : i = 0 := by omega
    refine ⟨F00_at 36, ?_⟩
    show tg00 z (z + 36) = (1, 0)
    unfold tg00
    rw [if_neg (by omega), if_neg (by omega), if_neg (by omega), if_neg (by omega), if_neg (by omega), if_neg (by omega), if_neg (by omega), if_neg (by omega), if_neg (by omega), if_pos rfl]
  · show muF (z + 22) 12 i = some (z + 23 + i)
    unfold muF
    rw [if_pos hi]
  · refine ⟨?_, tg_k z i hi⟩
    show F00 z sc dr (z + 23 + i) = some (ri 0 (fun _ => 0))
    rw [Nat.add_assoc, F00_at]
    match i, hi with
    | 0, _ => rfl
    | 1, _ => rfl
    | 2, _ => rfl
    | 3, _ => rfl
    | 4, _ => rfl
    | 5, _ => rfl
    | 6, _ => rfl
    | 7, _ => rfl
    | 8, _ => rfl
    | 9, _ => rfl
    | 10, _ => rfl
    | 11, _ => rfl
    | i + 12, h => omega
  · refine ⟨if_pos rfl, ?_, ?_, ?_, ?_, ?_, ?_, ?_⟩
    · show tg00 z (z + 16) = (6, 0)
      unfold tg00
      rw [if_neg (by omega), if_pos rfl]
    · show tg00 z (z + 17) = (7, 0)
      unfold tg00
      rw [if_neg (by omega), if_neg (by omega), if_pos rfl]
    · show tg00 z (z + 18) = (8, 0)
      unfold tg00
      rw [if_neg (by omega), if_neg (by omega), if_neg (by omega), if_pos rfl]
    · show tg00 z (z + 19) = (9, 0)
      unfold tg00
      rw [if_neg (by omega), if_neg (by omega), if_neg (by omega), if_neg (by omega), if_pos rfl]
    · show tg00 z (z + 20) = (10, 0)
      unfold tg00
      rw [if_neg (by omega), if_neg (by omega), if_neg (by omega), if_neg (by omega), if_neg (by omega), if_pos rfl]
    · show tg00 z (z + 21) = (11, 0)
      unfold tg00
      rw [if_neg (by omega), if_neg (by omega), if_neg (by omega), if_neg (by omega), if_neg (by omega), if_neg (by omega), if_pos rfl]
    · show tg00 z (z + 22) = (12, 0)
      unfold tg00
      rw [if_neg (by omega), if_neg (by omega), if_neg (by omega), if_neg (by omega), if_neg (by omega), if_neg (by omega), if_neg (by omega), if_pos rfl]
  · show 1 ≤ (1 : Int32).toInt ∧ (1 : Int32).toInt ≤ ((1 : Nat) : Int) ∧ (1 : Nat) ≤ 30 ∧ (1 : Int32).toInt ≤ ((1 : Nat) : Int) ∧ (1 : Nat) ≤ 30
    decide
  · show 0 ≤ (0 : Int32).toInt ∧ (0 : Int32).toInt ≤ ((0 : Nat) : Int) ∧ (0 : Nat) ≤ 12
    decide
theorem lG_0 (z sc : Nat) (dr : Int32) : lG (G00 z) (S00 z sc dr) := by
  have e0 : (0 : Int32).toInt = 0 := by decide
  refine ⟨rfl, rfl, ⟨rfl, by show 0 ≤ (0 : Int32).toInt; decide, by show (0 : Int32).toInt < 60; decide⟩, fun a la => ?_, fun a ha g => absurd rfl g, fun t ht => ?_, fun t h1 h2 => rfl, fun i hi => rfl, fun t u h1 h2 e => ?_⟩
  · have ea : a = z + 4 := la.1
    subst ea
    have p0 : pp0 z (z + 5 + 0) = qP.mk (-200) 200 0 0 0 0 0 none 0 := (if_neg (by omega)).trans (if_neg (by omega))
    have p2 : pp0 z (z + 5 + 2) = qP.mk 0 3 0 0 0 0 0 none 0 := if_pos (by omega)
    have p3 : pp0 z (z + 5 + 3) = qP.mk 0 100 100 0 0 0 0 none 0 := (if_neg (by omega)).trans (if_pos (by omega))
    refine ⟨rfl, rfl, rfl, rfl, ⟨fun _ => rfl, fun _ => rfl⟩, ?_, ?_, ?_⟩
    · show rw4 0 = (pp0 z (z + 5 + 0)).own
      rw [p0]; rfl
    · show rw4 2 = (pp0 z (z + 5 + 2)).own
      rw [p2]; rfl
    · show rw4 3 = (pp0 z (z + 5 + 3)).own
      rw [p3]; rfl
  · have ht : (t : Int) < (0 : Int32).toInt := ht
    omega
  · have h1 : (t : Int) < (0 : Int32).toInt := h1
    omega
theorem qR_0 (g : Nat → Option fCe) (z l c b sc : Nat) (dr : Int32) (hg : ∀ a, g a ≠ none → a < z) (h1 : z + 100 + k ≤ c) (h2 : l + 1000 + 20 * k ≤ b) : qR (G00 z) (F00 z sc dr) X k (hp g z (CSI z sc dr) l 327 c b X) := by
  have at_ : ∀ j, fF (hp g z (CSI z sc dr) l 327 c b X) (z + j) = gk (CSI z sc dr) j := fun j => hp_F
  refine ⟨at_ 1, at_ 2, at_ 3, ⟨0, 0, 1, 0, at_ 10⟩, at_ 11, ⟨0, 0, at_ 12⟩, ⟨0, 0, at_ 13⟩, ⟨0, 0, at_ 14⟩, ⟨0, 0, at_ 15⟩, fun a ha => ?_, fun p hp => ?_, fun a ha => ha.elim, fun m hm => ?_, fun a e he => ?_, ⟨?_, ?_⟩, rfl, fun a ha => ?_⟩
  · have ha : a = z + 4 := ha
    subst ha
    exact at_ 4
  · obtain ⟨j, hj, rfl⟩ := hp
    show _ = some (pp0 z (z + 5 + j)).c
    rw [Nat.add_assoc, at_]
    rcases lt4 hj with rfl | rfl | rfl | rfl
    · have e : pp0 z (z + (5 + 0)) = qP.mk (-200) 200 0 0 0 0 0 none 0 := (if_neg (by omega)).trans (if_neg (by omega))
      rw [e]; rfl
    · have e : pp0 z (z + (5 + 1)) = qP.mk (-200) 200 0 0 0 0 0 none 0 := (if_neg (by omega)).trans (if_neg (by omega))
      rw [e]; rfl
    · have e : pp0 z (z + (5 + 2)) = qP.mk 0 3 0 0 0 0 0 none 0 := if_pos (by omega)
      rw [e]; rfl
    · have e : pp0 z (z + (5 + 3)) = qP.mk 0 100 100 0 0 0 0 none 0 := (if_neg (by omega)).trans (if_pos (by omega))
      rw [e]; rfl
  · have hm : m = z + 9 := hm
    subst hm
    exact at_ 9
  · unfold F00 at he
    by_cases q : z ≤ a
    · rw [if_pos q] at he
      obtain ⟨s1, s2⟩ := subL_gk subL_0 _ _ he
      refine ⟨s1, ?_⟩
      have := at_ (a - z)
      rw [show z + (a - z) = a by omega] at this
      rw [this]; exact s2
    · rw [if_neg q] at he; cases he
  · show z + 37 + k ≤ c
    omega
  · show l + 327 + 20 * k ≤ b
    omega
  · show a < z + 37
    have ha : (if z ≤ a then gk (CSI z sc dr) (a - z) else g a) ≠ none := ha
    by_cases q : z ≤ a
    · rw [if_pos q] at ha
      have : a - z < 37 := by
        apply Nat.not_le.mp
        intro w
        exact ha (gk_len _ _ w)
      omega
    · omega
theorem h_begin {dr : Int32} (hg : ∀ a, fF h a ≠ none → a < fZ h) (hx : fX h = X) (hL : X.2.1 ≤ 260) (h1 : fZ h + 100 + k ≤ fCB h) (h2 : fL h + 1000 + 20 * k ≤ fLB h) (hd : 0 ≤ dr.toInt ∧ dr.toInt + k ≤ 900000) : ∃ G S F g1 g2, fnew h (.inl (8, [.null, .null, .int 0, .int 0, .null, .null, .null, .null, .null, .int 0, .int 0, .null, .null, .int 0])) 14 = some (S.lm, g1) ∧ f_X8_init S.lm (some X.1) dr g1 = some ((), g2) ∧ lH X G S F k g2 := by
  have e1 : fPush h c80 14 = hp (fF h) (fZ h) [some c80] (fL h) 14 (fCB h) (fLB h) X := by
    unfold fPush hp
    refine Prod.ext ?_ (Prod.ext rfl (Prod.ext rfl (Prod.ext rfl (Prod.ext rfl hx))))
    funext a
    show (if a = fZ h then some c80 else fF h a) = if fZ h ≤ a then gk [some c80] (a - fZ h) else fF h a
    by_cases q : a = fZ h
    · rw [if_pos q, if_pos (by omega), q, Nat.sub_self]; rfl
    · rw [if_neg q]
      by_cases q2 : fZ h ≤ a
      · rw [if_pos q2, gk_len _ _ (show [some c80].length ≤ a - fZ h by show 1 ≤ _; omega)]
        apply Classical.byContradiction
        intro w
        have := hg a w
        omega
      · rw [if_neg q2]
  refine ⟨G00 (fZ h), S00 (fZ h) X.1 dr, F00 (fZ h) X.1 dr, fPush h c80 14, hp (fF h) (fZ h) (CSI (fZ h) X.1 dr) (fL h) 327 (fCB h) (fLB h) X, (show fnew h c80 14 = some (fZ h, fPush h c80 14) from fnew_C (by omega) (by omega)), ?_, lH.of (qR_0 _ _ _ _ _ _ _ hg h1 h2) (lF_0 _ _ _) (qI_0 _) (lG_0 _ _ _) ⟨rfl, hL⟩ hd ⟨?_, ?_, ?_⟩⟩
  · rw [e1]
    exact in_X8 (z := fZ h) (by omega) (by omega)
  · show ((1 : Nat) : Int) = (1 : Int32).toInt
    decide
  · show ((1 : Nat) : Int) = (1 : Int32).toInt
    decide
  · show ((0 : Nat) : Int) = (0 : Int32).toInt
    decide
end BEGIN
